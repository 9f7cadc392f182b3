/-! rule: both -/
def vRow (M : mm_M) (r : Nat) : Prop := M 75 r = M 27 r ∧ (M 27 r = 0 ∨ M 27 r = 1) ∧ M 76 r = M 28 r ∧ (0 ≤ M 28 r ∧ M 28 r ≤ 5) ∧ M 77 r = M 29 r ∧ (0 ≤ M 29 r ∧ M 29 r ≤ 3) ∧ ∀ t : Nat, (t : Int) < M 29 r → M 78 (12 * r + 4 * t) = M 30 (3 * r + t) ∧ (M 30 (3 * r + t) = 0 ∨ M 30 (3 * r + t) = 1) ∧ M 78 (12 * r + 4 * t + 1) = M 31 (3 * r + t) ∧ (0 ≤ M 31 (3 * r + t) ∧ M 31 (3 * r + t) ≤ 6) ∧ ((M 32 (3 * r + t) = 0 ∧ M 78 (12 * r + 4 * t + 2) = 61) ∨ (M 32 (3 * r + t) = 1 ∧ M 78 (12 * r + 4 * t + 2) = 60) ∨ (M 32 (3 * r + t) = 2 ∧ M 78 (12 * r + 4 * t + 2) = 62)) ∧ M 78 (12 * r + 4 * t + 3) = M 33 (3 * r + t) ∧ (0 ≤ M 33 (3 * r + t) ∧ M 33 (3 * r + t) ≤ 999)
def rlC (j : Nat) : Bool := j == 24 || (26 <= j && j <= 33) || j == 50 || (75 <= j && j <= 78)
theorem inv_rule {M NM : mm_M} (hI : inv M) (hR : R32 NM) (n1 : ∀ j, rlC j = false → NM j = M j) (n2 : ∀ k, (k ≠ 29 ∧ k ≠ 30 ∧ k ≠ 36) → NM 50 k = M 50 k) (e24 : NM 24 0 = 0) (e29 : NM 50 29 = 0) (h6 : V6 NM) : inv NM := by
  obtain ⟨hr, hJo, hJb, hJr, hJom, hJbm, v0, v1, v2, v3, v4, v5, v6, v7, v8, v9⟩ := hI
  refine ⟨hR, ?_, ?_, ?_, ?_, ?_, ?_, ?_, ?_, ?_, ?_, ?_, ?_, ?_, ?_, ?_⟩
  · unfold JO; simp only [n1 1 rfl, n1 2 rfl, n1 3 rfl, n1 4 rfl, n1 5 rfl]; exact hJo
  · unfold JB; simp only [n1 1 rfl, n1 6 rfl, n1 7 rfl, n1 8 rfl, n1 9 rfl]; exact hJb
  · unfold JRc; simp only [n1 10 rfl, n1 11 rfl, n1 12 rfl, n1 13 rfl, n1 1 rfl]; exact hJr
  · unfold JOm; simp only [n1 51 rfl, n1 52 rfl, n1 53 rfl, n1 54 rfl, n1 55 rfl, n2 10 (by decide)]; exact hJom
  · unfold JBm; simp only [n1 57 rfl, n1 58 rfl, n1 59 rfl, n1 60 rfl, n2 11 (by decide)]; exact hJbm
  · unfold V0; simp only [n1 53 rfl, n1 54 rfl, n1 57 rfl, n2 10 (by decide), n2 11 (by decide)]; exact v0
  · unfold V1; simp only [n1 1 rfl, n1 2 rfl, n1 3 rfl, n1 4 rfl, n1 5 rfl, n1 51 rfl, n1 52 rfl, n1 53 rfl, n1 54 rfl, n1 55 rfl, n2 10 (by decide)]; exact v1
  · unfold V2; simp only [n1 1 rfl, n1 6 rfl, n1 7 rfl, n1 8 rfl, n1 9 rfl, n1 57 rfl, n1 58 rfl, n1 59 rfl, n1 60 rfl, n2 11 (by decide)]; exact v2
  · unfold V3; simp only [n1 10 rfl, n1 11 rfl, n1 12 rfl, n1 13 rfl, n1 61 rfl, n1 62 rfl, n1 63 rfl, n2 16 (by decide)]; exact v3
  · unfold V4; simp only [n1 0 rfl, n1 22 rfl, n1 23 rfl, n1 72 rfl, n1 73 rfl, n2 31 (by decide)]; exact v4
  · refine ⟨by rw [e29, e24], by rw [e24]; decide, by rw [e24]; decide, fun i hi => ?_⟩
    rw [e24] at hi
    omega
  · exact h6
  · unfold V7; simp only [n1 35 rfl, n1 36 rfl, n1 37 rfl, n1 38 rfl, n1 39 rfl, n1 40 rfl, n1 41 rfl, n1 42 rfl, n1 56 rfl, n1 79 rfl, n1 80 rfl, n1 81 rfl, n1 82 rfl, n1 83 rfl, n1 84 rfl, n1 85 rfl, n2 44 (by decide), n2 45 (by decide)]; exact v7
  · unfold V8; simp only [n1 1 rfl, n1 43 rfl, n1 44 rfl, n1 45 rfl, n1 86 rfl, n1 87 rfl, n2 48 (by decide), n2 49 (by decide)]; exact v8
  · unfold V9; simp only [n1 47 rfl, n1 88 rfl]; exact v9
theorem vRow_c {M N : mm_M} {r : Nat} {c : Int} (h : vRow M r) (hc : M 29 r ≤ 3) (h1 : N 75 r = M 75 r ∧ N 76 r = M 76 r ∧ N 77 r = M 77 r) (h2 : N 27 r = M 27 r ∧ N 28 r = M 28 r ∧ N 29 r = M 29 r) (h3 : ∀ x, x < 3 * r + 3 → N 30 x = M 30 x ∧ N 31 x = M 31 x ∧ N 32 x = M 32 x ∧ N 33 x = M 33 x) (h4 : ∀ x, x < 12 * r + 12 → N 78 x = M 78 x) : vRow N r := by
  obtain ⟨a1, a2, a3, a4, a5, a6, a7⟩ := h
  refine ⟨by rw [h1.1, h2.1]; exact a1, by rw [h2.1]; exact a2, by rw [h1.2.1, h2.2.1]; exact a3, by rw [h2.2.1]; exact a4, by rw [h1.2.2, h2.2.2]; exact a5, by rw [h2.2.2]; exact a6, fun t ht => ?_⟩
  rw [h2.2.2] at ht
  have hx := h3 (3 * r + t) (by omega)
  rw [hx.1, hx.2.1, hx.2.2.1, hx.2.2.2, h4 _ (by omega), h4 _ (by omega), h4 _ (by omega), h4 _ (by omega)]
  exact a7 t ht
theorem vRow_n {MX N0 NM N2 : mm_M} {rl T : Nat} (c1 : N0 29 rl = (T : Int) ∧ T ≤ 3 ∧ (0 ≤ N0 27 rl ∧ N0 27 rl ≤ 1) ∧ (0 ≤ N0 28 rl ∧ N0 28 rl ≤ 5) ∧ ∀ u, u < T → rgQ N0 (3 * rl + u)) (c2 : N2 75 rl = N0 27 rl ∧ N2 76 rl = N0 28 rl ∧ N2 77 rl = (T : Int) ∧ ∀ u, u < T → rwT N2 rl (fun u => N0 30 (3 * rl + u)) (fun u => N0 31 (3 * rl + u)) (fun u => N0 32 (3 * rl + u)) (fun u => N0 33 (3 * rl + u)) u) (h1 : ∀ j, 27 ≤ j → j ≤ 33 → NM j = N0 j) (h2 : ∀ j, 75 ≤ j → j ≤ 78 → NM j = N2 j) : vRow NM rl := by
  obtain ⟨a1, a2, a3, a4, a5⟩ := c1
  obtain ⟨b1, b2, b3, b4⟩ := c2
  unfold vRow
  rw [h1 27 (by decide) (by decide), h1 28 (by decide) (by decide), h1 29 (by decide) (by decide), h1 30 (by decide) (by decide), h1 31 (by decide) (by decide), h1 32 (by decide) (by decide), h1 33 (by decide) (by decide), h2 75 (by decide) (by decide), h2 76 (by decide) (by decide), h2 77 (by decide) (by decide), h2 78 (by decide) (by decide)]
  refine ⟨b1, by omega, b2, a4, by rw [b3, a1], by rw [a1]; omega, fun t ht => ?_⟩
  rw [a1] at ht
  have hg := a5 t (by omega)
  have hw := b4 t (by omega)
  unfold rgQ at hg
  unfold rwT at hw
  obtain ⟨w1, w2, w3, w4⟩ := hw
  dsimp only at w1 w2 w3 w4
  refine ⟨w1, by omega, w2, hg.2.1, ?_, w4, hg.2.2.2⟩
  rw [w3]
  unfold opc
  rcases (show N0 32 (3 * rl + t) = 0 ∨ N0 32 (3 * rl + t) = 1 ∨ N0 32 (3 * rl + t) = 2 by omega) with e | e | e <;> rw [e] <;> simp
theorem c_rl10 {X : Nat × (Nat → Int)} {d : Nat} {Po : mm_Po} {M : mm_M} (h : M 50 30 = 10) (hr : R32 M) (k : Po (some (v_i (-4))) Lam M) : mm_G X (d + 7) 0 0 mi_X10_rule Po 0 [(0, v_r 50)] [] Lam M 0 0 := by
  refine mm_aload_n (mm_dc od_X10_rule_0 0 rfl) rfl ?_
  refine mm_getI (ci := 10) (k := 30) (mm_dc od_X10_rule_0 1 rfl) rfl in_X10 (by decide) wd_4_142 rfl rfl ?_
  refine mm_bipush (mm_dc od_X10_rule_0 2 rfl) (by decide) ?_
  refine mm_icmp_ne 12 (mm_dc od_X10_rule_0 3 rfl) (by omega) (by first | omega | assumption | exact hr _ _ rfl) (by first | omega | assumption | exact hr _ _ rfl) (fun c1 => ?_) (fun c1 => ?_)
  · exfalso; omega
  · refine mm_bipush (mm_dc od_X10_rule_0 4 rfl) (by decide) ?_
    refine mm_iret (mm_dc od_X10_rule_0 5 rfl) rfl ?_
    exact k
theorem pair_rule {M : mm_M} (hI : inv M)  : Pair2 mi_X9_rule mi_X10_rule v_i [] M := by
  have hI0 := hI
  obtain ⟨hr, hJo, hJb, hJr, hJom, hJbm, v0, v1, v2, v3, v4, v5, v6, v7, v8, v9⟩ := hI0
  have jo := hJo; have jb := hJb; have jr := hJr; have jom := hJom; have jbm := hJbm
  obtain ⟨ho0, ho16, hO⟩ := jo
  obtain ⟨hb0, hb8, hB⟩ := jb
  obtain ⟨hr0, hr40, hRr⟩ := jr
  obtain ⟨go0, go16, gO⟩ := jom
  obtain ⟨gb0, gb8, gB⟩ := jbm
  have w1 := v1.1; have w2 := v2.1; have w3 := v3.1; have w4 := v4.1; have w5 := v5.1; have w6 := v6.1; have w7 := v7.1.1; have w7b := v7.2.1.1; have w8 := v8.1; have w8b := v8.2.2.2.1
  have y2 := v5.2.1; have y3 := v5.2.2.1; have z2 := v6.2.1; have z3 := v6.2.2.1
  refine Pair2_i _ (fun X d Po k => c_X9_rule (d := d + 3) (by omega) (by omega) hr (fun N r h => k r N h)) (fun a MX h => ?_)
  rcases h with ⟨h10, rfl, rfl⟩ | ⟨h10, N0, T, ok, hPA, hRD, hres⟩
  · exact ⟨by decide, fun X d Po k => c_rl10 (d := d + 5) (by omega) hr (k _ hI)⟩
  · obtain ⟨rl, hrl⟩ : ∃ rl : Nat, (M 26 0).toNat = rl := ⟨_, rfl⟩
    rw [hrl] at hPA hRD hres
    have hrI : M 26 0 = (rl : Int) := by omega
    obtain ⟨p1, p2, p3, p4, p5⟩ := hPA
    have v6r : ∀ r : Nat, (r : Int) < M 26 0 → vRow M r := v6.2.2.2
    have h01 : ok = 0 ∨ ok = 1 := by rcases hres with ⟨e, _⟩ | ⟨e, _⟩ <;> omega
    have main : ∀ (MX : mm_M), R32 MX → (∀ j, j ≠ 24 → j ≠ 26 → MX j = N0 j) → MX 24 0 = 0 → ((ok = 0 ∧ a = -10 - N0 24 1 ∧ 0 ≤ N0 24 1 ∧ MX 26 0 = M 26 0) ∨ (ok = 1 ∧ (N0 29 rl = (T : Int) ∧ T ≤ 3 ∧ (0 ≤ N0 27 rl ∧ N0 27 rl ≤ 1) ∧ (0 ≤ N0 28 rl ∧ N0 28 rl ≤ 5) ∧ ∀ u, u < T → rgQ N0 (3 * rl + u)) ∧ a = M 26 0 ∧ MX 26 0 = M 26 0 + 1)) → ∀ (X : Nat × (Nat → Int)) (d : Nat) (Po : mm_Po), (∀ MM, inv MM → Po (some (v_i a)) Lam MM) → mm_E X (d + 12) 0 0 mi_X10_rule (v_r 50 :: []) Po Lam MX := by
      intro MX hRX hX hX24 hresX X d Po k
      have x50 : MX 50 = M 50 := by rw [hX 50 (by decide) (by decide)]; exact p2 50 (by decide) (by decide)
      have x74 : MX 74 = M 74 := by rw [hX 74 (by decide) (by decide)]; exact p2 74 (by decide) (by decide)
      have old : ∀ (NM N2 : mm_M), pM MX N2 rl (((N0 24 1).toNat : Nat) : Int) → (∀ j, j ≠ 50 → NM j = N2 j) → (∀ r, r < rl → vRow NM r) := by
        intro NM N2 hp hNM r hr2
        obtain ⟨m1, m2, m3, m4, m5, m6⟩ := hp
        have vr := v6r r (by omega)
        have vt : M 29 r ≤ 3 := vr.2.2.2.2.2.1.2
        have a1 := m5 r (by omega)
        have a2 := p4 r (by omega)
        refine vRow_c (c := 0) vr vt ?_ ?_ (fun x hx => ?_) (fun x hx => ?_)
        · rw [hNM 75 (by decide), hNM 76 (by decide), hNM 77 (by decide), a1.1, a1.2.1, a1.2.2, hX 75 (by decide) (by decide), hX 76 (by decide) (by decide), hX 77 (by decide) (by decide), p2 75 (by decide) (by decide), p2 76 (by decide) (by decide), p2 77 (by decide) (by decide)]
          exact ⟨rfl, rfl, rfl⟩
        · rw [hNM 27 (by decide), hNM 28 (by decide), hNM 29 (by decide), m2 27 (by decide) (by decide), m2 28 (by decide) (by decide), m2 29 (by decide) (by decide), hX 27 (by decide) (by decide), hX 28 (by decide) (by decide), hX 29 (by decide) (by decide)]
          exact a2
        · rw [hNM 30 (by decide), hNM 31 (by decide), hNM 32 (by decide), hNM 33 (by decide), m2 30 (by decide) (by decide), m2 31 (by decide) (by decide), m2 32 (by decide) (by decide), m2 33 (by decide) (by decide), hX 30 (by decide) (by decide), hX 31 (by decide) (by decide), hX 32 (by decide) (by decide), hX 33 (by decide) (by decide)]
          exact p5 x (by omega)
        · rw [hNM 78 (by decide), m6 x (by omega), hX 78 (by decide) (by decide), p2 78 (by decide) (by decide)]
      have frame : ∀ (NM N2 : mm_M), pM MX N2 rl (((N0 24 1).toNat : Nat) : Int) → (∀ j, j ≠ 50 → NM j = N2 j) → (∀ k, (k ≠ 29 ∧ k ≠ 30 ∧ k ≠ 36) → NM 50 k = N2 50 k) → NM 50 29 = 0 → R32 NM → V6 NM → inv NM := by
        intro NM N2 hp hNM hN50 h29 hRN h6
        obtain ⟨m1, m2, m3, m4, m5, m6⟩ := hp
        refine inv_rule hI hRN (fun j hj => ?_) (fun k hk => ?_) ?_ h29 h6
        · have hj2 : j ≠ 24 ∧ ¬ (26 ≤ j ∧ j ≤ 33) ∧ j ≠ 50 ∧ ¬ (75 ≤ j ∧ j ≤ 78) := by
            simp [rlC] at hj
            omega
          rw [hNM j hj2.2.2.1, m2 j hj2.2.2.1 hj2.2.2.2, hX j hj2.1 (by omega), p2 j hj2.1 (by omega)]
        · rw [hN50 k hk, m3 k hk.2.2, x50]
        · rw [hNM 24 (by decide), m2 24 (by decide) (by decide)]; exact hX24
      refine c_rl (d := d + 5) (M 24 0) (M 25) (by omega) (by rw [x50]; exact w5) (by rw [x74]; intro q hq; exact (v5.2.2.2 q hq).1) rl (by omega) (by rw [x50, w6]; exact hrI) _ _ _ _ (N0 24 1).toNat T ok _ _ h01 hRX hRD (fun N2 hN2 e0 => ?_) (fun N2 F hN2 e1 hrows hF => ?_)
      · rcases hresX with ⟨_, ea, eb, ec⟩ | ⟨e1, _⟩
        · have hN2b := hN2
          obtain ⟨m1, m2, m3, m4, m5, m6⟩ := hN2b
          have ha : -10 - (((N0 24 1).toNat : Nat) : Int) = a := by omega
          rw [ha]
          refine k _ (frame _ N2 hN2 (fun j hj => mm_up_ne hj) (fun k hk => by rw [mm_upa, if_neg hk.1]) (by rw [mm_up_eq]) (R32_up m1 (by decide)) ?_)
          have f26 : (mm_up N2 50 29 0) 26 0 = M 26 0 := by rw [mm_up_ne (by decide), m2 26 (by decide) (by decide)]; exact ec
          have f30 : (mm_up N2 50 29 0) 50 30 = M 26 0 := by rw [mm_upa, if_neg (by decide), m3 30 (by decide), x50]; exact w6
          refine ⟨by rw [f30, f26], by rw [f26]; omega, by rw [f26]; omega, fun r hr2 => ?_⟩
          rw [f26] at hr2
          exact old _ N2 hN2 (fun j hj => mm_up_ne hj) r (by omega)
        · exfalso; omega
      · rcases hresX with ⟨e0, _⟩ | ⟨_, hc1, ea, ec⟩
        · exfalso; omega
        · have hN2b := hN2
          obtain ⟨m1, m2, m3, m4, m5, m6⟩ := hN2b
          have ha : (rl : Int) = a := by omega
          rw [ha]
          have hFj : ∀ j, j ≠ 50 → F j = N2 j := fun j hj => by rw [hF, mm_up_ne hj, mm_up_ne hj]
          refine k _ (frame _ N2 hN2 hFj (fun k hk => by rw [hF, mm_upa, if_neg hk.2.1, mm_upa, if_neg hk.1]) (by rw [hF, mm_upa, if_neg (by decide), mm_up_eq]) (by rw [hF]; exact R32_up (R32_up m1 (by decide)) (by omega)) ?_)
          have f26 : F 26 0 = M 26 0 + 1 := by rw [hFj 26 (by decide), m2 26 (by decide) (by decide)]; exact ec
          have f30 : F 50 30 = M 26 0 + 1 := by rw [hF, mm_up_eq]; omega
          refine ⟨by rw [f30, f26], by rw [f26]; omega, by rw [f26]; omega, fun r hr2 => ?_⟩
          rw [f26] at hr2
          by_cases er : r = rl
          · subst er
            refine vRow_n (MX := MX) hc1 hrows (fun j h1 h2 => ?_) (fun j h1 h2 => hFj j (by omega))
            rw [hFj j (by omega), m2 j (by omega) (by omega), hX j (by omega) (by omega)]
          · exact old _ N2 hN2 hFj r (by omega)
    rcases hres with ⟨e0, ea, eb, rfl⟩ | ⟨e1, hc1, ea, rfl⟩
    · refine ⟨?_, main _ (R32_up p1 (by decide)) (fun j h1 h2 => mm_up_ne h1) mm_up_eq (Or.inl ⟨e0, ea, eb.1, ?_⟩)⟩
      · have := p1 24 1 rfl
        have h120 : N0 24 1 ≤ 120 := eb.2
        omega
      · rw [mm_up_ne (by decide), p2 26 (by decide) (by decide)]
    · refine ⟨by omega, main _ (R32_up (R32_up p1 (by decide)) (by omega)) (fun j h1 h2 => by rw [mm_up_ne h2, mm_up_ne h1]) (by rw [mm_up_ne (by decide), mm_up_eq]) (Or.inr ⟨e1, hc1, ea, by rw [mm_up_eq]⟩)⟩
