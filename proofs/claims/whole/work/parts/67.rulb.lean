/-! all tests of a rule -/
def TL (len : Int) (tp : Nat → Int) (ra rb rc rd : Nat → Int) : Nat → Nat → Nat → Int → Nat → Nat → Prop
  | 0, _, _, _, _, _ => False
  | f + 1, t, p, ok, q, T => ∃ (b : Int) (a1 : Nat) (dn fd sg nu : Int), TSQ len tp p b a1 dn fd sg nu ∧ ((b = 0 ∧ ok = 0 ∧ q = a1) ∨ (b = 1 ∧ (ra t = dn ∧ rb t = fd ∧ rc t = sg ∧ rd t = nu) ∧ ((len ≤ a1 ∧ ok = 1 ∧ q = a1 ∧ T = t + 1) ∨ ((a1 : Int) < len ∧ (f = 0 ∨ tp a1 ≠ 38) ∧ ok = 0 ∧ q = a1) ∨ ((a1 : Int) < len ∧ f ≠ 0 ∧ tp a1 = 38 ∧ TL len tp ra rb rc rd f (t + 1) (a1 + 1) ok q T))))
def rgQ (N : mm_M) (k : Nat) : Prop := (0 ≤ N 30 k ∧ N 30 k ≤ 1) ∧ (0 ≤ N 31 k ∧ N 31 k ≤ 6) ∧ (0 ≤ N 32 k ∧ N 32 k ≤ 2) ∧ (0 ≤ N 33 k ∧ N 33 k ≤ 999)
def PB (B N : mm_M) (c lo : Nat) : Prop := R32 N ∧ (∀ j, j ≠ 24 → j ≠ 29 → ¬ (30 ≤ j ∧ j ≤ 33) → N j = B j) ∧ N 24 0 = B 24 0 ∧ (∀ k, k ≠ c → N 29 k = B 29 k) ∧ ∀ k, k < lo → N 30 k = B 30 k ∧ N 31 k = B 31 k ∧ N 32 k = B 32 k ∧ N 33 k = B 33 k
theorem PB_tr {A B C : mm_M} {c lo lo2 : Nat} (h : PB A B c lo) (h2 : PB B C c lo2) (hl : lo ≤ lo2) : PB A C c lo := by
  obtain ⟨a1, a2, a3, a4, a5⟩ := h
  obtain ⟨b1, b2, b3, b4, b5⟩ := h2
  refine ⟨b1, fun j q1 q2 q3 => by rw [b2 j q1 q2 q3, a2 j q1 q2 q3], by rw [b3, a3], fun k hk => by rw [b4 k hk, a4 k hk], fun k hk => ?_⟩
  obtain ⟨c1, c2, c3, c4⟩ := b5 k (by omega)
  rw [c1, c2, c3, c4]
  exact a5 k hk
theorem PB_t {B N : mm_M} {c ix lo : Nat} {a : Int} (h : tA B N ix a) (hl : lo ≤ ix) : PB B N c lo :=
  ⟨h.1, fun j q1 _ q3 => h.2.1 j q1 q3, h.2.2.1, fun k _ => by rw [h.2.1 29 (by decide) (by decide)], fun k hk => h.2.2.2.2 k (by omega)⟩
theorem PB_29 {B : mm_M} {c lo : Nat} {v : Int} (h : R32 B) (hv : mm_r32 v) : PB B (mm_up B 29 c v) c lo :=
  ⟨R32_up h hv, fun j _ q2 _ => mm_up_ne q2, by rw [mm_up_ne (by decide)], fun k hk => by rw [mm_upa, if_neg hk], fun k _ => by rw [mm_up_ne (by decide), mm_up_ne (by decide), mm_up_ne (by decide), mm_up_ne (by decide)]; exact ⟨rfl, rfl, rfl, rfl⟩⟩
theorem PB_fA {B N : mm_M} {c lo : Nat} {a : Int} (h : fA B N a) : PB B N c lo :=
  ⟨h.1, fun j q1 _ _ => h.2.1 j q1, h.2.2.1, fun k _ => by rw [h.2.1 29 (by decide)], fun k _ => by rw [h.2.1 30 (by decide), h.2.1 31 (by decide), h.2.1 32 (by decide), h.2.1 33 (by decide)]; exact ⟨rfl, rfl, rfl, rfl⟩⟩
theorem L_rt2 {X : Nat × (Nat → Int)} {d : Nat} {Po : mm_Po} {M : mm_M} (t f c : Nat) (htf : t + f = 2) (hc10 : c < 10) (hc : M 26 0 = (c : Int)) (hJ : JTp M) (hr : R32 M) (k : ∀ (N : mm_M) (ok : Int) (T : Nat), PB M N c (3 * c + t) → JTp N → TL (M 24 0) (M 25) (fun u => N 30 (3 * c + u)) (fun u => N 31 (3 * c + u)) (fun u => N 32 (3 * c + u)) (fun u => N 33 (3 * c + u)) (f + 1) t (M 24 1).toNat ok (N 24 1).toNat T → (ok = 0 ∨ ok = 1) → (ok = 1 → N 29 c = T ∧ t < T ∧ T ≤ 3 ∧ ∀ u, t ≤ u → u < T → rgQ N (3 * c + u)) → Po (some (v_i ok)) Lam N) : mm_G X (d + 7) 0 0 mi_X7_readTests Po 2 [(0, v_r 26), (1, v_r 24), (2, v_i (t : Int))] [] Lam M 0 0 := by
  have hJ2 := hJ
  obtain ⟨j1, j2, j3⟩ := hJ2
  have hix : (M 26 0 * 3 + (t : Int)).toNat = 3 * c + t := (by rw [hc]; omega)
  refine mm_iload_n (mm_dc od_X7_readTests_0 2 rfl) rfl ?_
  refine mm_iconst (mm_dc od_X7_readTests_0 3 rfl) ?_
  refine mm_icmp_ge 68 (mm_dc od_X7_readTests_0 4 rfl) (by omega) (by first | omega | assumption | exact hr _ _ rfl) (by first | omega | assumption | exact hr _ _ rfl) (fun c1 => ?_) (fun c1 => ?_)
  · refine mm_iconst (mm_dc od_X7_readTests_0 41 rfl) ?_
    refine mm_zret .boolean (mm_dc od_X7_readTests_0 42 rfl) rfl rfl ?_
    exfalso; omega
  · refine mm_aload_n (mm_dc od_X7_readTests_0 5 rfl) rfl ?_
    refine mm_aload_n (mm_dc od_X7_readTests_0 6 rfl) rfl ?_
    refine mm_aload_n (mm_dc od_X7_readTests_0 7 rfl) rfl ?_
    refine mm_getI (ci := 7) (k := 0) (mm_dc od_X7_readTests_0 8 rfl) rfl in_X7 (by decide) wd_1_169 rfl rfl ?_
    refine mm_iconst (mm_dc od_X7_readTests_0 9 rfl) ?_
    refine mm_imul (mm_dc od_X7_readTests_0 10 rfl) ?_
    refine mm_iload_n (mm_dc od_X7_readTests_0 11 rfl) rfl ?_
    refine mm_iadd (mm_dc od_X7_readTests_0 12 rfl) ?_
    refine mm_callV (b := 26) (mi' := mi_X7_readTest) [v_r 24, v_i (((M 26 0) * 3) + (t : Int))] [] (mm_dc od_X7_readTests_0 13 rfl) rfl wd_3_154 wd_3_156 wd_p_11 wd_1_7 wd_3_157 yk_X7_readTest rfl rfl rfl (Nat.le_of_ble_eq_true rfl) rfl (by decide) (c_X7_readTest (((M 26 0) * 3) + (t : Int)) (by first | omega | assumption | exact hr _ _ rfl) hJ (by first | omega | assumption | exact hr _ _ rfl) (fun N3 r2 hq4 => ⟨Nat.le_refl _, ?_⟩))
    have hN := hq4
    rw [hix] at hN
    obtain ⟨n1, n2, n3, n4⟩ := hN
    have hr := n1.1
    have hN0 := n1.2.2.1
    have hN25 : N3 25 = M 25 := n1.2.1 25 (by decide) (by decide)
    have hN26 : N3 26 0 = c := by rw [n1.2.1 26 (by decide) (by decide)]; exact hc
    have hNc : Int.toNat (N3 26 0) = c := by rw [hN26]; omega
    have hJN : JTp N3 := by unfold JTp; omega
    have h01 : r2 = 0 ∨ r2 = 1 := by
      obtain ⟨_, _, _, _, _, q⟩ := n3
      rcases q with ⟨_, q, _⟩ | ⟨_, _, _, _, _, q⟩
      · exact Or.inl q
      · rcases q with ⟨_, q, _⟩ | ⟨_, _, _, _, q⟩
        · exact Or.inl q
        · rcases q with ⟨_, q, _⟩ | ⟨_, q, _⟩
          · exact Or.inl q
          · exact Or.inr q
    refine mm_if_ne 25 (mm_dc od_X7_readTests_0 14 rfl) (by omega) (by first | omega | assumption | exact hr _ _ rfl) (fun c5 => ?_) (fun c5 => ?_)
    · refine mm_aload_n (mm_dc od_X7_readTests_0 17 rfl) rfl ?_
      refine mm_getR (ci := 7) (k := 3) (mm_dc od_X7_readTests_0 18 rfl) rfl in_X7 (by decide) wd_1_174 rfl rfl ?_
      refine mm_aload_n (mm_dc od_X7_readTests_0 19 rfl) rfl ?_
      refine mm_getI (ci := 7) (k := 0) (mm_dc od_X7_readTests_0 20 rfl) rfl in_X7 (by decide) wd_1_169 rfl rfl ?_
      refine mm_iload_n (mm_dc od_X7_readTests_0 21 rfl) rfl ?_
      refine mm_iconst (mm_dc od_X7_readTests_0 22 rfl) ?_
      refine mm_iadd (mm_dc od_X7_readTests_0 23 rfl) ?_
      refine mm_iast (mm_dc od_X7_readTests_0 24 rfl) rfl (by first | omega | assumption | exact hr _ _ rfl) (by first | omega | assumption | exact hr _ _ rfl) (by decide) ?_
      obtain ⟨G, hG⟩ : ∃ G : mm_M, G = mm_up N3 29 (Int.toNat (N3 26 0)) ((t : Int) + 1) := ⟨_, rfl⟩
      rw [← hG]
      rw [hNc] at hG
      have e1 : r2 = 1 := by omega
      have pG : PB N3 G c (3 * c + t + 1) := by rw [hG]; exact PB_29 hr (by omega)
      have pMG : PB M G c (3 * c + t) := PB_tr (PB_t n1 (by omega)) pG (by omega)
      have hG0 : G 24 0 = M 24 0 := pMG.2.2.1
      have hG1 : G 24 1 = N3 24 1 := by rw [hG, mm_up_ne (by decide)]
      have hG25 : G 25 = M 25 := pMG.2.1 25 (by decide) (by decide) (by decide)
      have hJM := hJ
      have hJ : JTp G := by unfold JTp; rw [hG1, hG0]; omega
      have hr := pG.1
      have hrow := pG.2.2.2.2 (3 * c + t) (by omega)
      refine mm_aload_n (mm_dc od_X7_readTests_0 25 rfl) rfl ?_
      refine mm_callV (b := 24) (mi' := mi_X8_isAtEnd) [] [] (mm_dc od_X7_readTests_0 26 rfl) rfl wd_3_145 wd_3_146 wd_3_147 wd_1_6 wd_3_148 yk_X8_isAtEnd rfl rfl rfl (Nat.le_of_ble_eq_true rfl) rfl (by decide) (c_X8_isAtEnd  (by first | omega | assumption | exact hr _ _ rfl) (fun c6 => ⟨Nat.le_refl _, ?_⟩) (fun c6 => ⟨Nat.le_refl _, ?_⟩))
      · refine mm_if_eq 46 (mm_dc od_X7_readTests_0 27 rfl) (by omega) (by first | omega | assumption | exact hr _ _ rfl) (fun h => absurd h (by decide)) (fun _ => ?_)
        refine mm_iconst (mm_dc od_X7_readTests_0 28 rfl) ?_
        refine mm_zret .boolean (mm_dc od_X7_readTests_0 29 rfl) rfl rfl ?_
        refine k G 1 (t + 1) pMG hJ ⟨r2, (N3 24 1).toNat, _, _, _, _, n3, Or.inr ⟨e1, ⟨hrow.1, hrow.2.1, hrow.2.2.1, hrow.2.2.2⟩, Or.inl ⟨?_, rfl, by rw [hG1], rfl⟩⟩⟩ (Or.inr rfl) (fun _ => ⟨by rw [hG, mm_up_eq]; omega, by omega, by omega, fun u h1 h2 => ?_⟩)
        · omega
        · have e : u = t := by omega
          subst e
          unfold rgQ
          rw [hrow.1, hrow.2.1, hrow.2.2.1, hrow.2.2.2]
          exact n4 e1
      · refine mm_if_eq 46 (mm_dc od_X7_readTests_0 27 rfl) (by omega) (by first | omega | assumption | exact hr _ _ rfl) (fun _ => ?_) (fun h => absurd h (by decide))
        refine mm_iload_n (mm_dc od_X7_readTests_0 30 rfl) rfl ?_
        refine mm_iconst (mm_dc od_X7_readTests_0 31 rfl) ?_
        refine mm_icmp_eq 60 (mm_dc od_X7_readTests_0 32 rfl) (by omega) (by first | omega | assumption | exact hr _ _ rfl) (by first | omega | assumption | exact hr _ _ rfl) (fun c7 => ?_) (fun c7 => ?_)
        · refine mm_iconst (mm_dc od_X7_readTests_0 37 rfl) ?_
          refine mm_zret .boolean (mm_dc od_X7_readTests_0 38 rfl) rfl rfl ?_
          refine k G 0 0 pMG hJ ⟨r2, (N3 24 1).toNat, _, _, _, _, n3, Or.inr ⟨e1, ⟨hrow.1, hrow.2.1, hrow.2.2.1, hrow.2.2.2⟩, Or.inr (Or.inl ⟨by omega, ?_, rfl, by rw [hG1]⟩)⟩⟩ (Or.inl rfl) (fun q => by cases q)
          first | exact Or.inl (by omega) | (exact Or.inr (by rw [← hG25, ← hG1]; omega))
        · refine mm_aload_n (mm_dc od_X7_readTests_0 33 rfl) rfl ?_
          refine mm_bipush (mm_dc od_X7_readTests_0 34 rfl) (by decide) ?_
          refine mm_callV (b := 24) (mi' := mi_X8_skip) [v_i 38] [] (mm_dc od_X7_readTests_0 35 rfl) rfl wd_3_158 wd_3_159 wd_3_160 wd_1_6 wd_3_161 yk_X8_skip rfl rfl rfl (Nat.le_of_ble_eq_true rfl) rfl (by decide) (c_X8_skip 38 (by first | omega | assumption | exact hr _ _ rfl) hJ (by first | omega | assumption | exact hr _ _ rfl) (fun c8_0 => ⟨Nat.le_refl _, ?_⟩) (fun c9_0 => ⟨Nat.le_refl _, ?_⟩))
          · refine mm_if_ne 62 (mm_dc od_X7_readTests_0 36 rfl) (by omega) (by first | omega | assumption | exact hr _ _ rfl) (fun _ => ?_) (fun h => absurd h (by decide))
            refine mm_iinc (L' := [(0, v_r 26), (1, v_r 24), (2, v_i ((t : Int) + 1))]) (mm_dc od_X7_readTests_0 39 rfl) rfl (by decide) rfl ?_
            refine mm_goto 2 (mm_dc od_X7_readTests_0 40 rfl) (by omega) ?_
            have fF : fA G (mm_up G 24 1 (G 24 1 + 1)) (G 24 1 + 1) := fA_up hr (by omega)
            obtain ⟨F, hF⟩ : ∃ F : mm_M, F = mm_up G 24 1 (G 24 1 + 1) := ⟨_, rfl⟩
            rw [← hF] at fF
            rw [← hF]
            have pF : PB N3 F c (3 * c + t + 1) := PB_tr pG (PB_fA fF) (Nat.le_refl _)
            have pMF : PB M F c (3 * c + t) := PB_tr (PB_t n1 (by omega)) pF (by omega)
            have hF0 : F 24 0 = M 24 0 := pMF.2.2.1
            have hF1 : F 24 1 = N3 24 1 + 1 := by rw [fF.2.2.2, hG1]
            have hF25 : F 25 = M 25 := pMF.2.1 25 (by decide) (by decide) (by decide)
            have hF26 : F 26 0 = c := by rw [pMF.2.1 26 (by decide) (by decide) (by decide)]; exact hc
            obtain ⟨g, rfl⟩ : ∃ g : Nat, f = g + 1 := ⟨f - 1, by omega⟩
            refine mm_cL (L' := [(0, v_r 26), (1, v_r 24), (2, v_i ((t + 1 : Nat) : Int))]) rfl ?_
            refine L_rt2 (t + 1) g c (by omega) hc10 hF26 (by unfold JTp; omega) fF.1 (fun N2 ok T h1 h2 h3 h4 h5 => ?_)
            rw [hF0, hF25, hF1, show (N3 24 1 + 1).toNat = (N3 24 1).toNat + 1 by omega] at h3
            have hrowF := pF.2.2.2.2 (3 * c + t) (by omega)
            have hrow2 := h1.2.2.2.2 (3 * c + t) (by omega)
            have hrw : N2 30 (3 * c + t) = N3 30 (3 * c + t) ∧ N2 31 (3 * c + t) = N3 31 (3 * c + t) ∧ N2 32 (3 * c + t) = N3 32 (3 * c + t) ∧ N2 33 (3 * c + t) = N3 33 (3 * c + t) := by
              rw [hrow2.1, hrow2.2.1, hrow2.2.2.1, hrow2.2.2.2]; exact hrowF
            refine k N2 ok T (PB_tr pMF h1 (by omega)) h2 ⟨r2, (N3 24 1).toNat, _, _, _, _, n3, Or.inr ⟨e1, hrw, Or.inr (Or.inr ⟨by omega, by omega, ?_, h3⟩)⟩⟩ h4 (fun q => ?_)
            · rw [← hG25, ← hG1]; omega
            · obtain ⟨q1, q2, q3, q4⟩ := h5 q
              refine ⟨q1, by omega, q3, fun u h1 h2 => ?_⟩
              by_cases e : u = t
              · subst e
                unfold rgQ
                rw [hrw.1, hrw.2.1, hrw.2.2.1, hrw.2.2.2]
                exact n4 e1
              · exact q4 u (by omega) h2
          · refine mm_if_ne 62 (mm_dc od_X7_readTests_0 36 rfl) (by omega) (by first | omega | assumption | exact hr _ _ rfl) (fun h => absurd h (by decide)) (fun _ => ?_)
            refine mm_iconst (mm_dc od_X7_readTests_0 37 rfl) ?_
            refine mm_zret .boolean (mm_dc od_X7_readTests_0 38 rfl) rfl rfl ?_
            refine k G 0 0 pMG hJ ⟨r2, (N3 24 1).toNat, _, _, _, _, n3, Or.inr ⟨e1, ⟨hrow.1, hrow.2.1, hrow.2.2.1, hrow.2.2.2⟩, Or.inr (Or.inl ⟨by omega, ?_, rfl, by rw [hG1]⟩)⟩⟩ (Or.inl rfl) (fun q => by cases q)
            first | exact Or.inl (by omega) | (exact Or.inr (by rw [← hG25, ← hG1]; omega))
    · refine mm_iconst (mm_dc od_X7_readTests_0 15 rfl) ?_
      refine mm_zret .boolean (mm_dc od_X7_readTests_0 16 rfl) rfl rfl ?_
      have e0 : r2 = 0 := by omega
      exact k _ 0 0 (PB_t n1 (by omega)) hJN ⟨r2, (N3 24 1).toNat, _, _, _, _, n3, Or.inl ⟨e0, rfl, rfl⟩⟩ (Or.inl rfl) (fun q => by cases q)
termination_by f
decreasing_by all_goals (first | omega | (simp_wf; omega))
