/-! the reference reads a rule -/
theorem TSQ_le {len : Int} {tp : Nat → Int} {p q : Nat} {ok dn fd sg nu : Int} (h : TSQ len tp p ok q dn fd sg nu) (hp : (p : Int) ≤ len) : (q : Int) ≤ len ∧ (ok = 0 ∨ ok = 1) := by
  obtain ⟨a1, h1, r1, v1, h2, h3⟩ := h
  have ha : (a1 : Int) ≤ len := by
    rcases h1 with ⟨_, e, e2, _⟩ | ⟨_, e, _⟩
    · clear h3; omega
    · clear h3; omega
  have hb := (TW_r h2 ha).1
  rcases h3 with ⟨_, e1, e2⟩ | ⟨_, _, r2, v2, h4, h5⟩
  · exact ⟨by omega, Or.inl e1⟩
  · have hc := (TW_r h4 (by clear h5; omega)).1
    rcases h5 with ⟨_, e1, e2⟩ | ⟨_, _, c, h6, h7⟩
    · exact ⟨by omega, Or.inl e1⟩
    · rcases h7 with ⟨_, e1, e2⟩ | ⟨e0, e1, _, e2⟩
      · exact ⟨by omega, Or.inl e1⟩
      · have := (h6.2.1 (c - 1) (by omega)).1
        exact ⟨by omega, Or.inr e1⟩
def rwT (N : mm_M) (rl : Nat) (ra rb rc rd : Nat → Int) (u : Nat) : Prop := N 78 (12 * rl + 4 * u) = ra u ∧ N 78 (12 * rl + 4 * u + 1) = rb u ∧ N 78 (12 * rl + 4 * u + 2) = opc (rc u) ∧ N 78 (12 * rl + 4 * u + 3) = rd u
def qM (B N : mm_M) (rl lo : Nat) (a : Int) : Prop := R32 N ∧ (∀ j, j ≠ 50 → j ≠ 77 → j ≠ 78 → N j = B j) ∧ (∀ q, q ≠ 36 → N 50 q = B 50 q) ∧ N 50 36 = a ∧ (∀ x, x ≠ rl → N 77 x = B 77 x) ∧ ∀ x, x < lo → N 78 x = B 78 x
theorem qM_tr {A B C : mm_M} {rl lo lo2 : Nat} {a b : Int} (h : qM A B rl lo a) (h2 : qM B C rl lo2 b) (hl : lo ≤ lo2) : qM A C rl lo b := by
  obtain ⟨a1, a2, a3, a4, a5, a6⟩ := h
  obtain ⟨b1, b2, b3, b4, b5, b6⟩ := h2
  exact ⟨b1, fun j q1 q2 q3 => by rw [b2 j q1 q2 q3, a2 j q1 q2 q3], fun q hq => by rw [b3 q hq, a3 q hq], b4, fun x hx => by rw [b5 x hx, a5 x hx], fun x hx => by rw [b6 x (by omega), a6 x hx]⟩
theorem qM_t {B N : mm_M} {rl kk lo : Nat} {a : Int} (h : tM B N kk a) (hl : lo ≤ kk) : qM B N rl lo a := ⟨h.1, fun j q1 _ q3 => h.2.1 j q1 q3, h.2.2.1, h.2.2.2.1, fun x _ => by rw [h.2.1 77 (by decide) (by decide)], fun x hx => h.2.2.2.2 x (by omega)⟩
theorem qM_77 {B : mm_M} {rl lo : Nat} {v : Int} (h : R32 B) (hv : mm_r32 v) : qM B (mm_up B 77 rl v) rl lo (B 50 36) := ⟨R32_up h hv, fun j _ q2 _ => mm_up_ne q2, fun q _ => by rw [mm_up_ne (by decide)], by rw [mm_up_ne (by decide)], fun x hx => by rw [mm_upa, if_neg hx], fun x _ => by rw [mm_up_ne (by decide)]⟩
theorem qM_f {B N : mm_M} {rl lo : Nat} {a : Int} (h : fM B N a) : qM B N rl lo a := ⟨h.1, fun j q1 _ _ => h.2.1 j q1, h.2.2.1, h.2.2.2, fun x _ => by rw [h.2.1 77 (by decide)], fun x _ => by rw [h.2.1 78 (by decide)]⟩
def pM (B N : mm_M) (rl : Nat) (a : Int) : Prop := R32 N ∧ (∀ j, j ≠ 50 → ¬ (75 ≤ j ∧ j ≤ 78) → N j = B j) ∧ (∀ q, q ≠ 36 → N 50 q = B 50 q) ∧ N 50 36 = a ∧ (∀ x, x ≠ rl → N 75 x = B 75 x ∧ N 76 x = B 76 x ∧ N 77 x = B 77 x) ∧ ∀ x, x < 12 * rl → N 78 x = B 78 x
theorem pM_0 {B : mm_M} {rl : Nat} (h : R32 B) : pM B B rl (B 50 36) := ⟨h, fun _ _ _ => rfl, fun _ _ => rfl, rfl, fun _ _ => ⟨rfl, rfl, rfl⟩, fun _ _ => rfl⟩
theorem pM_q {A B C : mm_M} {rl lo : Nat} {a b : Int} (h : pM A B rl a) (h2 : qM B C rl lo b) (hl : 12 * rl ≤ lo) : pM A C rl b := by
  obtain ⟨a1, a2, a3, a4, a5, a6⟩ := h
  obtain ⟨b1, b2, b3, b4, b5, b6⟩ := h2
  refine ⟨b1, fun j q1 q2 => by rw [b2 j q1 (by omega) (by omega), a2 j q1 q2], fun q hq => by rw [b3 q hq, a3 q hq], b4, fun x hx => ?_, fun x hx => by rw [b6 x (by omega), a6 x hx]⟩
  rw [b2 75 (by decide) (by decide) (by decide), b2 76 (by decide) (by decide) (by decide), b5 x hx]
  exact a5 x hx
theorem pM_f {A B C : mm_M} {rl : Nat} {a b : Int} (h : pM A B rl a) (h2 : fM B C b) : pM A C rl b := pM_q h (qM_f (lo := 12 * rl) h2) (Nat.le_refl _)
theorem pM_w {B N : mm_M} {rl j : Nat} {a v : Int} (h : pM B N rl a) (hj : 75 ≤ j ∧ j ≤ 77) (hv : mm_r32 v) : pM B (mm_up N j rl v) rl a := by
  obtain ⟨a1, a2, a3, a4, a5, a6⟩ := h
  refine ⟨R32_up a1 hv, fun i q1 q2 => by rw [mm_up_ne (by omega)]; exact a2 i q1 q2, fun q hq => by rw [mm_up_ne (by omega)]; exact a3 q hq, by rw [mm_up_ne (by omega)]; exact a4, fun x hx => ?_, fun x hx => by rw [mm_up_ne (by omega)]; exact a6 x hx⟩
  have ne : ∀ i, mm_up N j rl v i x = N i x := fun i => by unfold mm_up; rw [if_neg (fun q => hx q.2)]
  rw [ne, ne, ne]
  exact a5 x hx
theorem L_ps126 {X : Nat × (Nat → Int)} {d : Nat} {Po : mm_Po} {M : mm_M} (len : Int) (tp : Nat → Int) (hlen : 0 ≤ len ∧ len ≤ 120) (ra rb rc rd : Nat → Int) (rl : Nat) (hrl10 : rl < 10) (t f : Nat) (htf : t + f = 2) (p q T : Nat) (ok x y : Int) (hl : M 50 29 = len) (htp : ∀ k : Nat, (k : Int) < len → M 74 k = tp k) (hrl : M 50 30 = (rl : Int)) (h77 : M 77 rl = (t : Int)) (hp : M 50 36 = (p : Int)) (hpl : (p : Int) ≤ len) (hr : R32 M) (hTL : TL len tp ra rb rc rd (f + 1) t p ok q T) (k : ∀ N : mm_M, qM M N rl (12 * rl + 4 * t) (q : Int) → (ok = 1 → N 77 rl = (T : Int) ∧ ∀ u, t ≤ u → u < T → rwT N rl ra rb rc rd u) → Po (some (v_i ok)) Lam N) : mm_G X (d + 6) 0 0 mi_X10_parses Po 126 [(0, v_r 50), (1, v_i x), (2, v_i y)] [] Lam M 0 0 := by
  have hJt : JTm M := (by unfold JTm; omega)
  obtain ⟨b, a1, dn, fd, sg, nu, hTS, hcase⟩ := hTL
  have hTSl := TSQ_le hTS hpl
  have hb01 := hTSl.2
  have ha1 := hTSl.1
  have hrlN : Int.toNat (M 50 30) = rl := (by omega)
  have hidx : 12 * M 50 30 + 4 * M 77 (M 50 30).toNat = ((12 * rl + 4 * t : Nat) : Int) := (by rw [hrlN, h77, hrl]; omega)
  have h77b : M 77 (Int.toNat (M 50 30)) = (t : Int) := (by rw [hrlN]; exact h77)
  refine mm_aload_n (mm_dc od_X10_parses_1 10 rfl) rfl ?_
  refine mm_bipush (mm_dc od_X10_parses_1 11 rfl) (by decide) ?_
  refine mm_aload_n (mm_dc od_X10_parses_1 12 rfl) rfl ?_
  refine mm_getI (ci := 10) (k := 30) (mm_dc od_X10_parses_1 13 rfl) rfl in_X10 (by decide) wd_4_142 rfl rfl ?_
  refine mm_imul (mm_dc od_X10_parses_1 14 rfl) ?_
  refine mm_iconst (mm_dc od_X10_parses_1 15 rfl) ?_
  refine mm_aload_n (mm_dc od_X10_parses_1 16 rfl) rfl ?_
  refine mm_getR (ci := 10) (k := 34) (mm_dc od_X10_parses_1 17 rfl) rfl in_X10 (by decide) wd_4_146 rfl rfl ?_
  refine mm_aload_n (mm_dc od_X10_parses_1 18 rfl) rfl ?_
  refine mm_getI (ci := 10) (k := 30) (mm_dc od_X10_parses_1 19 rfl) rfl in_X10 (by decide) wd_4_142 rfl rfl ?_
  refine mm_iald (mm_dc od_X10_parses_1 20 rfl) rfl (by first | omega | assumption | exact hr _ _ rfl) (by first | omega | assumption | exact hr _ _ rfl) (by decide) ?_
  refine mm_imul (mm_dc od_X10_parses_1 21 rfl) ?_
  refine mm_iadd (mm_dc od_X10_parses_1 22 rfl) ?_
  refine mm_cst (st' := [v_i ((12 * rl + 4 * t : Nat) : Int), v_r 50]) (by rw [hidx]) ?_
  refine mm_callV (b := 50) (mi' := mi_X10_test) [v_i ((12 * rl + 4 * t : Nat) : Int)] [] (mm_dc od_X10_parses_1 23 rfl) rfl wd_5_217 wd_5_219 wd_p_41 wd_1_12 wd_5_220 yk_X10_test rfl rfl rfl (Nat.le_of_ble_eq_true rfl) rfl (by decide) (c_ts (12 * rl + 4 * t) p a1 b dn fd sg nu (by omega) len tp hlen hl htp hJt hr hp hTS (fun N1 hN1 hrow => ⟨Nat.le_refl _, ?_⟩))
  have hr := hN1.1
  have n30 : N1 50 30 = (rl : Int) := by rw [hN1.2.2.1 30 (by decide)]; exact hrl
  have n29 : N1 50 29 = len := by rw [hN1.2.2.1 29 (by decide)]; exact hl
  have n36 := hN1.2.2.2.1
  have n77 : N1 77 = M 77 := hN1.2.1 77 (by decide) (by decide)
  have hNc : Int.toNat (N1 50 30) = rl := by omega
  refine mm_if_ne 154 (mm_dc od_X10_parses_1 24 rfl) (by omega) (by first | omega | assumption | exact hr _ _ rfl) (fun c1 => ?_) (fun c1 => ?_)
  · refine mm_aload_n (mm_dc od_X10_parses_1 27 rfl) rfl ?_
    refine mm_getR (ci := 10) (k := 34) (mm_dc od_X10_parses_1 28 rfl) rfl in_X10 (by decide) wd_4_146 rfl rfl ?_
    refine mm_aload_n (mm_dc od_X10_parses_1 29 rfl) rfl ?_
    refine mm_getI (ci := 10) (k := 30) (mm_dc od_X10_parses_1 30 rfl) rfl in_X10 (by decide) wd_4_142 rfl rfl ?_
    refine mm_dup2_ir (mm_dc od_X10_parses_1 31 rfl) ?_
    refine mm_iald (mm_dc od_X10_parses_1 32 rfl) rfl (by first | omega | assumption | exact hr _ _ rfl) (by first | omega | assumption | exact hr _ _ rfl) (by decide) ?_
    refine mm_iconst (mm_dc od_X10_parses_1 33 rfl) ?_
    refine mm_iadd (mm_dc od_X10_parses_1 34 rfl) ?_
    refine mm_iast (mm_dc od_X10_parses_1 35 rfl) rfl (by first | omega | assumption | exact hr _ _ rfl) (by first | omega | assumption | exact hr _ _ rfl) (by decide) ?_
    obtain ⟨G, hG⟩ : ∃ G : mm_M, G = mm_up N1 77 (Int.toNat (N1 50 30)) ((N1 77 (Int.toNat (N1 50 30))) + 1) := ⟨_, rfl⟩
    rw [← hG]
    rw [hNc, n77, h77] at hG
    have e1 : b = 1 := by clear hcase; omega
    have hqG : qM N1 G rl (12 * rl + 4 * t + 4) (a1 : Int) := by rw [hG, ← n36]; exact qM_77 hr (by clear hcase; omega)
    have hqMG : qM M G rl (12 * rl + 4 * t) (a1 : Int) := qM_tr (qM_t hN1 (Nat.le_refl _)) hqG (by omega)
    have g30 : G 50 30 = (rl : Int) := by rw [hqMG.2.2.1 30 (by decide)]; exact hrl
    have g29 : G 50 29 = len := by rw [hqMG.2.2.1 29 (by decide)]; exact hl
    have g36 := hqMG.2.2.2.1
    have g74 : ∀ k : Nat, (k : Int) < len → G 74 k = tp k := by rw [hqMG.2.1 74 (by decide) (by decide) (by decide)]; exact htp
    have g77 : G 77 rl = (t : Int) + 1 := by rw [hG, mm_up_eq]
    have gNc : Int.toNat (G 50 30) = rl := by omega
    have g77b : G 77 (Int.toNat (G 50 30)) = (t : Int) + 1 := by rw [gNc]; exact g77
    have g78 : G 78 = N1 78 := by rw [hG, mm_up_ne (by decide)]
    have hr := hqG.1
    have hJt : JTm G := by unfold JTm; omega
    have hs38 := sgS_t (b := 38) g29 g74 g36 (by decide)
    have hrw := hrow e1
    rcases hcase with ⟨hb0, _⟩ | ⟨_, hrs, hcase⟩
    · exfalso; omega
    refine mm_aload_n (mm_dc od_X10_parses_1 36 rfl) rfl ?_
    refine mm_getI (ci := 10) (k := 36) (mm_dc od_X10_parses_1 37 rfl) rfl in_X10 (by decide) wd_4_148 rfl rfl ?_
    refine mm_aload_n (mm_dc od_X10_parses_1 38 rfl) rfl ?_
    refine mm_getI (ci := 10) (k := 29) (mm_dc od_X10_parses_1 39 rfl) rfl in_X10 (by decide) wd_4_141 rfl rfl ?_
    refine mm_icmp_ne 180 (mm_dc od_X10_parses_1 40 rfl) (by omega) (by first | omega | assumption | exact hr _ _ rfl) (by first | omega | assumption | exact hr _ _ rfl) (fun c2 => ?_) (fun c2 => ?_)
    · refine mm_aload_n (mm_dc od_X10_parses_1 43 rfl) rfl ?_
      refine mm_getR (ci := 10) (k := 34) (mm_dc od_X10_parses_1 44 rfl) rfl in_X10 (by decide) wd_4_146 rfl rfl ?_
      refine mm_aload_n (mm_dc od_X10_parses_1 45 rfl) rfl ?_
      refine mm_getI (ci := 10) (k := 30) (mm_dc od_X10_parses_1 46 rfl) rfl in_X10 (by decide) wd_4_142 rfl rfl ?_
      refine mm_iald (mm_dc od_X10_parses_1 47 rfl) rfl (by first | omega | assumption | exact hr _ _ rfl) (by first | omega | assumption | exact hr _ _ rfl) (by decide) ?_
      refine mm_iconst (mm_dc od_X10_parses_1 48 rfl) ?_
      refine mm_icmp_eq 202 (mm_dc od_X10_parses_1 49 rfl) (by omega) (by first | omega | assumption | exact hr _ _ rfl) (by first | omega | assumption | exact hr _ _ rfl) (fun c3 => ?_) (fun c3 => ?_)
      · refine mm_iconst (mm_dc od_X10_parses_1 54 rfl) ?_
        refine mm_zret .boolean (mm_dc od_X10_parses_1 55 rfl) rfl rfl ?_
        rcases hcase with ⟨h1, _⟩ | ⟨_, _, rfl, rfl⟩ | ⟨h1, h2, h3, _⟩
        · exfalso; omega
        · exact k G hqMG (fun q2 => by cases q2)
        · exfalso
          first
          | omega
          | exact absurd (hs38.mpr ⟨h1, h3⟩) (by assumption)
      · refine mm_aload_n (mm_dc od_X10_parses_1 50 rfl) rfl ?_
        refine mm_bipush (mm_dc od_X10_parses_1 51 rfl) (by decide) ?_
        refine mm_callV (b := 50) (mi' := mi_X10_takes) [v_i 38] [] (mm_dc od_X10_parses_1 52 rfl) rfl wd_5_213 wd_5_215 wd_p_40 wd_1_12 wd_5_216 yk_X10_takes rfl rfl rfl (Nat.le_of_ble_eq_true rfl) rfl (by decide) (c_X10_takes 38 (by decide) hJt hr (fun ht => ⟨Nat.le_refl _, ?_⟩) (fun ht => ⟨Nat.le_refl _, ?_⟩))
        · refine mm_if_ne 126 (mm_dc od_X10_parses_1 53 rfl) (by omega) (by first | omega | assumption | exact hr _ _ rfl) (fun _ => ?_) (fun h => absurd h (by decide))
          rcases hcase with ⟨h1, _⟩ | ⟨h1, h2, _⟩ | ⟨h1, h2, h3, h4⟩
          · exfalso
            have := hs38.mp ht
            omega
          · exfalso
            have := hs38.mp ht
            rcases h2 with h2 | h2
            · omega
            · exact h2 this.2
          · obtain ⟨g, rfl⟩ : ∃ g : Nat, f = g + 1 := ⟨f - 1, by omega⟩
            have hfF : fM G (mm_up G 50 36 (G 50 36 + 1)) (((a1 + 1 : Nat)) : Int) := by
              rw [show ((a1 + 1 : Nat) : Int) = G 50 36 + 1 by omega]
              exact fM_up (fM_0 hr) (by omega)
            obtain ⟨F, hF⟩ : ∃ F : mm_M, F = mm_up G 50 36 (G 50 36 + 1) := ⟨_, rfl⟩
            rw [← hF] at hfF
            rw [← hF]
            have hqF : qM M F rl (12 * rl + 4 * t) (((a1 + 1 : Nat)) : Int) := qM_tr hqMG (qM_f (lo := 12 * rl + 4 * t) hfF) (Nat.le_refl _)
            have f77 : F 77 rl = ((t + 1 : Nat) : Int) := by rw [hfF.2.1 77 (by decide), g77]; rfl
            refine L_ps126 len tp hlen ra rb rc rd rl hrl10 (t + 1) g (by omega) (a1 + 1) q T ok x y (by rw [hqF.2.2.1 29 (by decide)]; exact hl) (by rw [hqF.2.1 74 (by decide) (by decide) (by decide)]; exact htp) (by rw [hqF.2.2.1 30 (by decide)]; exact hrl) f77 hfF.2.2.2 (by omega) hfF.1 h4 (fun N hN hk => ?_)
            refine k N (qM_tr hqF hN (by omega)) (fun e => ?_)
            obtain ⟨k1, k2⟩ := hk e
            refine ⟨k1, fun u hu1 hu2 => ?_⟩
            by_cases eu : u = t
            · subst eu
              unfold rwT
              have n78 : ∀ z, z < 12 * rl + 4 * (u + 1) → N 78 z = N1 78 z := fun z hz => by rw [hN.2.2.2.2.2 z hz, hfF.2.1 78 (by decide), g78]
              rw [n78 _ (by omega), n78 _ (by omega), n78 _ (by omega), n78 _ (by omega), hrs.1, hrs.2.1, hrs.2.2.1, hrs.2.2.2]
              exact hrw
            · exact k2 u (by omega) hu2
        · refine mm_if_ne 126 (mm_dc od_X10_parses_1 53 rfl) (by omega) (by first | omega | assumption | exact hr _ _ rfl) (fun h => absurd h (by decide)) (fun _ => ?_)
          refine mm_iconst (mm_dc od_X10_parses_1 54 rfl) ?_
          refine mm_zret .boolean (mm_dc od_X10_parses_1 55 rfl) rfl rfl ?_
          rcases hcase with ⟨h1, _⟩ | ⟨_, _, rfl, rfl⟩ | ⟨h1, h2, h3, _⟩
          · exfalso; omega
          · exact k G hqMG (fun q2 => by cases q2)
          · exfalso
            first
            | omega
            | exact absurd (hs38.mpr ⟨h1, h3⟩) (by assumption)
    · refine mm_iconst (mm_dc od_X10_parses_1 41 rfl) ?_
      refine mm_zret .boolean (mm_dc od_X10_parses_1 42 rfl) rfl rfl ?_
      rcases hcase with ⟨_, rfl, rfl, rfl⟩ | ⟨h1, _⟩ | ⟨h1, _⟩
      · refine k G hqMG (fun _ => ⟨by rw [g77]; omega, fun u h1 h2 => ?_⟩)
        have e : u = t := by omega
        subst e
        unfold rwT
        rw [g78, hrs.1, hrs.2.1, hrs.2.2.1, hrs.2.2.2]
        exact hrw
      · exfalso; omega
      · exfalso; omega
  · refine mm_iconst (mm_dc od_X10_parses_1 25 rfl) ?_
    refine mm_zret .boolean (mm_dc od_X10_parses_1 26 rfl) rfl rfl ?_
    rcases hcase with ⟨_, rfl, rfl⟩ | ⟨hb1, _⟩
    · exact k N1 (qM_t hN1 (Nat.le_refl _)) (fun q2 => by cases q2)
    · exfalso; omega
termination_by f
decreasing_by all_goals (first | omega | (simp_wf; omega))
