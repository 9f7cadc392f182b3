theorem c_X9_may {X : Nat × (Nat → Int)} {d : Nat} {Po : mm_Po} {M : mm_M} (b : Int) (hour : Int) (hb0 : mm_r32 b) (hh0 : mm_r32 hour) (hJo : JO M) (hJb : JB M) (hJl : JL M) (hJru : JRu M) (hJw : JW M) (hr : R32 M) (k : ∀ (N : mm_M) (r : Int), ((¬ (0 ≤ b ∧ b < M 1 5) ∧ r = -1 ∧ N = M) ∨ ((0 ≤ b ∧ b < M 1 5) ∧ ¬ (0 ≤ hour ∧ hour ≤ 23) ∧ r = -2 ∧ N = M) ∨ ((0 ≤ b ∧ b < M 1 5) ∧ (0 ≤ hour ∧ hour ≤ 23) ∧ frm 34 M N ∧ WhX M b hour r)) → Po (some (v_i r)) Lam N) : mm_E X (d + 5) 0 0 mi_X9_may [v_r 0, v_i b, v_i hour] Po Lam M := by
  show mm_G X (d + 5) 0 0 mi_X9_may Po 0 [(0, v_r 0), (1, v_i b), (2, v_i hour)] [] Lam M 0 0
  refine mm_aload_n (mm_dc od_X9_may_0 0 rfl) rfl ?_
  refine mm_getR (ci := 9) (k := 0) (mm_dc od_X9_may_0 1 rfl) rfl in_X9 (by decide) wd_2_45 rfl rfl ?_
  refine mm_iload_n (mm_dc od_X9_may_0 2 rfl) rfl ?_
  refine mm_callV (b := 1) (mi' := mi_X0_hasBoat) [v_i b] [] (mm_dc od_X9_may_0 3 rfl) rfl wd_3_10 wd_2_112 wd_2_113 wd_1_2 wd_2_114 yk_X0_hasBoat rfl rfl rfl (Nat.le_of_ble_eq_true rfl) rfl (by decide) (c_X0_hasBoat b (by first | assumption | omega | exact hr _ _ rfl | exact mm_ti _ | exact mm_r3264 (hr _ _ rfl)) (by first | assumption | omega | exact hr _ _ rfl | exact mm_ti _ | exact mm_r3264 (hr _ _ rfl)) (fun c1 => ⟨Nat.le_refl _, ?_⟩) (fun c1 => ⟨Nat.le_refl _, ?_⟩))
  · refine mm_if_ne 13 (mm_dc od_X9_may_0 4 rfl) (by omega) (by first | assumption | omega | exact hr _ _ rfl | exact mm_ti _ | exact mm_r3264 (hr _ _ rfl)) (fun _ => ?_) (fun h => absurd h (by decide))
    refine mm_iload_n (mm_dc od_X9_may_0 7 rfl) rfl ?_
    refine mm_callS (mi' := mi_X9_isHour) [v_i hour] [] (mm_dc od_X9_may_0 8 rfl) rfl wd_3_11 wd_3_12 wd_1_1 wd_3_13 yk_X9_isHour (Nat.le_of_ble_eq_true rfl) rfl (by decide) (c_X9_isHour hour (by first | assumption | omega | exact hr _ _ rfl | exact mm_ti _ | exact mm_r3264 (hr _ _ rfl)) (fun c2 => ⟨Nat.le_refl _, ?_⟩) (fun c2 => ⟨Nat.le_refl _, ?_⟩))
    · refine mm_if_eq 29 (mm_dc od_X9_may_0 9 rfl) (by omega) (by first | assumption | omega | exact hr _ _ rfl | exact mm_ti _ | exact mm_r3264 (hr _ _ rfl)) (fun h => absurd h (by decide)) (fun _ => ?_)
      refine mm_aload_n (mm_dc od_X9_may_0 10 rfl) rfl ?_
      refine mm_iload_n (mm_dc od_X9_may_0 11 rfl) rfl ?_
      refine mm_iload_n (mm_dc od_X9_may_0 12 rfl) rfl ?_
      refine mm_callV (b := 0) (mi' := mi_X9_whyAshore) [v_i b, v_i hour] [] (mm_dc od_X9_may_0 13 rfl) rfl wd_3_205 wd_3_207 wd_p_15 wd_1_1 wd_3_208 yk_X9_whyAshore rfl rfl rfl (Nat.le_of_ble_eq_true rfl) rfl (by decide) (c_X9_whyAshore b hour (by first | assumption | omega | exact hr _ _ rfl | exact mm_ti _ | exact mm_r3264 (hr _ _ rfl)) (by first | assumption | omega | exact hr _ _ rfl | exact mm_ti _ | exact mm_r3264 (hr _ _ rfl)) hJo hJb hJl hJru hJw (by first | assumption | omega | exact hr _ _ rfl | exact mm_ti _ | exact mm_r3264 (hr _ _ rfl)) (fun N4 r3 hq5 => ⟨Nat.le_refl _, ?_⟩))
      refine mm_goto 31 (mm_dc od_X9_may_0 14 rfl) (by omega) ?_
      refine mm_iret (mm_dc od_X9_may_0 16 rfl) rfl ?_
      exact k _ _ (Or.inr (Or.inr ⟨by omega, by omega, hq5⟩))
    · refine mm_if_eq 29 (mm_dc od_X9_may_0 9 rfl) (by omega) (by first | assumption | omega | exact hr _ _ rfl | exact mm_ti _ | exact mm_r3264 (hr _ _ rfl)) (fun _ => ?_) (fun h => absurd h (by decide))
      refine mm_bipush (mm_dc od_X9_may_0 15 rfl) (by decide) ?_
      refine mm_iret (mm_dc od_X9_may_0 16 rfl) rfl ?_
      exact k _ _ (Or.inr (Or.inl ⟨by omega, by omega, rfl, rfl⟩))
  · refine mm_if_ne 13 (mm_dc od_X9_may_0 4 rfl) (by omega) (by first | assumption | omega | exact hr _ _ rfl | exact mm_ti _ | exact mm_r3264 (hr _ _ rfl)) (fun h => absurd h (by decide)) (fun _ => ?_)
    refine mm_iconst (mm_dc od_X9_may_0 5 rfl) ?_
    refine mm_iret (mm_dc od_X9_may_0 6 rfl) rfl ?_
    exact k _ _ (Or.inl ⟨by omega, rfl, rfl⟩)
theorem c_X10_may {X : Nat × (Nat → Int)} {d : Nat} {Po : mm_Po} {M : mm_M} (b : Int) (hour : Int) (hb0 : mm_r32 b) (hh0 : mm_r32 hour) (hJom : JOm M) (hJbm : JBm M) (hJwm : JWm M) (hJrum : JRum M) (hJ0 : V0 M) (hJbr : ∀ b : Nat, b < 8 → M 56 b = 0 ∨ M 56 b = 1) (hr : R32 M) (k1 : (¬ (0 ≤ b ∧ b < M 50 11)) → Po (some (v_i (-1))) Lam M) (k2 : (0 ≤ b ∧ b < M 50 11) → (¬ (0 ≤ hour ∧ hour ≤ 23)) → Po (some (v_i (-2))) Lam M) (k3 : (0 ≤ b ∧ b < M 50 11) → (0 ≤ hour ∧ hour ≤ 23) → ∀ (r : Int), WhM M b hour r → Po (some (v_i r)) Lam M) : mm_E X (d + 5) 0 0 mi_X10_may [v_r 50, v_i b, v_i hour] Po Lam M := by
  show mm_G X (d + 5) 0 0 mi_X10_may Po 0 [(0, v_r 50), (1, v_i b), (2, v_i hour)] [] Lam M 0 0
  refine mm_aload_n (mm_dc od_X10_may_0 0 rfl) rfl ?_
  refine mm_iload_n (mm_dc od_X10_may_0 1 rfl) rfl ?_
  refine mm_callV (b := 50) (mi' := mi_X10_isBoat) [v_i b] [] (mm_dc od_X10_may_0 2 rfl) rfl wd_5_63 wd_5_65 wd_p_23 wd_1_12 wd_5_66 yk_X10_isBoat rfl rfl rfl (Nat.le_of_ble_eq_true rfl) rfl (by decide) (c_X10_isBoat b (by first | assumption | omega | exact hr _ _ rfl | exact mm_ti _ | exact hJbr _ (by have := hJbm.2.1; omega)) (by first | assumption | omega | exact hr _ _ rfl | exact mm_ti _ | exact hJbr _ (by have := hJbm.2.1; omega)) (fun c1 => ⟨Nat.le_refl _, ?_⟩) (fun c1 => ⟨Nat.le_refl _, ?_⟩))
  · refine mm_if_ne 10 (mm_dc od_X10_may_0 3 rfl) (by omega) (by first | assumption | omega | exact hr _ _ rfl | exact mm_ti _ | exact hJbr _ (by have := hJbm.2.1; omega)) (fun _ => ?_) (fun h => absurd h (by decide))
    refine mm_iload_n (mm_dc od_X10_may_0 6 rfl) rfl ?_
    refine mm_i2l (mm_dc od_X10_may_0 7 rfl) (by first | assumption | omega | exact hr _ _ rfl | exact mm_ti _ | exact hJbr _ (by have := hJbm.2.1; omega)) ?_
    refine mm_lconst (mm_dc od_X10_may_0 8 rfl) ?_
    refine mm_ldc2 (z := 23) (mm_dc od_X10_may_0 9 rfl) wd_5_147 ?_
    refine mm_callS (mi' := mi_X10_isIn) [v_l hour, v_l 0, v_l 23] [] (mm_dc od_X10_may_0 10 rfl) rfl wd_5_37 wd_5_38 wd_1_12 wd_5_39 yk_X10_isIn (Nat.le_of_ble_eq_true rfl) rfl (by decide) (c_X10_isIn hour 0 23 (by first | assumption | omega | exact hr _ _ rfl | exact mm_ti _ | exact hJbr _ (by have := hJbm.2.1; omega)) (by first | assumption | omega | exact hr _ _ rfl | exact mm_ti _ | exact hJbr _ (by have := hJbm.2.1; omega)) (by first | assumption | omega | exact hr _ _ rfl | exact mm_ti _ | exact hJbr _ (by have := hJbm.2.1; omega)) (fun c2 => ⟨Nat.le_refl _, ?_⟩) (fun c2 => ⟨Nat.le_refl _, ?_⟩))
    · refine mm_if_eq 31 (mm_dc od_X10_may_0 11 rfl) (by omega) (by first | assumption | omega | exact hr _ _ rfl | exact mm_ti _ | exact hJbr _ (by have := hJbm.2.1; omega)) (fun h => absurd h (by decide)) (fun _ => ?_)
      refine mm_aload_n (mm_dc od_X10_may_0 12 rfl) rfl ?_
      refine mm_iload_n (mm_dc od_X10_may_0 13 rfl) rfl ?_
      refine mm_iload_n (mm_dc od_X10_may_0 14 rfl) rfl ?_
      refine mm_callV (b := 50) (mi' := mi_X10_ashore) [v_i b, v_i hour] [] (mm_dc od_X10_may_0 15 rfl) rfl wd_6_4 wd_6_6 wd_p_45 wd_1_12 wd_6_7 yk_X10_ashore rfl rfl rfl (Nat.le_of_ble_eq_true rfl) rfl (by decide) (c_X10_ashore b hour (by first | assumption | omega | exact hr _ _ rfl | exact mm_ti _ | exact hJbr _ (by have := hJbm.2.1; omega)) (by first | assumption | omega | exact hr _ _ rfl | exact mm_ti _ | exact hJbr _ (by have := hJbm.2.1; omega)) hJom hJbm hJwm hJrum hJ0 (by first | assumption | omega | exact hr _ _ rfl | exact mm_ti _ | exact hJbr _ (by have := hJbm.2.1; omega)) (by first | assumption | omega | exact hr _ _ rfl | exact mm_ti _ | exact hJbr _ (by have := hJbm.2.1; omega)) (fun r3 hq4 => ⟨Nat.le_refl _, ?_⟩))
      have hq4_r := WhyQ_r hq4
      refine mm_goto 33 (mm_dc od_X10_may_0 16 rfl) (by omega) ?_
      refine mm_iret (mm_dc od_X10_may_0 18 rfl) rfl ?_
      exact k3 (by omega) (by omega) _ hq4
    · refine mm_if_eq 31 (mm_dc od_X10_may_0 11 rfl) (by omega) (by first | assumption | omega | exact hr _ _ rfl | exact mm_ti _ | exact hJbr _ (by have := hJbm.2.1; omega)) (fun _ => ?_) (fun h => absurd h (by decide))
      refine mm_bipush (mm_dc od_X10_may_0 17 rfl) (by decide) ?_
      refine mm_iret (mm_dc od_X10_may_0 18 rfl) rfl ?_
      exact k2 (by omega) (by omega)
  · refine mm_if_ne 10 (mm_dc od_X10_may_0 3 rfl) (by omega) (by first | assumption | omega | exact hr _ _ rfl | exact mm_ti _ | exact hJbr _ (by have := hJbm.2.1; omega)) (fun h => absurd h (by decide)) (fun _ => ?_)
    refine mm_iconst (mm_dc od_X10_may_0 4 rfl) ?_
    refine mm_iret (mm_dc od_X10_may_0 5 rfl) rfl ?_
    exact k1 (by omega)
theorem pair_may {M : mm_M} (hI : inv M) (b hour : Int) (hb : mm_r32 b) (hh : mm_r32 hour) : Pair2 mi_X9_may mi_X10_may v_i [v_i b, v_i hour] M := by
  have hI0 := hI
  obtain ⟨hr, hJo, hJb, hJr, hJom, hJbm, v0, v1, v2, v3, v4, v5, v6, v7, v8, v9⟩ := hI0
  have jo := hJo; have jb := hJb; have jr := hJr; have jom := hJom; have jbm := hJbm
  obtain ⟨ho0, ho16, hO⟩ := jo
  obtain ⟨hb0, hb8, hB⟩ := jb
  obtain ⟨hr0, hr40, hRr⟩ := jr
  obtain ⟨go0, go16, gO⟩ := jom
  obtain ⟨gb0, gb8, gB⟩ := jbm
  have w1 := v1.1; have w2 := v2.1; have w3 := v3.1; have w4 := v4.1; have w5 := v5.1; have w6 := v6.1; have w7 := v7.1.1; have w7b := v7.2.1.1; have w8 := v8.1; have w8b := v8.2.2.2.1
  obtain ⟨hJru, hJrum, hJw, hJwm⟩ := inv_JRu hI
  obtain ⟨hJl, hJlm⟩ := inv_JL hI
  have hbr : ∀ b : Nat, b < 8 → M 56 b = 0 ∨ M 56 b = 1 := fun b hb => (v7.2.2 b hb).1
  refine Pair2_i _ (fun X d Po k => c_X9_may (d := d + 7) b hour hb hh hJo hJb hJl hJru hJw hr (fun N r h => k r N h)) (fun a N h => ?_)
  rcases h with ⟨h1, rfl, rfl⟩ | ⟨h1, h2, rfl, rfl⟩ | ⟨h1, h2, h3, h4⟩
  · exact ⟨by decide, fun X d Po k => c_X10_may (d := d + 7) b hour hb hh hJom hJbm hJwm hJrum v0 hbr hr (fun _ => k _ hI) (fun q => by exfalso; omega) (fun q => by exfalso; omega)⟩
  · exact ⟨by decide, fun X d Po k => c_X10_may (d := d + 7) b hour hb hh hJom hJbm hJwm hJrum v0 hbr hr (fun q => by exfalso; omega) (fun _ _ => k _ hI) (fun _ q => absurd q h2)⟩
  · have hI2 : inv N := inv_frm hI h3 (by decide) (by decide)
    have hI3 := hI2
    obtain ⟨gr, _, _, _, gJom, gJbm, g0, _, _, _, _, _, _, g7, _⟩ := hI3
    obtain ⟨gJru, gJrum, gJw, gJwm⟩ := inv_JRu hI2
    have h4r := WhyQ_r h4
    have h50 := h3.2 50 (by decide)
    refine ⟨by omega, fun X d Po k => c_X10_may (d := d + 7) b hour hb hh gJom gJbm gJwm gJrum g0 (fun b hb => (g7.2.2 b hb).1) gr (fun q => by exfalso; rw [h50] at q; omega) (fun _ q => absurd h2 q) (fun _ _ r q => ?_)⟩
    rw [← why_same hI h1 h4 (whyM_frm h3.2 q)]
    exact k _ hI2
