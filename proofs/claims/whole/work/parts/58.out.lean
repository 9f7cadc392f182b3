def outX (M : mm_M) (b dd h c : Int) : mm_M := mm_up (mm_up (mm_up (mm_up (mm_up M 36 (M 35 0).toNat b) 37 (M 35 0).toNat dd) 38 (M 35 0).toNat h) 39 (M 35 0).toNat c) 35 0 (M 35 0 + 1)
def outM (M : mm_M) (b dd h c : Int) : mm_M := mm_up (mm_up (mm_up (mm_up (mm_up M 79 (M 50 44).toNat b) 80 (M 50 44).toNat dd) 81 (M 50 44).toNat h) 82 (M 50 44).toNat c) 50 44 (M 50 44 + 1)
theorem JO_34 {M N : mm_M} (h : frm 34 M N) (hJ : JO M) : JO N := by
  unfold JO at *
  rw [h.2 1 (by decide), h.2 2 (by decide), h.2 3 (by decide), h.2 4 (by decide), h.2 5 (by decide)]
  exact hJ
theorem inX_34 {M N : mm_M} {b : Int} (h : frm 34 M N) : inX N b = inX M b := by
  funext o
  unfold inX
  rw [h.2 5 (by decide)]
theorem c_X3_addOuting {X : Nat × (Nat → Int)} {d : Nat} {Po : mm_Po} {M : mm_M} (b : Int) (dd : Int) (h : Int) (c : Int) (h0 : 0 ≤ M 35 0 ∧ M 35 0 < 30) (hr : R32 M) (k : Po (some (v_i (M 35 0))) Lam (outX M b dd h c)) : mm_E X d 0 0 mi_X3_addOuting [v_r 35, v_i b, v_i dd, v_i h, v_i c] Po Lam M := by
  show mm_G X d 0 0 mi_X3_addOuting Po 0 [(0, v_r 35), (1, v_i b), (2, v_i dd), (3, v_i h), (4, v_i c)] [] Lam M 0 0
  refine mm_aload_n (mm_dc od_X3_addOuting_0 0 rfl) rfl ?_
  refine mm_getR (ci := 3) (k := 1) (mm_dc od_X3_addOuting_0 1 rfl) rfl in_X3 (by decide) wd_1_209 rfl rfl ?_
  refine mm_aload_n (mm_dc od_X3_addOuting_0 2 rfl) rfl ?_
  refine mm_getI (ci := 3) (k := 0) (mm_dc od_X3_addOuting_0 3 rfl) rfl in_X3 (by decide) wd_1_207 rfl rfl ?_
  refine mm_iload_n (mm_dc od_X3_addOuting_0 4 rfl) rfl ?_
  refine mm_iast (mm_dc od_X3_addOuting_0 5 rfl) rfl (by first | assumption | omega | exact hr _ _ rfl | exact mm_ti _ | exact mm_r3264 (hr _ _ rfl)) (by first | assumption | omega | exact hr _ _ rfl | exact mm_ti _ | exact mm_r3264 (hr _ _ rfl)) (by decide) ?_
  refine mm_aload_n (mm_dc od_X3_addOuting_0 6 rfl) rfl ?_
  refine mm_getR (ci := 3) (k := 2) (mm_dc od_X3_addOuting_0 7 rfl) rfl in_X3 (by decide) wd_1_211 rfl rfl ?_
  refine mm_aload_n (mm_dc od_X3_addOuting_0 8 rfl) rfl ?_
  refine mm_getI (ci := 3) (k := 0) (mm_dc od_X3_addOuting_0 9 rfl) rfl in_X3 (by decide) wd_1_207 rfl rfl ?_
  refine mm_cst (st' := [v_i (M 35 0), v_r 37]) rfl ?_
  refine mm_iload_n (mm_dc od_X3_addOuting_0 10 rfl) rfl ?_
  refine mm_iast (mm_dc od_X3_addOuting_0 11 rfl) rfl (by first | assumption | omega | exact hr _ _ rfl | exact mm_ti _ | exact mm_r3264 (hr _ _ rfl)) (by first | assumption | omega | exact hr _ _ rfl | exact mm_ti _ | exact mm_r3264 (hr _ _ rfl)) (by decide) ?_
  refine mm_aload_n (mm_dc od_X3_addOuting_0 12 rfl) rfl ?_
  refine mm_getR (ci := 3) (k := 3) (mm_dc od_X3_addOuting_0 13 rfl) rfl in_X3 (by decide) wd_1_213 rfl rfl ?_
  refine mm_aload_n (mm_dc od_X3_addOuting_0 14 rfl) rfl ?_
  refine mm_getI (ci := 3) (k := 0) (mm_dc od_X3_addOuting_0 15 rfl) rfl in_X3 (by decide) wd_1_207 rfl rfl ?_
  refine mm_cst (st' := [v_i (M 35 0), v_r 38]) rfl ?_
  refine mm_iload_n (mm_dc od_X3_addOuting_0 16 rfl) rfl ?_
  refine mm_iast (mm_dc od_X3_addOuting_0 17 rfl) rfl (by first | assumption | omega | exact hr _ _ rfl | exact mm_ti _ | exact mm_r3264 (hr _ _ rfl)) (by first | assumption | omega | exact hr _ _ rfl | exact mm_ti _ | exact mm_r3264 (hr _ _ rfl)) (by decide) ?_
  refine mm_aload_n (mm_dc od_X3_addOuting_0 18 rfl) rfl ?_
  refine mm_getR (ci := 3) (k := 4) (mm_dc od_X3_addOuting_0 19 rfl) rfl in_X3 (by decide) wd_1_215 rfl rfl ?_
  refine mm_aload_n (mm_dc od_X3_addOuting_0 20 rfl) rfl ?_
  refine mm_getI (ci := 3) (k := 0) (mm_dc od_X3_addOuting_0 21 rfl) rfl in_X3 (by decide) wd_1_207 rfl rfl ?_
  refine mm_cst (st' := [v_i (M 35 0), v_r 39]) rfl ?_
  refine mm_iload (mm_dc od_X3_addOuting_0 22 rfl) rfl ?_
  refine mm_iast (mm_dc od_X3_addOuting_0 23 rfl) rfl (by first | assumption | omega | exact hr _ _ rfl | exact mm_ti _ | exact mm_r3264 (hr _ _ rfl)) (by first | assumption | omega | exact hr _ _ rfl | exact mm_ti _ | exact mm_r3264 (hr _ _ rfl)) (by decide) ?_
  refine mm_aload_n (mm_dc od_X3_addOuting_0 24 rfl) rfl ?_
  refine mm_dup_r (mm_dc od_X3_addOuting_0 25 rfl) ?_
  refine mm_getI (ci := 3) (k := 0) (mm_dc od_X3_addOuting_0 26 rfl) rfl in_X3 (by decide) wd_1_207 rfl rfl ?_
  refine mm_cst (st' := [v_i (M 35 0), v_r 35]) rfl ?_
  refine mm_iconst (mm_dc od_X3_addOuting_0 27 rfl) ?_
  refine mm_iadd (mm_dc od_X3_addOuting_0 28 rfl) ?_
  refine mm_putI (ci := 3) (k := 0) (mm_dc od_X3_addOuting_0 29 rfl) rfl in_X3 tyX3_ok nmX3 (by decide) wd_1_207 rfl rfl rfl rfl ?_
  refine mm_aload_n (mm_dc od_X3_addOuting_0 30 rfl) rfl ?_
  refine mm_getI (ci := 3) (k := 0) (mm_dc od_X3_addOuting_0 31 rfl) rfl in_X3 (by decide) wd_1_207 rfl rfl ?_
  refine mm_cst (st' := [v_i ((M 35 0) + 1)]) rfl ?_
  refine mm_iconst (mm_dc od_X3_addOuting_0 32 rfl) ?_
  refine mm_isub (mm_dc od_X3_addOuting_0 33 rfl) ?_
  refine mm_iret (mm_dc od_X3_addOuting_0 34 rfl) rfl ?_
  exact mm_pm (by omega) rfl k
theorem c_X9_out {X : Nat × (Nat → Int)} {d : Nat} {Po : mm_Po} {M : mm_M} (b : Int) (hour : Int) (hb0 : mm_r32 b) (hh0 : mm_r32 hour) (hJo : JO M) (hJb : JB M) (hJl : JL M) (hJru : JRu M) (hJw : JW M) (hr : R32 M) (k : ∀ (N : mm_M) (r : Int), ((¬ (0 ≤ b ∧ b < M 1 5) ∧ r = -1 ∧ N = M) ∨ ((0 ≤ b ∧ b < M 1 5) ∧ ¬ (0 ≤ hour ∧ hour ≤ 23) ∧ r = -2 ∧ N = M) ∨ ((0 ≤ b ∧ b < M 1 5) ∧ (0 ≤ hour ∧ hour ≤ 23) ∧ ∃ (N1 : mm_M) (w : Int), frm 34 M N1 ∧ WhX M b hour w ∧ ((w ≠ 0 ∧ r = -3 ∧ N = N1) ∨ (w = 0 ∧ 30 ≤ M 35 0 ∧ r = -4 ∧ N = N1) ∨ (w = 0 ∧ M 35 0 < 30 ∧ r = M 35 0 ∧ ∃ m : Nat, bitsP m (fun i => inX M b i = true) (M 1 0).toNat ∧ N = outX N1 b (M 0 9) hour m)))) → Po (some (v_i r)) Lam N) : mm_E X (d + 5) 0 0 mi_X9_out [v_r 0, v_i b, v_i hour] Po Lam M := by
  show mm_G X (d + 5) 0 0 mi_X9_out Po 0 [(0, v_r 0), (1, v_i b), (2, v_i hour)] [] Lam M 0 0
  refine mm_aload_n (mm_dc od_X9_out_0 0 rfl) rfl ?_
  refine mm_getR (ci := 9) (k := 0) (mm_dc od_X9_out_0 1 rfl) rfl in_X9 (by decide) wd_2_45 rfl rfl ?_
  refine mm_iload_n (mm_dc od_X9_out_0 2 rfl) rfl ?_
  refine mm_callV (b := 1) (mi' := mi_X0_hasBoat) [v_i b] [] (mm_dc od_X9_out_0 3 rfl) rfl wd_3_10 wd_2_112 wd_2_113 wd_1_2 wd_2_114 yk_X0_hasBoat rfl rfl rfl (Nat.le_of_ble_eq_true rfl) rfl (by decide) (c_X0_hasBoat b (by first | assumption | omega | exact hr _ _ rfl | exact mm_ti _ | exact mm_r3264 (hr _ _ rfl)) (by first | assumption | omega | exact hr _ _ rfl | exact mm_ti _ | exact mm_r3264 (hr _ _ rfl)) (fun c1 => ⟨Nat.le_refl _, ?_⟩) (fun c1 => ⟨Nat.le_refl _, ?_⟩))
  · refine mm_if_ne 13 (mm_dc od_X9_out_0 4 rfl) (by omega) (by first | assumption | omega | exact hr _ _ rfl | exact mm_ti _ | exact mm_r3264 (hr _ _ rfl)) (fun _ => ?_) (fun h => absurd h (by decide))
    refine mm_iload_n (mm_dc od_X9_out_0 7 rfl) rfl ?_
    refine mm_callS (mi' := mi_X9_isHour) [v_i hour] [] (mm_dc od_X9_out_0 8 rfl) rfl wd_3_11 wd_3_12 wd_1_1 wd_3_13 yk_X9_isHour (Nat.le_of_ble_eq_true rfl) rfl (by decide) (c_X9_isHour hour (by first | assumption | omega | exact hr _ _ rfl | exact mm_ti _ | exact mm_r3264 (hr _ _ rfl)) (fun c2 => ⟨Nat.le_refl _, ?_⟩) (fun c2 => ⟨Nat.le_refl _, ?_⟩))
    · refine mm_if_ne 23 (mm_dc od_X9_out_0 9 rfl) (by omega) (by first | assumption | omega | exact hr _ _ rfl | exact mm_ti _ | exact mm_r3264 (hr _ _ rfl)) (fun _ => ?_) (fun h => absurd h (by decide))
      refine mm_aload_n (mm_dc od_X9_out_0 12 rfl) rfl ?_
      refine mm_iload_n (mm_dc od_X9_out_0 13 rfl) rfl ?_
      refine mm_iload_n (mm_dc od_X9_out_0 14 rfl) rfl ?_
      refine mm_callV (b := 0) (mi' := mi_X9_whyAshore) [v_i b, v_i hour] [] (mm_dc od_X9_out_0 15 rfl) rfl wd_3_205 wd_3_207 wd_p_15 wd_1_1 wd_3_208 yk_X9_whyAshore rfl rfl rfl (Nat.le_of_ble_eq_true rfl) rfl (by decide) (c_X9_whyAshore b hour (by first | assumption | omega | exact hr _ _ rfl | exact mm_ti _ | exact mm_r3264 (hr _ _ rfl)) (by first | assumption | omega | exact hr _ _ rfl | exact mm_ti _ | exact mm_r3264 (hr _ _ rfl)) hJo hJb hJl hJru hJw (by first | assumption | omega | exact hr _ _ rfl | exact mm_ti _ | exact mm_r3264 (hr _ _ rfl)) (fun N4 r3 hq5 => ⟨Nat.le_refl _, ?_⟩))
      have hJoo := hJo
      have hro := hr
      have hr := hq5.1.1
      have hJo := JO_34 hq5.1 hJo
      have h35 := hq5.1.2 35 (by decide)
      have h0f := hq5.1.2 0 (by decide)
      have h1f := hq5.1.2 1 (by decide)
      have hwr := WhyQ_r hq5.2
      have hJl0 := hJl.1
      rw [← h35] at hJl0
      refine mm_if_eq 35 (mm_dc od_X9_out_0 16 rfl) (by omega) (by first | assumption | omega | exact hr _ _ rfl | exact mm_ti _ | exact mm_r3264 (hr _ _ rfl)) (fun c6 => ?_) (fun c6 => ?_)
      · refine mm_aload_n (mm_dc od_X9_out_0 19 rfl) rfl ?_
        refine mm_getR (ci := 9) (k := 6) (mm_dc od_X9_out_0 20 rfl) rfl in_X9 (by decide) wd_2_51 rfl rfl ?_
        refine mm_getI (ci := 3) (k := 0) (mm_dc od_X9_out_0 21 rfl) rfl in_X3 (by decide) wd_1_208 rfl rfl ?_
        refine mm_bipush (mm_dc od_X9_out_0 22 rfl) (by decide) ?_
        refine mm_icmp_ge 71 (mm_dc od_X9_out_0 23 rfl) (by omega) (by first | assumption | omega | exact hr _ _ rfl | exact mm_ti _ | exact mm_r3264 (hr _ _ rfl)) (by first | assumption | omega | exact hr _ _ rfl | exact mm_ti _ | exact mm_r3264 (hr _ _ rfl)) (fun c7 => ?_) (fun c7 => ?_)
        · refine mm_bipush (mm_dc od_X9_out_0 36 rfl) (by decide) ?_
          refine mm_iret (mm_dc od_X9_out_0 37 rfl) rfl ?_
          exact k _ _ (Or.inr (Or.inr ⟨by omega, by omega, N4, r3, hq5.1, hq5.2, Or.inr (Or.inl ⟨by omega, by rw [← h35]; omega, rfl, rfl⟩)⟩))
        · refine mm_aload_n (mm_dc od_X9_out_0 24 rfl) rfl ?_
          refine mm_getR (ci := 9) (k := 6) (mm_dc od_X9_out_0 25 rfl) rfl in_X9 (by decide) wd_2_51 rfl rfl ?_
          refine mm_iload_n (mm_dc od_X9_out_0 26 rfl) rfl ?_
          refine mm_aload_n (mm_dc od_X9_out_0 27 rfl) rfl ?_
          refine mm_getI (ci := 9) (k := 9) (mm_dc od_X9_out_0 28 rfl) rfl in_X9 (by decide) wd_2_54 rfl rfl ?_
          refine mm_iload_n (mm_dc od_X9_out_0 29 rfl) rfl ?_
          refine mm_aload_n (mm_dc od_X9_out_0 30 rfl) rfl ?_
          refine mm_getR (ci := 9) (k := 0) (mm_dc od_X9_out_0 31 rfl) rfl in_X9 (by decide) wd_2_45 rfl rfl ?_
          refine mm_iload_n (mm_dc od_X9_out_0 32 rfl) rfl ?_
          refine mm_callV (b := 1) (mi' := mi_X0_aboard) [v_i b] [v_i hour, v_i (N4 0 9), v_i b, v_r 35] (mm_dc od_X9_out_0 33 rfl) rfl wd_4_4 wd_3_222 wd_3_223 wd_1_2 wd_3_224 yk_X0_aboard rfl rfl rfl (Nat.le_of_ble_eq_true rfl) rfl (by decide) (c_X0_aboard b (by first | assumption | omega | exact hr _ _ rfl | exact mm_ti _ | exact mm_r3264 (hr _ _ rfl)) hJo (by first | assumption | omega | exact hr _ _ rfl | exact mm_ti _ | exact mm_r3264 (hr _ _ rfl)) (fun r8 hq9 => ⟨Nat.le_refl _, ?_⟩))
          have hq9_r := abq_r (by have := hJo.2.1; omega) hq9
          refine mm_callV (b := 35) (mi' := mi_X3_addOuting) [v_i b, v_i (N4 0 9), v_i hour, v_i r8] [] (mm_dc od_X9_out_0 34 rfl) rfl wd_4_5 wd_4_6 wd_4_7 wd_1_8 wd_4_8 yk_X3_addOuting rfl rfl rfl (Nat.le_of_ble_eq_true rfl) rfl (by decide) (c_X3_addOuting b (N4 0 9) hour r8 (by first | assumption | omega | exact hr _ _ rfl | exact mm_ti _ | exact mm_r3264 (hr _ _ rfl)) (by first | assumption | omega | exact hr _ _ rfl | exact mm_ti _ | exact mm_r3264 (hr _ _ rfl)) ⟨Nat.le_refl _, ?_⟩)
          refine mm_goto 73 (mm_dc od_X9_out_0 35 rfl) (by omega) ?_
          refine mm_iret (mm_dc od_X9_out_0 37 rfl) rfl ?_
          obtain ⟨m, em, hm⟩ := hq9
          subst em
          rw [inX_34 hq5.1, h1f] at hm
          exact k _ _ (Or.inr (Or.inr ⟨by omega, by omega, N4, r3, hq5.1, hq5.2, Or.inr (Or.inr ⟨by omega, by rw [← h35]; omega, by rw [← h35], m, hm, by rw [← h0f]⟩)⟩))
      · refine mm_bipush (mm_dc od_X9_out_0 17 rfl) (by decide) ?_
        refine mm_iret (mm_dc od_X9_out_0 18 rfl) rfl ?_
        exact k _ _ (Or.inr (Or.inr ⟨by omega, by omega, N4, r3, hq5.1, hq5.2, Or.inl ⟨by omega, rfl, rfl⟩⟩))
    · refine mm_if_ne 23 (mm_dc od_X9_out_0 9 rfl) (by omega) (by first | assumption | omega | exact hr _ _ rfl | exact mm_ti _ | exact mm_r3264 (hr _ _ rfl)) (fun h => absurd h (by decide)) (fun _ => ?_)
      refine mm_bipush (mm_dc od_X9_out_0 10 rfl) (by decide) ?_
      refine mm_iret (mm_dc od_X9_out_0 11 rfl) rfl ?_
      exact k _ _ (Or.inr (Or.inl ⟨by omega, by omega, rfl, rfl⟩))
  · refine mm_if_ne 13 (mm_dc od_X9_out_0 4 rfl) (by omega) (by first | assumption | omega | exact hr _ _ rfl | exact mm_ti _ | exact mm_r3264 (hr _ _ rfl)) (fun h => absurd h (by decide)) (fun _ => ?_)
    refine mm_iconst (mm_dc od_X9_out_0 5 rfl) ?_
    refine mm_iret (mm_dc od_X9_out_0 6 rfl) rfl ?_
    exact k _ _ (Or.inl ⟨by omega, rfl, rfl⟩)
theorem c_X10_out {X : Nat × (Nat → Int)} {d : Nat} {Po : mm_Po} {M : mm_M} (b : Int) (hour : Int) (hb0 : mm_r32 b) (hh0 : mm_r32 hour) (hJom : JOm M) (hJbm : JBm M) (hJwm : JWm M) (hJrum : JRum M) (hJ0 : V0 M) (hJbr : ∀ b : Nat, b < 8 → M 56 b = 0 ∨ M 56 b = 1) (hJlm : JLm M) (hr : R32 M) (k : ∀ (N : mm_M) (r : Int), ((¬ (0 ≤ b ∧ b < M 50 11) ∧ r = -1 ∧ N = M) ∨ ((0 ≤ b ∧ b < M 50 11) ∧ ¬ (0 ≤ hour ∧ hour ≤ 23) ∧ r = -2 ∧ N = M) ∨ ((0 ≤ b ∧ b < M 50 11) ∧ (0 ≤ hour ∧ hour ≤ 23) ∧ ∃ w : Int, WhM M b hour w ∧ ((w ≠ 0 ∧ r = -3 ∧ N = M) ∨ (w = 0 ∧ M 50 44 = 30 ∧ r = -4 ∧ N = M) ∨ (w = 0 ∧ M 50 44 < 30 ∧ r = M 50 44 ∧ ∃ c : Int, whoQ M b c ∧ N = outM M b (M 50 31) hour c)))) → Po (some (v_i r)) Lam N) : mm_E X (d + 5) 0 0 mi_X10_out [v_r 50, v_i b, v_i hour] Po Lam M := by
  show mm_G X (d + 5) 0 0 mi_X10_out Po 0 [(0, v_r 50), (1, v_i b), (2, v_i hour)] [] Lam M 0 0
  have hJl2 := hJlm
  obtain ⟨hu0, hu30, hl0, hl60, hL⟩ := hJl2
  have hJbm2 := hJbm
  obtain ⟨hb0, hb8, hB⟩ := hJbm2
  have hwd := hJwm.1
  have hwd9 := hJwm.2.1
  refine mm_aload_n (mm_dc od_X10_out_0 0 rfl) rfl ?_
  refine mm_iload_n (mm_dc od_X10_out_0 1 rfl) rfl ?_
  refine mm_callV (b := 50) (mi' := mi_X10_isBoat) [v_i b] [] (mm_dc od_X10_out_0 2 rfl) rfl wd_5_63 wd_5_65 wd_p_23 wd_1_12 wd_5_66 yk_X10_isBoat rfl rfl rfl (Nat.le_of_ble_eq_true rfl) rfl (by decide) (c_X10_isBoat b (by first | assumption | omega | exact hr _ _ rfl | exact mm_ti _ | exact hJbr _ (by have := hJbm.2.1; omega) | exact R32_up (R32_up (R32_up hr (by omega)) (by omega)) (by omega) ) (by first | assumption | omega | exact hr _ _ rfl | exact mm_ti _ | exact hJbr _ (by have := hJbm.2.1; omega) | exact R32_up (R32_up (R32_up hr (by omega)) (by omega)) (by omega) ) (fun c1 => ⟨Nat.le_refl _, ?_⟩) (fun c1 => ⟨Nat.le_refl _, ?_⟩))
  · refine mm_if_ne 10 (mm_dc od_X10_out_0 3 rfl) (by omega) (by first | assumption | omega | exact hr _ _ rfl | exact mm_ti _ | exact hJbr _ (by have := hJbm.2.1; omega) | exact R32_up (R32_up (R32_up hr (by omega)) (by omega)) (by omega) ) (fun _ => ?_) (fun h => absurd h (by decide))
    refine mm_iload_n (mm_dc od_X10_out_0 6 rfl) rfl ?_
    refine mm_i2l (mm_dc od_X10_out_0 7 rfl) (by first | assumption | omega | exact hr _ _ rfl | exact mm_ti _ | exact hJbr _ (by have := hJbm.2.1; omega) | exact R32_up (R32_up (R32_up hr (by omega)) (by omega)) (by omega) ) ?_
    refine mm_lconst (mm_dc od_X10_out_0 8 rfl) ?_
    refine mm_ldc2 (z := 23) (mm_dc od_X10_out_0 9 rfl) wd_5_147 ?_
    refine mm_callS (mi' := mi_X10_isIn) [v_l hour, v_l 0, v_l 23] [] (mm_dc od_X10_out_0 10 rfl) rfl wd_5_37 wd_5_38 wd_1_12 wd_5_39 yk_X10_isIn (Nat.le_of_ble_eq_true rfl) rfl (by decide) (c_X10_isIn hour 0 23 (by first | assumption | omega | exact hr _ _ rfl | exact mm_ti _ | exact hJbr _ (by have := hJbm.2.1; omega) | exact R32_up (R32_up (R32_up hr (by omega)) (by omega)) (by omega) ) (by first | assumption | omega | exact hr _ _ rfl | exact mm_ti _ | exact hJbr _ (by have := hJbm.2.1; omega) | exact R32_up (R32_up (R32_up hr (by omega)) (by omega)) (by omega) ) (by first | assumption | omega | exact hr _ _ rfl | exact mm_ti _ | exact hJbr _ (by have := hJbm.2.1; omega) | exact R32_up (R32_up (R32_up hr (by omega)) (by omega)) (by omega) ) (fun c2 => ⟨Nat.le_refl _, ?_⟩) (fun c2 => ⟨Nat.le_refl _, ?_⟩))
    · refine mm_if_ne 25 (mm_dc od_X10_out_0 11 rfl) (by omega) (by first | assumption | omega | exact hr _ _ rfl | exact mm_ti _ | exact hJbr _ (by have := hJbm.2.1; omega) | exact R32_up (R32_up (R32_up hr (by omega)) (by omega)) (by omega) ) (fun _ => ?_) (fun h => absurd h (by decide))
      refine mm_aload_n (mm_dc od_X10_out_0 14 rfl) rfl ?_
      refine mm_iload_n (mm_dc od_X10_out_0 15 rfl) rfl ?_
      refine mm_iload_n (mm_dc od_X10_out_0 16 rfl) rfl ?_
      refine mm_callV (b := 50) (mi' := mi_X10_ashore) [v_i b, v_i hour] [] (mm_dc od_X10_out_0 17 rfl) rfl wd_6_4 wd_6_6 wd_p_45 wd_1_12 wd_6_7 yk_X10_ashore rfl rfl rfl (Nat.le_of_ble_eq_true rfl) rfl (by decide) (c_X10_ashore b hour (by first | assumption | omega | exact hr _ _ rfl | exact mm_ti _ | exact hJbr _ (by have := hJbm.2.1; omega) | exact R32_up (R32_up (R32_up hr (by omega)) (by omega)) (by omega) ) (by first | assumption | omega | exact hr _ _ rfl | exact mm_ti _ | exact hJbr _ (by have := hJbm.2.1; omega) | exact R32_up (R32_up (R32_up hr (by omega)) (by omega)) (by omega) ) hJom hJbm hJwm hJrum hJ0 (by first | assumption | omega | exact hr _ _ rfl | exact mm_ti _ | exact hJbr _ (by have := hJbm.2.1; omega) | exact R32_up (R32_up (R32_up hr (by omega)) (by omega)) (by omega) ) (by first | assumption | omega | exact hr _ _ rfl | exact mm_ti _ | exact hJbr _ (by have := hJbm.2.1; omega) | exact R32_up (R32_up (R32_up hr (by omega)) (by omega)) (by omega) ) (fun r3 hq4 => ⟨Nat.le_refl _, ?_⟩))
      have hq4_r := WhyQ_r hq4
      refine mm_if_eq 37 (mm_dc od_X10_out_0 18 rfl) (by omega) (by first | assumption | omega | exact hr _ _ rfl | exact mm_ti _ | exact hJbr _ (by have := hJbm.2.1; omega) | exact R32_up (R32_up (R32_up hr (by omega)) (by omega)) (by omega) ) (fun c5 => ?_) (fun c5 => ?_)
      · refine mm_aload_n (mm_dc od_X10_out_0 21 rfl) rfl ?_
        refine mm_getI (ci := 10) (k := 44) (mm_dc od_X10_out_0 22 rfl) rfl in_X10 (by decide) wd_4_156 rfl rfl ?_
        refine mm_bipush (mm_dc od_X10_out_0 23 rfl) (by decide) ?_
        refine mm_icmp_ne 49 (mm_dc od_X10_out_0 24 rfl) (by omega) (by first | assumption | omega | exact hr _ _ rfl | exact mm_ti _ | exact hJbr _ (by have := hJbm.2.1; omega) | exact R32_up (R32_up (R32_up hr (by omega)) (by omega)) (by omega) ) (by first | assumption | omega | exact hr _ _ rfl | exact mm_ti _ | exact hJbr _ (by have := hJbm.2.1; omega) | exact R32_up (R32_up (R32_up hr (by omega)) (by omega)) (by omega) ) (fun c6 => ?_) (fun c6 => ?_)
        · refine mm_aload_n (mm_dc od_X10_out_0 27 rfl) rfl ?_
          refine mm_getR (ci := 10) (k := 37) (mm_dc od_X10_out_0 28 rfl) rfl in_X10 (by decide) wd_4_149 rfl rfl ?_
          refine mm_aload_n (mm_dc od_X10_out_0 29 rfl) rfl ?_
          refine mm_getI (ci := 10) (k := 44) (mm_dc od_X10_out_0 30 rfl) rfl in_X10 (by decide) wd_4_156 rfl rfl ?_
          refine mm_iload_n (mm_dc od_X10_out_0 31 rfl) rfl ?_
          refine mm_iast (mm_dc od_X10_out_0 32 rfl) rfl (by first | assumption | omega | exact hr _ _ rfl | exact mm_ti _ | exact hJbr _ (by have := hJbm.2.1; omega) | exact R32_up (R32_up (R32_up hr (by omega)) (by omega)) (by omega) ) (by first | assumption | omega | exact hr _ _ rfl | exact mm_ti _ | exact hJbr _ (by have := hJbm.2.1; omega) | exact R32_up (R32_up (R32_up hr (by omega)) (by omega)) (by omega) ) (by decide) ?_
          refine mm_aload_n (mm_dc od_X10_out_0 33 rfl) rfl ?_
          refine mm_getR (ci := 10) (k := 38) (mm_dc od_X10_out_0 34 rfl) rfl in_X10 (by decide) wd_4_150 rfl rfl ?_
          refine mm_aload_n (mm_dc od_X10_out_0 35 rfl) rfl ?_
          refine mm_getI (ci := 10) (k := 44) (mm_dc od_X10_out_0 36 rfl) rfl in_X10 (by decide) wd_4_156 rfl rfl ?_
          refine mm_cst (st' := [v_i (M 50 44), v_r 80]) rfl ?_
          refine mm_aload_n (mm_dc od_X10_out_0 37 rfl) rfl ?_
          refine mm_getI (ci := 10) (k := 31) (mm_dc od_X10_out_0 38 rfl) rfl in_X10 (by decide) wd_4_143 rfl rfl ?_
          refine mm_cst (st' := [v_i (M 50 31), v_i (M 50 44), v_r 80]) rfl ?_
          refine mm_iast (mm_dc od_X10_out_0 39 rfl) rfl (by first | assumption | omega | exact hr _ _ rfl | exact mm_ti _ | exact hJbr _ (by have := hJbm.2.1; omega) | exact R32_up (R32_up (R32_up hr (by omega)) (by omega)) (by omega) ) (by first | assumption | omega | exact hr _ _ rfl | exact mm_ti _ | exact hJbr _ (by have := hJbm.2.1; omega) | exact R32_up (R32_up (R32_up hr (by omega)) (by omega)) (by omega) ) (by decide) ?_
          refine mm_aload_n (mm_dc od_X10_out_0 40 rfl) rfl ?_
          refine mm_getR (ci := 10) (k := 39) (mm_dc od_X10_out_0 41 rfl) rfl in_X10 (by decide) wd_4_151 rfl rfl ?_
          refine mm_aload_n (mm_dc od_X10_out_0 42 rfl) rfl ?_
          refine mm_getI (ci := 10) (k := 44) (mm_dc od_X10_out_0 43 rfl) rfl in_X10 (by decide) wd_4_156 rfl rfl ?_
          refine mm_cst (st' := [v_i (M 50 44), v_r 81]) rfl ?_
          refine mm_iload_n (mm_dc od_X10_out_0 44 rfl) rfl ?_
          refine mm_iast (mm_dc od_X10_out_0 45 rfl) rfl (by first | assumption | omega | exact hr _ _ rfl | exact mm_ti _ | exact hJbr _ (by have := hJbm.2.1; omega) | exact R32_up (R32_up (R32_up hr (by omega)) (by omega)) (by omega) ) (by first | assumption | omega | exact hr _ _ rfl | exact mm_ti _ | exact hJbr _ (by have := hJbm.2.1; omega) | exact R32_up (R32_up (R32_up hr (by omega)) (by omega)) (by omega) ) (by decide) ?_
          refine mm_aload_n (mm_dc od_X10_out_0 46 rfl) rfl ?_
          refine mm_getR (ci := 10) (k := 40) (mm_dc od_X10_out_0 47 rfl) rfl in_X10 (by decide) wd_4_152 rfl rfl ?_
          refine mm_aload_n (mm_dc od_X10_out_0 48 rfl) rfl ?_
          refine mm_getI (ci := 10) (k := 44) (mm_dc od_X10_out_0 49 rfl) rfl in_X10 (by decide) wd_4_156 rfl rfl ?_
          refine mm_cst (st' := [v_i (M 50 44), v_r 82]) rfl ?_
          refine mm_aload_n (mm_dc od_X10_out_0 50 rfl) rfl ?_
          refine mm_iload_n (mm_dc od_X10_out_0 51 rfl) rfl ?_
          refine mm_callV (b := 50) (mi' := mi_X10_whoIn) [v_i b] [v_i (M 50 44), v_r 82] (mm_dc od_X10_out_0 52 rfl) rfl wd_6_16 wd_6_18 wd_p_46 wd_1_12 wd_6_19 yk_X10_whoIn rfl rfl rfl (Nat.le_of_ble_eq_true rfl) rfl (by decide) (c_X10_whoIn b (by first | assumption | omega | exact hr _ _ rfl | exact mm_ti _ | exact hJbr _ (by have := hJbm.2.1; omega) | exact R32_up (R32_up (R32_up hr (by omega)) (by omega)) (by omega) ) hJom (by first | assumption | omega | exact hr _ _ rfl | exact mm_ti _ | exact hJbr _ (by have := hJbm.2.1; omega) | exact R32_up (R32_up (R32_up hr (by omega)) (by omega)) (by omega) ) (fun r7 hq8 => ⟨Nat.le_refl _, ?_⟩))
          have hq8_r := whoQ_r hJom hq8
          refine mm_iast (mm_dc od_X10_out_0 53 rfl) rfl (by first | assumption | omega | exact hr _ _ rfl | exact mm_ti _ | exact hJbr _ (by have := hJbm.2.1; omega) | exact R32_up (R32_up (R32_up hr (by omega)) (by omega)) (by omega) ) (by first | assumption | omega | exact hr _ _ rfl | exact mm_ti _ | exact hJbr _ (by have := hJbm.2.1; omega) | exact R32_up (R32_up (R32_up hr (by omega)) (by omega)) (by omega) ) (by decide) ?_
          refine mm_aload_n (mm_dc od_X10_out_0 54 rfl) rfl ?_
          refine mm_dup_r (mm_dc od_X10_out_0 55 rfl) ?_
          refine mm_getI (ci := 10) (k := 44) (mm_dc od_X10_out_0 56 rfl) rfl in_X10 (by decide) wd_4_156 rfl rfl ?_
          refine mm_cst (st' := [v_i (M 50 44), v_r 50]) rfl ?_
          refine mm_iconst (mm_dc od_X10_out_0 57 rfl) ?_
          refine mm_iadd (mm_dc od_X10_out_0 58 rfl) ?_
          refine mm_putI (ci := 10) (k := 44) (mm_dc od_X10_out_0 59 rfl) rfl in_X10 tyX10_ok nmX10 (by decide) wd_4_156 rfl rfl rfl rfl ?_
          refine mm_aload_n (mm_dc od_X10_out_1 0 rfl) rfl ?_
          refine mm_getI (ci := 10) (k := 44) (mm_dc od_X10_out_1 1 rfl) rfl in_X10 (by decide) wd_4_156 rfl rfl ?_
          refine mm_cst (st' := [v_i ((M 50 44) + 1)]) rfl ?_
          refine mm_iconst (mm_dc od_X10_out_1 2 rfl) ?_
          refine mm_isub (mm_dc od_X10_out_1 3 rfl) ?_
          refine mm_iret (mm_dc od_X10_out_1 4 rfl) rfl ?_
          exact k _ _ (Or.inr (Or.inr ⟨by omega, by omega, r3, hq4, Or.inr (Or.inr ⟨by omega, by omega, by omega, _, hq8, rfl⟩)⟩))
        · refine mm_bipush (mm_dc od_X10_out_0 25 rfl) (by decide) ?_
          refine mm_iret (mm_dc od_X10_out_0 26 rfl) rfl ?_
          exact k _ _ (Or.inr (Or.inr ⟨by omega, by omega, r3, hq4, Or.inr (Or.inl ⟨by omega, by omega, rfl, rfl⟩)⟩))
      · refine mm_bipush (mm_dc od_X10_out_0 19 rfl) (by decide) ?_
        refine mm_iret (mm_dc od_X10_out_0 20 rfl) rfl ?_
        exact k _ _ (Or.inr (Or.inr ⟨by omega, by omega, r3, hq4, Or.inl ⟨by omega, rfl, rfl⟩⟩))
    · refine mm_if_ne 25 (mm_dc od_X10_out_0 11 rfl) (by omega) (by first | assumption | omega | exact hr _ _ rfl | exact mm_ti _ | exact hJbr _ (by have := hJbm.2.1; omega) | exact R32_up (R32_up (R32_up hr (by omega)) (by omega)) (by omega) ) (fun h => absurd h (by decide)) (fun _ => ?_)
      refine mm_bipush (mm_dc od_X10_out_0 12 rfl) (by decide) ?_
      refine mm_iret (mm_dc od_X10_out_0 13 rfl) rfl ?_
      exact k _ _ (Or.inr (Or.inl ⟨by omega, by omega, rfl, rfl⟩))
  · refine mm_if_ne 10 (mm_dc od_X10_out_0 3 rfl) (by omega) (by first | assumption | omega | exact hr _ _ rfl | exact mm_ti _ | exact hJbr _ (by have := hJbm.2.1; omega) | exact R32_up (R32_up (R32_up hr (by omega)) (by omega)) (by omega) ) (fun h => absurd h (by decide)) (fun _ => ?_)
    refine mm_iconst (mm_dc od_X10_out_0 4 rfl) ?_
    refine mm_iret (mm_dc od_X10_out_0 5 rfl) rfl ?_
    exact k _ _ (Or.inl ⟨by omega, rfl, rfl⟩)
theorem inv_out {M : mm_M} (hI : inv M) {b hour c : Int} (hlt : M 35 0 < 30) (hb : 0 ≤ b ∧ b < M 1 5) (hh : 0 ≤ hour ∧ hour ≤ 23) (hc : 0 ≤ c ∧ c < 65536) : inv (outM (outX M b (M 0 9) hour c) b (M 50 31) hour c) := by
  have hI0 := hI
  obtain ⟨hr, hJo, hJb, hJr, hJom, hJbm, v0, v1, v2, v3, v4, v5, v6, v7, v8, v9⟩ := hI0
  have jo := hJo; have jb := hJb; have jr := hJr; have jom := hJom; have jbm := hJbm
  obtain ⟨ho0, ho16, hO⟩ := jo
  obtain ⟨hb0, hb8, hB⟩ := jb
  obtain ⟨hr0, hr40, hRr⟩ := jr
  obtain ⟨go0, go16, gO⟩ := jom
  obtain ⟨gb0, gb8, gB⟩ := jbm
  have w1 := v1.1; have w2 := v2.1; have w3 := v3.1; have w4 := v4.1; have w5 := v5.1; have w6 := v6.1; have w7 := v7.1.1; have w7b := v7.2.1.1; have w8 := v8.1; have w8b := v8.2.2.2.1
  have y0 := v4.2.1; have y9 := v4.2.2.1
  have hR1 : R32 (outX M b (M 0 9) hour c) := R32_up (R32_up (R32_up (R32_up (R32_up hr (by omega)) (by omega)) (by omega)) (by omega)) (by have := v7.1.2.1; omega)
  have hR2 : R32 (outM (outX M b (M 0 9) hour c) b (M 50 31) hour c) := R32_up (R32_up (R32_up (R32_up (R32_up hR1 (by omega)) (by omega)) (by omega)) (by omega)) (by show mm_r32 (M 50 44 + 1); have := v7.1.2.1; omega)
  refine ⟨hR2, hJo, hJb, hJr, hJom, hJbm, v0, v1, v2, v3, v4, v5, v6, ?_, v8, v9⟩
  obtain ⟨⟨x1, x2, x3, x4⟩, ⟨y1, y2, y3, y4⟩, z⟩ := v7
  refine ⟨⟨by show M 50 44 + 1 = M 35 0 + 1; omega, by show 0 ≤ M 35 0 + 1; omega, by show M 35 0 + 1 ≤ 30; omega, ?_⟩, ⟨y1, y2, y3, fun i hi => ?_⟩, z⟩
  · refine push_all (n := M 35 0) x2 x4 (fun i hi h => ?_) ?_
    · have e : ¬ i = (M 35 0).toNat := by omega
      have e2 : ¬ i = (M 50 44).toNat := by omega
      simp [outM, outX, mm_up, e, e2]
      exact h
    · simp [outM, outX, mm_up, x1]
      exact w4
  · have h := y4 i hi
    refine ⟨h.1, h.2.1, h.2.2.1, h.2.2.2.1, h.2.2.2.2.1, h.2.2.2.2.2.1, ?_⟩
    show M 42 i ≤ M 35 0 + 1
    omega
theorem pair_out {M : mm_M} (hI : inv M) (b hour : Int) (hb : mm_r32 b) (hh : mm_r32 hour) : Pair2 mi_X9_out mi_X10_out v_i [v_i b, v_i hour] M := by
  have hI0 := hI
  obtain ⟨hr, hJo, hJb, hJr, hJom, hJbm, v0, v1, v2, v3, v4, v5, v6, v7, v8, v9⟩ := hI0
  have jo := hJo; have jb := hJb; have jr := hJr; have jom := hJom; have jbm := hJbm
  obtain ⟨ho0, ho16, hO⟩ := jo
  obtain ⟨hb0, hb8, hB⟩ := jb
  obtain ⟨hr0, hr40, hRr⟩ := jr
  obtain ⟨go0, go16, gO⟩ := jom
  obtain ⟨gb0, gb8, gB⟩ := jbm
  have w1 := v1.1; have w2 := v2.1; have w3 := v3.1; have w4 := v4.1; have w5 := v5.1; have w6 := v6.1; have w7 := v7.1.1; have w7b := v7.2.1.1; have w8 := v8.1; have w8b := v8.2.2.2.1
  obtain ⟨hJru, hJrum, hJw, hJwm⟩ := inv_JRu hI
  obtain ⟨hJl, hJlm⟩ := inv_JL hI
  have hbr : ∀ b : Nat, b < 8 → M 56 b = 0 ∨ M 56 b = 1 := fun b hb => (v7.2.2 b hb).1
  refine Pair2_i _ (fun X d Po k => c_X9_out (d := d + 7) b hour hb hh hJo hJb hJl hJru hJw hr (fun N r h => k r N h)) (fun a N h => ?_)
  rcases h with ⟨h1, rfl, rfl⟩ | ⟨h1, h2, rfl, rfl⟩ | ⟨h1, h2, N1, w, h3, h4, h5⟩
  · refine ⟨by decide, fun X d Po k => c_X10_out (d := d + 7) b hour hb hh hJom hJbm hJwm hJrum v0 hbr hJlm hr (fun N2 r2 q => ?_)⟩
    rcases q with ⟨q1, rfl, rfl⟩ | ⟨q1, _⟩ | ⟨q1, _⟩
    · exact k _ hI
    · exfalso; omega
    · exfalso; omega
  · refine ⟨by decide, fun X d Po k => c_X10_out (d := d + 7) b hour hb hh hJom hJbm hJwm hJrum v0 hbr hJlm hr (fun N2 r2 q => ?_)⟩
    rcases q with ⟨q1, _⟩ | ⟨q1, q2, rfl, rfl⟩ | ⟨q1, q2, _⟩
    · exfalso; omega
    · exact k _ hI
    · exact absurd q2 h2
  · have hI2 : inv N1 := inv_frm hI h3 (by decide) (by decide)
    have hI3 := hI2
    obtain ⟨gr, _, _, _, gJom, gJbm, g0, _, _, _, g4, _, _, g7, _⟩ := hI3
    obtain ⟨gJru, gJrum, gJw, gJwm⟩ := inv_JRu hI2
    obtain ⟨gJl, gJlm⟩ := inv_JL hI2
    have h4r := WhyQ_r h4
    have h50 := h3.2 50 (by decide)
    have h35 := h3.2 35 (by decide)
    have hl0 := hJl.1
    have hl1 := hJl.2.1
    have same : ∀ N2 : mm_M, inv N2 → (N2 50 = N1 50) → ∀ w2, WhM N1 b hour w2 → w2 = w := fun _ _ _ w2 q => (why_same hI h1 h4 (whyM_frm h3.2 q)).symm
    rcases h5 with ⟨e1, rfl, rfl⟩ | ⟨e1, e2, rfl, rfl⟩ | ⟨e1, e2, e3, m, e4, e5⟩
    · refine ⟨by decide, fun X d Po k => c_X10_out (d := d + 7) b hour hb hh gJom gJbm gJwm gJrum g0 (fun b hb => (g7.2.2 b hb).1) gJlm gr (fun N2 r2 q => ?_)⟩
      rcases q with ⟨q1, _⟩ | ⟨q1, q2, _⟩ | ⟨q1, q2, w2, q3, q4⟩
      · exfalso; rw [h50] at q1; omega
      · exact absurd h2 q2
      · have e := same N hI2 rfl w2 q3
        rcases q4 with ⟨_, rfl, rfl⟩ | ⟨q5, _⟩ | ⟨q5, _⟩
        · exact k _ hI2
        · omega
        · omega
    · refine ⟨by decide, fun X d Po k => c_X10_out (d := d + 7) b hour hb hh gJom gJbm gJwm gJrum g0 (fun b hb => (g7.2.2 b hb).1) gJlm gr (fun N2 r2 q => ?_)⟩
      rcases q with ⟨q1, _⟩ | ⟨q1, q2, _⟩ | ⟨q1, q2, w2, q3, q4⟩
      · exfalso; rw [h50] at q1; omega
      · exact absurd h2 q2
      · have e := same N hI2 rfl w2 q3
        rcases q4 with ⟨q5, _⟩ | ⟨_, q6, rfl, rfl⟩ | ⟨_, q6, _⟩
        · omega
        · exact k _ hI2
        · rw [h50] at q6; omega
    · have hm16 := bitsP_16 e4 (by omega)
      have hw : ∀ w2, WhM (outX N1 b (M 0 9) hour m) b hour w2 → WhM N1 b hour w2 := fun w2 q => q
      subst e5
      have gr2 : R32 (outX N1 b (M 0 9) hour m) := R32_up (R32_up (R32_up (R32_up (R32_up gr (by omega)) (hr _ _ rfl)) (by omega)) (by omega)) (by rw [h35]; omega)
      refine ⟨by omega, fun X d Po k => c_X10_out (d := d + 7) b hour hb hh gJom gJbm gJwm gJrum g0 (fun b hb => (g7.2.2 b hb).1) gJlm gr2 (fun N2 r2 q => ?_)⟩
      have x44 : outX N1 b (M 0 9) hour m 50 44 = M 50 44 := by rw [← h50]; rfl
      rcases q with ⟨q1, _⟩ | ⟨q1, q2, _⟩ | ⟨q1, q2, w2, q3, q4⟩
      · exfalso
        have x11 : outX N1 b (M 0 9) hour m 50 11 = M 50 11 := by rw [← h50]; rfl
        rw [x11] at q1; omega
      · exact absurd h2 q2
      · have e := same N1 hI2 rfl w2 (hw w2 q3)
        rcases q4 with ⟨q5, _⟩ | ⟨_, q6, _⟩ | ⟨_, q6, q7, c, q8, q9⟩
        · omega
        · rw [x44] at q6; omega
        · obtain ⟨n, rfl, hn⟩ := q8
          have hn2 : bitsP n (fun i => N1 53 i = b) (N1 50 10).toNat := hn
          rw [h50, w1, h3.2 53 (by decide)] at hn2
          have emn : n = m := bitsP_one hn2 e4 (fun i hi => ((in_same hI h1 (o := i) (by omega)).1).symm)
          subst emn
          rw [q7, x44, show M 50 44 = a by omega]
          refine k _ ?_
          rw [q9]
          have h9 := h3.2 0 (by decide)
          have h10 := inv_out hI2 (b := b) (hour := hour) (c := n) (by rw [h35]; omega) (by rw [h3.2 1 (by decide)]; exact h1) h2 (by omega)
          rw [h9] at h10
          exact h10
