theorem wtK0 : wst 0 2 = 10 := by decide

theorem L_tw0 {X : Nat × (Nat → Int)} {d : Nat} {Po : mm_Po} {M : mm_M} (hJ : JTp M) (hr : R32 M) (k : ∀ (N : mm_M) (r : Int) (adv : Nat), fA M N (M 24 1 + adv) → TW 0 2 (M 24 0) (M 25) (M 24 1).toNat r adv → Po (some (v_i r)) Lam N) (t f e : Nat) (ht : t ≤ 2) (hte : t < 2 → wst 0 t ≤ e ∧ e ≤ wen 0 t) (htK : t = 2 → e = 10) (hF : fQ 0 (M 24 0) (M 25) (M 24 1).toNat t f) : mm_G X (d + 5) 0 0 mi_X8_takeWord Po 10 [(0, v_r 24), (1, v_r 1002), (2, v_i (t : Int)), (3, v_i (wst 0 t : Int)), (4, v_i (f : Int)), (5, v_i (e : Int))] [] Lam M 0 0 := by
  have hJ2 := hJ
  obtain ⟨j1, j2, j3⟩ := hJ2
  have hf120 : (((M 24 1).toNat + f : Nat) : Int) ≤ M 24 0 := (by
    rcases hF.2 with q | ⟨u, _, q⟩
    · subst q; omega
    · exact cq_len q (by omega))
  have htf : t < 2 → wst 0 t < wen 0 t ∧ wen 0 t ≤ 9 ∧ wst 0 (t + 1) = wen 0 t + 1 ∧ (wen 0 t = 9 ∨ tx 0 (wen 0 t) = 124) ∧ (t + 1 < 2 → wst 0 (t + 1) ≤ wen 0 (t + 1) ∧ wen 0 t < 9) := (fun q => by have h := wtf0 t q; exact ⟨h.1, h.2.1, h.2.2.1, h.2.2.2.1, h.2.2.2.2.1⟩)
  have htl : t < 2 ∨ 9 < e := (by
    rcases Nat.lt_or_ge t 2 with q | q
    · exact Or.inl q
    · exact Or.inr (by have := htK (by omega); omega))
  have hne124 : t < 2 → e < wen 0 t → tx 0 e ≠ 124 := (fun q q2 => by have h := wtf0 t q; exact h.2.2.2.2.2 e (by omega) (by have := hte q; omega) q2)
  have htx : e < 9 → 0 ≤ tx 0 e ∧ tx 0 e < 128 := (fun q => (tx_a0 e q).2.2.2)
  have tw_b : (e = 9 ∨ (e < 9 ∧ tx 0 e = 124)) → e = wen 0 t := (fun q => by
    have htK2 : t < 2 := (by omega)
    have h1 := hte htK2
    have h2 := htf htK2
    have h3 := hne124 htK2
    apply Classical.byContradiction
    intro q2
    have h4 := h3 (by omega)
    omega)
  refine mm_iload (mm_dc od_X8_takeWord_0 8 rfl) rfl ?_
  refine mm_aload_n (mm_dc od_X8_takeWord_0 9 rfl) rfl ?_
  refine mm_callT (i := 0) (mi' := mi_J0_length_8abf5) [] [v_i (e : Int)] (mm_dc od_X8_takeWord_0 10 rfl) rfl wd_3_89 wd_3_90 wd_3_91 wd_1_16 wd_3_92 yk_J0_length_8abf5 (by decide) rfl (Nat.le_of_ble_eq_true rfl) rfl (by decide) (c_len0 ⟨Nat.le_refl _, ?_⟩)
  refine mm_icmp_gt 94 (mm_dc od_X8_takeWord_0 11 rfl) (by omega) (by first | omega | assumption | exact hr _ _ rfl) (by first | omega | assumption | exact hr _ _ rfl) (fun c1 => ?_) (fun c1 => ?_)
  · refine mm_aload_n (mm_dc od_X8_takeWord_0 51 rfl) rfl ?_
    refine mm_dup_r (mm_dc od_X8_takeWord_0 52 rfl) ?_
    refine mm_getI (ci := 8) (k := 1) (mm_dc od_X8_takeWord_0 53 rfl) rfl in_X8 (by decide) wd_1_152 rfl rfl ?_
    refine mm_iload (mm_dc od_X8_takeWord_0 54 rfl) rfl ?_
    refine mm_iadd (mm_dc od_X8_takeWord_0 55 rfl) ?_
    refine mm_putI (ci := 8) (k := 1) (mm_dc od_X8_takeWord_0 56 rfl) rfl in_X8 tyX8_ok nmX8 (by decide) wd_1_152 rfl rfl rfl rfl ?_
    refine mm_iconst (mm_dc od_X8_takeWord_0 57 rfl) ?_
    refine mm_iret (mm_dc od_X8_takeWord_0 58 rfl) rfl ?_
    have htk : t = 2 := by
      apply Classical.byContradiction
      intro q
      have h1 := hte (by omega)
      have h2 := htf (by omega)
      omega
    subst htk
    exact k _ _ f (fA_up hr (by omega)) (Or.inr ⟨rfl, hF⟩)
  · refine mm_iload (mm_dc od_X8_takeWord_0 12 rfl) rfl ?_
    refine mm_aload_n (mm_dc od_X8_takeWord_0 13 rfl) rfl ?_
    refine mm_callT (i := 0) (mi' := mi_J0_length_8abf5) [] [v_i (e : Int)] (mm_dc od_X8_takeWord_0 14 rfl) rfl wd_3_89 wd_3_90 wd_3_91 wd_1_16 wd_3_92 yk_J0_length_8abf5 (by decide) rfl (Nat.le_of_ble_eq_true rfl) rfl (by decide) (c_len0 ⟨Nat.le_refl _, ?_⟩)
    refine mm_icmp_eq 39 (mm_dc od_X8_takeWord_0 15 rfl) (by omega) (by first | omega | assumption | exact hr _ _ rfl) (by first | omega | assumption | exact hr _ _ rfl) (fun c2 => ?_) (fun c2 => ?_)
    · refine mm_aload_n (mm_dc od_X8_takeWord_0 21 rfl) rfl ?_
      refine mm_aload_n (mm_dc od_X8_takeWord_0 22 rfl) rfl ?_
      refine mm_iload_n (mm_dc od_X8_takeWord_0 23 rfl) rfl ?_
      refine mm_iload (mm_dc od_X8_takeWord_0 24 rfl) rfl ?_
      have het : e = wen 0 t := tw_b (by omega)
      refine mm_callV (b := 24) (mi' := mi_X8_countSame) [v_r 1002, v_i (wst 0 t : Int), v_i (e : Int)] [] (mm_dc od_X8_takeWord_0 25 rfl) rfl wd_3_137 wd_3_139 wd_p_9 wd_1_6 wd_3_140 yk_X8_countSame rfl rfl rfl (Nat.le_of_ble_eq_true rfl) rfl (by decide) (c_cs0 (wst 0 t) e (by omega) (by omega) hJ hr (fun c hc => ⟨Nat.le_refl _, ?_⟩))
      have hc2 : cq (M 24 0) (M 25) (M 24 1).toNat (wd 0 t) (wL 0 t) c := by unfold wL; rw [← het]; exact hc
      have hcl := cq_len hc2 (by omega)
      have hcL := hc2.1
      have hwL : wL 0 t = e - wst 0 t := by unfold wL; rw [← het]
      refine mm_istore (L' := [(0, v_r 24), (1, v_r 1002), (2, v_i (t : Int)), (3, v_i (wst 0 t : Int)), (4, v_i (f : Int)), (5, v_i (e : Int)), (6, v_i (c : Int))]) (mm_dc od_X8_takeWord_0 26 rfl) (by decide) rfl ?_
      refine mm_iload (mm_dc od_X8_takeWord_0 27 rfl) rfl ?_
      refine mm_iload (mm_dc od_X8_takeWord_0 28 rfl) rfl ?_
      refine mm_iload_n (mm_dc od_X8_takeWord_0 29 rfl) rfl ?_
      refine mm_isub (mm_dc od_X8_takeWord_0 30 rfl) ?_
      refine mm_icmp_ne 71 (mm_dc od_X8_takeWord_0 31 rfl) (by omega) (by first | omega | assumption | exact hr _ _ rfl) (by first | omega | assumption | exact hr _ _ rfl) (fun c3 => ?_) (fun c3 => ?_)
      · refine mm_iload (mm_dc od_X8_takeWord_0 40 rfl) rfl ?_
        refine mm_iload (mm_dc od_X8_takeWord_0 41 rfl) rfl ?_
        refine mm_mmax (mm_dc od_X8_takeWord_0 42 rfl) wd_3_141 wd_3_142 wd_1_14 wd_3_143 (by first | omega | assumption | exact hr _ _ rfl) (by first | omega | assumption | exact hr _ _ rfl) (Nat.le_of_ble_eq_true rfl) ?_
        refine mm_istore (L' := [(0, v_r 24), (1, v_r 1002), (2, v_i (t : Int)), (3, v_i (wst 0 t : Int)), (4, v_i (max (f : Int) (c : Int))), (5, v_i (e : Int)), (6, v_i (c : Int))]) (mm_dc od_X8_takeWord_0 43 rfl) (by decide) rfl ?_
        refine mm_iload (mm_dc od_X8_takeWord_0 44 rfl) rfl ?_
        refine mm_iconst (mm_dc od_X8_takeWord_0 45 rfl) ?_
        refine mm_iadd (mm_dc od_X8_takeWord_0 46 rfl) ?_
        refine mm_istore_n (L' := [(0, v_r 24), (1, v_r 1002), (2, v_i (t : Int)), (3, v_i ((e : Int) + 1)), (4, v_i (max (f : Int) (c : Int))), (5, v_i (e : Int)), (6, v_i (c : Int))]) (mm_dc od_X8_takeWord_0 47 rfl) (by decide) rfl ?_
        refine mm_iinc (L' := [(0, v_r 24), (1, v_r 1002), (2, v_i ((t : Int) + 1)), (3, v_i ((e : Int) + 1)), (4, v_i (max (f : Int) (c : Int))), (5, v_i (e : Int)), (6, v_i (c : Int))]) (mm_dc od_X8_takeWord_0 48 rfl) rfl (by decide) rfl ?_
        refine mm_iinc (L' := [(0, v_r 24), (1, v_r 1002), (2, v_i ((t : Int) + 1)), (3, v_i ((e : Int) + 1)), (4, v_i (max (f : Int) (c : Int))), (5, v_i ((e : Int) + 1)), (6, v_i (c : Int))]) (mm_dc od_X8_takeWord_0 49 rfl) rfl (by decide) rfl ?_
        refine mm_goto 10 (mm_dc od_X8_takeWord_0 50 rfl) (by omega) ?_
        have hmx : max (f : Int) (c : Int) = ((max f c : Nat) : Int) := by omega
        have hst : (e : Int) + 1 = (wst 0 (t + 1) : Int) := by have := htf (by omega); omega
        refine mm_cL (L' := [(0, v_r 24), (1, v_r 1002), (2, v_i ((t + 1 : Nat) : Int)), (3, v_i (wst 0 (t + 1) : Int)), (4, v_i ((max f c : Nat) : Int)), (5, v_i (wst 0 (t + 1) : Int)), (6, v_i (c : Int))]) (by rw [hmx, hst]; rfl) ?_
        exact mm_less [0, 1, 2, 3, 4, 5] rfl (L_tw0 hJ hr k (t + 1) (max f c) (wst 0 (t + 1)) (by omega) (fun q => by have := htf (by omega); omega) (fun q => by rw [q]; exact wtK0) (fQ_s hF hc2 (by omega)))
      · refine mm_aload_n (mm_dc od_X8_takeWord_0 32 rfl) rfl ?_
        refine mm_dup_r (mm_dc od_X8_takeWord_0 33 rfl) ?_
        refine mm_getI (ci := 8) (k := 1) (mm_dc od_X8_takeWord_0 34 rfl) rfl in_X8 (by decide) wd_1_152 rfl rfl ?_
        refine mm_iload (mm_dc od_X8_takeWord_0 35 rfl) rfl ?_
        refine mm_iadd (mm_dc od_X8_takeWord_0 36 rfl) ?_
        refine mm_putI (ci := 8) (k := 1) (mm_dc od_X8_takeWord_0 37 rfl) rfl in_X8 tyX8_ok nmX8 (by decide) wd_1_152 rfl rfl rfl rfl ?_
        refine mm_iload_n (mm_dc od_X8_takeWord_0 38 rfl) rfl ?_
        refine mm_iret (mm_dc od_X8_takeWord_0 39 rfl) rfl ?_
        have hcw : c = wL 0 t := by omega
        rw [hcw] at hc2
        refine k _ _ c (fA_up hr (by omega)) (Or.inl ⟨t, by omega, rfl, hc2, hcw⟩)
    · refine mm_aload_n (mm_dc od_X8_takeWord_0 16 rfl) rfl ?_
      refine mm_iload (mm_dc od_X8_takeWord_0 17 rfl) rfl ?_
      refine mm_callT (i := 0) (mi' := mi_J0_charAt_5068e) [v_i (e : Int)] [] (mm_dc od_X8_takeWord_0 18 rfl) rfl wd_3_99 wd_3_100 wd_3_101 wd_1_16 wd_3_102 yk_J0_charAt_5068e (by decide) rfl (Nat.le_of_ble_eq_true rfl) rfl (by decide) (c_chr0 e (by omega) ⟨Nat.le_refl _, ?_⟩)
      refine mm_bipush (mm_dc od_X8_takeWord_0 19 rfl) (by decide) ?_
      refine mm_icmp_ne 88 (mm_dc od_X8_takeWord_0 20 rfl) (by omega) (by first | omega | assumption | exact hr _ _ rfl) (by first | omega | assumption | exact hr _ _ rfl) (fun c4 => ?_) (fun c4 => ?_)
      · refine mm_iinc (L' := [(0, v_r 24), (1, v_r 1002), (2, v_i (t : Int)), (3, v_i (wst 0 t : Int)), (4, v_i (f : Int)), (5, v_i ((e : Int) + 1))]) (mm_dc od_X8_takeWord_0 49 rfl) rfl (by decide) rfl ?_
        refine mm_goto 10 (mm_dc od_X8_takeWord_0 50 rfl) (by omega) ?_
        have hne : e ≠ wen 0 t := fun q => by have h := (htf (by omega)).2.2.2.1; rw [← q] at h; omega
        exact L_tw0 hJ hr k t f (e + 1) ht (fun q => by have := hte q; omega) (fun q => by omega) hF
      · refine mm_aload_n (mm_dc od_X8_takeWord_0 21 rfl) rfl ?_
        refine mm_aload_n (mm_dc od_X8_takeWord_0 22 rfl) rfl ?_
        refine mm_iload_n (mm_dc od_X8_takeWord_0 23 rfl) rfl ?_
        refine mm_iload (mm_dc od_X8_takeWord_0 24 rfl) rfl ?_
        have het : e = wen 0 t := tw_b (by omega)
        refine mm_callV (b := 24) (mi' := mi_X8_countSame) [v_r 1002, v_i (wst 0 t : Int), v_i (e : Int)] [] (mm_dc od_X8_takeWord_0 25 rfl) rfl wd_3_137 wd_3_139 wd_p_9 wd_1_6 wd_3_140 yk_X8_countSame rfl rfl rfl (Nat.le_of_ble_eq_true rfl) rfl (by decide) (c_cs0 (wst 0 t) e (by omega) (by omega) hJ hr (fun c hc => ⟨Nat.le_refl _, ?_⟩))
        have hc2 : cq (M 24 0) (M 25) (M 24 1).toNat (wd 0 t) (wL 0 t) c := by unfold wL; rw [← het]; exact hc
        have hcl := cq_len hc2 (by omega)
        have hcL := hc2.1
        have hwL : wL 0 t = e - wst 0 t := by unfold wL; rw [← het]
        refine mm_istore (L' := [(0, v_r 24), (1, v_r 1002), (2, v_i (t : Int)), (3, v_i (wst 0 t : Int)), (4, v_i (f : Int)), (5, v_i (e : Int)), (6, v_i (c : Int))]) (mm_dc od_X8_takeWord_0 26 rfl) (by decide) rfl ?_
        refine mm_iload (mm_dc od_X8_takeWord_0 27 rfl) rfl ?_
        refine mm_iload (mm_dc od_X8_takeWord_0 28 rfl) rfl ?_
        refine mm_iload_n (mm_dc od_X8_takeWord_0 29 rfl) rfl ?_
        refine mm_isub (mm_dc od_X8_takeWord_0 30 rfl) ?_
        refine mm_icmp_ne 71 (mm_dc od_X8_takeWord_0 31 rfl) (by omega) (by first | omega | assumption | exact hr _ _ rfl) (by first | omega | assumption | exact hr _ _ rfl) (fun c5 => ?_) (fun c5 => ?_)
        · refine mm_iload (mm_dc od_X8_takeWord_0 40 rfl) rfl ?_
          refine mm_iload (mm_dc od_X8_takeWord_0 41 rfl) rfl ?_
          refine mm_mmax (mm_dc od_X8_takeWord_0 42 rfl) wd_3_141 wd_3_142 wd_1_14 wd_3_143 (by first | omega | assumption | exact hr _ _ rfl) (by first | omega | assumption | exact hr _ _ rfl) (Nat.le_of_ble_eq_true rfl) ?_
          refine mm_istore (L' := [(0, v_r 24), (1, v_r 1002), (2, v_i (t : Int)), (3, v_i (wst 0 t : Int)), (4, v_i (max (f : Int) (c : Int))), (5, v_i (e : Int)), (6, v_i (c : Int))]) (mm_dc od_X8_takeWord_0 43 rfl) (by decide) rfl ?_
          refine mm_iload (mm_dc od_X8_takeWord_0 44 rfl) rfl ?_
          refine mm_iconst (mm_dc od_X8_takeWord_0 45 rfl) ?_
          refine mm_iadd (mm_dc od_X8_takeWord_0 46 rfl) ?_
          refine mm_istore_n (L' := [(0, v_r 24), (1, v_r 1002), (2, v_i (t : Int)), (3, v_i ((e : Int) + 1)), (4, v_i (max (f : Int) (c : Int))), (5, v_i (e : Int)), (6, v_i (c : Int))]) (mm_dc od_X8_takeWord_0 47 rfl) (by decide) rfl ?_
          refine mm_iinc (L' := [(0, v_r 24), (1, v_r 1002), (2, v_i ((t : Int) + 1)), (3, v_i ((e : Int) + 1)), (4, v_i (max (f : Int) (c : Int))), (5, v_i (e : Int)), (6, v_i (c : Int))]) (mm_dc od_X8_takeWord_0 48 rfl) rfl (by decide) rfl ?_
          refine mm_iinc (L' := [(0, v_r 24), (1, v_r 1002), (2, v_i ((t : Int) + 1)), (3, v_i ((e : Int) + 1)), (4, v_i (max (f : Int) (c : Int))), (5, v_i ((e : Int) + 1)), (6, v_i (c : Int))]) (mm_dc od_X8_takeWord_0 49 rfl) rfl (by decide) rfl ?_
          refine mm_goto 10 (mm_dc od_X8_takeWord_0 50 rfl) (by omega) ?_
          have hmx : max (f : Int) (c : Int) = ((max f c : Nat) : Int) := by omega
          have hst : (e : Int) + 1 = (wst 0 (t + 1) : Int) := by have := htf (by omega); omega
          refine mm_cL (L' := [(0, v_r 24), (1, v_r 1002), (2, v_i ((t + 1 : Nat) : Int)), (3, v_i (wst 0 (t + 1) : Int)), (4, v_i ((max f c : Nat) : Int)), (5, v_i (wst 0 (t + 1) : Int)), (6, v_i (c : Int))]) (by rw [hmx, hst]; rfl) ?_
          exact mm_less [0, 1, 2, 3, 4, 5] rfl (L_tw0 hJ hr k (t + 1) (max f c) (wst 0 (t + 1)) (by omega) (fun q => by have := htf (by omega); omega) (fun q => by rw [q]; exact wtK0) (fQ_s hF hc2 (by omega)))
        · refine mm_aload_n (mm_dc od_X8_takeWord_0 32 rfl) rfl ?_
          refine mm_dup_r (mm_dc od_X8_takeWord_0 33 rfl) ?_
          refine mm_getI (ci := 8) (k := 1) (mm_dc od_X8_takeWord_0 34 rfl) rfl in_X8 (by decide) wd_1_152 rfl rfl ?_
          refine mm_iload (mm_dc od_X8_takeWord_0 35 rfl) rfl ?_
          refine mm_iadd (mm_dc od_X8_takeWord_0 36 rfl) ?_
          refine mm_putI (ci := 8) (k := 1) (mm_dc od_X8_takeWord_0 37 rfl) rfl in_X8 tyX8_ok nmX8 (by decide) wd_1_152 rfl rfl rfl rfl ?_
          refine mm_iload_n (mm_dc od_X8_takeWord_0 38 rfl) rfl ?_
          refine mm_iret (mm_dc od_X8_takeWord_0 39 rfl) rfl ?_
          have hcw : c = wL 0 t := by omega
          rw [hcw] at hc2
          refine k _ _ c (fA_up hr (by omega)) (Or.inl ⟨t, by omega, rfl, hc2, hcw⟩)
termination_by 11 - e
decreasing_by all_goals (first | omega | (simp_wf; omega))
theorem c_tw0 {X : Nat × (Nat → Int)} {d : Nat} {Po : mm_Po} {M : mm_M} (hJ : JTp M) (hr : R32 M) (k : ∀ (N : mm_M) (r : Int) (adv : Nat), fA M N (M 24 1 + adv) → TW 0 2 (M 24 0) (M 25) (M 24 1).toNat r adv → Po (some (v_i r)) Lam N) : mm_G X (d + 5) 0 0 mi_X8_takeWord Po 0 [(0, v_r 24), (1, v_r 1002)] [] Lam M 0 0 := by
  refine mm_iconst (mm_dc od_X8_takeWord_0 0 rfl) ?_
  refine mm_istore_n (L' := [(0, v_r 24), (1, v_r 1002), (2, v_i 0)]) (mm_dc od_X8_takeWord_0 1 rfl) (by decide) rfl ?_
  refine mm_iconst (mm_dc od_X8_takeWord_0 2 rfl) ?_
  refine mm_istore_n (L' := [(0, v_r 24), (1, v_r 1002), (2, v_i 0), (3, v_i 0)]) (mm_dc od_X8_takeWord_0 3 rfl) (by decide) rfl ?_
  refine mm_iconst (mm_dc od_X8_takeWord_0 4 rfl) ?_
  refine mm_istore (L' := [(0, v_r 24), (1, v_r 1002), (2, v_i 0), (3, v_i 0), (4, v_i 0)]) (mm_dc od_X8_takeWord_0 5 rfl) (by decide) rfl ?_
  refine mm_iconst (mm_dc od_X8_takeWord_0 6 rfl) ?_
  refine mm_istore (L' := [(0, v_r 24), (1, v_r 1002), (2, v_i 0), (3, v_i 0), (4, v_i 0), (5, v_i 0)]) (mm_dc od_X8_takeWord_0 7 rfl) (by decide) rfl ?_
  refine mm_cL (L' := [(0, v_r 24), (1, v_r 1002), (2, v_i ((0 : Nat) : Int)), (3, v_i ((wst 0 0 : Nat) : Int)), (4, v_i ((0 : Nat) : Int)), (5, v_i ((0 : Nat) : Int))]) rfl ?_
  exact L_tw0 hJ hr k 0 0 0 (by omega) (fun q => by have := wtf0 0 q; exact ⟨by decide, by omega⟩) (fun q => by omega) ⟨fun u hu => by omega, Or.inl rfl⟩
theorem wtK1 : wst 1 6 = 30 := by decide

theorem L_tw1 {X : Nat × (Nat → Int)} {d : Nat} {Po : mm_Po} {M : mm_M} (hJ : JTp M) (hr : R32 M) (k : ∀ (N : mm_M) (r : Int) (adv : Nat), fA M N (M 24 1 + adv) → TW 1 6 (M 24 0) (M 25) (M 24 1).toNat r adv → Po (some (v_i r)) Lam N) (t f e : Nat) (ht : t ≤ 6) (hte : t < 6 → wst 1 t ≤ e ∧ e ≤ wen 1 t) (htK : t = 6 → e = 30) (hF : fQ 1 (M 24 0) (M 25) (M 24 1).toNat t f) : mm_G X (d + 5) 0 0 mi_X8_takeWord Po 10 [(0, v_r 24), (1, v_r 1003), (2, v_i (t : Int)), (3, v_i (wst 1 t : Int)), (4, v_i (f : Int)), (5, v_i (e : Int))] [] Lam M 0 0 := by
  have hJ2 := hJ
  obtain ⟨j1, j2, j3⟩ := hJ2
  have hf120 : (((M 24 1).toNat + f : Nat) : Int) ≤ M 24 0 := (by
    rcases hF.2 with q | ⟨u, _, q⟩
    · subst q; omega
    · exact cq_len q (by omega))
  have htf : t < 6 → wst 1 t < wen 1 t ∧ wen 1 t ≤ 29 ∧ wst 1 (t + 1) = wen 1 t + 1 ∧ (wen 1 t = 29 ∨ tx 1 (wen 1 t) = 124) ∧ (t + 1 < 6 → wst 1 (t + 1) ≤ wen 1 (t + 1) ∧ wen 1 t < 29) := (fun q => by have h := wtf1 t q; exact ⟨h.1, h.2.1, h.2.2.1, h.2.2.2.1, h.2.2.2.2.1⟩)
  have htl : t < 6 ∨ 29 < e := (by
    rcases Nat.lt_or_ge t 6 with q | q
    · exact Or.inl q
    · exact Or.inr (by have := htK (by omega); omega))
  have hne124 : t < 6 → e < wen 1 t → tx 1 e ≠ 124 := (fun q q2 => by have h := wtf1 t q; exact h.2.2.2.2.2 e (by omega) (by have := hte q; omega) q2)
  have htx : e < 29 → 0 ≤ tx 1 e ∧ tx 1 e < 128 := (fun q => (tx_a1 e q).2.2.2)
  have tw_b : (e = 29 ∨ (e < 29 ∧ tx 1 e = 124)) → e = wen 1 t := (fun q => by
    have htK2 : t < 6 := (by omega)
    have h1 := hte htK2
    have h2 := htf htK2
    have h3 := hne124 htK2
    apply Classical.byContradiction
    intro q2
    have h4 := h3 (by omega)
    omega)
  refine mm_iload (mm_dc od_X8_takeWord_0 8 rfl) rfl ?_
  refine mm_aload_n (mm_dc od_X8_takeWord_0 9 rfl) rfl ?_
  refine mm_callT (i := 1) (mi' := mi_J0_length_8abf5) [] [v_i (e : Int)] (mm_dc od_X8_takeWord_0 10 rfl) rfl wd_3_89 wd_3_90 wd_3_91 wd_1_16 wd_3_92 yk_J0_length_8abf5 (by decide) rfl (Nat.le_of_ble_eq_true rfl) rfl (by decide) (c_len1 ⟨Nat.le_refl _, ?_⟩)
  refine mm_icmp_gt 94 (mm_dc od_X8_takeWord_0 11 rfl) (by omega) (by first | omega | assumption | exact hr _ _ rfl) (by first | omega | assumption | exact hr _ _ rfl) (fun c1 => ?_) (fun c1 => ?_)
  · refine mm_aload_n (mm_dc od_X8_takeWord_0 51 rfl) rfl ?_
    refine mm_dup_r (mm_dc od_X8_takeWord_0 52 rfl) ?_
    refine mm_getI (ci := 8) (k := 1) (mm_dc od_X8_takeWord_0 53 rfl) rfl in_X8 (by decide) wd_1_152 rfl rfl ?_
    refine mm_iload (mm_dc od_X8_takeWord_0 54 rfl) rfl ?_
    refine mm_iadd (mm_dc od_X8_takeWord_0 55 rfl) ?_
    refine mm_putI (ci := 8) (k := 1) (mm_dc od_X8_takeWord_0 56 rfl) rfl in_X8 tyX8_ok nmX8 (by decide) wd_1_152 rfl rfl rfl rfl ?_
    refine mm_iconst (mm_dc od_X8_takeWord_0 57 rfl) ?_
    refine mm_iret (mm_dc od_X8_takeWord_0 58 rfl) rfl ?_
    have htk : t = 6 := by
      apply Classical.byContradiction
      intro q
      have h1 := hte (by omega)
      have h2 := htf (by omega)
      omega
    subst htk
    exact k _ _ f (fA_up hr (by omega)) (Or.inr ⟨rfl, hF⟩)
  · refine mm_iload (mm_dc od_X8_takeWord_0 12 rfl) rfl ?_
    refine mm_aload_n (mm_dc od_X8_takeWord_0 13 rfl) rfl ?_
    refine mm_callT (i := 1) (mi' := mi_J0_length_8abf5) [] [v_i (e : Int)] (mm_dc od_X8_takeWord_0 14 rfl) rfl wd_3_89 wd_3_90 wd_3_91 wd_1_16 wd_3_92 yk_J0_length_8abf5 (by decide) rfl (Nat.le_of_ble_eq_true rfl) rfl (by decide) (c_len1 ⟨Nat.le_refl _, ?_⟩)
    refine mm_icmp_eq 39 (mm_dc od_X8_takeWord_0 15 rfl) (by omega) (by first | omega | assumption | exact hr _ _ rfl) (by first | omega | assumption | exact hr _ _ rfl) (fun c2 => ?_) (fun c2 => ?_)
    · refine mm_aload_n (mm_dc od_X8_takeWord_0 21 rfl) rfl ?_
      refine mm_aload_n (mm_dc od_X8_takeWord_0 22 rfl) rfl ?_
      refine mm_iload_n (mm_dc od_X8_takeWord_0 23 rfl) rfl ?_
      refine mm_iload (mm_dc od_X8_takeWord_0 24 rfl) rfl ?_
      have het : e = wen 1 t := tw_b (by omega)
      refine mm_callV (b := 24) (mi' := mi_X8_countSame) [v_r 1003, v_i (wst 1 t : Int), v_i (e : Int)] [] (mm_dc od_X8_takeWord_0 25 rfl) rfl wd_3_137 wd_3_139 wd_p_9 wd_1_6 wd_3_140 yk_X8_countSame rfl rfl rfl (Nat.le_of_ble_eq_true rfl) rfl (by decide) (c_cs1 (wst 1 t) e (by omega) (by omega) hJ hr (fun c hc => ⟨Nat.le_refl _, ?_⟩))
      have hc2 : cq (M 24 0) (M 25) (M 24 1).toNat (wd 1 t) (wL 1 t) c := by unfold wL; rw [← het]; exact hc
      have hcl := cq_len hc2 (by omega)
      have hcL := hc2.1
      have hwL : wL 1 t = e - wst 1 t := by unfold wL; rw [← het]
      refine mm_istore (L' := [(0, v_r 24), (1, v_r 1003), (2, v_i (t : Int)), (3, v_i (wst 1 t : Int)), (4, v_i (f : Int)), (5, v_i (e : Int)), (6, v_i (c : Int))]) (mm_dc od_X8_takeWord_0 26 rfl) (by decide) rfl ?_
      refine mm_iload (mm_dc od_X8_takeWord_0 27 rfl) rfl ?_
      refine mm_iload (mm_dc od_X8_takeWord_0 28 rfl) rfl ?_
      refine mm_iload_n (mm_dc od_X8_takeWord_0 29 rfl) rfl ?_
      refine mm_isub (mm_dc od_X8_takeWord_0 30 rfl) ?_
      refine mm_icmp_ne 71 (mm_dc od_X8_takeWord_0 31 rfl) (by omega) (by first | omega | assumption | exact hr _ _ rfl) (by first | omega | assumption | exact hr _ _ rfl) (fun c3 => ?_) (fun c3 => ?_)
      · refine mm_iload (mm_dc od_X8_takeWord_0 40 rfl) rfl ?_
        refine mm_iload (mm_dc od_X8_takeWord_0 41 rfl) rfl ?_
        refine mm_mmax (mm_dc od_X8_takeWord_0 42 rfl) wd_3_141 wd_3_142 wd_1_14 wd_3_143 (by first | omega | assumption | exact hr _ _ rfl) (by first | omega | assumption | exact hr _ _ rfl) (Nat.le_of_ble_eq_true rfl) ?_
        refine mm_istore (L' := [(0, v_r 24), (1, v_r 1003), (2, v_i (t : Int)), (3, v_i (wst 1 t : Int)), (4, v_i (max (f : Int) (c : Int))), (5, v_i (e : Int)), (6, v_i (c : Int))]) (mm_dc od_X8_takeWord_0 43 rfl) (by decide) rfl ?_
        refine mm_iload (mm_dc od_X8_takeWord_0 44 rfl) rfl ?_
        refine mm_iconst (mm_dc od_X8_takeWord_0 45 rfl) ?_
        refine mm_iadd (mm_dc od_X8_takeWord_0 46 rfl) ?_
        refine mm_istore_n (L' := [(0, v_r 24), (1, v_r 1003), (2, v_i (t : Int)), (3, v_i ((e : Int) + 1)), (4, v_i (max (f : Int) (c : Int))), (5, v_i (e : Int)), (6, v_i (c : Int))]) (mm_dc od_X8_takeWord_0 47 rfl) (by decide) rfl ?_
        refine mm_iinc (L' := [(0, v_r 24), (1, v_r 1003), (2, v_i ((t : Int) + 1)), (3, v_i ((e : Int) + 1)), (4, v_i (max (f : Int) (c : Int))), (5, v_i (e : Int)), (6, v_i (c : Int))]) (mm_dc od_X8_takeWord_0 48 rfl) rfl (by decide) rfl ?_
        refine mm_iinc (L' := [(0, v_r 24), (1, v_r 1003), (2, v_i ((t : Int) + 1)), (3, v_i ((e : Int) + 1)), (4, v_i (max (f : Int) (c : Int))), (5, v_i ((e : Int) + 1)), (6, v_i (c : Int))]) (mm_dc od_X8_takeWord_0 49 rfl) rfl (by decide) rfl ?_
        refine mm_goto 10 (mm_dc od_X8_takeWord_0 50 rfl) (by omega) ?_
        have hmx : max (f : Int) (c : Int) = ((max f c : Nat) : Int) := by omega
        have hst : (e : Int) + 1 = (wst 1 (t + 1) : Int) := by have := htf (by omega); omega
        refine mm_cL (L' := [(0, v_r 24), (1, v_r 1003), (2, v_i ((t + 1 : Nat) : Int)), (3, v_i (wst 1 (t + 1) : Int)), (4, v_i ((max f c : Nat) : Int)), (5, v_i (wst 1 (t + 1) : Int)), (6, v_i (c : Int))]) (by rw [hmx, hst]; rfl) ?_
        exact mm_less [0, 1, 2, 3, 4, 5] rfl (L_tw1 hJ hr k (t + 1) (max f c) (wst 1 (t + 1)) (by omega) (fun q => by have := htf (by omega); omega) (fun q => by rw [q]; exact wtK1) (fQ_s hF hc2 (by omega)))
      · refine mm_aload_n (mm_dc od_X8_takeWord_0 32 rfl) rfl ?_
        refine mm_dup_r (mm_dc od_X8_takeWord_0 33 rfl) ?_
        refine mm_getI (ci := 8) (k := 1) (mm_dc od_X8_takeWord_0 34 rfl) rfl in_X8 (by decide) wd_1_152 rfl rfl ?_
        refine mm_iload (mm_dc od_X8_takeWord_0 35 rfl) rfl ?_
        refine mm_iadd (mm_dc od_X8_takeWord_0 36 rfl) ?_
        refine mm_putI (ci := 8) (k := 1) (mm_dc od_X8_takeWord_0 37 rfl) rfl in_X8 tyX8_ok nmX8 (by decide) wd_1_152 rfl rfl rfl rfl ?_
        refine mm_iload_n (mm_dc od_X8_takeWord_0 38 rfl) rfl ?_
        refine mm_iret (mm_dc od_X8_takeWord_0 39 rfl) rfl ?_
        have hcw : c = wL 1 t := by omega
        rw [hcw] at hc2
        refine k _ _ c (fA_up hr (by omega)) (Or.inl ⟨t, by omega, rfl, hc2, hcw⟩)
    · refine mm_aload_n (mm_dc od_X8_takeWord_0 16 rfl) rfl ?_
      refine mm_iload (mm_dc od_X8_takeWord_0 17 rfl) rfl ?_
      refine mm_callT (i := 1) (mi' := mi_J0_charAt_5068e) [v_i (e : Int)] [] (mm_dc od_X8_takeWord_0 18 rfl) rfl wd_3_99 wd_3_100 wd_3_101 wd_1_16 wd_3_102 yk_J0_charAt_5068e (by decide) rfl (Nat.le_of_ble_eq_true rfl) rfl (by decide) (c_chr1 e (by omega) ⟨Nat.le_refl _, ?_⟩)
      refine mm_bipush (mm_dc od_X8_takeWord_0 19 rfl) (by decide) ?_
      refine mm_icmp_ne 88 (mm_dc od_X8_takeWord_0 20 rfl) (by omega) (by first | omega | assumption | exact hr _ _ rfl) (by first | omega | assumption | exact hr _ _ rfl) (fun c4 => ?_) (fun c4 => ?_)
      · refine mm_iinc (L' := [(0, v_r 24), (1, v_r 1003), (2, v_i (t : Int)), (3, v_i (wst 1 t : Int)), (4, v_i (f : Int)), (5, v_i ((e : Int) + 1))]) (mm_dc od_X8_takeWord_0 49 rfl) rfl (by decide) rfl ?_
        refine mm_goto 10 (mm_dc od_X8_takeWord_0 50 rfl) (by omega) ?_
        have hne : e ≠ wen 1 t := fun q => by have h := (htf (by omega)).2.2.2.1; rw [← q] at h; omega
        exact L_tw1 hJ hr k t f (e + 1) ht (fun q => by have := hte q; omega) (fun q => by omega) hF
      · refine mm_aload_n (mm_dc od_X8_takeWord_0 21 rfl) rfl ?_
        refine mm_aload_n (mm_dc od_X8_takeWord_0 22 rfl) rfl ?_
        refine mm_iload_n (mm_dc od_X8_takeWord_0 23 rfl) rfl ?_
        refine mm_iload (mm_dc od_X8_takeWord_0 24 rfl) rfl ?_
        have het : e = wen 1 t := tw_b (by omega)
        refine mm_callV (b := 24) (mi' := mi_X8_countSame) [v_r 1003, v_i (wst 1 t : Int), v_i (e : Int)] [] (mm_dc od_X8_takeWord_0 25 rfl) rfl wd_3_137 wd_3_139 wd_p_9 wd_1_6 wd_3_140 yk_X8_countSame rfl rfl rfl (Nat.le_of_ble_eq_true rfl) rfl (by decide) (c_cs1 (wst 1 t) e (by omega) (by omega) hJ hr (fun c hc => ⟨Nat.le_refl _, ?_⟩))
        have hc2 : cq (M 24 0) (M 25) (M 24 1).toNat (wd 1 t) (wL 1 t) c := by unfold wL; rw [← het]; exact hc
        have hcl := cq_len hc2 (by omega)
        have hcL := hc2.1
        have hwL : wL 1 t = e - wst 1 t := by unfold wL; rw [← het]
        refine mm_istore (L' := [(0, v_r 24), (1, v_r 1003), (2, v_i (t : Int)), (3, v_i (wst 1 t : Int)), (4, v_i (f : Int)), (5, v_i (e : Int)), (6, v_i (c : Int))]) (mm_dc od_X8_takeWord_0 26 rfl) (by decide) rfl ?_
        refine mm_iload (mm_dc od_X8_takeWord_0 27 rfl) rfl ?_
        refine mm_iload (mm_dc od_X8_takeWord_0 28 rfl) rfl ?_
        refine mm_iload_n (mm_dc od_X8_takeWord_0 29 rfl) rfl ?_
        refine mm_isub (mm_dc od_X8_takeWord_0 30 rfl) ?_
        refine mm_icmp_ne 71 (mm_dc od_X8_takeWord_0 31 rfl) (by omega) (by first | omega | assumption | exact hr _ _ rfl) (by first | omega | assumption | exact hr _ _ rfl) (fun c5 => ?_) (fun c5 => ?_)
        · refine mm_iload (mm_dc od_X8_takeWord_0 40 rfl) rfl ?_
          refine mm_iload (mm_dc od_X8_takeWord_0 41 rfl) rfl ?_
          refine mm_mmax (mm_dc od_X8_takeWord_0 42 rfl) wd_3_141 wd_3_142 wd_1_14 wd_3_143 (by first | omega | assumption | exact hr _ _ rfl) (by first | omega | assumption | exact hr _ _ rfl) (Nat.le_of_ble_eq_true rfl) ?_
          refine mm_istore (L' := [(0, v_r 24), (1, v_r 1003), (2, v_i (t : Int)), (3, v_i (wst 1 t : Int)), (4, v_i (max (f : Int) (c : Int))), (5, v_i (e : Int)), (6, v_i (c : Int))]) (mm_dc od_X8_takeWord_0 43 rfl) (by decide) rfl ?_
          refine mm_iload (mm_dc od_X8_takeWord_0 44 rfl) rfl ?_
          refine mm_iconst (mm_dc od_X8_takeWord_0 45 rfl) ?_
          refine mm_iadd (mm_dc od_X8_takeWord_0 46 rfl) ?_
          refine mm_istore_n (L' := [(0, v_r 24), (1, v_r 1003), (2, v_i (t : Int)), (3, v_i ((e : Int) + 1)), (4, v_i (max (f : Int) (c : Int))), (5, v_i (e : Int)), (6, v_i (c : Int))]) (mm_dc od_X8_takeWord_0 47 rfl) (by decide) rfl ?_
          refine mm_iinc (L' := [(0, v_r 24), (1, v_r 1003), (2, v_i ((t : Int) + 1)), (3, v_i ((e : Int) + 1)), (4, v_i (max (f : Int) (c : Int))), (5, v_i (e : Int)), (6, v_i (c : Int))]) (mm_dc od_X8_takeWord_0 48 rfl) rfl (by decide) rfl ?_
          refine mm_iinc (L' := [(0, v_r 24), (1, v_r 1003), (2, v_i ((t : Int) + 1)), (3, v_i ((e : Int) + 1)), (4, v_i (max (f : Int) (c : Int))), (5, v_i ((e : Int) + 1)), (6, v_i (c : Int))]) (mm_dc od_X8_takeWord_0 49 rfl) rfl (by decide) rfl ?_
          refine mm_goto 10 (mm_dc od_X8_takeWord_0 50 rfl) (by omega) ?_
          have hmx : max (f : Int) (c : Int) = ((max f c : Nat) : Int) := by omega
          have hst : (e : Int) + 1 = (wst 1 (t + 1) : Int) := by have := htf (by omega); omega
          refine mm_cL (L' := [(0, v_r 24), (1, v_r 1003), (2, v_i ((t + 1 : Nat) : Int)), (3, v_i (wst 1 (t + 1) : Int)), (4, v_i ((max f c : Nat) : Int)), (5, v_i (wst 1 (t + 1) : Int)), (6, v_i (c : Int))]) (by rw [hmx, hst]; rfl) ?_
          exact mm_less [0, 1, 2, 3, 4, 5] rfl (L_tw1 hJ hr k (t + 1) (max f c) (wst 1 (t + 1)) (by omega) (fun q => by have := htf (by omega); omega) (fun q => by rw [q]; exact wtK1) (fQ_s hF hc2 (by omega)))
        · refine mm_aload_n (mm_dc od_X8_takeWord_0 32 rfl) rfl ?_
          refine mm_dup_r (mm_dc od_X8_takeWord_0 33 rfl) ?_
          refine mm_getI (ci := 8) (k := 1) (mm_dc od_X8_takeWord_0 34 rfl) rfl in_X8 (by decide) wd_1_152 rfl rfl ?_
          refine mm_iload (mm_dc od_X8_takeWord_0 35 rfl) rfl ?_
          refine mm_iadd (mm_dc od_X8_takeWord_0 36 rfl) ?_
          refine mm_putI (ci := 8) (k := 1) (mm_dc od_X8_takeWord_0 37 rfl) rfl in_X8 tyX8_ok nmX8 (by decide) wd_1_152 rfl rfl rfl rfl ?_
          refine mm_iload_n (mm_dc od_X8_takeWord_0 38 rfl) rfl ?_
          refine mm_iret (mm_dc od_X8_takeWord_0 39 rfl) rfl ?_
          have hcw : c = wL 1 t := by omega
          rw [hcw] at hc2
          refine k _ _ c (fA_up hr (by omega)) (Or.inl ⟨t, by omega, rfl, hc2, hcw⟩)
termination_by 31 - e
decreasing_by all_goals (first | omega | (simp_wf; omega))
theorem c_tw1 {X : Nat × (Nat → Int)} {d : Nat} {Po : mm_Po} {M : mm_M} (hJ : JTp M) (hr : R32 M) (k : ∀ (N : mm_M) (r : Int) (adv : Nat), fA M N (M 24 1 + adv) → TW 1 6 (M 24 0) (M 25) (M 24 1).toNat r adv → Po (some (v_i r)) Lam N) : mm_G X (d + 5) 0 0 mi_X8_takeWord Po 0 [(0, v_r 24), (1, v_r 1003)] [] Lam M 0 0 := by
  refine mm_iconst (mm_dc od_X8_takeWord_0 0 rfl) ?_
  refine mm_istore_n (L' := [(0, v_r 24), (1, v_r 1003), (2, v_i 0)]) (mm_dc od_X8_takeWord_0 1 rfl) (by decide) rfl ?_
  refine mm_iconst (mm_dc od_X8_takeWord_0 2 rfl) ?_
  refine mm_istore_n (L' := [(0, v_r 24), (1, v_r 1003), (2, v_i 0), (3, v_i 0)]) (mm_dc od_X8_takeWord_0 3 rfl) (by decide) rfl ?_
  refine mm_iconst (mm_dc od_X8_takeWord_0 4 rfl) ?_
  refine mm_istore (L' := [(0, v_r 24), (1, v_r 1003), (2, v_i 0), (3, v_i 0), (4, v_i 0)]) (mm_dc od_X8_takeWord_0 5 rfl) (by decide) rfl ?_
  refine mm_iconst (mm_dc od_X8_takeWord_0 6 rfl) ?_
  refine mm_istore (L' := [(0, v_r 24), (1, v_r 1003), (2, v_i 0), (3, v_i 0), (4, v_i 0), (5, v_i 0)]) (mm_dc od_X8_takeWord_0 7 rfl) (by decide) rfl ?_
  refine mm_cL (L' := [(0, v_r 24), (1, v_r 1003), (2, v_i ((0 : Nat) : Int)), (3, v_i ((wst 1 0 : Nat) : Int)), (4, v_i ((0 : Nat) : Int)), (5, v_i ((0 : Nat) : Int))]) rfl ?_
  exact L_tw1 hJ hr k 0 0 0 (by omega) (fun q => by have := wtf1 0 q; exact ⟨by decide, by omega⟩) (fun q => by omega) ⟨fun u hu => by omega, Or.inl rfl⟩
theorem wtK2 : wst 2 1 = 5 := by decide

theorem L_tw2 {X : Nat × (Nat → Int)} {d : Nat} {Po : mm_Po} {M : mm_M} (hJ : JTp M) (hr : R32 M) (k : ∀ (N : mm_M) (r : Int) (adv : Nat), fA M N (M 24 1 + adv) → TW 2 1 (M 24 0) (M 25) (M 24 1).toNat r adv → Po (some (v_i r)) Lam N) (t f e : Nat) (ht : t ≤ 1) (hte : t < 1 → wst 2 t ≤ e ∧ e ≤ wen 2 t) (htK : t = 1 → e = 5) (hF : fQ 2 (M 24 0) (M 25) (M 24 1).toNat t f) : mm_G X (d + 5) 0 0 mi_X8_takeWord Po 10 [(0, v_r 24), (1, v_r 1004), (2, v_i (t : Int)), (3, v_i (wst 2 t : Int)), (4, v_i (f : Int)), (5, v_i (e : Int))] [] Lam M 0 0 := by
  have hJ2 := hJ
  obtain ⟨j1, j2, j3⟩ := hJ2
  have hf120 : (((M 24 1).toNat + f : Nat) : Int) ≤ M 24 0 := (by
    rcases hF.2 with q | ⟨u, _, q⟩
    · subst q; omega
    · exact cq_len q (by omega))
  have htf : t < 1 → wst 2 t < wen 2 t ∧ wen 2 t ≤ 4 ∧ wst 2 (t + 1) = wen 2 t + 1 ∧ (wen 2 t = 4 ∨ tx 2 (wen 2 t) = 124) ∧ (t + 1 < 1 → wst 2 (t + 1) ≤ wen 2 (t + 1) ∧ wen 2 t < 4) := (fun q => by have h := wtf2 t q; exact ⟨h.1, h.2.1, h.2.2.1, h.2.2.2.1, h.2.2.2.2.1⟩)
  have htl : t < 1 ∨ 4 < e := (by
    rcases Nat.lt_or_ge t 1 with q | q
    · exact Or.inl q
    · exact Or.inr (by have := htK (by omega); omega))
  have hne124 : t < 1 → e < wen 2 t → tx 2 e ≠ 124 := (fun q q2 => by have h := wtf2 t q; exact h.2.2.2.2.2 e (by omega) (by have := hte q; omega) q2)
  have htx : e < 4 → 0 ≤ tx 2 e ∧ tx 2 e < 128 := (fun q => (tx_a2 e q).2.2.2)
  have tw_b : (e = 4 ∨ (e < 4 ∧ tx 2 e = 124)) → e = wen 2 t := (fun q => by
    have htK2 : t < 1 := (by omega)
    have h1 := hte htK2
    have h2 := htf htK2
    have h3 := hne124 htK2
    apply Classical.byContradiction
    intro q2
    have h4 := h3 (by omega)
    omega)
  refine mm_iload (mm_dc od_X8_takeWord_0 8 rfl) rfl ?_
  refine mm_aload_n (mm_dc od_X8_takeWord_0 9 rfl) rfl ?_
  refine mm_callT (i := 2) (mi' := mi_J0_length_8abf5) [] [v_i (e : Int)] (mm_dc od_X8_takeWord_0 10 rfl) rfl wd_3_89 wd_3_90 wd_3_91 wd_1_16 wd_3_92 yk_J0_length_8abf5 (by decide) rfl (Nat.le_of_ble_eq_true rfl) rfl (by decide) (c_len2 ⟨Nat.le_refl _, ?_⟩)
  refine mm_icmp_gt 94 (mm_dc od_X8_takeWord_0 11 rfl) (by omega) (by first | omega | assumption | exact hr _ _ rfl) (by first | omega | assumption | exact hr _ _ rfl) (fun c1 => ?_) (fun c1 => ?_)
  · refine mm_aload_n (mm_dc od_X8_takeWord_0 51 rfl) rfl ?_
    refine mm_dup_r (mm_dc od_X8_takeWord_0 52 rfl) ?_
    refine mm_getI (ci := 8) (k := 1) (mm_dc od_X8_takeWord_0 53 rfl) rfl in_X8 (by decide) wd_1_152 rfl rfl ?_
    refine mm_iload (mm_dc od_X8_takeWord_0 54 rfl) rfl ?_
    refine mm_iadd (mm_dc od_X8_takeWord_0 55 rfl) ?_
    refine mm_putI (ci := 8) (k := 1) (mm_dc od_X8_takeWord_0 56 rfl) rfl in_X8 tyX8_ok nmX8 (by decide) wd_1_152 rfl rfl rfl rfl ?_
    refine mm_iconst (mm_dc od_X8_takeWord_0 57 rfl) ?_
    refine mm_iret (mm_dc od_X8_takeWord_0 58 rfl) rfl ?_
    have htk : t = 1 := by
      apply Classical.byContradiction
      intro q
      have h1 := hte (by omega)
      have h2 := htf (by omega)
      omega
    subst htk
    exact k _ _ f (fA_up hr (by omega)) (Or.inr ⟨rfl, hF⟩)
  · refine mm_iload (mm_dc od_X8_takeWord_0 12 rfl) rfl ?_
    refine mm_aload_n (mm_dc od_X8_takeWord_0 13 rfl) rfl ?_
    refine mm_callT (i := 2) (mi' := mi_J0_length_8abf5) [] [v_i (e : Int)] (mm_dc od_X8_takeWord_0 14 rfl) rfl wd_3_89 wd_3_90 wd_3_91 wd_1_16 wd_3_92 yk_J0_length_8abf5 (by decide) rfl (Nat.le_of_ble_eq_true rfl) rfl (by decide) (c_len2 ⟨Nat.le_refl _, ?_⟩)
    refine mm_icmp_eq 39 (mm_dc od_X8_takeWord_0 15 rfl) (by omega) (by first | omega | assumption | exact hr _ _ rfl) (by first | omega | assumption | exact hr _ _ rfl) (fun c2 => ?_) (fun c2 => ?_)
    · refine mm_aload_n (mm_dc od_X8_takeWord_0 21 rfl) rfl ?_
      refine mm_aload_n (mm_dc od_X8_takeWord_0 22 rfl) rfl ?_
      refine mm_iload_n (mm_dc od_X8_takeWord_0 23 rfl) rfl ?_
      refine mm_iload (mm_dc od_X8_takeWord_0 24 rfl) rfl ?_
      have het : e = wen 2 t := tw_b (by omega)
      refine mm_callV (b := 24) (mi' := mi_X8_countSame) [v_r 1004, v_i (wst 2 t : Int), v_i (e : Int)] [] (mm_dc od_X8_takeWord_0 25 rfl) rfl wd_3_137 wd_3_139 wd_p_9 wd_1_6 wd_3_140 yk_X8_countSame rfl rfl rfl (Nat.le_of_ble_eq_true rfl) rfl (by decide) (c_cs2 (wst 2 t) e (by omega) (by omega) hJ hr (fun c hc => ⟨Nat.le_refl _, ?_⟩))
      have hc2 : cq (M 24 0) (M 25) (M 24 1).toNat (wd 2 t) (wL 2 t) c := by unfold wL; rw [← het]; exact hc
      have hcl := cq_len hc2 (by omega)
      have hcL := hc2.1
      have hwL : wL 2 t = e - wst 2 t := by unfold wL; rw [← het]
      refine mm_istore (L' := [(0, v_r 24), (1, v_r 1004), (2, v_i (t : Int)), (3, v_i (wst 2 t : Int)), (4, v_i (f : Int)), (5, v_i (e : Int)), (6, v_i (c : Int))]) (mm_dc od_X8_takeWord_0 26 rfl) (by decide) rfl ?_
      refine mm_iload (mm_dc od_X8_takeWord_0 27 rfl) rfl ?_
      refine mm_iload (mm_dc od_X8_takeWord_0 28 rfl) rfl ?_
      refine mm_iload_n (mm_dc od_X8_takeWord_0 29 rfl) rfl ?_
      refine mm_isub (mm_dc od_X8_takeWord_0 30 rfl) ?_
      refine mm_icmp_ne 71 (mm_dc od_X8_takeWord_0 31 rfl) (by omega) (by first | omega | assumption | exact hr _ _ rfl) (by first | omega | assumption | exact hr _ _ rfl) (fun c3 => ?_) (fun c3 => ?_)
      · refine mm_iload (mm_dc od_X8_takeWord_0 40 rfl) rfl ?_
        refine mm_iload (mm_dc od_X8_takeWord_0 41 rfl) rfl ?_
        refine mm_mmax (mm_dc od_X8_takeWord_0 42 rfl) wd_3_141 wd_3_142 wd_1_14 wd_3_143 (by first | omega | assumption | exact hr _ _ rfl) (by first | omega | assumption | exact hr _ _ rfl) (Nat.le_of_ble_eq_true rfl) ?_
        refine mm_istore (L' := [(0, v_r 24), (1, v_r 1004), (2, v_i (t : Int)), (3, v_i (wst 2 t : Int)), (4, v_i (max (f : Int) (c : Int))), (5, v_i (e : Int)), (6, v_i (c : Int))]) (mm_dc od_X8_takeWord_0 43 rfl) (by decide) rfl ?_
        refine mm_iload (mm_dc od_X8_takeWord_0 44 rfl) rfl ?_
        refine mm_iconst (mm_dc od_X8_takeWord_0 45 rfl) ?_
        refine mm_iadd (mm_dc od_X8_takeWord_0 46 rfl) ?_
        refine mm_istore_n (L' := [(0, v_r 24), (1, v_r 1004), (2, v_i (t : Int)), (3, v_i ((e : Int) + 1)), (4, v_i (max (f : Int) (c : Int))), (5, v_i (e : Int)), (6, v_i (c : Int))]) (mm_dc od_X8_takeWord_0 47 rfl) (by decide) rfl ?_
        refine mm_iinc (L' := [(0, v_r 24), (1, v_r 1004), (2, v_i ((t : Int) + 1)), (3, v_i ((e : Int) + 1)), (4, v_i (max (f : Int) (c : Int))), (5, v_i (e : Int)), (6, v_i (c : Int))]) (mm_dc od_X8_takeWord_0 48 rfl) rfl (by decide) rfl ?_
        refine mm_iinc (L' := [(0, v_r 24), (1, v_r 1004), (2, v_i ((t : Int) + 1)), (3, v_i ((e : Int) + 1)), (4, v_i (max (f : Int) (c : Int))), (5, v_i ((e : Int) + 1)), (6, v_i (c : Int))]) (mm_dc od_X8_takeWord_0 49 rfl) rfl (by decide) rfl ?_
        refine mm_goto 10 (mm_dc od_X8_takeWord_0 50 rfl) (by omega) ?_
        have hmx : max (f : Int) (c : Int) = ((max f c : Nat) : Int) := by omega
        have hst : (e : Int) + 1 = (wst 2 (t + 1) : Int) := by have := htf (by omega); omega
        refine mm_cL (L' := [(0, v_r 24), (1, v_r 1004), (2, v_i ((t + 1 : Nat) : Int)), (3, v_i (wst 2 (t + 1) : Int)), (4, v_i ((max f c : Nat) : Int)), (5, v_i (wst 2 (t + 1) : Int)), (6, v_i (c : Int))]) (by rw [hmx, hst]; rfl) ?_
        exact mm_less [0, 1, 2, 3, 4, 5] rfl (L_tw2 hJ hr k (t + 1) (max f c) (wst 2 (t + 1)) (by omega) (fun q => by have := htf (by omega); omega) (fun q => by rw [q]; exact wtK2) (fQ_s hF hc2 (by omega)))
      · refine mm_aload_n (mm_dc od_X8_takeWord_0 32 rfl) rfl ?_
        refine mm_dup_r (mm_dc od_X8_takeWord_0 33 rfl) ?_
        refine mm_getI (ci := 8) (k := 1) (mm_dc od_X8_takeWord_0 34 rfl) rfl in_X8 (by decide) wd_1_152 rfl rfl ?_
        refine mm_iload (mm_dc od_X8_takeWord_0 35 rfl) rfl ?_
        refine mm_iadd (mm_dc od_X8_takeWord_0 36 rfl) ?_
        refine mm_putI (ci := 8) (k := 1) (mm_dc od_X8_takeWord_0 37 rfl) rfl in_X8 tyX8_ok nmX8 (by decide) wd_1_152 rfl rfl rfl rfl ?_
        refine mm_iload_n (mm_dc od_X8_takeWord_0 38 rfl) rfl ?_
        refine mm_iret (mm_dc od_X8_takeWord_0 39 rfl) rfl ?_
        have hcw : c = wL 2 t := by omega
        rw [hcw] at hc2
        refine k _ _ c (fA_up hr (by omega)) (Or.inl ⟨t, by omega, rfl, hc2, hcw⟩)
    · refine mm_aload_n (mm_dc od_X8_takeWord_0 16 rfl) rfl ?_
      refine mm_iload (mm_dc od_X8_takeWord_0 17 rfl) rfl ?_
      refine mm_callT (i := 2) (mi' := mi_J0_charAt_5068e) [v_i (e : Int)] [] (mm_dc od_X8_takeWord_0 18 rfl) rfl wd_3_99 wd_3_100 wd_3_101 wd_1_16 wd_3_102 yk_J0_charAt_5068e (by decide) rfl (Nat.le_of_ble_eq_true rfl) rfl (by decide) (c_chr2 e (by omega) ⟨Nat.le_refl _, ?_⟩)
      refine mm_bipush (mm_dc od_X8_takeWord_0 19 rfl) (by decide) ?_
      refine mm_icmp_ne 88 (mm_dc od_X8_takeWord_0 20 rfl) (by omega) (by first | omega | assumption | exact hr _ _ rfl) (by first | omega | assumption | exact hr _ _ rfl) (fun c4 => ?_) (fun c4 => ?_)
      · refine mm_iinc (L' := [(0, v_r 24), (1, v_r 1004), (2, v_i (t : Int)), (3, v_i (wst 2 t : Int)), (4, v_i (f : Int)), (5, v_i ((e : Int) + 1))]) (mm_dc od_X8_takeWord_0 49 rfl) rfl (by decide) rfl ?_
        refine mm_goto 10 (mm_dc od_X8_takeWord_0 50 rfl) (by omega) ?_
        have hne : e ≠ wen 2 t := fun q => by have h := (htf (by omega)).2.2.2.1; rw [← q] at h; omega
        exact L_tw2 hJ hr k t f (e + 1) ht (fun q => by have := hte q; omega) (fun q => by omega) hF
      · refine mm_aload_n (mm_dc od_X8_takeWord_0 21 rfl) rfl ?_
        refine mm_aload_n (mm_dc od_X8_takeWord_0 22 rfl) rfl ?_
        refine mm_iload_n (mm_dc od_X8_takeWord_0 23 rfl) rfl ?_
        refine mm_iload (mm_dc od_X8_takeWord_0 24 rfl) rfl ?_
        have het : e = wen 2 t := tw_b (by omega)
        refine mm_callV (b := 24) (mi' := mi_X8_countSame) [v_r 1004, v_i (wst 2 t : Int), v_i (e : Int)] [] (mm_dc od_X8_takeWord_0 25 rfl) rfl wd_3_137 wd_3_139 wd_p_9 wd_1_6 wd_3_140 yk_X8_countSame rfl rfl rfl (Nat.le_of_ble_eq_true rfl) rfl (by decide) (c_cs2 (wst 2 t) e (by omega) (by omega) hJ hr (fun c hc => ⟨Nat.le_refl _, ?_⟩))
        have hc2 : cq (M 24 0) (M 25) (M 24 1).toNat (wd 2 t) (wL 2 t) c := by unfold wL; rw [← het]; exact hc
        have hcl := cq_len hc2 (by omega)
        have hcL := hc2.1
        have hwL : wL 2 t = e - wst 2 t := by unfold wL; rw [← het]
        refine mm_istore (L' := [(0, v_r 24), (1, v_r 1004), (2, v_i (t : Int)), (3, v_i (wst 2 t : Int)), (4, v_i (f : Int)), (5, v_i (e : Int)), (6, v_i (c : Int))]) (mm_dc od_X8_takeWord_0 26 rfl) (by decide) rfl ?_
        refine mm_iload (mm_dc od_X8_takeWord_0 27 rfl) rfl ?_
        refine mm_iload (mm_dc od_X8_takeWord_0 28 rfl) rfl ?_
        refine mm_iload_n (mm_dc od_X8_takeWord_0 29 rfl) rfl ?_
        refine mm_isub (mm_dc od_X8_takeWord_0 30 rfl) ?_
        refine mm_icmp_ne 71 (mm_dc od_X8_takeWord_0 31 rfl) (by omega) (by first | omega | assumption | exact hr _ _ rfl) (by first | omega | assumption | exact hr _ _ rfl) (fun c5 => ?_) (fun c5 => ?_)
        · refine mm_iload (mm_dc od_X8_takeWord_0 40 rfl) rfl ?_
          refine mm_iload (mm_dc od_X8_takeWord_0 41 rfl) rfl ?_
          refine mm_mmax (mm_dc od_X8_takeWord_0 42 rfl) wd_3_141 wd_3_142 wd_1_14 wd_3_143 (by first | omega | assumption | exact hr _ _ rfl) (by first | omega | assumption | exact hr _ _ rfl) (Nat.le_of_ble_eq_true rfl) ?_
          refine mm_istore (L' := [(0, v_r 24), (1, v_r 1004), (2, v_i (t : Int)), (3, v_i (wst 2 t : Int)), (4, v_i (max (f : Int) (c : Int))), (5, v_i (e : Int)), (6, v_i (c : Int))]) (mm_dc od_X8_takeWord_0 43 rfl) (by decide) rfl ?_
          refine mm_iload (mm_dc od_X8_takeWord_0 44 rfl) rfl ?_
          refine mm_iconst (mm_dc od_X8_takeWord_0 45 rfl) ?_
          refine mm_iadd (mm_dc od_X8_takeWord_0 46 rfl) ?_
          refine mm_istore_n (L' := [(0, v_r 24), (1, v_r 1004), (2, v_i (t : Int)), (3, v_i ((e : Int) + 1)), (4, v_i (max (f : Int) (c : Int))), (5, v_i (e : Int)), (6, v_i (c : Int))]) (mm_dc od_X8_takeWord_0 47 rfl) (by decide) rfl ?_
          refine mm_iinc (L' := [(0, v_r 24), (1, v_r 1004), (2, v_i ((t : Int) + 1)), (3, v_i ((e : Int) + 1)), (4, v_i (max (f : Int) (c : Int))), (5, v_i (e : Int)), (6, v_i (c : Int))]) (mm_dc od_X8_takeWord_0 48 rfl) rfl (by decide) rfl ?_
          refine mm_iinc (L' := [(0, v_r 24), (1, v_r 1004), (2, v_i ((t : Int) + 1)), (3, v_i ((e : Int) + 1)), (4, v_i (max (f : Int) (c : Int))), (5, v_i ((e : Int) + 1)), (6, v_i (c : Int))]) (mm_dc od_X8_takeWord_0 49 rfl) rfl (by decide) rfl ?_
          refine mm_goto 10 (mm_dc od_X8_takeWord_0 50 rfl) (by omega) ?_
          have hmx : max (f : Int) (c : Int) = ((max f c : Nat) : Int) := by omega
          have hst : (e : Int) + 1 = (wst 2 (t + 1) : Int) := by have := htf (by omega); omega
          refine mm_cL (L' := [(0, v_r 24), (1, v_r 1004), (2, v_i ((t + 1 : Nat) : Int)), (3, v_i (wst 2 (t + 1) : Int)), (4, v_i ((max f c : Nat) : Int)), (5, v_i (wst 2 (t + 1) : Int)), (6, v_i (c : Int))]) (by rw [hmx, hst]; rfl) ?_
          exact mm_less [0, 1, 2, 3, 4, 5] rfl (L_tw2 hJ hr k (t + 1) (max f c) (wst 2 (t + 1)) (by omega) (fun q => by have := htf (by omega); omega) (fun q => by rw [q]; exact wtK2) (fQ_s hF hc2 (by omega)))
        · refine mm_aload_n (mm_dc od_X8_takeWord_0 32 rfl) rfl ?_
          refine mm_dup_r (mm_dc od_X8_takeWord_0 33 rfl) ?_
          refine mm_getI (ci := 8) (k := 1) (mm_dc od_X8_takeWord_0 34 rfl) rfl in_X8 (by decide) wd_1_152 rfl rfl ?_
          refine mm_iload (mm_dc od_X8_takeWord_0 35 rfl) rfl ?_
          refine mm_iadd (mm_dc od_X8_takeWord_0 36 rfl) ?_
          refine mm_putI (ci := 8) (k := 1) (mm_dc od_X8_takeWord_0 37 rfl) rfl in_X8 tyX8_ok nmX8 (by decide) wd_1_152 rfl rfl rfl rfl ?_
          refine mm_iload_n (mm_dc od_X8_takeWord_0 38 rfl) rfl ?_
          refine mm_iret (mm_dc od_X8_takeWord_0 39 rfl) rfl ?_
          have hcw : c = wL 2 t := by omega
          rw [hcw] at hc2
          refine k _ _ c (fA_up hr (by omega)) (Or.inl ⟨t, by omega, rfl, hc2, hcw⟩)
termination_by 6 - e
decreasing_by all_goals (first | omega | (simp_wf; omega))
theorem c_tw2 {X : Nat × (Nat → Int)} {d : Nat} {Po : mm_Po} {M : mm_M} (hJ : JTp M) (hr : R32 M) (k : ∀ (N : mm_M) (r : Int) (adv : Nat), fA M N (M 24 1 + adv) → TW 2 1 (M 24 0) (M 25) (M 24 1).toNat r adv → Po (some (v_i r)) Lam N) : mm_G X (d + 5) 0 0 mi_X8_takeWord Po 0 [(0, v_r 24), (1, v_r 1004)] [] Lam M 0 0 := by
  refine mm_iconst (mm_dc od_X8_takeWord_0 0 rfl) ?_
  refine mm_istore_n (L' := [(0, v_r 24), (1, v_r 1004), (2, v_i 0)]) (mm_dc od_X8_takeWord_0 1 rfl) (by decide) rfl ?_
  refine mm_iconst (mm_dc od_X8_takeWord_0 2 rfl) ?_
  refine mm_istore_n (L' := [(0, v_r 24), (1, v_r 1004), (2, v_i 0), (3, v_i 0)]) (mm_dc od_X8_takeWord_0 3 rfl) (by decide) rfl ?_
  refine mm_iconst (mm_dc od_X8_takeWord_0 4 rfl) ?_
  refine mm_istore (L' := [(0, v_r 24), (1, v_r 1004), (2, v_i 0), (3, v_i 0), (4, v_i 0)]) (mm_dc od_X8_takeWord_0 5 rfl) (by decide) rfl ?_
  refine mm_iconst (mm_dc od_X8_takeWord_0 6 rfl) ?_
  refine mm_istore (L' := [(0, v_r 24), (1, v_r 1004), (2, v_i 0), (3, v_i 0), (4, v_i 0), (5, v_i 0)]) (mm_dc od_X8_takeWord_0 7 rfl) (by decide) rfl ?_
  refine mm_cL (L' := [(0, v_r 24), (1, v_r 1004), (2, v_i ((0 : Nat) : Int)), (3, v_i ((wst 2 0 : Nat) : Int)), (4, v_i ((0 : Nat) : Int)), (5, v_i ((0 : Nat) : Int))]) rfl ?_
  exact L_tw2 hJ hr k 0 0 0 (by omega) (fun q => by have := wtf2 0 q; exact ⟨by decide, by omega⟩) (fun q => by omega) ⟨fun u hu => by omega, Or.inl rfl⟩
theorem wtK3 : wst 3 7 = 38 := by decide

theorem L_tw3 {X : Nat × (Nat → Int)} {d : Nat} {Po : mm_Po} {M : mm_M} (hJ : JTp M) (hr : R32 M) (k : ∀ (N : mm_M) (r : Int) (adv : Nat), fA M N (M 24 1 + adv) → TW 3 7 (M 24 0) (M 25) (M 24 1).toNat r adv → Po (some (v_i r)) Lam N) (t f e : Nat) (ht : t ≤ 7) (hte : t < 7 → wst 3 t ≤ e ∧ e ≤ wen 3 t) (htK : t = 7 → e = 38) (hF : fQ 3 (M 24 0) (M 25) (M 24 1).toNat t f) : mm_G X (d + 5) 0 0 mi_X8_takeWord Po 10 [(0, v_r 24), (1, v_r 1005), (2, v_i (t : Int)), (3, v_i (wst 3 t : Int)), (4, v_i (f : Int)), (5, v_i (e : Int))] [] Lam M 0 0 := by
  have hJ2 := hJ
  obtain ⟨j1, j2, j3⟩ := hJ2
  have hf120 : (((M 24 1).toNat + f : Nat) : Int) ≤ M 24 0 := (by
    rcases hF.2 with q | ⟨u, _, q⟩
    · subst q; omega
    · exact cq_len q (by omega))
  have htf : t < 7 → wst 3 t < wen 3 t ∧ wen 3 t ≤ 37 ∧ wst 3 (t + 1) = wen 3 t + 1 ∧ (wen 3 t = 37 ∨ tx 3 (wen 3 t) = 124) ∧ (t + 1 < 7 → wst 3 (t + 1) ≤ wen 3 (t + 1) ∧ wen 3 t < 37) := (fun q => by have h := wtf3 t q; exact ⟨h.1, h.2.1, h.2.2.1, h.2.2.2.1, h.2.2.2.2.1⟩)
  have htl : t < 7 ∨ 37 < e := (by
    rcases Nat.lt_or_ge t 7 with q | q
    · exact Or.inl q
    · exact Or.inr (by have := htK (by omega); omega))
  have hne124 : t < 7 → e < wen 3 t → tx 3 e ≠ 124 := (fun q q2 => by have h := wtf3 t q; exact h.2.2.2.2.2 e (by omega) (by have := hte q; omega) q2)
  have htx : e < 37 → 0 ≤ tx 3 e ∧ tx 3 e < 128 := (fun q => (tx_a3 e q).2.2.2)
  have tw_b : (e = 37 ∨ (e < 37 ∧ tx 3 e = 124)) → e = wen 3 t := (fun q => by
    have htK2 : t < 7 := (by omega)
    have h1 := hte htK2
    have h2 := htf htK2
    have h3 := hne124 htK2
    apply Classical.byContradiction
    intro q2
    have h4 := h3 (by omega)
    omega)
  refine mm_iload (mm_dc od_X8_takeWord_0 8 rfl) rfl ?_
  refine mm_aload_n (mm_dc od_X8_takeWord_0 9 rfl) rfl ?_
  refine mm_callT (i := 3) (mi' := mi_J0_length_8abf5) [] [v_i (e : Int)] (mm_dc od_X8_takeWord_0 10 rfl) rfl wd_3_89 wd_3_90 wd_3_91 wd_1_16 wd_3_92 yk_J0_length_8abf5 (by decide) rfl (Nat.le_of_ble_eq_true rfl) rfl (by decide) (c_len3 ⟨Nat.le_refl _, ?_⟩)
  refine mm_icmp_gt 94 (mm_dc od_X8_takeWord_0 11 rfl) (by omega) (by first | omega | assumption | exact hr _ _ rfl) (by first | omega | assumption | exact hr _ _ rfl) (fun c1 => ?_) (fun c1 => ?_)
  · refine mm_aload_n (mm_dc od_X8_takeWord_0 51 rfl) rfl ?_
    refine mm_dup_r (mm_dc od_X8_takeWord_0 52 rfl) ?_
    refine mm_getI (ci := 8) (k := 1) (mm_dc od_X8_takeWord_0 53 rfl) rfl in_X8 (by decide) wd_1_152 rfl rfl ?_
    refine mm_iload (mm_dc od_X8_takeWord_0 54 rfl) rfl ?_
    refine mm_iadd (mm_dc od_X8_takeWord_0 55 rfl) ?_
    refine mm_putI (ci := 8) (k := 1) (mm_dc od_X8_takeWord_0 56 rfl) rfl in_X8 tyX8_ok nmX8 (by decide) wd_1_152 rfl rfl rfl rfl ?_
    refine mm_iconst (mm_dc od_X8_takeWord_0 57 rfl) ?_
    refine mm_iret (mm_dc od_X8_takeWord_0 58 rfl) rfl ?_
    have htk : t = 7 := by
      apply Classical.byContradiction
      intro q
      have h1 := hte (by omega)
      have h2 := htf (by omega)
      omega
    subst htk
    exact k _ _ f (fA_up hr (by omega)) (Or.inr ⟨rfl, hF⟩)
  · refine mm_iload (mm_dc od_X8_takeWord_0 12 rfl) rfl ?_
    refine mm_aload_n (mm_dc od_X8_takeWord_0 13 rfl) rfl ?_
    refine mm_callT (i := 3) (mi' := mi_J0_length_8abf5) [] [v_i (e : Int)] (mm_dc od_X8_takeWord_0 14 rfl) rfl wd_3_89 wd_3_90 wd_3_91 wd_1_16 wd_3_92 yk_J0_length_8abf5 (by decide) rfl (Nat.le_of_ble_eq_true rfl) rfl (by decide) (c_len3 ⟨Nat.le_refl _, ?_⟩)
    refine mm_icmp_eq 39 (mm_dc od_X8_takeWord_0 15 rfl) (by omega) (by first | omega | assumption | exact hr _ _ rfl) (by first | omega | assumption | exact hr _ _ rfl) (fun c2 => ?_) (fun c2 => ?_)
    · refine mm_aload_n (mm_dc od_X8_takeWord_0 21 rfl) rfl ?_
      refine mm_aload_n (mm_dc od_X8_takeWord_0 22 rfl) rfl ?_
      refine mm_iload_n (mm_dc od_X8_takeWord_0 23 rfl) rfl ?_
      refine mm_iload (mm_dc od_X8_takeWord_0 24 rfl) rfl ?_
      have het : e = wen 3 t := tw_b (by omega)
      refine mm_callV (b := 24) (mi' := mi_X8_countSame) [v_r 1005, v_i (wst 3 t : Int), v_i (e : Int)] [] (mm_dc od_X8_takeWord_0 25 rfl) rfl wd_3_137 wd_3_139 wd_p_9 wd_1_6 wd_3_140 yk_X8_countSame rfl rfl rfl (Nat.le_of_ble_eq_true rfl) rfl (by decide) (c_cs3 (wst 3 t) e (by omega) (by omega) hJ hr (fun c hc => ⟨Nat.le_refl _, ?_⟩))
      have hc2 : cq (M 24 0) (M 25) (M 24 1).toNat (wd 3 t) (wL 3 t) c := by unfold wL; rw [← het]; exact hc
      have hcl := cq_len hc2 (by omega)
      have hcL := hc2.1
      have hwL : wL 3 t = e - wst 3 t := by unfold wL; rw [← het]
      refine mm_istore (L' := [(0, v_r 24), (1, v_r 1005), (2, v_i (t : Int)), (3, v_i (wst 3 t : Int)), (4, v_i (f : Int)), (5, v_i (e : Int)), (6, v_i (c : Int))]) (mm_dc od_X8_takeWord_0 26 rfl) (by decide) rfl ?_
      refine mm_iload (mm_dc od_X8_takeWord_0 27 rfl) rfl ?_
      refine mm_iload (mm_dc od_X8_takeWord_0 28 rfl) rfl ?_
      refine mm_iload_n (mm_dc od_X8_takeWord_0 29 rfl) rfl ?_
      refine mm_isub (mm_dc od_X8_takeWord_0 30 rfl) ?_
      refine mm_icmp_ne 71 (mm_dc od_X8_takeWord_0 31 rfl) (by omega) (by first | omega | assumption | exact hr _ _ rfl) (by first | omega | assumption | exact hr _ _ rfl) (fun c3 => ?_) (fun c3 => ?_)
      · refine mm_iload (mm_dc od_X8_takeWord_0 40 rfl) rfl ?_
        refine mm_iload (mm_dc od_X8_takeWord_0 41 rfl) rfl ?_
        refine mm_mmax (mm_dc od_X8_takeWord_0 42 rfl) wd_3_141 wd_3_142 wd_1_14 wd_3_143 (by first | omega | assumption | exact hr _ _ rfl) (by first | omega | assumption | exact hr _ _ rfl) (Nat.le_of_ble_eq_true rfl) ?_
        refine mm_istore (L' := [(0, v_r 24), (1, v_r 1005), (2, v_i (t : Int)), (3, v_i (wst 3 t : Int)), (4, v_i (max (f : Int) (c : Int))), (5, v_i (e : Int)), (6, v_i (c : Int))]) (mm_dc od_X8_takeWord_0 43 rfl) (by decide) rfl ?_
        refine mm_iload (mm_dc od_X8_takeWord_0 44 rfl) rfl ?_
        refine mm_iconst (mm_dc od_X8_takeWord_0 45 rfl) ?_
        refine mm_iadd (mm_dc od_X8_takeWord_0 46 rfl) ?_
        refine mm_istore_n (L' := [(0, v_r 24), (1, v_r 1005), (2, v_i (t : Int)), (3, v_i ((e : Int) + 1)), (4, v_i (max (f : Int) (c : Int))), (5, v_i (e : Int)), (6, v_i (c : Int))]) (mm_dc od_X8_takeWord_0 47 rfl) (by decide) rfl ?_
        refine mm_iinc (L' := [(0, v_r 24), (1, v_r 1005), (2, v_i ((t : Int) + 1)), (3, v_i ((e : Int) + 1)), (4, v_i (max (f : Int) (c : Int))), (5, v_i (e : Int)), (6, v_i (c : Int))]) (mm_dc od_X8_takeWord_0 48 rfl) rfl (by decide) rfl ?_
        refine mm_iinc (L' := [(0, v_r 24), (1, v_r 1005), (2, v_i ((t : Int) + 1)), (3, v_i ((e : Int) + 1)), (4, v_i (max (f : Int) (c : Int))), (5, v_i ((e : Int) + 1)), (6, v_i (c : Int))]) (mm_dc od_X8_takeWord_0 49 rfl) rfl (by decide) rfl ?_
        refine mm_goto 10 (mm_dc od_X8_takeWord_0 50 rfl) (by omega) ?_
        have hmx : max (f : Int) (c : Int) = ((max f c : Nat) : Int) := by omega
        have hst : (e : Int) + 1 = (wst 3 (t + 1) : Int) := by have := htf (by omega); omega
        refine mm_cL (L' := [(0, v_r 24), (1, v_r 1005), (2, v_i ((t + 1 : Nat) : Int)), (3, v_i (wst 3 (t + 1) : Int)), (4, v_i ((max f c : Nat) : Int)), (5, v_i (wst 3 (t + 1) : Int)), (6, v_i (c : Int))]) (by rw [hmx, hst]; rfl) ?_
        exact mm_less [0, 1, 2, 3, 4, 5] rfl (L_tw3 hJ hr k (t + 1) (max f c) (wst 3 (t + 1)) (by omega) (fun q => by have := htf (by omega); omega) (fun q => by rw [q]; exact wtK3) (fQ_s hF hc2 (by omega)))
      · refine mm_aload_n (mm_dc od_X8_takeWord_0 32 rfl) rfl ?_
        refine mm_dup_r (mm_dc od_X8_takeWord_0 33 rfl) ?_
        refine mm_getI (ci := 8) (k := 1) (mm_dc od_X8_takeWord_0 34 rfl) rfl in_X8 (by decide) wd_1_152 rfl rfl ?_
        refine mm_iload (mm_dc od_X8_takeWord_0 35 rfl) rfl ?_
        refine mm_iadd (mm_dc od_X8_takeWord_0 36 rfl) ?_
        refine mm_putI (ci := 8) (k := 1) (mm_dc od_X8_takeWord_0 37 rfl) rfl in_X8 tyX8_ok nmX8 (by decide) wd_1_152 rfl rfl rfl rfl ?_
        refine mm_iload_n (mm_dc od_X8_takeWord_0 38 rfl) rfl ?_
        refine mm_iret (mm_dc od_X8_takeWord_0 39 rfl) rfl ?_
        have hcw : c = wL 3 t := by omega
        rw [hcw] at hc2
        refine k _ _ c (fA_up hr (by omega)) (Or.inl ⟨t, by omega, rfl, hc2, hcw⟩)
    · refine mm_aload_n (mm_dc od_X8_takeWord_0 16 rfl) rfl ?_
      refine mm_iload (mm_dc od_X8_takeWord_0 17 rfl) rfl ?_
      refine mm_callT (i := 3) (mi' := mi_J0_charAt_5068e) [v_i (e : Int)] [] (mm_dc od_X8_takeWord_0 18 rfl) rfl wd_3_99 wd_3_100 wd_3_101 wd_1_16 wd_3_102 yk_J0_charAt_5068e (by decide) rfl (Nat.le_of_ble_eq_true rfl) rfl (by decide) (c_chr3 e (by omega) ⟨Nat.le_refl _, ?_⟩)
      refine mm_bipush (mm_dc od_X8_takeWord_0 19 rfl) (by decide) ?_
      refine mm_icmp_ne 88 (mm_dc od_X8_takeWord_0 20 rfl) (by omega) (by first | omega | assumption | exact hr _ _ rfl) (by first | omega | assumption | exact hr _ _ rfl) (fun c4 => ?_) (fun c4 => ?_)
      · refine mm_iinc (L' := [(0, v_r 24), (1, v_r 1005), (2, v_i (t : Int)), (3, v_i (wst 3 t : Int)), (4, v_i (f : Int)), (5, v_i ((e : Int) + 1))]) (mm_dc od_X8_takeWord_0 49 rfl) rfl (by decide) rfl ?_
        refine mm_goto 10 (mm_dc od_X8_takeWord_0 50 rfl) (by omega) ?_
        have hne : e ≠ wen 3 t := fun q => by have h := (htf (by omega)).2.2.2.1; rw [← q] at h; omega
        exact L_tw3 hJ hr k t f (e + 1) ht (fun q => by have := hte q; omega) (fun q => by omega) hF
      · refine mm_aload_n (mm_dc od_X8_takeWord_0 21 rfl) rfl ?_
        refine mm_aload_n (mm_dc od_X8_takeWord_0 22 rfl) rfl ?_
        refine mm_iload_n (mm_dc od_X8_takeWord_0 23 rfl) rfl ?_
        refine mm_iload (mm_dc od_X8_takeWord_0 24 rfl) rfl ?_
        have het : e = wen 3 t := tw_b (by omega)
        refine mm_callV (b := 24) (mi' := mi_X8_countSame) [v_r 1005, v_i (wst 3 t : Int), v_i (e : Int)] [] (mm_dc od_X8_takeWord_0 25 rfl) rfl wd_3_137 wd_3_139 wd_p_9 wd_1_6 wd_3_140 yk_X8_countSame rfl rfl rfl (Nat.le_of_ble_eq_true rfl) rfl (by decide) (c_cs3 (wst 3 t) e (by omega) (by omega) hJ hr (fun c hc => ⟨Nat.le_refl _, ?_⟩))
        have hc2 : cq (M 24 0) (M 25) (M 24 1).toNat (wd 3 t) (wL 3 t) c := by unfold wL; rw [← het]; exact hc
        have hcl := cq_len hc2 (by omega)
        have hcL := hc2.1
        have hwL : wL 3 t = e - wst 3 t := by unfold wL; rw [← het]
        refine mm_istore (L' := [(0, v_r 24), (1, v_r 1005), (2, v_i (t : Int)), (3, v_i (wst 3 t : Int)), (4, v_i (f : Int)), (5, v_i (e : Int)), (6, v_i (c : Int))]) (mm_dc od_X8_takeWord_0 26 rfl) (by decide) rfl ?_
        refine mm_iload (mm_dc od_X8_takeWord_0 27 rfl) rfl ?_
        refine mm_iload (mm_dc od_X8_takeWord_0 28 rfl) rfl ?_
        refine mm_iload_n (mm_dc od_X8_takeWord_0 29 rfl) rfl ?_
        refine mm_isub (mm_dc od_X8_takeWord_0 30 rfl) ?_
        refine mm_icmp_ne 71 (mm_dc od_X8_takeWord_0 31 rfl) (by omega) (by first | omega | assumption | exact hr _ _ rfl) (by first | omega | assumption | exact hr _ _ rfl) (fun c5 => ?_) (fun c5 => ?_)
        · refine mm_iload (mm_dc od_X8_takeWord_0 40 rfl) rfl ?_
          refine mm_iload (mm_dc od_X8_takeWord_0 41 rfl) rfl ?_
          refine mm_mmax (mm_dc od_X8_takeWord_0 42 rfl) wd_3_141 wd_3_142 wd_1_14 wd_3_143 (by first | omega | assumption | exact hr _ _ rfl) (by first | omega | assumption | exact hr _ _ rfl) (Nat.le_of_ble_eq_true rfl) ?_
          refine mm_istore (L' := [(0, v_r 24), (1, v_r 1005), (2, v_i (t : Int)), (3, v_i (wst 3 t : Int)), (4, v_i (max (f : Int) (c : Int))), (5, v_i (e : Int)), (6, v_i (c : Int))]) (mm_dc od_X8_takeWord_0 43 rfl) (by decide) rfl ?_
          refine mm_iload (mm_dc od_X8_takeWord_0 44 rfl) rfl ?_
          refine mm_iconst (mm_dc od_X8_takeWord_0 45 rfl) ?_
          refine mm_iadd (mm_dc od_X8_takeWord_0 46 rfl) ?_
          refine mm_istore_n (L' := [(0, v_r 24), (1, v_r 1005), (2, v_i (t : Int)), (3, v_i ((e : Int) + 1)), (4, v_i (max (f : Int) (c : Int))), (5, v_i (e : Int)), (6, v_i (c : Int))]) (mm_dc od_X8_takeWord_0 47 rfl) (by decide) rfl ?_
          refine mm_iinc (L' := [(0, v_r 24), (1, v_r 1005), (2, v_i ((t : Int) + 1)), (3, v_i ((e : Int) + 1)), (4, v_i (max (f : Int) (c : Int))), (5, v_i (e : Int)), (6, v_i (c : Int))]) (mm_dc od_X8_takeWord_0 48 rfl) rfl (by decide) rfl ?_
          refine mm_iinc (L' := [(0, v_r 24), (1, v_r 1005), (2, v_i ((t : Int) + 1)), (3, v_i ((e : Int) + 1)), (4, v_i (max (f : Int) (c : Int))), (5, v_i ((e : Int) + 1)), (6, v_i (c : Int))]) (mm_dc od_X8_takeWord_0 49 rfl) rfl (by decide) rfl ?_
          refine mm_goto 10 (mm_dc od_X8_takeWord_0 50 rfl) (by omega) ?_
          have hmx : max (f : Int) (c : Int) = ((max f c : Nat) : Int) := by omega
          have hst : (e : Int) + 1 = (wst 3 (t + 1) : Int) := by have := htf (by omega); omega
          refine mm_cL (L' := [(0, v_r 24), (1, v_r 1005), (2, v_i ((t + 1 : Nat) : Int)), (3, v_i (wst 3 (t + 1) : Int)), (4, v_i ((max f c : Nat) : Int)), (5, v_i (wst 3 (t + 1) : Int)), (6, v_i (c : Int))]) (by rw [hmx, hst]; rfl) ?_
          exact mm_less [0, 1, 2, 3, 4, 5] rfl (L_tw3 hJ hr k (t + 1) (max f c) (wst 3 (t + 1)) (by omega) (fun q => by have := htf (by omega); omega) (fun q => by rw [q]; exact wtK3) (fQ_s hF hc2 (by omega)))
        · refine mm_aload_n (mm_dc od_X8_takeWord_0 32 rfl) rfl ?_
          refine mm_dup_r (mm_dc od_X8_takeWord_0 33 rfl) ?_
          refine mm_getI (ci := 8) (k := 1) (mm_dc od_X8_takeWord_0 34 rfl) rfl in_X8 (by decide) wd_1_152 rfl rfl ?_
          refine mm_iload (mm_dc od_X8_takeWord_0 35 rfl) rfl ?_
          refine mm_iadd (mm_dc od_X8_takeWord_0 36 rfl) ?_
          refine mm_putI (ci := 8) (k := 1) (mm_dc od_X8_takeWord_0 37 rfl) rfl in_X8 tyX8_ok nmX8 (by decide) wd_1_152 rfl rfl rfl rfl ?_
          refine mm_iload_n (mm_dc od_X8_takeWord_0 38 rfl) rfl ?_
          refine mm_iret (mm_dc od_X8_takeWord_0 39 rfl) rfl ?_
          have hcw : c = wL 3 t := by omega
          rw [hcw] at hc2
          refine k _ _ c (fA_up hr (by omega)) (Or.inl ⟨t, by omega, rfl, hc2, hcw⟩)
termination_by 39 - e
decreasing_by all_goals (first | omega | (simp_wf; omega))
theorem c_tw3 {X : Nat × (Nat → Int)} {d : Nat} {Po : mm_Po} {M : mm_M} (hJ : JTp M) (hr : R32 M) (k : ∀ (N : mm_M) (r : Int) (adv : Nat), fA M N (M 24 1 + adv) → TW 3 7 (M 24 0) (M 25) (M 24 1).toNat r adv → Po (some (v_i r)) Lam N) : mm_G X (d + 5) 0 0 mi_X8_takeWord Po 0 [(0, v_r 24), (1, v_r 1005)] [] Lam M 0 0 := by
  refine mm_iconst (mm_dc od_X8_takeWord_0 0 rfl) ?_
  refine mm_istore_n (L' := [(0, v_r 24), (1, v_r 1005), (2, v_i 0)]) (mm_dc od_X8_takeWord_0 1 rfl) (by decide) rfl ?_
  refine mm_iconst (mm_dc od_X8_takeWord_0 2 rfl) ?_
  refine mm_istore_n (L' := [(0, v_r 24), (1, v_r 1005), (2, v_i 0), (3, v_i 0)]) (mm_dc od_X8_takeWord_0 3 rfl) (by decide) rfl ?_
  refine mm_iconst (mm_dc od_X8_takeWord_0 4 rfl) ?_
  refine mm_istore (L' := [(0, v_r 24), (1, v_r 1005), (2, v_i 0), (3, v_i 0), (4, v_i 0)]) (mm_dc od_X8_takeWord_0 5 rfl) (by decide) rfl ?_
  refine mm_iconst (mm_dc od_X8_takeWord_0 6 rfl) ?_
  refine mm_istore (L' := [(0, v_r 24), (1, v_r 1005), (2, v_i 0), (3, v_i 0), (4, v_i 0), (5, v_i 0)]) (mm_dc od_X8_takeWord_0 7 rfl) (by decide) rfl ?_
  refine mm_cL (L' := [(0, v_r 24), (1, v_r 1005), (2, v_i ((0 : Nat) : Int)), (3, v_i ((wst 3 0 : Nat) : Int)), (4, v_i ((0 : Nat) : Int)), (5, v_i ((0 : Nat) : Int))]) rfl ?_
  exact L_tw3 hJ hr k 0 0 0 (by omega) (fun q => by have := wtf3 0 q; exact ⟨by decide, by omega⟩) (fun q => by omega) ⟨fun u hu => by omega, Or.inl rfl⟩
theorem wtK4 : wst 4 3 = 6 := by decide

theorem L_tw4 {X : Nat × (Nat → Int)} {d : Nat} {Po : mm_Po} {M : mm_M} (hJ : JTp M) (hr : R32 M) (k : ∀ (N : mm_M) (r : Int) (adv : Nat), fA M N (M 24 1 + adv) → TW 4 3 (M 24 0) (M 25) (M 24 1).toNat r adv → Po (some (v_i r)) Lam N) (t f e : Nat) (ht : t ≤ 3) (hte : t < 3 → wst 4 t ≤ e ∧ e ≤ wen 4 t) (htK : t = 3 → e = 6) (hF : fQ 4 (M 24 0) (M 25) (M 24 1).toNat t f) : mm_G X (d + 5) 0 0 mi_X8_takeWord Po 10 [(0, v_r 24), (1, v_r 1006), (2, v_i (t : Int)), (3, v_i (wst 4 t : Int)), (4, v_i (f : Int)), (5, v_i (e : Int))] [] Lam M 0 0 := by
  have hJ2 := hJ
  obtain ⟨j1, j2, j3⟩ := hJ2
  have hf120 : (((M 24 1).toNat + f : Nat) : Int) ≤ M 24 0 := (by
    rcases hF.2 with q | ⟨u, _, q⟩
    · subst q; omega
    · exact cq_len q (by omega))
  have htf : t < 3 → wst 4 t < wen 4 t ∧ wen 4 t ≤ 5 ∧ wst 4 (t + 1) = wen 4 t + 1 ∧ (wen 4 t = 5 ∨ tx 4 (wen 4 t) = 124) ∧ (t + 1 < 3 → wst 4 (t + 1) ≤ wen 4 (t + 1) ∧ wen 4 t < 5) := (fun q => by have h := wtf4 t q; exact ⟨h.1, h.2.1, h.2.2.1, h.2.2.2.1, h.2.2.2.2.1⟩)
  have htl : t < 3 ∨ 5 < e := (by
    rcases Nat.lt_or_ge t 3 with q | q
    · exact Or.inl q
    · exact Or.inr (by have := htK (by omega); omega))
  have hne124 : t < 3 → e < wen 4 t → tx 4 e ≠ 124 := (fun q q2 => by have h := wtf4 t q; exact h.2.2.2.2.2 e (by omega) (by have := hte q; omega) q2)
  have htx : e < 5 → 0 ≤ tx 4 e ∧ tx 4 e < 128 := (fun q => (tx_a4 e q).2.2.2)
  have tw_b : (e = 5 ∨ (e < 5 ∧ tx 4 e = 124)) → e = wen 4 t := (fun q => by
    have htK2 : t < 3 := (by omega)
    have h1 := hte htK2
    have h2 := htf htK2
    have h3 := hne124 htK2
    apply Classical.byContradiction
    intro q2
    have h4 := h3 (by omega)
    omega)
  refine mm_iload (mm_dc od_X8_takeWord_0 8 rfl) rfl ?_
  refine mm_aload_n (mm_dc od_X8_takeWord_0 9 rfl) rfl ?_
  refine mm_callT (i := 4) (mi' := mi_J0_length_8abf5) [] [v_i (e : Int)] (mm_dc od_X8_takeWord_0 10 rfl) rfl wd_3_89 wd_3_90 wd_3_91 wd_1_16 wd_3_92 yk_J0_length_8abf5 (by decide) rfl (Nat.le_of_ble_eq_true rfl) rfl (by decide) (c_len4 ⟨Nat.le_refl _, ?_⟩)
  refine mm_icmp_gt 94 (mm_dc od_X8_takeWord_0 11 rfl) (by omega) (by first | omega | assumption | exact hr _ _ rfl) (by first | omega | assumption | exact hr _ _ rfl) (fun c1 => ?_) (fun c1 => ?_)
  · refine mm_aload_n (mm_dc od_X8_takeWord_0 51 rfl) rfl ?_
    refine mm_dup_r (mm_dc od_X8_takeWord_0 52 rfl) ?_
    refine mm_getI (ci := 8) (k := 1) (mm_dc od_X8_takeWord_0 53 rfl) rfl in_X8 (by decide) wd_1_152 rfl rfl ?_
    refine mm_iload (mm_dc od_X8_takeWord_0 54 rfl) rfl ?_
    refine mm_iadd (mm_dc od_X8_takeWord_0 55 rfl) ?_
    refine mm_putI (ci := 8) (k := 1) (mm_dc od_X8_takeWord_0 56 rfl) rfl in_X8 tyX8_ok nmX8 (by decide) wd_1_152 rfl rfl rfl rfl ?_
    refine mm_iconst (mm_dc od_X8_takeWord_0 57 rfl) ?_
    refine mm_iret (mm_dc od_X8_takeWord_0 58 rfl) rfl ?_
    have htk : t = 3 := by
      apply Classical.byContradiction
      intro q
      have h1 := hte (by omega)
      have h2 := htf (by omega)
      omega
    subst htk
    exact k _ _ f (fA_up hr (by omega)) (Or.inr ⟨rfl, hF⟩)
  · refine mm_iload (mm_dc od_X8_takeWord_0 12 rfl) rfl ?_
    refine mm_aload_n (mm_dc od_X8_takeWord_0 13 rfl) rfl ?_
    refine mm_callT (i := 4) (mi' := mi_J0_length_8abf5) [] [v_i (e : Int)] (mm_dc od_X8_takeWord_0 14 rfl) rfl wd_3_89 wd_3_90 wd_3_91 wd_1_16 wd_3_92 yk_J0_length_8abf5 (by decide) rfl (Nat.le_of_ble_eq_true rfl) rfl (by decide) (c_len4 ⟨Nat.le_refl _, ?_⟩)
    refine mm_icmp_eq 39 (mm_dc od_X8_takeWord_0 15 rfl) (by omega) (by first | omega | assumption | exact hr _ _ rfl) (by first | omega | assumption | exact hr _ _ rfl) (fun c2 => ?_) (fun c2 => ?_)
    · refine mm_aload_n (mm_dc od_X8_takeWord_0 21 rfl) rfl ?_
      refine mm_aload_n (mm_dc od_X8_takeWord_0 22 rfl) rfl ?_
      refine mm_iload_n (mm_dc od_X8_takeWord_0 23 rfl) rfl ?_
      refine mm_iload (mm_dc od_X8_takeWord_0 24 rfl) rfl ?_
      have het : e = wen 4 t := tw_b (by omega)
      refine mm_callV (b := 24) (mi' := mi_X8_countSame) [v_r 1006, v_i (wst 4 t : Int), v_i (e : Int)] [] (mm_dc od_X8_takeWord_0 25 rfl) rfl wd_3_137 wd_3_139 wd_p_9 wd_1_6 wd_3_140 yk_X8_countSame rfl rfl rfl (Nat.le_of_ble_eq_true rfl) rfl (by decide) (c_cs4 (wst 4 t) e (by omega) (by omega) hJ hr (fun c hc => ⟨Nat.le_refl _, ?_⟩))
      have hc2 : cq (M 24 0) (M 25) (M 24 1).toNat (wd 4 t) (wL 4 t) c := by unfold wL; rw [← het]; exact hc
      have hcl := cq_len hc2 (by omega)
      have hcL := hc2.1
      have hwL : wL 4 t = e - wst 4 t := by unfold wL; rw [← het]
      refine mm_istore (L' := [(0, v_r 24), (1, v_r 1006), (2, v_i (t : Int)), (3, v_i (wst 4 t : Int)), (4, v_i (f : Int)), (5, v_i (e : Int)), (6, v_i (c : Int))]) (mm_dc od_X8_takeWord_0 26 rfl) (by decide) rfl ?_
      refine mm_iload (mm_dc od_X8_takeWord_0 27 rfl) rfl ?_
      refine mm_iload (mm_dc od_X8_takeWord_0 28 rfl) rfl ?_
      refine mm_iload_n (mm_dc od_X8_takeWord_0 29 rfl) rfl ?_
      refine mm_isub (mm_dc od_X8_takeWord_0 30 rfl) ?_
      refine mm_icmp_ne 71 (mm_dc od_X8_takeWord_0 31 rfl) (by omega) (by first | omega | assumption | exact hr _ _ rfl) (by first | omega | assumption | exact hr _ _ rfl) (fun c3 => ?_) (fun c3 => ?_)
      · refine mm_iload (mm_dc od_X8_takeWord_0 40 rfl) rfl ?_
        refine mm_iload (mm_dc od_X8_takeWord_0 41 rfl) rfl ?_
        refine mm_mmax (mm_dc od_X8_takeWord_0 42 rfl) wd_3_141 wd_3_142 wd_1_14 wd_3_143 (by first | omega | assumption | exact hr _ _ rfl) (by first | omega | assumption | exact hr _ _ rfl) (Nat.le_of_ble_eq_true rfl) ?_
        refine mm_istore (L' := [(0, v_r 24), (1, v_r 1006), (2, v_i (t : Int)), (3, v_i (wst 4 t : Int)), (4, v_i (max (f : Int) (c : Int))), (5, v_i (e : Int)), (6, v_i (c : Int))]) (mm_dc od_X8_takeWord_0 43 rfl) (by decide) rfl ?_
        refine mm_iload (mm_dc od_X8_takeWord_0 44 rfl) rfl ?_
        refine mm_iconst (mm_dc od_X8_takeWord_0 45 rfl) ?_
        refine mm_iadd (mm_dc od_X8_takeWord_0 46 rfl) ?_
        refine mm_istore_n (L' := [(0, v_r 24), (1, v_r 1006), (2, v_i (t : Int)), (3, v_i ((e : Int) + 1)), (4, v_i (max (f : Int) (c : Int))), (5, v_i (e : Int)), (6, v_i (c : Int))]) (mm_dc od_X8_takeWord_0 47 rfl) (by decide) rfl ?_
        refine mm_iinc (L' := [(0, v_r 24), (1, v_r 1006), (2, v_i ((t : Int) + 1)), (3, v_i ((e : Int) + 1)), (4, v_i (max (f : Int) (c : Int))), (5, v_i (e : Int)), (6, v_i (c : Int))]) (mm_dc od_X8_takeWord_0 48 rfl) rfl (by decide) rfl ?_
        refine mm_iinc (L' := [(0, v_r 24), (1, v_r 1006), (2, v_i ((t : Int) + 1)), (3, v_i ((e : Int) + 1)), (4, v_i (max (f : Int) (c : Int))), (5, v_i ((e : Int) + 1)), (6, v_i (c : Int))]) (mm_dc od_X8_takeWord_0 49 rfl) rfl (by decide) rfl ?_
        refine mm_goto 10 (mm_dc od_X8_takeWord_0 50 rfl) (by omega) ?_
        have hmx : max (f : Int) (c : Int) = ((max f c : Nat) : Int) := by omega
        have hst : (e : Int) + 1 = (wst 4 (t + 1) : Int) := by have := htf (by omega); omega
        refine mm_cL (L' := [(0, v_r 24), (1, v_r 1006), (2, v_i ((t + 1 : Nat) : Int)), (3, v_i (wst 4 (t + 1) : Int)), (4, v_i ((max f c : Nat) : Int)), (5, v_i (wst 4 (t + 1) : Int)), (6, v_i (c : Int))]) (by rw [hmx, hst]; rfl) ?_
        exact mm_less [0, 1, 2, 3, 4, 5] rfl (L_tw4 hJ hr k (t + 1) (max f c) (wst 4 (t + 1)) (by omega) (fun q => by have := htf (by omega); omega) (fun q => by rw [q]; exact wtK4) (fQ_s hF hc2 (by omega)))
      · refine mm_aload_n (mm_dc od_X8_takeWord_0 32 rfl) rfl ?_
        refine mm_dup_r (mm_dc od_X8_takeWord_0 33 rfl) ?_
        refine mm_getI (ci := 8) (k := 1) (mm_dc od_X8_takeWord_0 34 rfl) rfl in_X8 (by decide) wd_1_152 rfl rfl ?_
        refine mm_iload (mm_dc od_X8_takeWord_0 35 rfl) rfl ?_
        refine mm_iadd (mm_dc od_X8_takeWord_0 36 rfl) ?_
        refine mm_putI (ci := 8) (k := 1) (mm_dc od_X8_takeWord_0 37 rfl) rfl in_X8 tyX8_ok nmX8 (by decide) wd_1_152 rfl rfl rfl rfl ?_
        refine mm_iload_n (mm_dc od_X8_takeWord_0 38 rfl) rfl ?_
        refine mm_iret (mm_dc od_X8_takeWord_0 39 rfl) rfl ?_
        have hcw : c = wL 4 t := by omega
        rw [hcw] at hc2
        refine k _ _ c (fA_up hr (by omega)) (Or.inl ⟨t, by omega, rfl, hc2, hcw⟩)
    · refine mm_aload_n (mm_dc od_X8_takeWord_0 16 rfl) rfl ?_
      refine mm_iload (mm_dc od_X8_takeWord_0 17 rfl) rfl ?_
      refine mm_callT (i := 4) (mi' := mi_J0_charAt_5068e) [v_i (e : Int)] [] (mm_dc od_X8_takeWord_0 18 rfl) rfl wd_3_99 wd_3_100 wd_3_101 wd_1_16 wd_3_102 yk_J0_charAt_5068e (by decide) rfl (Nat.le_of_ble_eq_true rfl) rfl (by decide) (c_chr4 e (by omega) ⟨Nat.le_refl _, ?_⟩)
      refine mm_bipush (mm_dc od_X8_takeWord_0 19 rfl) (by decide) ?_
      refine mm_icmp_ne 88 (mm_dc od_X8_takeWord_0 20 rfl) (by omega) (by first | omega | assumption | exact hr _ _ rfl) (by first | omega | assumption | exact hr _ _ rfl) (fun c4 => ?_) (fun c4 => ?_)
      · refine mm_iinc (L' := [(0, v_r 24), (1, v_r 1006), (2, v_i (t : Int)), (3, v_i (wst 4 t : Int)), (4, v_i (f : Int)), (5, v_i ((e : Int) + 1))]) (mm_dc od_X8_takeWord_0 49 rfl) rfl (by decide) rfl ?_
        refine mm_goto 10 (mm_dc od_X8_takeWord_0 50 rfl) (by omega) ?_
        have hne : e ≠ wen 4 t := fun q => by have h := (htf (by omega)).2.2.2.1; rw [← q] at h; omega
        exact L_tw4 hJ hr k t f (e + 1) ht (fun q => by have := hte q; omega) (fun q => by omega) hF
      · refine mm_aload_n (mm_dc od_X8_takeWord_0 21 rfl) rfl ?_
        refine mm_aload_n (mm_dc od_X8_takeWord_0 22 rfl) rfl ?_
        refine mm_iload_n (mm_dc od_X8_takeWord_0 23 rfl) rfl ?_
        refine mm_iload (mm_dc od_X8_takeWord_0 24 rfl) rfl ?_
        have het : e = wen 4 t := tw_b (by omega)
        refine mm_callV (b := 24) (mi' := mi_X8_countSame) [v_r 1006, v_i (wst 4 t : Int), v_i (e : Int)] [] (mm_dc od_X8_takeWord_0 25 rfl) rfl wd_3_137 wd_3_139 wd_p_9 wd_1_6 wd_3_140 yk_X8_countSame rfl rfl rfl (Nat.le_of_ble_eq_true rfl) rfl (by decide) (c_cs4 (wst 4 t) e (by omega) (by omega) hJ hr (fun c hc => ⟨Nat.le_refl _, ?_⟩))
        have hc2 : cq (M 24 0) (M 25) (M 24 1).toNat (wd 4 t) (wL 4 t) c := by unfold wL; rw [← het]; exact hc
        have hcl := cq_len hc2 (by omega)
        have hcL := hc2.1
        have hwL : wL 4 t = e - wst 4 t := by unfold wL; rw [← het]
        refine mm_istore (L' := [(0, v_r 24), (1, v_r 1006), (2, v_i (t : Int)), (3, v_i (wst 4 t : Int)), (4, v_i (f : Int)), (5, v_i (e : Int)), (6, v_i (c : Int))]) (mm_dc od_X8_takeWord_0 26 rfl) (by decide) rfl ?_
        refine mm_iload (mm_dc od_X8_takeWord_0 27 rfl) rfl ?_
        refine mm_iload (mm_dc od_X8_takeWord_0 28 rfl) rfl ?_
        refine mm_iload_n (mm_dc od_X8_takeWord_0 29 rfl) rfl ?_
        refine mm_isub (mm_dc od_X8_takeWord_0 30 rfl) ?_
        refine mm_icmp_ne 71 (mm_dc od_X8_takeWord_0 31 rfl) (by omega) (by first | omega | assumption | exact hr _ _ rfl) (by first | omega | assumption | exact hr _ _ rfl) (fun c5 => ?_) (fun c5 => ?_)
        · refine mm_iload (mm_dc od_X8_takeWord_0 40 rfl) rfl ?_
          refine mm_iload (mm_dc od_X8_takeWord_0 41 rfl) rfl ?_
          refine mm_mmax (mm_dc od_X8_takeWord_0 42 rfl) wd_3_141 wd_3_142 wd_1_14 wd_3_143 (by first | omega | assumption | exact hr _ _ rfl) (by first | omega | assumption | exact hr _ _ rfl) (Nat.le_of_ble_eq_true rfl) ?_
          refine mm_istore (L' := [(0, v_r 24), (1, v_r 1006), (2, v_i (t : Int)), (3, v_i (wst 4 t : Int)), (4, v_i (max (f : Int) (c : Int))), (5, v_i (e : Int)), (6, v_i (c : Int))]) (mm_dc od_X8_takeWord_0 43 rfl) (by decide) rfl ?_
          refine mm_iload (mm_dc od_X8_takeWord_0 44 rfl) rfl ?_
          refine mm_iconst (mm_dc od_X8_takeWord_0 45 rfl) ?_
          refine mm_iadd (mm_dc od_X8_takeWord_0 46 rfl) ?_
          refine mm_istore_n (L' := [(0, v_r 24), (1, v_r 1006), (2, v_i (t : Int)), (3, v_i ((e : Int) + 1)), (4, v_i (max (f : Int) (c : Int))), (5, v_i (e : Int)), (6, v_i (c : Int))]) (mm_dc od_X8_takeWord_0 47 rfl) (by decide) rfl ?_
          refine mm_iinc (L' := [(0, v_r 24), (1, v_r 1006), (2, v_i ((t : Int) + 1)), (3, v_i ((e : Int) + 1)), (4, v_i (max (f : Int) (c : Int))), (5, v_i (e : Int)), (6, v_i (c : Int))]) (mm_dc od_X8_takeWord_0 48 rfl) rfl (by decide) rfl ?_
          refine mm_iinc (L' := [(0, v_r 24), (1, v_r 1006), (2, v_i ((t : Int) + 1)), (3, v_i ((e : Int) + 1)), (4, v_i (max (f : Int) (c : Int))), (5, v_i ((e : Int) + 1)), (6, v_i (c : Int))]) (mm_dc od_X8_takeWord_0 49 rfl) rfl (by decide) rfl ?_
          refine mm_goto 10 (mm_dc od_X8_takeWord_0 50 rfl) (by omega) ?_
          have hmx : max (f : Int) (c : Int) = ((max f c : Nat) : Int) := by omega
          have hst : (e : Int) + 1 = (wst 4 (t + 1) : Int) := by have := htf (by omega); omega
          refine mm_cL (L' := [(0, v_r 24), (1, v_r 1006), (2, v_i ((t + 1 : Nat) : Int)), (3, v_i (wst 4 (t + 1) : Int)), (4, v_i ((max f c : Nat) : Int)), (5, v_i (wst 4 (t + 1) : Int)), (6, v_i (c : Int))]) (by rw [hmx, hst]; rfl) ?_
          exact mm_less [0, 1, 2, 3, 4, 5] rfl (L_tw4 hJ hr k (t + 1) (max f c) (wst 4 (t + 1)) (by omega) (fun q => by have := htf (by omega); omega) (fun q => by rw [q]; exact wtK4) (fQ_s hF hc2 (by omega)))
        · refine mm_aload_n (mm_dc od_X8_takeWord_0 32 rfl) rfl ?_
          refine mm_dup_r (mm_dc od_X8_takeWord_0 33 rfl) ?_
          refine mm_getI (ci := 8) (k := 1) (mm_dc od_X8_takeWord_0 34 rfl) rfl in_X8 (by decide) wd_1_152 rfl rfl ?_
          refine mm_iload (mm_dc od_X8_takeWord_0 35 rfl) rfl ?_
          refine mm_iadd (mm_dc od_X8_takeWord_0 36 rfl) ?_
          refine mm_putI (ci := 8) (k := 1) (mm_dc od_X8_takeWord_0 37 rfl) rfl in_X8 tyX8_ok nmX8 (by decide) wd_1_152 rfl rfl rfl rfl ?_
          refine mm_iload_n (mm_dc od_X8_takeWord_0 38 rfl) rfl ?_
          refine mm_iret (mm_dc od_X8_takeWord_0 39 rfl) rfl ?_
          have hcw : c = wL 4 t := by omega
          rw [hcw] at hc2
          refine k _ _ c (fA_up hr (by omega)) (Or.inl ⟨t, by omega, rfl, hc2, hcw⟩)
termination_by 7 - e
decreasing_by all_goals (first | omega | (simp_wf; omega))
theorem c_tw4 {X : Nat × (Nat → Int)} {d : Nat} {Po : mm_Po} {M : mm_M} (hJ : JTp M) (hr : R32 M) (k : ∀ (N : mm_M) (r : Int) (adv : Nat), fA M N (M 24 1 + adv) → TW 4 3 (M 24 0) (M 25) (M 24 1).toNat r adv → Po (some (v_i r)) Lam N) : mm_G X (d + 5) 0 0 mi_X8_takeWord Po 0 [(0, v_r 24), (1, v_r 1006)] [] Lam M 0 0 := by
  refine mm_iconst (mm_dc od_X8_takeWord_0 0 rfl) ?_
  refine mm_istore_n (L' := [(0, v_r 24), (1, v_r 1006), (2, v_i 0)]) (mm_dc od_X8_takeWord_0 1 rfl) (by decide) rfl ?_
  refine mm_iconst (mm_dc od_X8_takeWord_0 2 rfl) ?_
  refine mm_istore_n (L' := [(0, v_r 24), (1, v_r 1006), (2, v_i 0), (3, v_i 0)]) (mm_dc od_X8_takeWord_0 3 rfl) (by decide) rfl ?_
  refine mm_iconst (mm_dc od_X8_takeWord_0 4 rfl) ?_
  refine mm_istore (L' := [(0, v_r 24), (1, v_r 1006), (2, v_i 0), (3, v_i 0), (4, v_i 0)]) (mm_dc od_X8_takeWord_0 5 rfl) (by decide) rfl ?_
  refine mm_iconst (mm_dc od_X8_takeWord_0 6 rfl) ?_
  refine mm_istore (L' := [(0, v_r 24), (1, v_r 1006), (2, v_i 0), (3, v_i 0), (4, v_i 0), (5, v_i 0)]) (mm_dc od_X8_takeWord_0 7 rfl) (by decide) rfl ?_
  refine mm_cL (L' := [(0, v_r 24), (1, v_r 1006), (2, v_i ((0 : Nat) : Int)), (3, v_i ((wst 4 0 : Nat) : Int)), (4, v_i ((0 : Nat) : Int)), (5, v_i ((0 : Nat) : Int))]) rfl ?_
  exact L_tw4 hJ hr k 0 0 0 (by omega) (fun q => by have := wtf4 0 q; exact ⟨by decide, by omega⟩) (fun q => by omega) ⟨fun u hu => by omega, Or.inl rfl⟩
theorem c_X8_skip {X : Nat × (Nat → Int)} {d : Nat} {Po : mm_Po} {M : mm_M} (ch : Int) (hc : mm_r32 ch) (hJ : JTp M) (hr : R32 M) (k1 : (M 24 1 < M 24 0 ∧ M 25 (M 24 1).toNat = ch) → Po (some (v_i 1)) Lam (mm_up M 24 1 (M 24 1 + 1))) (k2 : (¬ (M 24 1 < M 24 0 ∧ M 25 (M 24 1).toNat = ch)) → Po (some (v_i 0)) Lam M) : mm_E X (d + 1) 0 0 mi_X8_skip [v_r 24, v_i ch] Po Lam M := by
  show mm_G X (d + 1) 0 0 mi_X8_skip Po 0 [(0, v_r 24), (1, v_i ch)] [] Lam M 0 0
  have hJ2 := hJ
  obtain ⟨j1, j2, j3⟩ := hJ2
  refine mm_aload_n (mm_dc od_X8_skip_0 0 rfl) rfl ?_
  refine mm_callV (b := 24) (mi' := mi_X8_isAtEnd) [] [] (mm_dc od_X8_skip_0 1 rfl) rfl wd_3_162 wd_3_146 wd_3_147 wd_1_6 wd_3_148 yk_X8_isAtEnd rfl rfl rfl (Nat.le_of_ble_eq_true rfl) rfl (by decide) (c_X8_isAtEnd  (by first | omega | assumption | exact hr _ _ rfl) (fun c1 => ⟨Nat.le_refl _, ?_⟩) (fun c1 => ⟨Nat.le_refl _, ?_⟩))
  · refine mm_if_ne 20 (mm_dc od_X8_skip_0 2 rfl) (by omega) (by first | omega | assumption | exact hr _ _ rfl) (fun _ => ?_) (fun h => absurd h (by decide))
    refine mm_iconst (mm_dc od_X8_skip_0 10 rfl) ?_
    refine mm_zret .boolean (mm_dc od_X8_skip_0 11 rfl) rfl rfl ?_
    first | exact k2 (by first | assumption | omega) | (exfalso; omega)
  · refine mm_if_ne 20 (mm_dc od_X8_skip_0 2 rfl) (by omega) (by first | omega | assumption | exact hr _ _ rfl) (fun h => absurd h (by decide)) (fun _ => ?_)
    refine mm_aload_n (mm_dc od_X8_skip_0 3 rfl) rfl ?_
    refine mm_getR (ci := 8) (k := 2) (mm_dc od_X8_skip_0 4 rfl) rfl in_X8 (by decide) wd_1_155 rfl rfl ?_
    refine mm_aload_n (mm_dc od_X8_skip_0 5 rfl) rfl ?_
    refine mm_getI (ci := 8) (k := 1) (mm_dc od_X8_skip_0 6 rfl) rfl in_X8 (by decide) wd_1_152 rfl rfl ?_
    refine mm_iald (mm_dc od_X8_skip_0 7 rfl) rfl (by first | omega | assumption | exact hr _ _ rfl) (by first | omega | assumption | exact hr _ _ rfl) (by decide) ?_
    refine mm_iload_n (mm_dc od_X8_skip_0 8 rfl) rfl ?_
    refine mm_icmp_eq 22 (mm_dc od_X8_skip_0 9 rfl) (by omega) (by first | omega | assumption | exact hr _ _ rfl) (by first | omega | assumption | exact hr _ _ rfl) (fun c2 => ?_) (fun c2 => ?_)
    · refine mm_aload_n (mm_dc od_X8_skip_0 12 rfl) rfl ?_
      refine mm_dup_r (mm_dc od_X8_skip_0 13 rfl) ?_
      refine mm_getI (ci := 8) (k := 1) (mm_dc od_X8_skip_0 14 rfl) rfl in_X8 (by decide) wd_1_152 rfl rfl ?_
      refine mm_iconst (mm_dc od_X8_skip_0 15 rfl) ?_
      refine mm_iadd (mm_dc od_X8_skip_0 16 rfl) ?_
      refine mm_putI (ci := 8) (k := 1) (mm_dc od_X8_skip_0 17 rfl) rfl in_X8 tyX8_ok nmX8 (by decide) wd_1_152 rfl rfl rfl rfl ?_
      refine mm_iconst (mm_dc od_X8_skip_0 18 rfl) ?_
      refine mm_zret .boolean (mm_dc od_X8_skip_0 19 rfl) rfl rfl ?_
      first | exact k1 (by first | assumption | omega) | (exfalso; omega)
    · refine mm_iconst (mm_dc od_X8_skip_0 10 rfl) ?_
      refine mm_zret .boolean (mm_dc od_X8_skip_0 11 rfl) rfl rfl ?_
      first | exact k2 (by first | assumption | omega) | (exfalso; omega)
/-! numbers -/
def NQ (len : Int) (tp : Nat → Int) (p c : Nat) : Prop := c ≤ 3 ∧ (∀ k, k < c → ((p + k : Nat) : Int) < len ∧ 48 ≤ tp (p + k) ∧ tp (p + k) ≤ 57) ∧ (c < 3 → ¬ (((p + c : Nat) : Int) < len ∧ 48 ≤ tp (p + c) ∧ tp (p + c) ≤ 57))
def nv (tp : Nat → Int) (p : Nat) : Nat → Int
  | 0 => 0
  | k + 1 => 10 * nv tp p k + tp (p + k) - 48
def nvB : Nat → Int
  | 0 => 0
  | k + 1 => 10 * nvB k + 9
theorem nv_r {tp : Nat → Int} {p : Nat} : ∀ c : Nat, (∀ k, k < c → 48 ≤ tp (p + k) ∧ tp (p + k) ≤ 57) → 0 ≤ nv tp p c ∧ nv tp p c ≤ nvB c
  | 0, _ => by simp [nv, nvB]
  | c + 1, h => by
    have ih := nv_r c (fun k hk => h k (by omega))
    have h1 := h c (by omega)
    simp only [nv, nvB]; omega
theorem nvB_r {c : Nat} (h : c ≤ 3) : nvB c ≤ 999 := by
  rcases (show c = 0 ∨ c = 1 ∨ c = 2 ∨ c = 3 by omega) with rfl | rfl | rfl | rfl <;> decide
theorem L_tn4 {X : Nat × (Nat → Int)} {d : Nat} {Po : mm_Po} {M : mm_M} {B : mm_M} (p : Nat) (hp : (p : Int) ≤ B 24 0) (hp2 : B 24 0 ≤ 120) (hl : True) (k : ∀ (N : mm_M) (c : Nat), fA B N ((p + c : Nat) : Int) → NQ (B 24 0) (B 25) p c → Po (some (v_i (if c = 0 then -1 else nv (B 25) p c))) Lam N) (j : Nat) (x : Int) (hj : j ≤ 3) (hx : x = if j = 0 then -1 else nv (B 25) p j) (hN : fA B M ((p + j : Nat) : Int)) (hm : ∀ q, q < j → ((p + q : Nat) : Int) < B 24 0 ∧ 48 ≤ B 25 (p + q) ∧ B 25 (p + q) ≤ 57) : mm_G X (d + 1) 0 0 mi_X8_takeNumber Po 4 [(0, v_r 24), (1, v_i x), (2, v_i (j : Int))] [] Lam M 0 0 := by
  have hr := hN.1
  have h25 : M 25 = B 25 := hN.2.1 25 (by decide)
  have hat := hN.2.2.2
  have hlen := hN.2.2.1
  have hat2 : (M 24 1).toNat = p + j := (by rw [hat]; omega)
  have hnr := nv_r (tp := B 25) (p := p) j (fun q hq => (hm q hq).2)
  have hnB := nvB_r hj
  have hx0 : -1 ≤ x ∧ x ≤ 999 := (by rw [hx]; split <;> omega)
  have hmx0 : max x 0 = nv (B 25) p j := (by
    by_cases e : j = 0
    · subst e; rw [hx, if_pos rfl]; show max (-1 : Int) 0 = 0; decide
    · rw [hx, if_neg e]; omega)
  refine mm_iload_n (mm_dc od_X8_takeNumber_0 4 rfl) rfl ?_
  refine mm_iconst (mm_dc od_X8_takeNumber_0 5 rfl) ?_
  refine mm_icmp_ge 77 (mm_dc od_X8_takeNumber_0 6 rfl) (by omega) (by first | omega | assumption | exact hr _ _ rfl) (by first | omega | assumption | exact hr _ _ rfl) (fun c1 => ?_) (fun c1 => ?_)
  · refine mm_iload_n (mm_dc od_X8_takeNumber_0 43 rfl) rfl ?_
    refine mm_iret (mm_dc od_X8_takeNumber_0 44 rfl) rfl ?_
    refine mm_pi hx (k _ j hN ⟨hj, hm, fun q1 q2 => ?_⟩)
    have hq1 := q2.1
    have hq2 := q2.2
    rw [← h25, ← hat2] at hq2
    omega
  · refine mm_aload_n (mm_dc od_X8_takeNumber_0 7 rfl) rfl ?_
    refine mm_getI (ci := 8) (k := 1) (mm_dc od_X8_takeNumber_0 8 rfl) rfl in_X8 (by decide) wd_1_152 rfl rfl ?_
    refine mm_aload_n (mm_dc od_X8_takeNumber_0 9 rfl) rfl ?_
    refine mm_getI (ci := 8) (k := 0) (mm_dc od_X8_takeNumber_0 10 rfl) rfl in_X8 (by decide) wd_1_150 rfl rfl ?_
    refine mm_icmp_ge 77 (mm_dc od_X8_takeNumber_0 11 rfl) (by omega) (by first | omega | assumption | exact hr _ _ rfl) (by first | omega | assumption | exact hr _ _ rfl) (fun c2 => ?_) (fun c2 => ?_)
    · refine mm_iload_n (mm_dc od_X8_takeNumber_0 43 rfl) rfl ?_
      refine mm_iret (mm_dc od_X8_takeNumber_0 44 rfl) rfl ?_
      refine mm_pi hx (k _ j hN ⟨hj, hm, fun q1 q2 => ?_⟩)
      have hq1 := q2.1
      have hq2 := q2.2
      rw [← h25, ← hat2] at hq2
      omega
    · refine mm_aload_n (mm_dc od_X8_takeNumber_0 12 rfl) rfl ?_
      refine mm_getR (ci := 8) (k := 2) (mm_dc od_X8_takeNumber_0 13 rfl) rfl in_X8 (by decide) wd_1_155 rfl rfl ?_
      refine mm_aload_n (mm_dc od_X8_takeNumber_0 14 rfl) rfl ?_
      refine mm_getI (ci := 8) (k := 1) (mm_dc od_X8_takeNumber_0 15 rfl) rfl in_X8 (by decide) wd_1_152 rfl rfl ?_
      refine mm_iald (mm_dc od_X8_takeNumber_0 16 rfl) rfl (by first | omega | assumption | exact hr _ _ rfl) (by first | omega | assumption | exact hr _ _ rfl) (by decide) ?_
      refine mm_bipush (mm_dc od_X8_takeNumber_0 17 rfl) (by decide) ?_
      refine mm_bipush (mm_dc od_X8_takeNumber_0 18 rfl) (by decide) ?_
      refine mm_callN (mi' := mi_X9_within) [v_i (M 25 (Int.toNat (M 24 1))), v_i 48, v_i 57] [] (mm_dc od_X8_takeNumber_0 19 rfl) rfl (List.mem_of_getElem? (i := 11) rfl) wd_2_81 wd_1_1 wd_2_82 yk_X9_within (Nat.le_of_ble_eq_true rfl) rfl (by decide) (c_X9_within (M 25 (Int.toNat (M 24 1))) 48 57 (by first | omega | assumption | exact hr _ _ rfl) (by first | omega | assumption | exact hr _ _ rfl) (by first | omega | assumption | exact hr _ _ rfl) (fun c3 => ⟨Nat.le_refl _, ?_⟩) (fun c3 => ⟨Nat.le_refl _, ?_⟩))
      · refine mm_if_eq 77 (mm_dc od_X8_takeNumber_0 20 rfl) (by omega) (by first | omega | assumption | exact hr _ _ rfl) (fun h => absurd h (by decide)) (fun _ => ?_)
        refine mm_bipush (mm_dc od_X8_takeNumber_0 21 rfl) (by decide) ?_
        refine mm_iload_n (mm_dc od_X8_takeNumber_0 22 rfl) rfl ?_
        refine mm_iconst (mm_dc od_X8_takeNumber_0 23 rfl) ?_
        refine mm_mmax (mm_dc od_X8_takeNumber_0 24 rfl) wd_3_141 wd_3_142 wd_1_14 wd_3_143 (by first | omega | assumption | exact hr _ _ rfl) (by first | omega | assumption | exact hr _ _ rfl) (Nat.le_of_ble_eq_true rfl) ?_
        refine mm_imul (mm_dc od_X8_takeNumber_0 25 rfl) ?_
        refine mm_aload_n (mm_dc od_X8_takeNumber_0 26 rfl) rfl ?_
        refine mm_getR (ci := 8) (k := 2) (mm_dc od_X8_takeNumber_0 27 rfl) rfl in_X8 (by decide) wd_1_155 rfl rfl ?_
        refine mm_aload_n (mm_dc od_X8_takeNumber_0 28 rfl) rfl ?_
        refine mm_getI (ci := 8) (k := 1) (mm_dc od_X8_takeNumber_0 29 rfl) rfl in_X8 (by decide) wd_1_152 rfl rfl ?_
        refine mm_iald (mm_dc od_X8_takeNumber_0 30 rfl) rfl (by first | omega | assumption | exact hr _ _ rfl) (by first | omega | assumption | exact hr _ _ rfl) (by decide) ?_
        refine mm_iadd (mm_dc od_X8_takeNumber_0 31 rfl) ?_
        refine mm_bipush (mm_dc od_X8_takeNumber_0 32 rfl) (by decide) ?_
        refine mm_isub (mm_dc od_X8_takeNumber_0 33 rfl) ?_
        refine mm_istore_n (L' := [(0, v_r 24), (1, v_i (((10 * (max x 0)) + (M 25 (Int.toNat (M 24 1)))) - 48)), (2, v_i (j : Int))]) (mm_dc od_X8_takeNumber_0 34 rfl) (by decide) rfl ?_
        refine mm_aload_n (mm_dc od_X8_takeNumber_0 35 rfl) rfl ?_
        refine mm_dup_r (mm_dc od_X8_takeNumber_0 36 rfl) ?_
        refine mm_getI (ci := 8) (k := 1) (mm_dc od_X8_takeNumber_0 37 rfl) rfl in_X8 (by decide) wd_1_152 rfl rfl ?_
        refine mm_iconst (mm_dc od_X8_takeNumber_0 38 rfl) ?_
        refine mm_iadd (mm_dc od_X8_takeNumber_0 39 rfl) ?_
        refine mm_putI (ci := 8) (k := 1) (mm_dc od_X8_takeNumber_0 40 rfl) rfl in_X8 tyX8_ok nmX8 (by decide) wd_1_152 rfl rfl rfl rfl ?_
        refine mm_iinc (L' := [(0, v_r 24), (1, v_i (((10 * (max x 0)) + (M 25 (Int.toNat (M 24 1)))) - 48)), (2, v_i ((j : Int) + 1))]) (mm_dc od_X8_takeNumber_0 41 rfl) rfl (by decide) rfl ?_
        refine mm_goto 4 (mm_dc od_X8_takeNumber_0 42 rfl) (by omega) ?_
        have hvn : (10 * max x 0 + M 25 (M 24 1).toNat) - 48 = nv (B 25) p (j + 1) := by
          simp only [nv]
          rw [h25, hat2, hmx0]
        refine mm_cL (L' := [(0, v_r 24), (1, v_i (nv (B 25) p (j + 1))), (2, v_i ((j + 1 : Nat) : Int))]) (by rw [hvn]; rfl) ?_
        exact L_tn4 p hp hp2 hl k (j + 1) (nv (B 25) p (j + 1)) (by omega) (by rw [if_neg (by omega)]) (by
          have h := fA_tr hN (fA_up (a := M 24 1 + 1) hr (by omega))
          rw [show ((p + (j + 1) : Nat) : Int) = M 24 1 + 1 by omega]
          exact h) (fun q hq => by
          by_cases e : q = j
          · subst e; exact ⟨by omega, by rw [← h25, ← hat2]; omega⟩
          · exact hm q (by omega))
      · refine mm_if_eq 77 (mm_dc od_X8_takeNumber_0 20 rfl) (by omega) (by first | omega | assumption | exact hr _ _ rfl) (fun _ => ?_) (fun h => absurd h (by decide))
        refine mm_iload_n (mm_dc od_X8_takeNumber_0 43 rfl) rfl ?_
        refine mm_iret (mm_dc od_X8_takeNumber_0 44 rfl) rfl ?_
        refine mm_pi hx (k _ j hN ⟨hj, hm, fun q1 q2 => ?_⟩)
        have hq1 := q2.1
        have hq2 := q2.2
        rw [← h25, ← hat2] at hq2
        omega
termination_by 3 - j
decreasing_by all_goals (first | omega | (simp_wf; omega))
theorem c_tn {X : Nat × (Nat → Int)} {d : Nat} {Po : mm_Po} {M : mm_M} (hJ : JTp M) (hr : R32 M) (k : ∀ (N : mm_M) (c : Nat), fA M N (M 24 1 + c) → NQ (M 24 0) (M 25) (M 24 1).toNat c → Po (some (v_i (if c = 0 then -1 else nv (M 25) (M 24 1).toNat c))) Lam N) : mm_G X (d + 1) 0 0 mi_X8_takeNumber Po 0 [(0, v_r 24)] [] Lam M 0 0 := by
  refine mm_iconst (mm_dc od_X8_takeNumber_0 0 rfl) ?_
  refine mm_istore_n (L' := [(0, v_r 24), (1, v_i (-1))]) (mm_dc od_X8_takeNumber_0 1 rfl) (by decide) rfl ?_
  refine mm_iconst (mm_dc od_X8_takeNumber_0 2 rfl) ?_
  refine mm_istore_n (L' := [(0, v_r 24), (1, v_i (-1)), (2, v_i 0)]) (mm_dc od_X8_takeNumber_0 3 rfl) (by decide) rfl ?_
  obtain ⟨j1, j2, j3⟩ := hJ
  exact L_tn4 (B := M) (M 24 1).toNat (by omega) (by omega) trivial (fun N c h1 h2 => k N c (by rw [show M 24 1 + (c : Int) = (((M 24 1).toNat + c : Nat) : Int) by omega]; exact h1) h2) 0 (-1) (by omega) rfl (by have h := fA_0 hr; rw [show (((M 24 1).toNat + 0 : Nat) : Int) = M 24 1 by omega]; exact h) (fun q hq => by omega)
