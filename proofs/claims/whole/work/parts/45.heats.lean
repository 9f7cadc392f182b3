theorem mm_ti (x : Int32) : mm_r32 x.toInt := ⟨by have := Int32.le_toInt x; omega, by have := Int32.toInt_lt x; omega⟩
/-! heats -/
def JH (M : mm_M) : Prop := 0 ≤ M 43 0 ∧ M 43 0 ≤ 20 ∧ 0 ≤ M 43 1 ∧ M 43 1 ≤ 999 ∧ ∀ i : Nat, (i : Int) < M 43 0 → (0 ≤ M 44 i ∧ M 44 i < 8) ∧ (0 ≤ M 45 i ∧ M 45 i ≤ 1439)
def JHm (M : mm_M) : Prop := 0 ≤ M 50 48 ∧ M 50 48 ≤ 20 ∧ 0 ≤ M 50 49 ∧ M 50 49 ≤ 999 ∧ ∀ i : Nat, (i : Int) < M 50 48 → (0 ≤ M 86 i ∧ M 86 i < 8) ∧ (0 ≤ M 87 i ∧ M 87 i ≤ 1439)
theorem inv_JH {M : mm_M} (hI : inv M) : JH M ∧ JHm M := by
  have hI0 := hI
  obtain ⟨hr, hJo, hJb, hJr, hJom, hJbm, v0, v1, v2, v3, v4, v5, v6, v7, v8, v9⟩ := hI0
  have jo := hJo; have jb := hJb; have jr := hJr; have jom := hJom; have jbm := hJbm
  obtain ⟨ho0, ho16, hO⟩ := jo
  obtain ⟨hb0, hb8, hB⟩ := jb
  obtain ⟨hr0, hr40, hRr⟩ := jr
  obtain ⟨go0, go16, gO⟩ := jom
  obtain ⟨gb0, gb8, gB⟩ := jbm
  have w1 := v1.1; have w2 := v2.1; have w3 := v3.1; have w4 := v4.1; have w5 := v5.1; have w6 := v6.1; have w7 := v7.1.1; have w7b := v7.2.1.1; have w8 := v8.1; have w8b := v8.2.2.2.1
  obtain ⟨x1, x2, x3, x4, x5, x6, x7⟩ := v8
  refine ⟨⟨x2, x3, x5, x6, fun i hi => ?_⟩, ⟨by omega, by omega, by omega, by omega, fun i hi => ?_⟩⟩
  · have h := x7 i hi
    omega
  · have h := x7 i (by omega)
    omega
/-- whether two heats would clash, the first being at a minute -/
def clQ (bo sa : Nat → Int) (ap : Int) (h : Nat) (mi : Int) (o : Nat) : Bool := decide (bo h = bo o ∧ mi - sa o < ap ∧ sa o - mi < ap)
theorem c_X2_wouldClash {X : Nat × (Nat → Int)} {d : Nat} {Po : mm_Po} {M : mm_M} (h : Int) (mi : Int) (o : Int) (h0 : 0 ≤ h ∧ h < M 43 0) (h1 : 0 ≤ mi ∧ mi ≤ 3000) (h2 : 0 ≤ o ∧ o < M 43 0) (hJh : JH M) (hr : R32 M) (kt : h ≠ o ∧ M 44 h.toNat = M 44 o.toNat ∧ mi - M 45 o.toNat < M 43 1 ∧ M 45 o.toNat - mi < M 43 1 → Po (some (v_i 1)) Lam M) (kf : ¬ (h ≠ o ∧ M 44 h.toNat = M 44 o.toNat ∧ mi - M 45 o.toNat < M 43 1 ∧ M 45 o.toNat - mi < M 43 1) → Po (some (v_i 0)) Lam M) : mm_E X d 0 0 mi_X2_wouldClash [v_r 43, v_i h, v_i mi, v_i o] Po Lam M := by
  show mm_G X d 0 0 mi_X2_wouldClash Po 0 [(0, v_r 43), (1, v_i h), (2, v_i mi), (3, v_i o)] [] Lam M 0 0
  have hJh2 := hJh
  obtain ⟨hh0, hh20, ha0, ha9, hH⟩ := hJh2
  have hH1 := hH h.toNat
  have hH2 := hH o.toNat
  refine mm_iload_n (mm_dc od_X2_wouldClash_0 0 rfl) rfl ?_
  refine mm_iload_n (mm_dc od_X2_wouldClash_0 1 rfl) rfl ?_
  refine mm_icmp_eq 42 (mm_dc od_X2_wouldClash_0 2 rfl) (by omega) (by first | assumption | omega | exact hr _ _ rfl | exact mm_ti _ | exact mm_r3264 (hr _ _ rfl)) (by first | assumption | omega | exact hr _ _ rfl | exact mm_ti _ | exact mm_r3264 (hr _ _ rfl)) (fun c1 => ?_) (fun c1 => ?_)
  · refine mm_iconst (mm_dc od_X2_wouldClash_0 24 rfl) ?_
    refine mm_zret .boolean (mm_dc od_X2_wouldClash_0 25 rfl) rfl rfl ?_
    exact kf (by first | assumption | omega)
  · refine mm_aload_n (mm_dc od_X2_wouldClash_0 3 rfl) rfl ?_
    refine mm_getR (ci := 2) (k := 2) (mm_dc od_X2_wouldClash_0 4 rfl) rfl in_X2 (by decide) wd_2_11 rfl rfl ?_
    refine mm_iload_n (mm_dc od_X2_wouldClash_0 5 rfl) rfl ?_
    refine mm_iald (mm_dc od_X2_wouldClash_0 6 rfl) rfl (by first | assumption | omega | exact hr _ _ rfl | exact mm_ti _ | exact mm_r3264 (hr _ _ rfl)) (by first | assumption | omega | exact hr _ _ rfl | exact mm_ti _ | exact mm_r3264 (hr _ _ rfl)) (by decide) ?_
    refine mm_aload_n (mm_dc od_X2_wouldClash_0 7 rfl) rfl ?_
    refine mm_getR (ci := 2) (k := 2) (mm_dc od_X2_wouldClash_0 8 rfl) rfl in_X2 (by decide) wd_2_11 rfl rfl ?_
    refine mm_iload_n (mm_dc od_X2_wouldClash_0 9 rfl) rfl ?_
    refine mm_iald (mm_dc od_X2_wouldClash_0 10 rfl) rfl (by first | assumption | omega | exact hr _ _ rfl | exact mm_ti _ | exact mm_r3264 (hr _ _ rfl)) (by first | assumption | omega | exact hr _ _ rfl | exact mm_ti _ | exact mm_r3264 (hr _ _ rfl)) (by decide) ?_
    refine mm_icmp_ne 42 (mm_dc od_X2_wouldClash_0 11 rfl) (by omega) (by first | assumption | omega | exact hr _ _ rfl | exact mm_ti _ | exact mm_r3264 (hr _ _ rfl)) (by first | assumption | omega | exact hr _ _ rfl | exact mm_ti _ | exact mm_r3264 (hr _ _ rfl)) (fun c2 => ?_) (fun c2 => ?_)
    · refine mm_iconst (mm_dc od_X2_wouldClash_0 24 rfl) ?_
      refine mm_zret .boolean (mm_dc od_X2_wouldClash_0 25 rfl) rfl rfl ?_
      exact kf (by first | assumption | omega)
    · refine mm_iload_n (mm_dc od_X2_wouldClash_0 12 rfl) rfl ?_
      refine mm_aload_n (mm_dc od_X2_wouldClash_0 13 rfl) rfl ?_
      refine mm_getR (ci := 2) (k := 3) (mm_dc od_X2_wouldClash_0 14 rfl) rfl in_X2 (by decide) wd_2_12 rfl rfl ?_
      refine mm_iload_n (mm_dc od_X2_wouldClash_0 15 rfl) rfl ?_
      refine mm_iald (mm_dc od_X2_wouldClash_0 16 rfl) rfl (by first | assumption | omega | exact hr _ _ rfl | exact mm_ti _ | exact mm_r3264 (hr _ _ rfl)) (by first | assumption | omega | exact hr _ _ rfl | exact mm_ti _ | exact mm_r3264 (hr _ _ rfl)) (by decide) ?_
      refine mm_isub (mm_dc od_X2_wouldClash_0 17 rfl) ?_
      refine mm_mabs (mm_dc od_X2_wouldClash_0 18 rfl) wd_4_65 wd_4_66 wd_1_14 wd_4_67 (by first | assumption | omega | exact hr _ _ rfl | exact mm_ti _ | exact mm_r3264 (hr _ _ rfl)) (Nat.le_of_ble_eq_true rfl) ?_
      refine mm_aload_n (mm_dc od_X2_wouldClash_0 19 rfl) rfl ?_
      refine mm_getI (ci := 2) (k := 1) (mm_dc od_X2_wouldClash_0 20 rfl) rfl in_X2 (by decide) wd_2_9 rfl rfl ?_
      refine mm_icmp_ge 42 (mm_dc od_X2_wouldClash_0 21 rfl) (by omega) (by first | assumption | omega | exact hr _ _ rfl | exact mm_ti _ | exact mm_r3264 (hr _ _ rfl)) (by first | assumption | omega | exact hr _ _ rfl | exact mm_ti _ | exact mm_r3264 (hr _ _ rfl)) (fun c3 => ?_) (fun c3 => ?_)
      · refine mm_iconst (mm_dc od_X2_wouldClash_0 24 rfl) ?_
        refine mm_zret .boolean (mm_dc od_X2_wouldClash_0 25 rfl) rfl rfl ?_
        exact kf (by first | assumption | omega)
      · refine mm_iconst (mm_dc od_X2_wouldClash_0 22 rfl) ?_
        refine mm_goto 43 (mm_dc od_X2_wouldClash_0 23 rfl) (by omega) ?_
        refine mm_zret .boolean (mm_dc od_X2_wouldClash_0 25 rfl) rfl rfl ?_
        exact kt (by first | assumption | omega)
theorem L_cpi {X : Nat × (Nat → Int)} {d : Nat} {Po : mm_Po} {M : mm_M} (i : Nat) (hi : (i : Int) < M 43 0) (hJh : JH M) (hr : R32 M) (t : Int) (ht : 0 ≤ t ∧ t ≤ 400) (K : mm_G X (d + 1) 0 0 mi_X2_clashingPairs Po 43 [(0, v_r 43), (1, v_i (t + rowc (fun j => clQ (M 44) (M 45) (M 43 1) i (M 45 i) j) i)), (2, v_i (i : Int))] [] Lam M 0 0) (j : Nat) (hj : j ≤ i) : mm_G X (d + 1) 0 0 mi_X2_clashingPairs Po 14 [(0, v_r 43), (1, v_i (t + rowc (fun j => clQ (M 44) (M 45) (M 43 1) i (M 45 i) j) j)), (2, v_i (i : Int)), (3, v_i (j : Int))] [] Lam M 0 0 := by
  have hJh2 := hJh
  obtain ⟨hh0, hh20, ha0, ha9, hH⟩ := hJh2
  have hH1 := hH i hi
  have hrc := rowc_r (fun j => clQ (M 44) (M 45) (M 43 1) i (M 45 i) j) j
  refine mm_iload_n (mm_dc od_X2_clashingPairs_0 10 rfl) rfl ?_
  refine mm_iload_n (mm_dc od_X2_clashingPairs_0 11 rfl) rfl ?_
  refine mm_icmp_ge 43 (mm_dc od_X2_clashingPairs_0 12 rfl) (by omega) (by first | assumption | omega | exact hr _ _ rfl | exact mm_ti _ | exact mm_r3264 (hr _ _ rfl)) (by first | assumption | omega | exact hr _ _ rfl | exact mm_ti _ | exact mm_r3264 (hr _ _ rfl)) (fun c1 => ?_) (fun c1 => ?_)
  · have e : j = i := by omega
    subst e
    exact mm_less [0, 1, 2] rfl K
  · refine mm_aload_n (mm_dc od_X2_clashingPairs_0 13 rfl) rfl ?_
    refine mm_iload_n (mm_dc od_X2_clashingPairs_0 14 rfl) rfl ?_
    refine mm_aload_n (mm_dc od_X2_clashingPairs_0 15 rfl) rfl ?_
    refine mm_getR (ci := 2) (k := 3) (mm_dc od_X2_clashingPairs_0 16 rfl) rfl in_X2 (by decide) wd_2_12 rfl rfl ?_
    refine mm_iload_n (mm_dc od_X2_clashingPairs_0 17 rfl) rfl ?_
    refine mm_iald (mm_dc od_X2_clashingPairs_0 18 rfl) rfl (by first | assumption | omega | exact hr _ _ rfl | exact mm_ti _ | exact mm_r3264 (hr _ _ rfl)) (by first | assumption | omega | exact hr _ _ rfl | exact mm_ti _ | exact mm_r3264 (hr _ _ rfl)) (by decide) ?_
    refine mm_cst (st' := [v_i (M 45 i), v_i (i : Int), v_r 43]) rfl ?_
    refine mm_iload_n (mm_dc od_X2_clashingPairs_0 19 rfl) rfl ?_
    refine mm_callV (b := 43) (mi' := mi_X2_wouldClash) [v_i (i : Int), v_i (M 45 i), v_i (j : Int)] [] (mm_dc od_X2_clashingPairs_0 20 rfl) rfl wd_4_61 wd_4_63 wd_p_18 wd_1_9 wd_4_64 yk_X2_wouldClash rfl rfl rfl (Nat.le_of_ble_eq_true rfl) rfl (by decide) (c_X2_wouldClash (i : Int) (M 45 i) (j : Int) (by first | assumption | omega | exact hr _ _ rfl | exact mm_ti _ | exact mm_r3264 (hr _ _ rfl)) (by first | assumption | omega | exact hr _ _ rfl | exact mm_ti _ | exact mm_r3264 (hr _ _ rfl)) (by first | assumption | omega | exact hr _ _ rfl | exact mm_ti _ | exact mm_r3264 (hr _ _ rfl)) hJh (by first | assumption | omega | exact hr _ _ rfl | exact mm_ti _ | exact mm_r3264 (hr _ _ rfl)) (fun c2 => ⟨Nat.le_refl _, ?_⟩) (fun c2 => ⟨Nat.le_refl _, ?_⟩))
    · simp only [Int.toNat_natCast] at c2
      refine mm_if_eq 37 (mm_dc od_X2_clashingPairs_0 21 rfl) (by omega) (by first | assumption | omega | exact hr _ _ rfl | exact mm_ti _ | exact mm_r3264 (hr _ _ rfl)) (fun h => absurd h (by decide)) (fun _ => ?_)
      refine mm_iinc (L' := [(0, v_r 43), (1, v_i ((t + rowc (fun j => clQ (M 44) (M 45) (M 43 1) i (M 45 i) j) j) + 1)), (2, v_i (i : Int)), (3, v_i (j : Int))]) (mm_dc od_X2_clashingPairs_0 22 rfl) rfl (by decide) rfl ?_
      refine mm_iinc (L' := [(0, v_r 43), (1, v_i ((t + rowc (fun j => clQ (M 44) (M 45) (M 43 1) i (M 45 i) j) j) + 1)), (2, v_i (i : Int)), (3, v_i ((j : Int) + 1))]) (mm_dc od_X2_clashingPairs_0 23 rfl) rfl (by decide) rfl ?_
      refine mm_goto 14 (mm_dc od_X2_clashingPairs_0 24 rfl) (by omega) ?_
      refine mm_cL (L' := [(0, v_r 43), (1, v_i (t + rowc (fun j => clQ (M 44) (M 45) (M 43 1) i (M 45 i) j) (j + 1))), (2, v_i (i : Int)), (3, v_i ((j : Int) + 1))]) (by rw [← rowc_t (by simp only [clQ, decide_eq_true_eq]; omega)]) ?_
      exact L_cpi i hi hJh hr t ht K (j + 1) (by omega)
    · simp only [Int.toNat_natCast] at c2
      refine mm_if_eq 37 (mm_dc od_X2_clashingPairs_0 21 rfl) (by omega) (by first | assumption | omega | exact hr _ _ rfl | exact mm_ti _ | exact mm_r3264 (hr _ _ rfl)) (fun _ => ?_) (fun h => absurd h (by decide))
      refine mm_iinc (L' := [(0, v_r 43), (1, v_i (t + rowc (fun j => clQ (M 44) (M 45) (M 43 1) i (M 45 i) j) j)), (2, v_i (i : Int)), (3, v_i ((j : Int) + 1))]) (mm_dc od_X2_clashingPairs_0 23 rfl) rfl (by decide) rfl ?_
      refine mm_goto 14 (mm_dc od_X2_clashingPairs_0 24 rfl) (by omega) ?_
      refine mm_cL (L' := [(0, v_r 43), (1, v_i (t + rowc (fun j => clQ (M 44) (M 45) (M 43 1) i (M 45 i) j) (j + 1))), (2, v_i (i : Int)), (3, v_i ((j : Int) + 1))]) (by rw [← rowc_f (by simp only [clQ, decide_eq_false_iff_not]; omega)]) ?_
      exact L_cpi i hi hJh hr t ht K (j + 1) (by omega)
termination_by i - j
decreasing_by all_goals (first | omega | (simp_wf; omega))
theorem L_cpk {X : Nat × (Nat → Int)} {d : Nat} {Po : mm_Po} {M : mm_M} (i : Nat) (hi : (i : Int) < M 43 0) (hJh : JH M) (t : Int) (K : mm_G X (d + 1) 0 0 mi_X2_clashingPairs Po 4 [(0, v_r 43), (1, v_i t), (2, v_i ((i : Int) + 1))] [] Lam M 0 0) : mm_G X (d + 1) 0 0 mi_X2_clashingPairs Po 43 [(0, v_r 43), (1, v_i t), (2, v_i (i : Int))] [] Lam M 0 0 := by
  have hJh2 := hJh
  obtain ⟨hh0, hh20, ha0, ha9, hH⟩ := hJh2
  refine mm_iinc (L' := [(0, v_r 43), (1, v_i t), (2, v_i ((i : Int) + 1))]) (mm_dc od_X2_clashingPairs_0 25 rfl) rfl (by decide) rfl ?_
  refine mm_goto 4 (mm_dc od_X2_clashingPairs_0 26 rfl) (by omega) ?_
  exact K
theorem L_cpo {X : Nat × (Nat → Int)} {d : Nat} {Po : mm_Po} {M : mm_M} (hJh : JH M) (hr : R32 M) (k : Po (some (v_i (totc (fun i j => clQ (M 44) (M 45) (M 43 1) i (M 45 i) j) (M 43 0).toNat))) Lam M) (i : Nat) (hi : (i : Int) ≤ M 43 0) : mm_G X (d + 1) 0 0 mi_X2_clashingPairs Po 4 [(0, v_r 43), (1, v_i (totc (fun i j => clQ (M 44) (M 45) (M 43 1) i (M 45 i) j) i)), (2, v_i (i : Int))] [] Lam M 0 0 := by
  have hJh2 := hJh
  obtain ⟨hh0, hh20, ha0, ha9, hH⟩ := hJh2
  have htc := totc_r (fun i j => clQ (M 44) (M 45) (M 43 1) i (M 45 i) j) i
  have hii : (i : Int) * i ≤ 400 := (by have h1 : (i : Int) ≤ 20 := (by omega); exact Int.le_trans (Int.mul_le_mul h1 h1 (by omega) (by decide)) (by decide))
  refine mm_iload_n (mm_dc od_X2_clashingPairs_0 4 rfl) rfl ?_
  refine mm_aload_n (mm_dc od_X2_clashingPairs_0 5 rfl) rfl ?_
  refine mm_getI (ci := 2) (k := 0) (mm_dc od_X2_clashingPairs_0 6 rfl) rfl in_X2 (by decide) wd_2_7 rfl rfl ?_
  refine mm_icmp_ge 49 (mm_dc od_X2_clashingPairs_0 7 rfl) (by omega) (by first | assumption | omega | exact hr _ _ rfl | exact mm_ti _ | exact mm_r3264 (hr _ _ rfl)) (by first | assumption | omega | exact hr _ _ rfl | exact mm_ti _ | exact mm_r3264 (hr _ _ rfl)) (fun c1 => ?_) (fun c1 => ?_)
  · refine mm_iload_n (mm_dc od_X2_clashingPairs_0 27 rfl) rfl ?_
    refine mm_iret (mm_dc od_X2_clashingPairs_0 28 rfl) rfl ?_
    exact mm_pi (by have e : (M 43 0).toNat = i := (by omega); rw [e]) k
  · refine mm_iconst (mm_dc od_X2_clashingPairs_0 8 rfl) ?_
    refine mm_istore_n (L' := [(0, v_r 43), (1, v_i (totc (fun i j => clQ (M 44) (M 45) (M 43 1) i (M 45 i) j) i)), (2, v_i (i : Int)), (3, v_i 0)]) (mm_dc od_X2_clashingPairs_0 9 rfl) (by decide) rfl ?_
    refine mm_cL (L' := [(0, v_r 43), (1, v_i (totc (fun i j => clQ (M 44) (M 45) (M 43 1) i (M 45 i) j) i + rowc (fun j => clQ (M 44) (M 45) (M 43 1) i (M 45 i) j) 0)), (2, v_i (i : Int)), (3, v_i ((0 : Nat) : Int))]) (by simp [rowc]) ?_
    exact L_cpi i (by omega) hJh hr (totc (fun i j => clQ (M 44) (M 45) (M 43 1) i (M 45 i) j) i) (by omega) (L_cpk i (by omega) hJh _ (L_cpo hJh hr k (i + 1) (by omega))) 0 (by omega)
termination_by (M 43 0).toNat - i
decreasing_by all_goals (first | omega | (simp_wf; omega))
theorem c_X2_clashingPairs {X : Nat × (Nat → Int)} {d : Nat} {Po : mm_Po} {M : mm_M}  (hJh : JH M) (hr : R32 M) (k : Po (some (v_i (totc (fun i j => clQ (M 44) (M 45) (M 43 1) i (M 45 i) j) (M 43 0).toNat))) Lam M) : mm_E X (d + 1) 0 0 mi_X2_clashingPairs [v_r 43] Po Lam M := by
  show mm_G X (d + 1) 0 0 mi_X2_clashingPairs Po 0 [(0, v_r 43)] [] Lam M 0 0
  refine mm_iconst (mm_dc od_X2_clashingPairs_0 0 rfl) ?_
  refine mm_istore_n (L' := [(0, v_r 43), (1, v_i 0)]) (mm_dc od_X2_clashingPairs_0 1 rfl) (by decide) rfl ?_
  refine mm_iconst (mm_dc od_X2_clashingPairs_0 2 rfl) ?_
  refine mm_istore_n (L' := [(0, v_r 43), (1, v_i 0), (2, v_i 0)]) (mm_dc od_X2_clashingPairs_0 3 rfl) (by decide) rfl ?_
  exact L_cpo hJh hr k 0 (by have := hJh.1; omega)
theorem c_X9_clashes {X : Nat × (Nat → Int)} {d : Nat} {Po : mm_Po} {M : mm_M}  (hJh : JH M) (hr : R32 M) (k : Po (some (v_i (totc (fun i j => clQ (M 44) (M 45) (M 43 1) i (M 45 i) j) (M 43 0).toNat))) Lam M) : mm_E X (d + 2) 0 0 mi_X9_clashes [v_r 0] Po Lam M := by
  show mm_G X (d + 2) 0 0 mi_X9_clashes Po 0 [(0, v_r 0)] [] Lam M 0 0
  refine mm_aload_n (mm_dc od_X9_clashes_0 0 rfl) rfl ?_
  refine mm_getR (ci := 9) (k := 7) (mm_dc od_X9_clashes_0 1 rfl) rfl in_X9 (by decide) wd_2_52 rfl rfl ?_
  refine mm_callV (b := 43) (mi' := mi_X2_clashingPairs) [] [] (mm_dc od_X9_clashes_0 2 rfl) rfl wd_4_57 wd_4_58 wd_4_59 wd_1_9 wd_4_60 yk_X2_clashingPairs rfl rfl rfl (Nat.le_of_ble_eq_true rfl) rfl (by decide) (c_X2_clashingPairs  hJh (by first | assumption | omega | exact hr _ _ rfl | exact mm_ti _ | exact mm_r3264 (hr _ _ rfl)) ⟨Nat.le_refl _, ?_⟩)
  refine mm_iret (mm_dc od_X9_clashes_0 3 rfl) rfl ?_
  exact mm_pi (by first | rfl | omega | (split <;> omega) | grind) k
def whoQ (M : mm_M) (b r : Int) : Prop := ∃ m : Nat, r = m ∧ bitsP m (fun i => M 53 i = b) (M 50 10).toNat
theorem whoQ_r {M : mm_M} {b r : Int} (hJ : JOm M) (h : whoQ M b r) : 0 ≤ r ∧ r < 65536 := by
  obtain ⟨m, rfl, hm⟩ := h
  have h1 := hJ.1
  have h2 := hJ.2.1
  have := bitsP_16 hm (by omega)
  omega
theorem whoQ_dis {M : mm_M} {b c r q : Int} (hJ : JOm M) (h : whoQ M b r) (h2 : whoQ M c q) (hn : ¬ b = c) : fx_and r q = 0 := by
  obtain ⟨m, rfl, hm⟩ := h
  obtain ⟨n, rfl, hn2⟩ := h2
  have g1 := hJ.1
  have g2 := hJ.2.1
  have h3 := bitsP_16 hm (by omega)
  rw [fx_and_n (by omega)]
  have e : m &&& n = 0 := by
    apply Nat.eq_of_testBit_eq
    intro i
    rw [Nat.testBit_and, Nat.zero_testBit]
    by_cases e1 : m.testBit i = true
    · by_cases e2 : n.testBit i = true
      · have a := ((hm.2 i).mp e1).2
        have b2 := ((hn2.2 i).mp e2).2
        exact absurd (a.symm.trans b2) hn
      · simp [e2]
    · simp [e1]
  rw [e]; rfl
theorem fx_shl_1 {j : Nat} (hj : j < 31) : fx_shl 1 (j : Int) = ((2 ^ j : Nat) : Int) := by
  have h := fx_shl_n (a := 1) (j := j) (by omega) (by rw [Nat.one_mul]; exact Nat.lt_of_lt_of_le (Nat.pow_lt_pow_right (by decide) hj) (by decide))
  rw [Nat.one_mul] at h
  exact h
theorem L_whoIn {X : Nat × (Nat → Int)} {d : Nat} {Po : mm_Po} {M : mm_M} (b : Int) (hb : mm_r32 b) (hJom : JOm M) (hr : R32 M) (k : ∀ r : Int, whoQ M b r → Po (some (v_i r)) Lam M) (m j : Nat) (hm : bitsP m (fun i => M 53 i = b) j) (hj : (j : Int) ≤ M 50 10) : mm_G X d 0 0 mi_X10_whoIn Po 4 [(0, v_r 50), (1, v_i b), (2, v_i (m : Int)), (3, v_i (j : Int))] [] Lam M 0 0 := by
  have hJom2 := hJom
  obtain ⟨ho0, ho16, hO⟩ := hJom2
  have hO1 := hO j
  refine mm_iload_n (mm_dc od_X10_whoIn_0 4 rfl) rfl ?_
  refine mm_aload_n (mm_dc od_X10_whoIn_0 5 rfl) rfl ?_
  refine mm_getI (ci := 10) (k := 10) (mm_dc od_X10_whoIn_0 6 rfl) rfl in_X10 (by decide) wd_4_122 rfl rfl ?_
  refine mm_icmp_ge 38 (mm_dc od_X10_whoIn_0 7 rfl) (by omega) (by first | assumption | omega | exact hr _ _ rfl | exact mm_ti _ | exact mm_r3264 (hr _ _ rfl)) (by first | assumption | omega | exact hr _ _ rfl | exact mm_ti _ | exact mm_r3264 (hr _ _ rfl)) (fun c1 => ?_) (fun c1 => ?_)
  · refine mm_iload_n (mm_dc od_X10_whoIn_0 24 rfl) rfl ?_
    refine mm_iret (mm_dc od_X10_whoIn_0 25 rfl) rfl ?_
    exact k _ ⟨m, rfl, by have e : (M 50 10).toNat = j := (by omega); rw [e]; exact hm⟩
  · refine mm_iload_n (mm_dc od_X10_whoIn_0 8 rfl) rfl ?_
    refine mm_aload_n (mm_dc od_X10_whoIn_0 9 rfl) rfl ?_
    refine mm_getR (ci := 10) (k := 2) (mm_dc od_X10_whoIn_0 10 rfl) rfl in_X10 (by decide) wd_4_114 rfl rfl ?_
    refine mm_iload_n (mm_dc od_X10_whoIn_0 11 rfl) rfl ?_
    refine mm_iald (mm_dc od_X10_whoIn_0 12 rfl) rfl (by first | assumption | omega | exact hr _ _ rfl | exact mm_ti _ | exact mm_r3264 (hr _ _ rfl)) (by first | assumption | omega | exact hr _ _ rfl | exact mm_ti _ | exact mm_r3264 (hr _ _ rfl)) (by decide) ?_
    refine mm_cst (st' := [v_i (M 53 j), v_i (m : Int)]) rfl ?_
    refine mm_iload_n (mm_dc od_X10_whoIn_0 13 rfl) rfl ?_
    refine mm_icmp_ne 29 (mm_dc od_X10_whoIn_0 14 rfl) (by omega) (by first | assumption | omega | exact hr _ _ rfl | exact mm_ti _ | exact mm_r3264 (hr _ _ rfl)) (by first | assumption | omega | exact hr _ _ rfl | exact mm_ti _ | exact mm_r3264 (hr _ _ rfl)) (fun c2 => ?_) (fun c2 => ?_)
    · refine mm_iconst (mm_dc od_X10_whoIn_0 19 rfl) ?_
      refine mm_ior (mm_dc od_X10_whoIn_0 20 rfl) ?_
      refine mm_istore_n (L' := [(0, v_r 50), (1, v_i b), (2, v_i (fx_or (m : Int) 0)), (3, v_i (j : Int))]) (mm_dc od_X10_whoIn_0 21 rfl) (by decide) rfl ?_
      refine mm_iinc (L' := [(0, v_r 50), (1, v_i b), (2, v_i (fx_or (m : Int) 0)), (3, v_i ((j : Int) + 1))]) (mm_dc od_X10_whoIn_0 22 rfl) rfl (by decide) rfl ?_
      refine mm_goto 4 (mm_dc od_X10_whoIn_0 23 rfl) (by omega) ?_
      rw [show (0 : Int) = ((0 : Nat) : Int) from rfl, fx_or_n (Nat.lt_of_lt_of_le (bitsP_16 hm (by omega)) (by decide)) (by decide), Nat.or_zero]
      exact L_whoIn b hb hJom hr k m (j + 1) (bitsP_old hm (by assumption)) (by omega)
    · refine mm_iconst (mm_dc od_X10_whoIn_0 15 rfl) ?_
      refine mm_iload_n (mm_dc od_X10_whoIn_0 16 rfl) rfl ?_
      refine mm_ishl (mm_dc od_X10_whoIn_0 17 rfl) ?_
      refine mm_goto 30 (mm_dc od_X10_whoIn_0 18 rfl) (by omega) ?_
      refine mm_ior (mm_dc od_X10_whoIn_0 20 rfl) ?_
      refine mm_istore_n (L' := [(0, v_r 50), (1, v_i b), (2, v_i (fx_or (m : Int) (fx_shl 1 (j : Int)))), (3, v_i (j : Int))]) (mm_dc od_X10_whoIn_0 21 rfl) (by decide) rfl ?_
      refine mm_iinc (L' := [(0, v_r 50), (1, v_i b), (2, v_i (fx_or (m : Int) (fx_shl 1 (j : Int)))), (3, v_i ((j : Int) + 1))]) (mm_dc od_X10_whoIn_0 22 rfl) rfl (by decide) rfl ?_
      refine mm_goto 4 (mm_dc od_X10_whoIn_0 23 rfl) (by omega) ?_
      rw [fx_shl_1 (by omega), fx_or_n (Nat.lt_of_lt_of_le (bitsP_16 hm (by omega)) (by decide)) (Nat.lt_of_lt_of_le (Nat.pow_lt_pow_right (by decide) (show j < 16 by omega)) (by decide))]
      exact L_whoIn b hb hJom hr k (m ||| 2 ^ j) (j + 1) (bitsP_new hm (by assumption)) (by omega)
termination_by (M 50 10).toNat - j
decreasing_by all_goals (first | omega | (simp_wf; omega))
theorem c_X10_whoIn {X : Nat × (Nat → Int)} {d : Nat} {Po : mm_Po} {M : mm_M} (b : Int) (hb : mm_r32 b) (hJom : JOm M) (hr : R32 M) (k : ∀ r : Int, (whoQ M b r) → Po (some (v_i r)) Lam M) : mm_E X d 0 0 mi_X10_whoIn [v_r 50, v_i b] Po Lam M := by
  show mm_G X d 0 0 mi_X10_whoIn Po 0 [(0, v_r 50), (1, v_i b)] [] Lam M 0 0
  refine mm_iconst (mm_dc od_X10_whoIn_0 0 rfl) ?_
  refine mm_istore_n (L' := [(0, v_r 50), (1, v_i b), (2, v_i 0)]) (mm_dc od_X10_whoIn_0 1 rfl) (by decide) rfl ?_
  refine mm_iconst (mm_dc od_X10_whoIn_0 2 rfl) ?_
  refine mm_istore_n (L' := [(0, v_r 50), (1, v_i b), (2, v_i 0), (3, v_i 0)]) (mm_dc od_X10_whoIn_0 3 rfl) (by decide) rfl ?_
  exact L_whoIn b hb hJom hr k 0 0 bitsP_0 (by have := hJom.1; omega)
theorem c_X10_clash {X : Nat × (Nat → Int)} {d : Nat} {Po : mm_Po} {M : mm_M} (a : Int) (mi : Int) (b : Int) (h0 : 0 ≤ a ∧ a < M 50 48) (h1 : 0 ≤ mi ∧ mi ≤ 3000) (h2 : 0 ≤ b ∧ b < M 50 48) (hJhm : JHm M) (hJom : JOm M) (hr : R32 M) (kt : M 86 a.toNat = M 86 b.toNat ∧ mi - M 87 b.toNat < M 50 49 ∧ M 87 b.toNat - mi < M 50 49 → Po (some (v_i 1)) Lam M) (kf : ¬ (M 86 a.toNat = M 86 b.toNat ∧ mi - M 87 b.toNat < M 50 49 ∧ M 87 b.toNat - mi < M 50 49) → Po (some (v_i 0)) Lam M) : mm_E X (d + 1) 0 0 mi_X10_clash [v_r 50, v_i a, v_i mi, v_i b] Po Lam M := by
  show mm_G X (d + 1) 0 0 mi_X10_clash Po 0 [(0, v_r 50), (1, v_i a), (2, v_i mi), (3, v_i b)] [] Lam M 0 0
  have hJh2 := hJhm
  obtain ⟨hh0, hh20, ha0, ha9, hH⟩ := hJh2
  have hH1 := hH a.toNat
  have hH2 := hH b.toNat
  refine mm_iload_n (mm_dc od_X10_clash_0 0 rfl) rfl ?_
  refine mm_aload_n (mm_dc od_X10_clash_0 1 rfl) rfl ?_
  refine mm_getR (ci := 10) (k := 47) (mm_dc od_X10_clash_0 2 rfl) rfl in_X10 (by decide) wd_4_159 rfl rfl ?_
  refine mm_iload_n (mm_dc od_X10_clash_0 3 rfl) rfl ?_
  refine mm_iald (mm_dc od_X10_clash_0 4 rfl) rfl (by first | assumption | omega | exact hr _ _ rfl | exact mm_ti _ | exact mm_r3264 (hr _ _ rfl)) (by first | assumption | omega | exact hr _ _ rfl | exact mm_ti _ | exact mm_r3264 (hr _ _ rfl)) (by decide) ?_
  refine mm_icmp_ge 21 (mm_dc od_X10_clash_0 5 rfl) (by omega) (by first | assumption | omega | exact hr _ _ rfl | exact mm_ti _ | exact mm_r3264 (hr _ _ rfl)) (by first | assumption | omega | exact hr _ _ rfl | exact mm_ti _ | exact mm_r3264 (hr _ _ rfl)) (fun c1 => ?_) (fun c1 => ?_)
  · refine mm_iload_n (mm_dc od_X10_clash_0 13 rfl) rfl ?_
    refine mm_aload_n (mm_dc od_X10_clash_0 14 rfl) rfl ?_
    refine mm_getR (ci := 10) (k := 47) (mm_dc od_X10_clash_0 15 rfl) rfl in_X10 (by decide) wd_4_159 rfl rfl ?_
    refine mm_iload_n (mm_dc od_X10_clash_0 16 rfl) rfl ?_
    refine mm_iald (mm_dc od_X10_clash_0 17 rfl) rfl (by first | assumption | omega | exact hr _ _ rfl | exact mm_ti _ | exact mm_r3264 (hr _ _ rfl)) (by first | assumption | omega | exact hr _ _ rfl | exact mm_ti _ | exact mm_r3264 (hr _ _ rfl)) (by decide) ?_
    refine mm_isub (mm_dc od_X10_clash_0 18 rfl) ?_
    refine mm_istore (L' := [(0, v_r 50), (1, v_i a), (2, v_i mi), (3, v_i b), (4, v_i (mi - (M 87 (Int.toNat b))))]) (mm_dc od_X10_clash_0 19 rfl) (by decide) rfl ?_
    refine mm_iload (mm_dc od_X10_clash_0 20 rfl) rfl ?_
    refine mm_aload_n (mm_dc od_X10_clash_0 21 rfl) rfl ?_
    refine mm_getI (ci := 10) (k := 49) (mm_dc od_X10_clash_0 22 rfl) rfl in_X10 (by decide) wd_4_161 rfl rfl ?_
    refine mm_icmp_ge 83 (mm_dc od_X10_clash_0 23 rfl) (by omega) (by first | assumption | omega | exact hr _ _ rfl | exact mm_ti _ | exact mm_r3264 (hr _ _ rfl)) (by first | assumption | omega | exact hr _ _ rfl | exact mm_ti _ | exact mm_r3264 (hr _ _ rfl)) (fun c2 => ?_) (fun c2 => ?_)
    · refine mm_iconst (mm_dc od_X10_clash_0 49 rfl) ?_
      refine mm_zret .boolean (mm_dc od_X10_clash_0 50 rfl) rfl rfl ?_
      exact kf (by omega)
    · refine mm_aload_n (mm_dc od_X10_clash_0 24 rfl) rfl ?_
      refine mm_getR (ci := 10) (k := 46) (mm_dc od_X10_clash_0 25 rfl) rfl in_X10 (by decide) wd_4_158 rfl rfl ?_
      refine mm_iload_n (mm_dc od_X10_clash_0 26 rfl) rfl ?_
      refine mm_iald (mm_dc od_X10_clash_0 27 rfl) rfl (by first | assumption | omega | exact hr _ _ rfl | exact mm_ti _ | exact mm_r3264 (hr _ _ rfl)) (by first | assumption | omega | exact hr _ _ rfl | exact mm_ti _ | exact mm_r3264 (hr _ _ rfl)) (by decide) ?_
      refine mm_aload_n (mm_dc od_X10_clash_0 28 rfl) rfl ?_
      refine mm_getR (ci := 10) (k := 46) (mm_dc od_X10_clash_0 29 rfl) rfl in_X10 (by decide) wd_4_158 rfl rfl ?_
      refine mm_iload_n (mm_dc od_X10_clash_0 30 rfl) rfl ?_
      refine mm_iald (mm_dc od_X10_clash_0 31 rfl) rfl (by first | assumption | omega | exact hr _ _ rfl | exact mm_ti _ | exact mm_r3264 (hr _ _ rfl)) (by first | assumption | omega | exact hr _ _ rfl | exact mm_ti _ | exact mm_r3264 (hr _ _ rfl)) (by decide) ?_
      refine mm_icmp_eq 79 (mm_dc od_X10_clash_0 32 rfl) (by omega) (by first | assumption | omega | exact hr _ _ rfl | exact mm_ti _ | exact mm_r3264 (hr _ _ rfl)) (by first | assumption | omega | exact hr _ _ rfl | exact mm_ti _ | exact mm_r3264 (hr _ _ rfl)) (fun c3 => ?_) (fun c3 => ?_)
      · refine mm_iconst (mm_dc od_X10_clash_0 47 rfl) ?_
        refine mm_goto 84 (mm_dc od_X10_clash_0 48 rfl) (by omega) ?_
        refine mm_zret .boolean (mm_dc od_X10_clash_0 50 rfl) rfl rfl ?_
        exact kt (by omega)
      · refine mm_aload_n (mm_dc od_X10_clash_0 33 rfl) rfl ?_
        refine mm_aload_n (mm_dc od_X10_clash_0 34 rfl) rfl ?_
        refine mm_getR (ci := 10) (k := 46) (mm_dc od_X10_clash_0 35 rfl) rfl in_X10 (by decide) wd_4_158 rfl rfl ?_
        refine mm_iload_n (mm_dc od_X10_clash_0 36 rfl) rfl ?_
        refine mm_iald (mm_dc od_X10_clash_0 37 rfl) rfl (by first | assumption | omega | exact hr _ _ rfl | exact mm_ti _ | exact mm_r3264 (hr _ _ rfl)) (by first | assumption | omega | exact hr _ _ rfl | exact mm_ti _ | exact mm_r3264 (hr _ _ rfl)) (by decide) ?_
        refine mm_callV (b := 50) (mi' := mi_X10_whoIn) [v_i (M 86 (Int.toNat a))] [] (mm_dc od_X10_clash_0 38 rfl) rfl wd_6_16 wd_6_18 wd_p_46 wd_1_12 wd_6_19 yk_X10_whoIn rfl rfl rfl (Nat.le_of_ble_eq_true rfl) rfl (by decide) (c_X10_whoIn (M 86 (Int.toNat a)) (by first | assumption | omega | exact hr _ _ rfl | exact mm_ti _ | exact mm_r3264 (hr _ _ rfl)) hJom (by first | assumption | omega | exact hr _ _ rfl | exact mm_ti _ | exact mm_r3264 (hr _ _ rfl)) (fun r4 hq5 => ⟨Nat.le_refl _, ?_⟩))
        have hq5_r := whoQ_r hJom hq5
        refine mm_aload_n (mm_dc od_X10_clash_0 39 rfl) rfl ?_
        refine mm_aload_n (mm_dc od_X10_clash_0 40 rfl) rfl ?_
        refine mm_getR (ci := 10) (k := 46) (mm_dc od_X10_clash_0 41 rfl) rfl in_X10 (by decide) wd_4_158 rfl rfl ?_
        refine mm_iload_n (mm_dc od_X10_clash_0 42 rfl) rfl ?_
        refine mm_iald (mm_dc od_X10_clash_0 43 rfl) rfl (by first | assumption | omega | exact hr _ _ rfl | exact mm_ti _ | exact mm_r3264 (hr _ _ rfl)) (by first | assumption | omega | exact hr _ _ rfl | exact mm_ti _ | exact mm_r3264 (hr _ _ rfl)) (by decide) ?_
        refine mm_callV (b := 50) (mi' := mi_X10_whoIn) [v_i (M 86 (Int.toNat b))] [v_i r4] (mm_dc od_X10_clash_0 44 rfl) rfl wd_6_16 wd_6_18 wd_p_46 wd_1_12 wd_6_19 yk_X10_whoIn rfl rfl rfl (Nat.le_of_ble_eq_true rfl) rfl (by decide) (c_X10_whoIn (M 86 (Int.toNat b)) (by first | assumption | omega | exact hr _ _ rfl | exact mm_ti _ | exact mm_r3264 (hr _ _ rfl)) hJom (by first | assumption | omega | exact hr _ _ rfl | exact mm_ti _ | exact mm_r3264 (hr _ _ rfl)) (fun r6 hq7 => ⟨Nat.le_refl _, ?_⟩))
        have hq7_r := whoQ_r hJom hq7
        refine mm_iand (mm_dc od_X10_clash_0 45 rfl) ?_
        refine mm_if_eq 83 (mm_dc od_X10_clash_0 46 rfl) (by omega) (by first | assumption | omega | exact hr _ _ rfl | exact mm_ti _ | exact mm_r3264 (hr _ _ rfl)) (fun c8 => ?_) (fun c8 => ?_)
        · refine mm_iconst (mm_dc od_X10_clash_0 49 rfl) ?_
          refine mm_zret .boolean (mm_dc od_X10_clash_0 50 rfl) rfl rfl ?_
          exact kf (by omega)
        · refine mm_iconst (mm_dc od_X10_clash_0 47 rfl) ?_
          refine mm_goto 84 (mm_dc od_X10_clash_0 48 rfl) (by omega) ?_
          refine mm_zret .boolean (mm_dc od_X10_clash_0 50 rfl) rfl rfl ?_
          first | exact kt (by omega) | exact kf (by omega) | (exfalso; exact absurd (whoQ_dis hJom hq5 hq7 (by assumption)) (by assumption))
  · refine mm_aload_n (mm_dc od_X10_clash_0 6 rfl) rfl ?_
    refine mm_getR (ci := 10) (k := 47) (mm_dc od_X10_clash_0 7 rfl) rfl in_X10 (by decide) wd_4_159 rfl rfl ?_
    refine mm_iload_n (mm_dc od_X10_clash_0 8 rfl) rfl ?_
    refine mm_iald (mm_dc od_X10_clash_0 9 rfl) rfl (by first | assumption | omega | exact hr _ _ rfl | exact mm_ti _ | exact mm_r3264 (hr _ _ rfl)) (by first | assumption | omega | exact hr _ _ rfl | exact mm_ti _ | exact mm_r3264 (hr _ _ rfl)) (by decide) ?_
    refine mm_iload_n (mm_dc od_X10_clash_0 10 rfl) rfl ?_
    refine mm_isub (mm_dc od_X10_clash_0 11 rfl) ?_
    refine mm_goto 29 (mm_dc od_X10_clash_0 12 rfl) (by omega) ?_
    refine mm_istore (L' := [(0, v_r 50), (1, v_i a), (2, v_i mi), (3, v_i b), (4, v_i ((M 87 (Int.toNat b)) - mi))]) (mm_dc od_X10_clash_0 19 rfl) (by decide) rfl ?_
    refine mm_iload (mm_dc od_X10_clash_0 20 rfl) rfl ?_
    refine mm_aload_n (mm_dc od_X10_clash_0 21 rfl) rfl ?_
    refine mm_getI (ci := 10) (k := 49) (mm_dc od_X10_clash_0 22 rfl) rfl in_X10 (by decide) wd_4_161 rfl rfl ?_
    refine mm_icmp_ge 83 (mm_dc od_X10_clash_0 23 rfl) (by omega) (by first | assumption | omega | exact hr _ _ rfl | exact mm_ti _ | exact mm_r3264 (hr _ _ rfl)) (by first | assumption | omega | exact hr _ _ rfl | exact mm_ti _ | exact mm_r3264 (hr _ _ rfl)) (fun c9 => ?_) (fun c9 => ?_)
    · refine mm_iconst (mm_dc od_X10_clash_0 49 rfl) ?_
      refine mm_zret .boolean (mm_dc od_X10_clash_0 50 rfl) rfl rfl ?_
      exact kf (by omega)
    · refine mm_aload_n (mm_dc od_X10_clash_0 24 rfl) rfl ?_
      refine mm_getR (ci := 10) (k := 46) (mm_dc od_X10_clash_0 25 rfl) rfl in_X10 (by decide) wd_4_158 rfl rfl ?_
      refine mm_iload_n (mm_dc od_X10_clash_0 26 rfl) rfl ?_
      refine mm_iald (mm_dc od_X10_clash_0 27 rfl) rfl (by first | assumption | omega | exact hr _ _ rfl | exact mm_ti _ | exact mm_r3264 (hr _ _ rfl)) (by first | assumption | omega | exact hr _ _ rfl | exact mm_ti _ | exact mm_r3264 (hr _ _ rfl)) (by decide) ?_
      refine mm_aload_n (mm_dc od_X10_clash_0 28 rfl) rfl ?_
      refine mm_getR (ci := 10) (k := 46) (mm_dc od_X10_clash_0 29 rfl) rfl in_X10 (by decide) wd_4_158 rfl rfl ?_
      refine mm_iload_n (mm_dc od_X10_clash_0 30 rfl) rfl ?_
      refine mm_iald (mm_dc od_X10_clash_0 31 rfl) rfl (by first | assumption | omega | exact hr _ _ rfl | exact mm_ti _ | exact mm_r3264 (hr _ _ rfl)) (by first | assumption | omega | exact hr _ _ rfl | exact mm_ti _ | exact mm_r3264 (hr _ _ rfl)) (by decide) ?_
      refine mm_icmp_eq 79 (mm_dc od_X10_clash_0 32 rfl) (by omega) (by first | assumption | omega | exact hr _ _ rfl | exact mm_ti _ | exact mm_r3264 (hr _ _ rfl)) (by first | assumption | omega | exact hr _ _ rfl | exact mm_ti _ | exact mm_r3264 (hr _ _ rfl)) (fun c10 => ?_) (fun c10 => ?_)
      · refine mm_iconst (mm_dc od_X10_clash_0 47 rfl) ?_
        refine mm_goto 84 (mm_dc od_X10_clash_0 48 rfl) (by omega) ?_
        refine mm_zret .boolean (mm_dc od_X10_clash_0 50 rfl) rfl rfl ?_
        first | exact kt (by omega) | exact kf (by omega) | (exfalso; exact absurd (whoQ_dis hJom hq5 hq7 (by assumption)) (by assumption))
      · refine mm_aload_n (mm_dc od_X10_clash_0 33 rfl) rfl ?_
        refine mm_aload_n (mm_dc od_X10_clash_0 34 rfl) rfl ?_
        refine mm_getR (ci := 10) (k := 46) (mm_dc od_X10_clash_0 35 rfl) rfl in_X10 (by decide) wd_4_158 rfl rfl ?_
        refine mm_iload_n (mm_dc od_X10_clash_0 36 rfl) rfl ?_
        refine mm_iald (mm_dc od_X10_clash_0 37 rfl) rfl (by first | assumption | omega | exact hr _ _ rfl | exact mm_ti _ | exact mm_r3264 (hr _ _ rfl)) (by first | assumption | omega | exact hr _ _ rfl | exact mm_ti _ | exact mm_r3264 (hr _ _ rfl)) (by decide) ?_
        refine mm_callV (b := 50) (mi' := mi_X10_whoIn) [v_i (M 86 (Int.toNat a))] [] (mm_dc od_X10_clash_0 38 rfl) rfl wd_6_16 wd_6_18 wd_p_46 wd_1_12 wd_6_19 yk_X10_whoIn rfl rfl rfl (Nat.le_of_ble_eq_true rfl) rfl (by decide) (c_X10_whoIn (M 86 (Int.toNat a)) (by first | assumption | omega | exact hr _ _ rfl | exact mm_ti _ | exact mm_r3264 (hr _ _ rfl)) hJom (by first | assumption | omega | exact hr _ _ rfl | exact mm_ti _ | exact mm_r3264 (hr _ _ rfl)) (fun r11 hq12 => ⟨Nat.le_refl _, ?_⟩))
        have hq12_r := whoQ_r hJom hq12
        refine mm_aload_n (mm_dc od_X10_clash_0 39 rfl) rfl ?_
        refine mm_aload_n (mm_dc od_X10_clash_0 40 rfl) rfl ?_
        refine mm_getR (ci := 10) (k := 46) (mm_dc od_X10_clash_0 41 rfl) rfl in_X10 (by decide) wd_4_158 rfl rfl ?_
        refine mm_iload_n (mm_dc od_X10_clash_0 42 rfl) rfl ?_
        refine mm_iald (mm_dc od_X10_clash_0 43 rfl) rfl (by first | assumption | omega | exact hr _ _ rfl | exact mm_ti _ | exact mm_r3264 (hr _ _ rfl)) (by first | assumption | omega | exact hr _ _ rfl | exact mm_ti _ | exact mm_r3264 (hr _ _ rfl)) (by decide) ?_
        refine mm_callV (b := 50) (mi' := mi_X10_whoIn) [v_i (M 86 (Int.toNat b))] [v_i r11] (mm_dc od_X10_clash_0 44 rfl) rfl wd_6_16 wd_6_18 wd_p_46 wd_1_12 wd_6_19 yk_X10_whoIn rfl rfl rfl (Nat.le_of_ble_eq_true rfl) rfl (by decide) (c_X10_whoIn (M 86 (Int.toNat b)) (by first | assumption | omega | exact hr _ _ rfl | exact mm_ti _ | exact mm_r3264 (hr _ _ rfl)) hJom (by first | assumption | omega | exact hr _ _ rfl | exact mm_ti _ | exact mm_r3264 (hr _ _ rfl)) (fun r13 hq14 => ⟨Nat.le_refl _, ?_⟩))
        have hq14_r := whoQ_r hJom hq14
        refine mm_iand (mm_dc od_X10_clash_0 45 rfl) ?_
        refine mm_if_eq 83 (mm_dc od_X10_clash_0 46 rfl) (by omega) (by first | assumption | omega | exact hr _ _ rfl | exact mm_ti _ | exact mm_r3264 (hr _ _ rfl)) (fun c15 => ?_) (fun c15 => ?_)
        · refine mm_iconst (mm_dc od_X10_clash_0 49 rfl) ?_
          refine mm_zret .boolean (mm_dc od_X10_clash_0 50 rfl) rfl rfl ?_
          exact kf (by omega)
        · refine mm_iconst (mm_dc od_X10_clash_0 47 rfl) ?_
          refine mm_goto 84 (mm_dc od_X10_clash_0 48 rfl) (by omega) ?_
          refine mm_zret .boolean (mm_dc od_X10_clash_0 50 rfl) rfl rfl ?_
          first | exact kt (by omega) | exact kf (by omega) | (exfalso; exact absurd (whoQ_dis hJom hq12 hq14 (by assumption)) (by assumption))
