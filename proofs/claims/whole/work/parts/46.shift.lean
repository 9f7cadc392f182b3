theorem L_cmi {X : Nat × (Nat → Int)} {d : Nat} {Po : mm_Po} {M : mm_M} (i : Nat) (hi : (i : Int) < M 50 48) (hJhm : JHm M) (hJom : JOm M) (hr : R32 M) (t : Int) (ht : 0 ≤ t ∧ t ≤ 400) (K : mm_G X (d + 2) 0 0 mi_X10_clashes Po 48 [(0, v_r 50), (1, v_i (t + rowc (fun j => clQ (M 86) (M 87) (M 50 49) i (M 87 i) j) i)), (2, v_i (i : Int))] [] Lam M 0 0) (j : Nat) (hj : j ≤ i) : mm_G X (d + 2) 0 0 mi_X10_clashes Po 14 [(0, v_r 50), (1, v_i (t + rowc (fun j => clQ (M 86) (M 87) (M 50 49) i (M 87 i) j) j)), (2, v_i (i : Int)), (3, v_i (j : Int))] [] Lam M 0 0 := by
  have hJh2 := hJhm
  obtain ⟨hh0, hh20, ha0, ha9, hH⟩ := hJh2
  have hH1 := hH i hi
  have hrc := rowc_r (fun j => clQ (M 86) (M 87) (M 50 49) i (M 87 i) j) j
  refine mm_iload_n (mm_dc od_X10_clashes_0 10 rfl) rfl ?_
  refine mm_iload_n (mm_dc od_X10_clashes_0 11 rfl) rfl ?_
  refine mm_icmp_ge 48 (mm_dc od_X10_clashes_0 12 rfl) (by omega) (by first | assumption | omega | exact hr _ _ rfl | exact mm_ti _ | exact mm_r3264 (hr _ _ rfl)) (by first | assumption | omega | exact hr _ _ rfl | exact mm_ti _ | exact mm_r3264 (hr _ _ rfl)) (fun c1 => ?_) (fun c1 => ?_)
  · have e : j = i := by omega
    subst e
    exact mm_less [0, 1, 2] rfl K
  · refine mm_iload_n (mm_dc od_X10_clashes_0 13 rfl) rfl ?_
    refine mm_aload_n (mm_dc od_X10_clashes_0 14 rfl) rfl ?_
    refine mm_iload_n (mm_dc od_X10_clashes_0 15 rfl) rfl ?_
    refine mm_aload_n (mm_dc od_X10_clashes_0 16 rfl) rfl ?_
    refine mm_getR (ci := 10) (k := 47) (mm_dc od_X10_clashes_0 17 rfl) rfl in_X10 (by decide) wd_4_159 rfl rfl ?_
    refine mm_iload_n (mm_dc od_X10_clashes_0 18 rfl) rfl ?_
    refine mm_iald (mm_dc od_X10_clashes_0 19 rfl) rfl (by first | assumption | omega | exact hr _ _ rfl | exact mm_ti _ | exact mm_r3264 (hr _ _ rfl)) (by first | assumption | omega | exact hr _ _ rfl | exact mm_ti _ | exact mm_r3264 (hr _ _ rfl)) (by decide) ?_
    refine mm_cst (st' := [v_i (M 87 i), v_i (i : Int), v_r 50, v_i (t + rowc (fun j => clQ (M 86) (M 87) (M 50 49) i (M 87 i) j) j)]) rfl ?_
    refine mm_iload_n (mm_dc od_X10_clashes_0 20 rfl) rfl ?_
    refine mm_callV (b := 50) (mi' := mi_X10_clash) [v_i (i : Int), v_i (M 87 i), v_i (j : Int)] [v_i (t + rowc (fun j => clQ (M 86) (M 87) (M 50 49) i (M 87 i) j) j)] (mm_dc od_X10_clashes_0 21 rfl) rfl wd_6_46 wd_6_48 wd_p_47 wd_1_12 wd_6_49 yk_X10_clash rfl rfl rfl (Nat.le_of_ble_eq_true rfl) rfl (by decide) (c_X10_clash (i : Int) (M 87 i) (j : Int) (by first | assumption | omega | exact hr _ _ rfl | exact mm_ti _ | exact mm_r3264 (hr _ _ rfl)) (by first | assumption | omega | exact hr _ _ rfl | exact mm_ti _ | exact mm_r3264 (hr _ _ rfl)) (by first | assumption | omega | exact hr _ _ rfl | exact mm_ti _ | exact mm_r3264 (hr _ _ rfl)) hJhm hJom (by first | assumption | omega | exact hr _ _ rfl | exact mm_ti _ | exact mm_r3264 (hr _ _ rfl)) (fun c2 => ⟨Nat.le_refl _, ?_⟩) (fun c2 => ⟨Nat.le_refl _, ?_⟩))
    · simp only [Int.toNat_natCast] at c2
      refine mm_if_eq 39 (mm_dc od_X10_clashes_0 22 rfl) (by omega) (by first | assumption | omega | exact hr _ _ rfl | exact mm_ti _ | exact mm_r3264 (hr _ _ rfl)) (fun h => absurd h (by decide)) (fun _ => ?_)
      refine mm_iconst (mm_dc od_X10_clashes_0 23 rfl) ?_
      refine mm_goto 40 (mm_dc od_X10_clashes_0 24 rfl) (by omega) ?_
      refine mm_iadd (mm_dc od_X10_clashes_0 26 rfl) ?_
      refine mm_istore_n (L' := [(0, v_r 50), (1, v_i ((t + rowc (fun j => clQ (M 86) (M 87) (M 50 49) i (M 87 i) j) j) + 1)), (2, v_i (i : Int)), (3, v_i (j : Int))]) (mm_dc od_X10_clashes_0 27 rfl) (by decide) rfl ?_
      refine mm_iinc (L' := [(0, v_r 50), (1, v_i ((t + rowc (fun j => clQ (M 86) (M 87) (M 50 49) i (M 87 i) j) j) + 1)), (2, v_i (i : Int)), (3, v_i ((j : Int) + 1))]) (mm_dc od_X10_clashes_0 28 rfl) rfl (by decide) rfl ?_
      refine mm_goto 14 (mm_dc od_X10_clashes_0 29 rfl) (by omega) ?_
      refine mm_cL (L' := [(0, v_r 50), (1, v_i (t + rowc (fun j => clQ (M 86) (M 87) (M 50 49) i (M 87 i) j) (j + 1))), (2, v_i (i : Int)), (3, v_i ((j : Int) + 1))]) (by rw [← rowc_t (by simp only [clQ, decide_eq_true_eq]; omega)]) ?_
      exact L_cmi i hi hJhm hJom hr t ht K (j + 1) (by omega)
    · simp only [Int.toNat_natCast] at c2
      refine mm_if_eq 39 (mm_dc od_X10_clashes_0 22 rfl) (by omega) (by first | assumption | omega | exact hr _ _ rfl | exact mm_ti _ | exact mm_r3264 (hr _ _ rfl)) (fun _ => ?_) (fun h => absurd h (by decide))
      refine mm_iconst (mm_dc od_X10_clashes_0 25 rfl) ?_
      refine mm_iadd (mm_dc od_X10_clashes_0 26 rfl) ?_
      refine mm_istore_n (L' := [(0, v_r 50), (1, v_i ((t + rowc (fun j => clQ (M 86) (M 87) (M 50 49) i (M 87 i) j) j) + 0)), (2, v_i (i : Int)), (3, v_i (j : Int))]) (mm_dc od_X10_clashes_0 27 rfl) (by decide) rfl ?_
      refine mm_iinc (L' := [(0, v_r 50), (1, v_i ((t + rowc (fun j => clQ (M 86) (M 87) (M 50 49) i (M 87 i) j) j) + 0)), (2, v_i (i : Int)), (3, v_i ((j : Int) + 1))]) (mm_dc od_X10_clashes_0 28 rfl) rfl (by decide) rfl ?_
      refine mm_goto 14 (mm_dc od_X10_clashes_0 29 rfl) (by omega) ?_
      refine mm_cL (L' := [(0, v_r 50), (1, v_i (t + rowc (fun j => clQ (M 86) (M 87) (M 50 49) i (M 87 i) j) (j + 1))), (2, v_i (i : Int)), (3, v_i ((j : Int) + 1))]) (by rw [← rowc_f (by simp only [clQ, decide_eq_false_iff_not]; omega), Int.add_zero]) ?_
      exact L_cmi i hi hJhm hJom hr t ht K (j + 1) (by omega)
termination_by i - j
decreasing_by all_goals (first | omega | (simp_wf; omega))
theorem L_cmk {X : Nat × (Nat → Int)} {d : Nat} {Po : mm_Po} {M : mm_M} (i : Nat) (hi : (i : Int) < M 50 48) (hJhm : JHm M) (t : Int) (K : mm_G X (d + 2) 0 0 mi_X10_clashes Po 4 [(0, v_r 50), (1, v_i t), (2, v_i ((i : Int) + 1))] [] Lam M 0 0) : mm_G X (d + 2) 0 0 mi_X10_clashes Po 48 [(0, v_r 50), (1, v_i t), (2, v_i (i : Int))] [] Lam M 0 0 := by
  have hJh2 := hJhm
  obtain ⟨hh0, hh20, ha0, ha9, hH⟩ := hJh2
  refine mm_iinc (L' := [(0, v_r 50), (1, v_i t), (2, v_i ((i : Int) + 1))]) (mm_dc od_X10_clashes_0 30 rfl) rfl (by decide) rfl ?_
  refine mm_goto 4 (mm_dc od_X10_clashes_0 31 rfl) (by omega) ?_
  exact K
theorem L_cmo {X : Nat × (Nat → Int)} {d : Nat} {Po : mm_Po} {M : mm_M} (hJhm : JHm M) (hJom : JOm M) (hr : R32 M) (k : Po (some (v_i (totc (fun i j => clQ (M 86) (M 87) (M 50 49) i (M 87 i) j) (M 50 48).toNat))) Lam M) (i : Nat) (hi : (i : Int) ≤ M 50 48) : mm_G X (d + 2) 0 0 mi_X10_clashes Po 4 [(0, v_r 50), (1, v_i (totc (fun i j => clQ (M 86) (M 87) (M 50 49) i (M 87 i) j) i)), (2, v_i (i : Int))] [] Lam M 0 0 := by
  have hJh2 := hJhm
  obtain ⟨hh0, hh20, ha0, ha9, hH⟩ := hJh2
  have htc := totc_r (fun i j => clQ (M 86) (M 87) (M 50 49) i (M 87 i) j) i
  have hii : (i : Int) * i ≤ 400 := (by have h1 : (i : Int) ≤ 20 := (by omega); exact Int.le_trans (Int.mul_le_mul h1 h1 (by omega) (by decide)) (by decide))
  refine mm_iload_n (mm_dc od_X10_clashes_0 4 rfl) rfl ?_
  refine mm_aload_n (mm_dc od_X10_clashes_0 5 rfl) rfl ?_
  refine mm_getI (ci := 10) (k := 48) (mm_dc od_X10_clashes_0 6 rfl) rfl in_X10 (by decide) wd_4_160 rfl rfl ?_
  refine mm_icmp_ge 54 (mm_dc od_X10_clashes_0 7 rfl) (by omega) (by first | assumption | omega | exact hr _ _ rfl | exact mm_ti _ | exact mm_r3264 (hr _ _ rfl)) (by first | assumption | omega | exact hr _ _ rfl | exact mm_ti _ | exact mm_r3264 (hr _ _ rfl)) (fun c1 => ?_) (fun c1 => ?_)
  · refine mm_iload_n (mm_dc od_X10_clashes_0 32 rfl) rfl ?_
    refine mm_iret (mm_dc od_X10_clashes_0 33 rfl) rfl ?_
    exact mm_pi (by have e : (M 50 48).toNat = i := (by omega); rw [e]) k
  · refine mm_iconst (mm_dc od_X10_clashes_0 8 rfl) ?_
    refine mm_istore_n (L' := [(0, v_r 50), (1, v_i (totc (fun i j => clQ (M 86) (M 87) (M 50 49) i (M 87 i) j) i)), (2, v_i (i : Int)), (3, v_i 0)]) (mm_dc od_X10_clashes_0 9 rfl) (by decide) rfl ?_
    refine mm_cL (L' := [(0, v_r 50), (1, v_i (totc (fun i j => clQ (M 86) (M 87) (M 50 49) i (M 87 i) j) i + rowc (fun j => clQ (M 86) (M 87) (M 50 49) i (M 87 i) j) 0)), (2, v_i (i : Int)), (3, v_i ((0 : Nat) : Int))]) (by simp [rowc]) ?_
    exact L_cmi i (by omega) hJhm hJom hr (totc (fun i j => clQ (M 86) (M 87) (M 50 49) i (M 87 i) j) i) (by omega) (L_cmk i (by omega) hJhm _ (L_cmo hJhm hJom hr k (i + 1) (by omega))) 0 (by omega)
termination_by (M 50 48).toNat - i
decreasing_by all_goals (first | omega | (simp_wf; omega))
theorem c_X10_clashes {X : Nat × (Nat → Int)} {d : Nat} {Po : mm_Po} {M : mm_M}  (hJhm : JHm M) (hJom : JOm M) (hr : R32 M) (k : Po (some (v_i (totc (fun i j => clQ (M 86) (M 87) (M 50 49) i (M 87 i) j) (M 50 48).toNat))) Lam M) : mm_E X (d + 2) 0 0 mi_X10_clashes [v_r 50] Po Lam M := by
  show mm_G X (d + 2) 0 0 mi_X10_clashes Po 0 [(0, v_r 50)] [] Lam M 0 0
  refine mm_iconst (mm_dc od_X10_clashes_0 0 rfl) ?_
  refine mm_istore_n (L' := [(0, v_r 50), (1, v_i 0)]) (mm_dc od_X10_clashes_0 1 rfl) (by decide) rfl ?_
  refine mm_iconst (mm_dc od_X10_clashes_0 2 rfl) ?_
  refine mm_istore_n (L' := [(0, v_r 50), (1, v_i 0), (2, v_i 0)]) (mm_dc od_X10_clashes_0 3 rfl) (by decide) rfl ?_
  exact L_cmo hJhm hJom hr k 0 (by have := hJhm.1; omega)
theorem pair_clashes {M : mm_M} (hI : inv M)  : Pair mi_X9_clashes mi_X10_clashes v_i [] M := by
  have hI0 := hI
  obtain ⟨hr, hJo, hJb, hJr, hJom, hJbm, v0, v1, v2, v3, v4, v5, v6, v7, v8, v9⟩ := hI0
  have jo := hJo; have jb := hJb; have jr := hJr; have jom := hJom; have jbm := hJbm
  obtain ⟨ho0, ho16, hO⟩ := jo
  obtain ⟨hb0, hb8, hB⟩ := jb
  obtain ⟨hr0, hr40, hRr⟩ := jr
  obtain ⟨go0, go16, gO⟩ := jom
  obtain ⟨gb0, gb8, gB⟩ := jbm
  have w1 := v1.1; have w2 := v2.1; have w3 := v3.1; have w4 := v4.1; have w5 := v5.1; have w6 := v6.1; have w7 := v7.1.1; have w7b := v7.2.1.1; have w8 := v8.1; have w8b := v8.2.2.2.1
  obtain ⟨hJh, hJhm⟩ := inv_JH hI
  have y2 := v8.2.1; have y3 := v8.2.2.1
  have e : totc (fun i j => clQ (M 86) (M 87) (M 50 49) i (M 87 i) j) (M 50 48).toNat = totc (fun i j => clQ (M 44) (M 45) (M 43 1) i (M 45 i) j) (M 43 0).toNat := by
    rw [w8]
    refine totc_cong (fun k hk j hj => ?_)
    have h1 := v8.2.2.2.2.2.2 k (by omega)
    have h2 := v8.2.2.2.2.2.2 j (by omega)
    simp only [clQ, h1.1, h2.1, h1.2.2.1, h2.2.2.1, w8b]
  have hb := totc_r (fun i j => clQ (M 44) (M 45) (M 43 1) i (M 45 i) j) (M 43 0).toNat
  have hii : ((M 43 0).toNat : Int) * ((M 43 0).toNat : Int) ≤ 400 := by
    have h1 : ((M 43 0).toNat : Int) ≤ 20 := by omega
    exact Int.le_trans (Int.mul_le_mul h1 h1 (by omega) (by decide)) (by decide)
  exact Pair_i _ M M (fun X d Po k => c_X9_clashes (d := d + 10) hJh hr k) (fun X d Po k => c_X10_clashes (d := d + 10) hJhm hJom hr (mm_pi e k)) (by omega) hI
def clP (bo sa : Nat → Int) (ap : Int) (h : Nat) (mi : Int) (o : Nat) : Prop := h ≠ o ∧ bo h = bo o ∧ mi - sa o < ap ∧ sa o - mi < ap
def freeQ (bo sa : Nat → Int) (ap : Int) (h n : Nat) (r : Int) : Prop := sa h ≤ r ∧ (∀ o, o < n → ¬ clP bo sa ap h r o) ∧ ∀ m : Int, sa h ≤ m → m < r → ∃ o, o < n ∧ clP bo sa ap h m o
theorem freeQ_one {bo sa : Nat → Int} {ap : Int} {h n : Nat} {r q : Int} (h1 : freeQ bo sa ap h n r) (h2 : freeQ bo sa ap h n q) : r = q := by
  rcases Int.lt_or_le r q with e | e
  · obtain ⟨o, a, b⟩ := h2.2.2 r h1.1 e
    exact absurd b (h1.2.1 o a)
  · rcases Int.lt_or_le q r with e2 | e2
    · obtain ⟨o, a, b⟩ := h1.2.2 q h2.1 e2
      exact absurd b (h2.2.1 o a)
    · omega
theorem freeQ_ex {bo sa : Nat → Int} {ap : Int} {h n : Nat} (hs : ∀ o, o < n → sa o ≤ 1439) (hh : h < n) (h0 : 0 ≤ sa h) (ha : ap ≤ 999) : ∃ r, freeQ bo sa ap h n r ∧ r ≤ 4000 := by
  obtain ⟨k, h1, h2⟩ := pk_least (fun k => ∀ o, o < n → ¬ clP bo sa ap h (sa h + k) o) ⟨2500, fun o ho hc => by
    have h5 := hs o ho
    have h6 : (((2500 : Nat) : Int)) = 2500 := rfl
    unfold clP at hc
    omega⟩
  have hk : k ≤ 2500 := by
    rcases Nat.lt_or_ge 2500 k with e | e
    · refine absurd (fun o ho hc => ?_) (h2 2500 e)
      have h5 := hs o ho
      have h6 : (((2500 : Nat) : Int)) = 2500 := rfl
      unfold clP at hc
      omega
    · exact e
  have h5 := hs h hh
  refine ⟨sa h + k, ⟨by omega, h1, fun m hm hm2 => ?_⟩, by omega⟩
  have h3 := h2 (m - sa h).toNat (by omega)
  have e : sa h + ((m - sa h).toNat : Int) = m := by omega
  rw [e] at h3
  exact Classical.byContradiction fun hno => h3 (fun o ho hc => hno ⟨o, ho, hc⟩)
theorem rowc_up {C D : Nat → Bool} : ∀ {n : Nat}, (∀ i, i < n → C i = true → D i = true) → rowc C n ≤ rowc D n
  | 0, _ => Int.le_refl _
  | n + 1, h => by
    have h1 := rowc_up (n := n) (fun i hi => h i (by omega))
    have h2 := h n (by omega)
    simp only [rowc]
    by_cases e : C n = true
    · rw [if_pos e, if_pos (h2 e)]; omega
    · rw [if_neg e]; split <;> omega
theorem rowc_upS {C D : Nat → Bool} {o : Nat} (hc : C o = false) (hd : D o = true) : ∀ {n : Nat}, o < n → (∀ i, i < n → C i = true → D i = true) → rowc C n + 1 ≤ rowc D n
  | 0, ho, _ => absurd ho (Nat.not_lt_zero o)
  | n + 1, ho, h => by
    simp only [rowc]
    by_cases e : o = n
    · subst e
      have h1 := rowc_up (n := o) (fun i hi => h i (by omega))
      rw [hc, hd]
      simp
      omega
    · have h1 := rowc_upS hc hd (n := n) (by omega) (fun i hi => h i (by omega))
      have h2 := h n (by omega)
      by_cases e2 : C n = true
      · rw [if_pos e2, if_pos (h2 e2)]; omega
      · rw [if_neg e2]; split <;> omega
theorem rowc_lt {C : Nat → Bool} {o n : Nat} (ho : o < n) (hc : C o = false) : rowc C n + 1 ≤ n := by
  have h1 := rowc_upS (C := C) (D := fun _ => true) hc rfl ho (fun _ _ _ => rfl)
  have h2 := (rowc_r (fun _ => true) n).2
  omega
theorem freeQ_r {bo sa : Nat → Int} {ap : Int} {h n : Nat} {r : Int} (q : freeQ bo sa ap h n r ∧ r ≤ 2438) : sa h ≤ r ∧ r ≤ 2438 := ⟨q.1.1, q.2⟩
/-- the heats that lie behind a minute -/
def pasQ (bo sa : Nat → Int) (ap : Int) (h : Nat) (mi : Int) (o : Nat) : Bool := decide (h ≠ o ∧ bo h = bo o ∧ sa o + ap ≤ mi)
theorem L_fc {X : Nat × (Nat → Int)} {d : Nat} {Po : mm_Po} {M : mm_M} (h mi : Int) (h0 : 0 ≤ h ∧ h < M 43 0) (h1 : 0 ≤ mi ∧ mi ≤ 3000) (hJh : JH M) (hr : R32 M) (k : ∀ r : Int, firstP (clP (M 44) (M 45) (M 43 1) h.toNat mi) r (M 43 0).toNat → Po (some (v_i r)) Lam M) (j : Nat) (hj : ∀ i : Nat, i < j → ¬ clP (M 44) (M 45) (M 43 1) h.toNat mi i) (hj2 : (j : Int) ≤ M 43 0) : mm_G X (d + 1) 0 0 mi_X2_firstClash Po 2 [(0, v_r 43), (1, v_i h), (2, v_i mi), (3, v_i (j : Int))] [] Lam M 0 0 := by
  have hJh2 := hJh
  obtain ⟨hh0, hh20, ha0, ha9, hH⟩ := hJh2
  refine mm_iload_n (mm_dc od_X2_firstClash_0 2 rfl) rfl ?_
  refine mm_aload_n (mm_dc od_X2_firstClash_0 3 rfl) rfl ?_
  refine mm_getI (ci := 2) (k := 0) (mm_dc od_X2_firstClash_0 4 rfl) rfl in_X2 (by decide) wd_2_7 rfl rfl ?_
  refine mm_icmp_ge 28 (mm_dc od_X2_firstClash_0 5 rfl) (by omega) (by first | assumption | omega | exact hr _ _ rfl | exact mm_ti _ | exact mm_r3264 (hr _ _ rfl)) (by first | assumption | omega | exact hr _ _ rfl | exact mm_ti _ | exact mm_r3264 (hr _ _ rfl)) (fun c1 => ?_) (fun c1 => ?_)
  · refine mm_iconst (mm_dc od_X2_firstClash_0 16 rfl) ?_
    refine mm_iret (mm_dc od_X2_firstClash_0 17 rfl) rfl ?_
    exact k _ (Or.inl ⟨rfl, fun i hi => hj i (by omega)⟩)
  · refine mm_aload_n (mm_dc od_X2_firstClash_0 6 rfl) rfl ?_
    refine mm_iload_n (mm_dc od_X2_firstClash_0 7 rfl) rfl ?_
    refine mm_iload_n (mm_dc od_X2_firstClash_0 8 rfl) rfl ?_
    refine mm_iload_n (mm_dc od_X2_firstClash_0 9 rfl) rfl ?_
    refine mm_callV (b := 43) (mi' := mi_X2_wouldClash) [v_i h, v_i mi, v_i (j : Int)] [] (mm_dc od_X2_firstClash_0 10 rfl) rfl wd_4_61 wd_4_63 wd_p_18 wd_1_9 wd_4_64 yk_X2_wouldClash rfl rfl rfl (Nat.le_of_ble_eq_true rfl) rfl (by decide) (c_X2_wouldClash h mi (j : Int) (by first | assumption | omega | exact hr _ _ rfl | exact mm_ti _ | exact mm_r3264 (hr _ _ rfl)) (by first | assumption | omega | exact hr _ _ rfl | exact mm_ti _ | exact mm_r3264 (hr _ _ rfl)) (by first | assumption | omega | exact hr _ _ rfl | exact mm_ti _ | exact mm_r3264 (hr _ _ rfl)) hJh (by first | assumption | omega | exact hr _ _ rfl | exact mm_ti _ | exact mm_r3264 (hr _ _ rfl)) (fun c2 => ⟨Nat.le_refl _, ?_⟩) (fun c2 => ⟨Nat.le_refl _, ?_⟩))
    · simp only [Int.toNat_natCast] at c2
      refine mm_if_eq 22 (mm_dc od_X2_firstClash_0 11 rfl) (by omega) (by first | assumption | omega | exact hr _ _ rfl | exact mm_ti _ | exact mm_r3264 (hr _ _ rfl)) (fun h => absurd h (by decide)) (fun _ => ?_)
      refine mm_iload_n (mm_dc od_X2_firstClash_0 12 rfl) rfl ?_
      refine mm_iret (mm_dc od_X2_firstClash_0 13 rfl) rfl ?_
      exact k _ (Or.inr ⟨by omega, by omega, (show clP (M 44) (M 45) (M 43 1) h.toNat mi j by unfold clP; omega), fun i hi => hj i (by omega)⟩)
    · simp only [Int.toNat_natCast] at c2
      refine mm_if_eq 22 (mm_dc od_X2_firstClash_0 11 rfl) (by omega) (by first | assumption | omega | exact hr _ _ rfl | exact mm_ti _ | exact mm_r3264 (hr _ _ rfl)) (fun _ => ?_) (fun h => absurd h (by decide))
      refine mm_iinc (L' := [(0, v_r 43), (1, v_i h), (2, v_i mi), (3, v_i ((j : Int) + 1))]) (mm_dc od_X2_firstClash_0 14 rfl) rfl (by decide) rfl ?_
      refine mm_goto 2 (mm_dc od_X2_firstClash_0 15 rfl) (by omega) ?_
      exact L_fc h mi h0 h1 hJh hr k (j + 1) (lt_s hj (by unfold clP; omega)) (by omega)
termination_by (M 43 0).toNat - j
decreasing_by all_goals (first | omega | (simp_wf; omega))
theorem c_X2_firstClash {X : Nat × (Nat → Int)} {d : Nat} {Po : mm_Po} {M : mm_M} (h : Int) (mi : Int) (h0 : 0 ≤ h ∧ h < M 43 0) (h1 : 0 ≤ mi ∧ mi ≤ 3000) (hJh : JH M) (hr : R32 M) (k : ∀ r : Int, (firstP (clP (M 44) (M 45) (M 43 1) h.toNat mi) r (M 43 0).toNat) → Po (some (v_i r)) Lam M) : mm_E X (d + 1) 0 0 mi_X2_firstClash [v_r 43, v_i h, v_i mi] Po Lam M := by
  show mm_G X (d + 1) 0 0 mi_X2_firstClash Po 0 [(0, v_r 43), (1, v_i h), (2, v_i mi)] [] Lam M 0 0
  refine mm_iconst (mm_dc od_X2_firstClash_0 0 rfl) ?_
  refine mm_istore_n (L' := [(0, v_r 43), (1, v_i h), (2, v_i mi), (3, v_i 0)]) (mm_dc od_X2_firstClash_0 1 rfl) (by decide) rfl ?_
  exact L_fc h mi h0 h1 hJh hr k 0 (fun i hi => by omega) (by have := hJh.1; omega)
theorem L_fm {X : Nat × (Nat → Int)} {d : Nat} {Po : mm_Po} {M : mm_M} (h : Int) (h0 : 0 ≤ h ∧ h < M 43 0) (hJh : JH M) (hr : R32 M) (k : ∀ r : Int, (freeQ (M 44) (M 45) (M 43 1) h.toNat (M 43 0).toNat r ∧ r ≤ 2438) → Po (some (v_i r)) Lam M) (mi : Int) (j : Nat) (hI1 : M 45 h.toNat ≤ mi ∧ mi ≤ 2438) (hI2 : ∀ m : Int, M 45 h.toNat ≤ m → m < mi → ∃ o, o < (M 43 0).toNat ∧ clP (M 44) (M 45) (M 43 1) h.toNat m o) (hI3 : (j : Int) ≤ rowc (pasQ (M 44) (M 45) (M 43 1) h.toNat mi) (M 43 0).toNat) (hj : (j : Int) ≤ M 43 0) : mm_G X (d + 2) 0 0 mi_X2_freeMinute Po 9 [(0, v_r 43), (1, v_i h), (2, v_i mi), (3, v_i (j : Int))] [] Lam M 0 0 := by
  have hJh2 := hJh
  obtain ⟨hh0, hh20, ha0, ha9, hH⟩ := hJh2
  have hHh := hH h.toNat (by omega)
  refine mm_iload_n (mm_dc od_X2_freeMinute_0 7 rfl) rfl ?_
  refine mm_aload_n (mm_dc od_X2_freeMinute_0 8 rfl) rfl ?_
  refine mm_getI (ci := 2) (k := 0) (mm_dc od_X2_freeMinute_0 9 rfl) rfl in_X2 (by decide) wd_2_7 rfl rfl ?_
  refine mm_icmp_ge 53 (mm_dc od_X2_freeMinute_0 10 rfl) (by omega) (by first | assumption | omega | exact hr _ _ rfl | exact mm_ti _ | exact mm_r3264 (hr _ _ rfl)) (by first | assumption | omega | exact hr _ _ rfl | exact mm_ti _ | exact mm_r3264 (hr _ _ rfl)) (fun c1 => ?_) (fun c1 => ?_)
  · refine mm_iload_n (mm_dc od_X2_freeMinute_0 30 rfl) rfl ?_
    refine mm_iret (mm_dc od_X2_freeMinute_0 31 rfl) rfl ?_
    first
      | (exfalso
         have h9 := rowc_lt (C := pasQ (M 44) (M 45) (M 43 1) h.toNat mi) (o := h.toNat) (n := (M 43 0).toNat) (by omega) (by simp [pasQ])
         omega)
      | exact k _ ⟨⟨by omega, (by rcases hq0 with ⟨_, e2⟩ | ⟨e1, _⟩; exact e2; omega), hI2⟩, by omega⟩
  · refine mm_aload_n (mm_dc od_X2_freeMinute_0 11 rfl) rfl ?_
    refine mm_iload_n (mm_dc od_X2_freeMinute_0 12 rfl) rfl ?_
    refine mm_iload_n (mm_dc od_X2_freeMinute_0 13 rfl) rfl ?_
    refine mm_callV (b := 43) (mi' := mi_X2_firstClash) [v_i h, v_i mi] [] (mm_dc od_X2_freeMinute_0 14 rfl) rfl wd_4_76 wd_4_78 wd_p_19 wd_1_9 wd_4_79 yk_X2_firstClash rfl rfl rfl (Nat.le_of_ble_eq_true rfl) rfl (by decide) (c_X2_firstClash h mi (by first | assumption | omega | exact hr _ _ rfl | exact mm_ti _ | exact mm_r3264 (hr _ _ rfl)) (by first | assumption | omega | exact hr _ _ rfl | exact mm_ti _ | exact mm_r3264 (hr _ _ rfl)) hJh (by first | assumption | omega | exact hr _ _ rfl | exact mm_ti _ | exact mm_r3264 (hr _ _ rfl)) (fun r2 hq3 => ⟨Nat.le_refl _, ?_⟩))
    have hq3_r := firstP_rng hq3
    refine mm_istore (L' := [(0, v_r 43), (1, v_i h), (2, v_i mi), (3, v_i (j : Int)), (4, v_i r2)]) (mm_dc od_X2_freeMinute_0 15 rfl) (by decide) rfl ?_
    refine mm_iload (mm_dc od_X2_freeMinute_0 16 rfl) rfl ?_
    refine mm_iconst (mm_dc od_X2_freeMinute_0 17 rfl) ?_
    refine mm_icmp_ne 34 (mm_dc od_X2_freeMinute_0 18 rfl) (by omega) (by first | assumption | omega | exact hr _ _ rfl | exact mm_ti _ | exact mm_r3264 (hr _ _ rfl)) (by first | assumption | omega | exact hr _ _ rfl | exact mm_ti _ | exact mm_r3264 (hr _ _ rfl)) (fun c4 => ?_) (fun c4 => ?_)
    · refine mm_aload_n (mm_dc od_X2_freeMinute_0 20 rfl) rfl ?_
      refine mm_getR (ci := 2) (k := 3) (mm_dc od_X2_freeMinute_0 21 rfl) rfl in_X2 (by decide) wd_2_12 rfl rfl ?_
      refine mm_iload (mm_dc od_X2_freeMinute_0 22 rfl) rfl ?_
      refine mm_iald (mm_dc od_X2_freeMinute_0 23 rfl) rfl (by first | assumption | omega | exact hr _ _ rfl | exact mm_ti _ | exact mm_r3264 (hr _ _ rfl)) (by first | assumption | omega | exact hr _ _ rfl | exact mm_ti _ | exact mm_r3264 (hr _ _ rfl)) (by decide) ?_
      refine mm_aload_n (mm_dc od_X2_freeMinute_0 24 rfl) rfl ?_
      refine mm_getI (ci := 2) (k := 1) (mm_dc od_X2_freeMinute_0 25 rfl) rfl in_X2 (by decide) wd_2_9 rfl rfl ?_
      refine mm_iadd (mm_dc od_X2_freeMinute_0 26 rfl) ?_
      refine mm_istore_n (L' := [(0, v_r 43), (1, v_i h), (2, v_i ((M 45 (Int.toNat r2)) + (M 43 1))), (3, v_i (j : Int)), (4, v_i r2)]) (mm_dc od_X2_freeMinute_0 27 rfl) (by decide) rfl ?_
      refine mm_iinc (L' := [(0, v_r 43), (1, v_i h), (2, v_i ((M 45 (Int.toNat r2)) + (M 43 1))), (3, v_i ((j : Int) + 1)), (4, v_i r2)]) (mm_dc od_X2_freeMinute_0 28 rfl) rfl (by decide) rfl ?_
      refine mm_goto 9 (mm_dc od_X2_freeMinute_0 29 rfl) (by omega) ?_
      have hcl : clP (M 44) (M 45) (M 43 1) h.toNat mi r2.toNat := by
        rcases hq3 with ⟨e1, _⟩ | ⟨_, _, e3, _⟩
        · exact absurd e1 (by assumption)
        · exact e3
      have hcl2 := hcl
      unfold clP at hcl2
      have hHo := hH r2.toNat (by omega)
      refine mm_less [0, 1, 2, 3] rfl (L_fm h h0 hJh hr k (M 45 r2.toNat + M 43 1) (j + 1) (by omega) (fun m hm hm2 => ?_) (?_) (by omega))
      · rcases Int.lt_or_le m mi with e | e
        · exact hI2 m hm e
        · exact ⟨r2.toNat, by omega, by unfold clP; omega⟩
      · have h9 := rowc_upS (C := pasQ (M 44) (M 45) (M 43 1) h.toNat mi) (D := pasQ (M 44) (M 45) (M 43 1) h.toNat (M 45 r2.toNat + M 43 1)) (o := r2.toNat) (n := (M 43 0).toNat) (by simp only [pasQ, decide_eq_false_iff_not]; omega) (by simp only [pasQ, decide_eq_true_eq]; omega) (by omega) (fun i _ hi => by simp only [pasQ, decide_eq_true_eq] at hi ⊢; omega)
        omega
    · refine mm_goto 53 (mm_dc od_X2_freeMinute_0 19 rfl) (by omega) ?_
      refine mm_iload_n (mm_dc od_X2_freeMinute_0 30 rfl) rfl ?_
      refine mm_iret (mm_dc od_X2_freeMinute_0 31 rfl) rfl ?_
      first
        | (exfalso
           have h9 := rowc_lt (C := pasQ (M 44) (M 45) (M 43 1) h.toNat mi) (o := h.toNat) (n := (M 43 0).toNat) (by omega) (by simp [pasQ])
           omega)
        | exact k _ ⟨⟨by omega, (by rcases hq3 with ⟨_, e2⟩ | ⟨e1, _⟩; exact e2; omega), hI2⟩, by omega⟩
termination_by (M 43 0).toNat - j
decreasing_by all_goals (first | omega | (simp_wf; omega))
theorem c_X2_freeMinute {X : Nat × (Nat → Int)} {d : Nat} {Po : mm_Po} {M : mm_M} (h : Int) (h0 : 0 ≤ h ∧ h < M 43 0) (hJh : JH M) (hr : R32 M) (k : ∀ r : Int, (freeQ (M 44) (M 45) (M 43 1) h.toNat (M 43 0).toNat r ∧ r ≤ 2438) → Po (some (v_i r)) Lam M) : mm_E X (d + 2) 0 0 mi_X2_freeMinute [v_r 43, v_i h] Po Lam M := by
  show mm_G X (d + 2) 0 0 mi_X2_freeMinute Po 0 [(0, v_r 43), (1, v_i h)] [] Lam M 0 0
  have hJh2 := hJh
  obtain ⟨hh0, hh20, ha0, ha9, hH⟩ := hJh2
  have hHh := hH h.toNat (by omega)
  refine mm_aload_n (mm_dc od_X2_freeMinute_0 0 rfl) rfl ?_
  refine mm_getR (ci := 2) (k := 3) (mm_dc od_X2_freeMinute_0 1 rfl) rfl in_X2 (by decide) wd_2_12 rfl rfl ?_
  refine mm_iload_n (mm_dc od_X2_freeMinute_0 2 rfl) rfl ?_
  refine mm_iald (mm_dc od_X2_freeMinute_0 3 rfl) rfl (by first | assumption | omega | exact hr _ _ rfl | exact mm_ti _ | exact mm_r3264 (hr _ _ rfl)) (by first | assumption | omega | exact hr _ _ rfl | exact mm_ti _ | exact mm_r3264 (hr _ _ rfl)) (by decide) ?_
  refine mm_istore_n (L' := [(0, v_r 43), (1, v_i h), (2, v_i (M 45 (Int.toNat h)))]) (mm_dc od_X2_freeMinute_0 4 rfl) (by decide) rfl ?_
  refine mm_iconst (mm_dc od_X2_freeMinute_0 5 rfl) ?_
  refine mm_istore_n (L' := [(0, v_r 43), (1, v_i h), (2, v_i (M 45 (Int.toNat h))), (3, v_i 0)]) (mm_dc od_X2_freeMinute_0 6 rfl) (by decide) rfl ?_
  exact L_fm h h0 hJh hr k (M 45 h.toNat) 0 (by omega) (fun m hm hm2 => by omega) (rowc_r _ _).1 (by omega)
