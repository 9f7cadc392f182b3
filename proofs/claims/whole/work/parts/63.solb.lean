/-! one row cleared -/
def CL (B : mm_M) (i k : Nat) (p l : Int) (j : Nat) (M : mm_M) : Prop := frm 16 B M ∧ ∀ i2 c : Nat, i2 < 6 → c < 7 → M 16 (7 * i2 + c) = if i2 = i ∧ c < j then Int.tdiv (p * B 16 (7 * i + c) - B 16 (7 * i + k) * B 16 (7 * k + c)) l else B 16 (7 * i2 + c)
theorem CL_s {B M : mm_M} {i k j : Nat} {p l v : Int} (h : CL B i k p l j M) (hi : i < 6) (hk : k < 6) (hn : i ≠ k) (hj : j < 7) (hv : v = Int.tdiv (p * M 16 (7 * i + j) - B 16 (7 * i + k) * M 16 (7 * k + j)) l) : CL B i k p l (j + 1) (mm_up M 16 (7 * i + j) v) := by
  refine ⟨frm_upL h.1 rfl, fun i2 c h2 hc => ?_⟩
  rw [h.2 i j hi hj, h.2 k j hk hj, if_neg (by omega), if_neg (by omega)] at hv
  rw [mm_upa]
  by_cases e : i2 = i ∧ c = j
  · rw [if_pos (by omega), if_pos (by omega), hv, e.2]
  · rw [if_neg (by omega), h.2 i2 c h2 hc]
    by_cases q : i2 = i ∧ c < j
    · rw [if_pos q, if_pos (by omega)]
    · rw [if_neg q, if_neg (by omega)]
theorem L_cl24 {X : Nat × (Nat → Int)} {d : Nat} {Po : mm_Po} {M : mm_M} {B : mm_M} (i k : Nat) (p l : Int) (hi : i < 6) (hk : k < 6) (hn : i ≠ k) (hl : mm_r64 l) (hl0 : l ≠ 0) (hcr : ∀ c, c < 7 → mm_r64 (p * B 16 (7 * i + c) - B 16 (7 * i + k) * B 16 (7 * k + c))) (K : ∀ N : mm_M, CL B i k p l 7 N → Po none Lam N) (j : Nat) (hj : j ≤ 7) (hN : CL B i k p l j M) : mm_G X d 0 0 mi_X4_clearCell Po 24 [(0, v_r 10), (1, v_i (i : Int)), (2, v_i (k : Int)), (3, v_l p), (5, v_l l), (7, v_l (B 16 (7 * i + k))), (9, v_i (j : Int))] [] Lam M 0 0 := by
  have hr := hN.1.1
  have ixi : ((i : Int) * 7 + (j : Int)).toNat = 7 * i + j := (by omega)
  have ixk : ((k : Int) * 7 + (j : Int)).toNat = 7 * k + j := (by omega)
  have hcM : (j : Int) < 7 → mm_r64 (p * M 16 (((i : Int) * 7 + (j : Int)).toNat) - B 16 (7 * i + k) * M 16 (((k : Int) * 7 + (j : Int)).toNat)) := (fun q => by
    rw [ixi, ixk, hN.2 i j hi (by omega), hN.2 k j hk (by omega), if_neg (by omega), if_neg (by omega)]
    exact hcr j (by omega))
  refine mm_iload (mm_dc od_X4_clearCell_0 16 rfl) rfl ?_
  refine mm_bipush (mm_dc od_X4_clearCell_0 17 rfl) (by decide) ?_
  refine mm_icmp_ge 86 (mm_dc od_X4_clearCell_0 18 rfl) (by omega) (by first | omega | assumption | exact hcM (by omega) | exact hr _ _ rfl) (by first | omega | assumption | exact hcM (by omega) | exact hr _ _ rfl) (fun c1 => ?_) (fun c1 => ?_)
  · refine mm_ret (mm_dc od_X4_clearCell_0 54 rfl) rfl ?_
    have e : j = 7 := by omega
    subst e
    exact K _ hN
  · refine mm_lload_n (mm_dc od_X4_clearCell_0 19 rfl) rfl ?_
    refine mm_aload_n (mm_dc od_X4_clearCell_0 20 rfl) rfl ?_
    refine mm_getR (ci := 4) (k := 7) (mm_dc od_X4_clearCell_0 21 rfl) rfl in_X4 (by decide) wd_1_94 rfl rfl ?_
    refine mm_iload_n (mm_dc od_X4_clearCell_0 22 rfl) rfl ?_
    refine mm_bipush (mm_dc od_X4_clearCell_0 23 rfl) (by decide) ?_
    refine mm_imul (mm_dc od_X4_clearCell_0 24 rfl) ?_
    refine mm_iload (mm_dc od_X4_clearCell_0 25 rfl) rfl ?_
    refine mm_iadd (mm_dc od_X4_clearCell_0 26 rfl) ?_
    refine mm_lald (mm_dc od_X4_clearCell_0 27 rfl) rfl (by first | omega | assumption | exact hcM (by omega) | exact hr _ _ rfl) (by first | omega | assumption | exact hcM (by omega) | exact hr _ _ rfl) (by decide) ?_
    refine mm_lmul (mm_dc od_X4_clearCell_0 28 rfl) ?_
    refine mm_lload (mm_dc od_X4_clearCell_0 29 rfl) rfl ?_
    refine mm_aload_n (mm_dc od_X4_clearCell_0 30 rfl) rfl ?_
    refine mm_getR (ci := 4) (k := 7) (mm_dc od_X4_clearCell_0 31 rfl) rfl in_X4 (by decide) wd_1_94 rfl rfl ?_
    refine mm_iload_n (mm_dc od_X4_clearCell_0 32 rfl) rfl ?_
    refine mm_bipush (mm_dc od_X4_clearCell_0 33 rfl) (by decide) ?_
    refine mm_imul (mm_dc od_X4_clearCell_0 34 rfl) ?_
    refine mm_iload (mm_dc od_X4_clearCell_0 35 rfl) rfl ?_
    refine mm_iadd (mm_dc od_X4_clearCell_0 36 rfl) ?_
    refine mm_lald (mm_dc od_X4_clearCell_0 37 rfl) rfl (by first | omega | assumption | exact hcM (by omega) | exact hr _ _ rfl) (by first | omega | assumption | exact hcM (by omega) | exact hr _ _ rfl) (by decide) ?_
    refine mm_lmul (mm_dc od_X4_clearCell_0 38 rfl) ?_
    refine mm_lsub (mm_dc od_X4_clearCell_0 39 rfl) ?_
    refine mm_lstore (L' := [(0, v_r 10), (1, v_i (i : Int)), (2, v_i (k : Int)), (3, v_l p), (5, v_l l), (7, v_l (B 16 (7 * i + k))), (9, v_i (j : Int)), (10, v_l ((p * (M 16 (Int.toNat (((i : Int) * 7) + (j : Int))))) - ((B 16 (7 * i + k)) * (M 16 (Int.toNat (((k : Int) * 7) + (j : Int)))))))]) (mm_dc od_X4_clearCell_0 40 rfl) (by decide) rfl ?_
    refine mm_aload_n (mm_dc od_X4_clearCell_0 41 rfl) rfl ?_
    refine mm_getR (ci := 4) (k := 7) (mm_dc od_X4_clearCell_0 42 rfl) rfl in_X4 (by decide) wd_1_94 rfl rfl ?_
    refine mm_iload_n (mm_dc od_X4_clearCell_0 43 rfl) rfl ?_
    refine mm_bipush (mm_dc od_X4_clearCell_0 44 rfl) (by decide) ?_
    refine mm_imul (mm_dc od_X4_clearCell_0 45 rfl) ?_
    refine mm_iload (mm_dc od_X4_clearCell_0 46 rfl) rfl ?_
    refine mm_iadd (mm_dc od_X4_clearCell_0 47 rfl) ?_
    refine mm_lload (mm_dc od_X4_clearCell_0 48 rfl) rfl ?_
    refine mm_lload (mm_dc od_X4_clearCell_0 49 rfl) rfl ?_
    refine mm_ldiv (mm_dc od_X4_clearCell_0 50 rfl) (by first | omega | assumption | exact hcM (by omega) | exact hr _ _ rfl) (by first | omega | assumption | exact hcM (by omega) | exact hr _ _ rfl) (by first | omega | assumption | exact hcM (by omega) | exact hr _ _ rfl) ?_
    refine mm_last (mm_dc od_X4_clearCell_0 51 rfl) rfl (by first | omega | assumption | exact hcM (by omega) | exact hr _ _ rfl) (by first | omega | assumption | exact hcM (by omega) | exact hr _ _ rfl) (by decide) ?_
    refine mm_iinc (L' := [(0, v_r 10), (1, v_i (i : Int)), (2, v_i (k : Int)), (3, v_l p), (5, v_l l), (7, v_l (B 16 (7 * i + k))), (9, v_i ((j : Int) + 1)), (10, v_l ((p * (M 16 (Int.toNat (((i : Int) * 7) + (j : Int))))) - ((B 16 (7 * i + k)) * (M 16 (Int.toNat (((k : Int) * 7) + (j : Int)))))))]) (mm_dc od_X4_clearCell_0 52 rfl) rfl (by decide) rfl ?_
    refine mm_goto 24 (mm_dc od_X4_clearCell_0 53 rfl) (by omega) ?_
    rw [ixi]
    exact mm_less [0, 1, 2, 3, 4, 5, 6] rfl (L_cl24 i k p l hi hk hn hl hl0 hcr K (j + 1) (by omega) (CL_s hN hi hk hn (by omega) (by rw [ixk])))
termination_by 7 - j
decreasing_by all_goals (first | omega | (simp_wf; omega))
theorem L_cl0 {X : Nat × (Nat → Int)} {d : Nat} {Po : mm_Po} {M : mm_M} (i k : Nat) (p l : Int) (hi : i < 6) (hk : k < 6) (hn : i ≠ k) (hl : mm_r64 l) (hl0 : l ≠ 0) (hcr : ∀ c, c < 7 → mm_r64 (p * M 16 (7 * i + c) - M 16 (7 * i + k) * M 16 (7 * k + c))) (hr : R32 M) (K : ∀ N : mm_M, CL M i k p l 7 N → Po none Lam N) : mm_G X d 0 0 mi_X4_clearCell Po 0 [(0, v_r 10), (1, v_i (i : Int)), (2, v_i (k : Int)), (3, v_l p), (5, v_l l)] [] Lam M 0 0 := by
  have qz := mm_cmp_is l 0
  refine mm_lload (mm_dc od_X4_clearCell_0 0 rfl) rfl ?_
  refine mm_lconst (mm_dc od_X4_clearCell_0 1 rfl) ?_
  refine mm_cst (st' := [v_l 0, v_l l]) rfl ?_
  refine mm_lcmp (mm_dc od_X4_clearCell_0 2 rfl) (by first | omega | assumption) (by first | omega | assumption) ?_
  refine mm_if_ne 8 (mm_dc od_X4_clearCell_0 3 rfl) (by omega) (by first | omega | assumption) (fun c1 => ?_) (fun c1 => ?_)
  · refine mm_aload_n (mm_dc od_X4_clearCell_0 5 rfl) rfl ?_
    refine mm_getR (ci := 4) (k := 7) (mm_dc od_X4_clearCell_0 6 rfl) rfl in_X4 (by decide) wd_1_94 rfl rfl ?_
    refine mm_iload_n (mm_dc od_X4_clearCell_0 7 rfl) rfl ?_
    refine mm_bipush (mm_dc od_X4_clearCell_0 8 rfl) (by decide) ?_
    refine mm_imul (mm_dc od_X4_clearCell_0 9 rfl) ?_
    refine mm_iload_n (mm_dc od_X4_clearCell_0 10 rfl) rfl ?_
    refine mm_iadd (mm_dc od_X4_clearCell_0 11 rfl) ?_
    refine mm_lald (mm_dc od_X4_clearCell_0 12 rfl) rfl (by first | omega | assumption) (by first | omega | assumption) (by decide) ?_
    refine mm_lstore (L' := [(0, v_r 10), (1, v_i (i : Int)), (2, v_i (k : Int)), (3, v_l p), (5, v_l l), (7, v_l (M 16 (Int.toNat (((i : Int) * 7) + (k : Int)))))]) (mm_dc od_X4_clearCell_0 13 rfl) (by decide) rfl ?_
    refine mm_iconst (mm_dc od_X4_clearCell_0 14 rfl) ?_
    refine mm_istore (L' := [(0, v_r 10), (1, v_i (i : Int)), (2, v_i (k : Int)), (3, v_l p), (5, v_l l), (7, v_l (M 16 (Int.toNat (((i : Int) * 7) + (k : Int))))), (9, v_i 0)]) (mm_dc od_X4_clearCell_0 15 rfl) (by decide) rfl ?_
    refine mm_cL (L' := [(0, v_r 10), (1, v_i (i : Int)), (2, v_i (k : Int)), (3, v_l p), (5, v_l l), (7, v_l (M 16 (7 * i + k))), (9, v_i 0)]) (by rw [show ((i : Int) * 7 + (k : Int)).toNat = 7 * i + k by omega]) ?_
    exact L_cl24 i k p l hi hk hn hl hl0 hcr K 0 (by omega) ⟨frm_0 hr, fun i2 c h2 hc => by rw [if_neg (by omega)]⟩
  · refine mm_ret (mm_dc od_X4_clearCell_0 4 rfl) rfl ?_
    exfalso; omega
/-! all rows of a step -/
def EI (B : mm_M) (A : Nat → Nat → Int) (n k i : Nat) (M : mm_M) : Prop := frm 16 B M ∧ ∀ i2 c : Nat, i2 < n → c < 7 → M 16 (7 * i2 + c) = if i2 < i ∧ i2 ≠ k then cc A (k + 1) i2 c else cc A k i2 c
def EO (B : mm_M) (A : Nat → Nat → Int) (n k : Nat) (M : mm_M) : Prop := frm 16 B M ∧ ∀ i2 c : Nat, i2 < n → c < 7 → M 16 (7 * i2 + c) = cc A k i2 c
theorem EI_k {B M : mm_M} {A : Nat → Nat → Int} {n k : Nat} (h : EI B A n k k M) : EI B A n k (k + 1) M := by
  refine ⟨h.1, fun i2 c h2 hc => ?_⟩
  rw [h.2 i2 c h2 hc]
  by_cases e : i2 < k ∧ i2 ≠ k
  · rw [if_pos e, if_pos (by omega)]
  · rw [if_neg e, if_neg (by omega)]
theorem EI_n {B M : mm_M} {A : Nat → Nat → Int} {n k : Nat} (h : EI B A n k n M) : EO B A n (k + 1) M := by
  refine ⟨h.1, fun i2 c h2 hc => ?_⟩
  rw [h.2 i2 c h2 hc]
  by_cases e : i2 = k
  · rw [if_neg (by omega), e, cc_row]
  · rw [if_pos (by omega)]
theorem EI_0 {B M : mm_M} {A : Nat → Nat → Int} {n k : Nat} (h : EO B A n k M) : EI B A n k 0 M := ⟨h.1, fun i2 c h2 hc => by rw [h.2 i2 c h2 hc, if_neg (by omega)]⟩
theorem EI_cr {B M : mm_M} {A : Nat → Nat → Int} {a : Nat → Int} {n k i c : Nat} (hA : LQ A n a) (h : EI B A n k i M) (hk : k < n) (hi : i < n) (hn : i ≠ k) (hc : c < 7) : dt (k + 1) A * M 16 (7 * i + c) - M 16 (7 * i + k) * M 16 (7 * k + c) = dt k A * cc A (k + 1) i c := by
  have h6 := hA.1
  rw [h.2 i c hi hc, h.2 i k hi (by omega), h.2 k c hk hc, if_neg (by omega), if_neg (by omega), if_neg (by omega)]
  exact cc_step hA.2.1 hk i c hn
theorem EI_s {B M N : mm_M} {A : Nat → Nat → Int} {a : Nat → Int} {n k i : Nat} (hA : LQ A n a) (h : EI B A n k i M) (hk : k < n) (hi : i < n) (hn : i ≠ k) (hC : CL M i k (dt (k + 1) A) (dt k A) 7 N) : EI B A n k (i + 1) N := by
  have h6 := hA.1
  have hd := (dt_5 hA (k := k) (by omega)).1
  refine ⟨frm_tr h.1 hC.1, fun i2 c h2 hc => ?_⟩
  rw [hC.2 i2 c (by omega) hc]
  by_cases e : i2 = i
  · rw [if_pos ⟨e, hc⟩, if_pos (by omega), EI_cr hA h hk hi hn hc, Int.mul_tdiv_cancel_left _ (by omega), e]
  · rw [if_neg (fun q => e q.1), h.2 i2 c h2 hc]
    by_cases q : i2 < i ∧ i2 ≠ k
    · rw [if_pos q, if_pos (by omega)]
    · rw [if_neg q, if_neg (by omega)]
theorem L_el38 {X : Nat × (Nat → Int)} {d : Nat} {Po : mm_Po} {M : mm_M} {B : mm_M} {A : Nat → Nat → Int} {a : Nat → Int} (n k : Nat) (hA : LQ A n a) (hk : k < n) (K : ∀ N : mm_M, EI B A n k n N → mm_G X (d + 1) 0 0 mi_X4_eliminate Po 68 [(0, v_r 10), (1, v_i (n : Int)), (2, v_l (dt k A)), (4, v_i (k : Int)), (5, v_l (dt (k + 1) A)), (7, v_i (n : Int))] [] Lam N 0 0) (i : Nat) (hi : i ≤ n) (hN : EI B A n k i M) : mm_G X (d + 1) 0 0 mi_X4_eliminate Po 38 [(0, v_r 10), (1, v_i (n : Int)), (2, v_l (dt k A)), (4, v_i (k : Int)), (5, v_l (dt (k + 1) A)), (7, v_i (i : Int))] [] Lam M 0 0 := by
  have hr := hN.1.1
  have h6 := hA.1
  have d1 := dt_5 hA (k := k) (by omega)
  have d2 := dt_5 hA (k := k + 1) (by omega)
  refine mm_iload (mm_dc od_X4_eliminate_0 24 rfl) rfl ?_
  refine mm_iload_n (mm_dc od_X4_eliminate_0 25 rfl) rfl ?_
  refine mm_icmp_ge 68 (mm_dc od_X4_eliminate_0 26 rfl) (by omega) (by first | omega | assumption | exact hr _ _ rfl) (by first | omega | assumption | exact hr _ _ rfl) (fun c1 => ?_) (fun c1 => ?_)
  · have e : i = n := by omega
    subst e
    exact K _ hN
  · refine mm_iload (mm_dc od_X4_eliminate_0 27 rfl) rfl ?_
    refine mm_iload (mm_dc od_X4_eliminate_0 28 rfl) rfl ?_
    refine mm_icmp_eq 62 (mm_dc od_X4_eliminate_0 29 rfl) (by omega) (by first | omega | assumption | exact hr _ _ rfl) (by first | omega | assumption | exact hr _ _ rfl) (fun c2 => ?_) (fun c2 => ?_)
    · refine mm_iinc (L' := [(0, v_r 10), (1, v_i (n : Int)), (2, v_l (dt k A)), (4, v_i (k : Int)), (5, v_l (dt (k + 1) A)), (7, v_i ((i : Int) + 1))]) (mm_dc od_X4_eliminate_0 36 rfl) rfl (by decide) rfl ?_
      refine mm_goto 38 (mm_dc od_X4_eliminate_0 37 rfl) (by omega) ?_
      have e : i = k := by omega
      subst e
      exact L_el38 n i hA hk K (i + 1) (by omega) (EI_k hN)
    · refine mm_aload_n (mm_dc od_X4_eliminate_0 30 rfl) rfl ?_
      refine mm_iload (mm_dc od_X4_eliminate_0 31 rfl) rfl ?_
      refine mm_iload (mm_dc od_X4_eliminate_0 32 rfl) rfl ?_
      refine mm_lload (mm_dc od_X4_eliminate_0 33 rfl) rfl ?_
      refine mm_lload_n (mm_dc od_X4_eliminate_0 34 rfl) rfl ?_
      refine mm_callV (b := 10) (mi' := mi_X4_clearCell) [v_i (i : Int), v_i (k : Int), v_l (dt (k + 1) A), v_l (dt k A)] [] (mm_dc od_X4_eliminate_0 35 rfl) rfl wd_2_207 wd_2_209 wd_p_4 wd_1_3 wd_2_210 yk_X4_clearCell rfl rfl rfl (Nat.le_of_ble_eq_true rfl) rfl (by decide) (L_cl0 i k (dt (k + 1) A) (dt k A) (by omega) (by omega) (by omega) (by omega) (by omega) (fun c hc => by rw [EI_cr hA hN hk (by omega) (by omega) hc]; exact cr_r hA hk (by omega) (by omega)) hr (fun N hC => ⟨Nat.le_refl _, ?_⟩))
      refine mm_iinc (L' := [(0, v_r 10), (1, v_i (n : Int)), (2, v_l (dt k A)), (4, v_i (k : Int)), (5, v_l (dt (k + 1) A)), (7, v_i ((i : Int) + 1))]) (mm_dc od_X4_eliminate_0 36 rfl) rfl (by decide) rfl ?_
      refine mm_goto 38 (mm_dc od_X4_eliminate_0 37 rfl) (by omega) ?_
      exact L_el38 n k hA hk K (i + 1) (by omega) (EI_s hA hN hk (by omega) (by omega) hC)
termination_by n - i
decreasing_by all_goals (first | omega | (simp_wf; omega))
theorem L_el68 {X : Nat × (Nat → Int)} {d : Nat} {Po : mm_Po} {M : mm_M} (n k : Nat) (x y : Int) (l p : Int) (K : mm_G X (d + 1) 0 0 mi_X4_eliminate Po 5 [(0, v_r 10), (1, v_i (n : Int)), (2, v_l p), (4, v_i ((k + 1 : Nat) : Int))] [] Lam M 0 0) : mm_G X (d + 1) 0 0 mi_X4_eliminate Po 68 [(0, v_r 10), (1, v_i (n : Int)), (2, v_l l), (4, v_i (k : Int)), (5, v_l p), (7, v_i x)] [] Lam M 0 0 := by
  refine mm_lload (mm_dc od_X4_eliminate_0 38 rfl) rfl ?_
  refine mm_lstore_n (L' := [(0, v_r 10), (1, v_i (n : Int)), (2, v_l p), (4, v_i (k : Int)), (5, v_l p), (7, v_i x)]) (mm_dc od_X4_eliminate_0 39 rfl) (by decide) rfl ?_
  refine mm_iinc (L' := [(0, v_r 10), (1, v_i (n : Int)), (2, v_l p), (4, v_i ((k : Int) + 1)), (5, v_l p), (7, v_i x)]) (mm_dc od_X4_eliminate_0 40 rfl) rfl (by decide) rfl ?_
  refine mm_goto 5 (mm_dc od_X4_eliminate_0 41 rfl) (by omega) ?_
  exact mm_less [0, 1, 2, 3] rfl K
theorem L_el5 {X : Nat × (Nat → Int)} {d : Nat} {Po : mm_Po} {M : mm_M} {B : mm_M} {A : Nat → Nat → Int} {a : Nat → Int} (n : Nat) (hA : LQ A n a) (k0 : ∀ N : mm_M, (R32 N ∧ (∀ i, i ≠ 16 → i ≠ 10 → N i = B i) ∧ (∀ q, q ≠ 5 → N 10 q = B 10 q) ∧ N 10 5 = dt n A ∧ ∀ i2 c : Nat, i2 < n → c < 7 → N 16 (7 * i2 + c) = cc A n i2 c) → Po (some (v_i 1)) Lam N) (k : Nat) (hk : k ≤ n) (hN : EO B A n k M) : mm_G X (d + 1) 0 0 mi_X4_eliminate Po 5 [(0, v_r 10), (1, v_i (n : Int)), (2, v_l (dt k A)), (4, v_i (k : Int))] [] Lam M 0 0 := by
  have hr := hN.1.1
  have h6 := hA.1
  have d1 := dt_5 hA (k := k) (by omega)
  have d2 : k < n → 0 < dt (k + 1) A ∧ dt (k + 1) A ≤ 5618656 ∧ (k + 1 ≤ 5 → dt (k + 1) A ≤ 1048576) := (fun q => dt_5 hA (k := k + 1) (by omega))
  have hpv : k < n → M 16 (((k : Int) * 7 + (k : Int)).toNat) = dt (k + 1) A := (fun q => by rw [show ((k : Int) * 7 + (k : Int)).toNat = 7 * k + k by omega, hN.2 k k q (by omega), cc_kk])
  have qz := mm_cmp_is (M 16 (((k : Int) * 7 + (k : Int)).toNat)) 0
  refine mm_iload (mm_dc od_X4_eliminate_0 4 rfl) rfl ?_
  refine mm_iload_n (mm_dc od_X4_eliminate_0 5 rfl) rfl ?_
  refine mm_icmp_ge 77 (mm_dc od_X4_eliminate_0 6 rfl) (by omega) (by first | omega | assumption | exact hr _ _ rfl) (by first | omega | assumption | exact hr _ _ rfl) (fun c1 => ?_) (fun c1 => ?_)
  · refine mm_aload_n (mm_dc od_X4_eliminate_0 42 rfl) rfl ?_
    refine mm_lload_n (mm_dc od_X4_eliminate_0 43 rfl) rfl ?_
    refine mm_putL (ci := 4) (k := 5) (mm_dc od_X4_eliminate_0 44 rfl) rfl in_X4 tyX4_ok nmX4 (by decide) wd_1_91 rfl rfl rfl rfl ?_
    refine mm_iconst (mm_dc od_X4_eliminate_0 45 rfl) ?_
    refine mm_zret .boolean (mm_dc od_X4_eliminate_0 46 rfl) rfl rfl ?_
    have e : k = n := by omega
    subst e
    refine k0 _ ⟨R32_upL hr rfl, fun i h1 h2 => ?_, fun q hq => ?_, mm_up_eq, fun i2 c h2 hc => ?_⟩
    · rw [mm_up_ne h2]; exact hN.1.2 i h1
    · rw [mm_upa, if_neg hq, hN.1.2 10 (by decide)]
    · rw [mm_up_ne (by decide)]; exact hN.2 i2 c h2 hc
  · refine mm_aload_n (mm_dc od_X4_eliminate_0 7 rfl) rfl ?_
    refine mm_getR (ci := 4) (k := 7) (mm_dc od_X4_eliminate_0 8 rfl) rfl in_X4 (by decide) wd_1_94 rfl rfl ?_
    refine mm_iload (mm_dc od_X4_eliminate_0 9 rfl) rfl ?_
    refine mm_bipush (mm_dc od_X4_eliminate_0 10 rfl) (by decide) ?_
    refine mm_imul (mm_dc od_X4_eliminate_0 11 rfl) ?_
    refine mm_iload (mm_dc od_X4_eliminate_0 12 rfl) rfl ?_
    refine mm_iadd (mm_dc od_X4_eliminate_0 13 rfl) ?_
    refine mm_lald (mm_dc od_X4_eliminate_0 14 rfl) rfl (by first | omega | assumption | exact hr _ _ rfl) (by first | omega | assumption | exact hr _ _ rfl) (by decide) ?_
    refine mm_lstore (L' := [(0, v_r 10), (1, v_i (n : Int)), (2, v_l (dt k A)), (4, v_i (k : Int)), (5, v_l (M 16 (Int.toNat (((k : Int) * 7) + (k : Int)))))]) (mm_dc od_X4_eliminate_0 15 rfl) (by decide) rfl ?_
    refine mm_lload (mm_dc od_X4_eliminate_0 16 rfl) rfl ?_
    refine mm_lconst (mm_dc od_X4_eliminate_0 17 rfl) ?_
    refine mm_cst (st' := [v_l 0, v_l (M 16 (Int.toNat (((k : Int) * 7) + (k : Int))))]) rfl ?_
    refine mm_lcmp (mm_dc od_X4_eliminate_0 18 rfl) (by first | omega | assumption | exact hr _ _ rfl) (by first | omega | assumption | exact hr _ _ rfl) ?_
    refine mm_if_gt 35 (mm_dc od_X4_eliminate_0 19 rfl) (by omega) (by first | omega | assumption | exact hr _ _ rfl) (fun c2 => ?_) (fun c2 => ?_)
    · refine mm_iconst (mm_dc od_X4_eliminate_0 22 rfl) ?_
      refine mm_istore (L' := [(0, v_r 10), (1, v_i (n : Int)), (2, v_l (dt k A)), (4, v_i (k : Int)), (5, v_l (M 16 (Int.toNat (((k : Int) * 7) + (k : Int))))), (7, v_i 0)]) (mm_dc od_X4_eliminate_0 23 rfl) (by decide) rfl ?_
      refine mm_cL (L' := [(0, v_r 10), (1, v_i (n : Int)), (2, v_l (dt k A)), (4, v_i (k : Int)), (5, v_l (dt (k + 1) A)), (7, v_i 0)]) (by rw [hpv (by omega)]) ?_
      exact L_el38 n k hA (by omega) (fun N hE => L_el68 n k _ 0 _ _ (L_el5 n hA k0 (k + 1) (by omega) (EI_n hE))) 0 (by omega) (EI_0 hN)
    · refine mm_iconst (mm_dc od_X4_eliminate_0 20 rfl) ?_
      refine mm_zret .boolean (mm_dc od_X4_eliminate_0 21 rfl) rfl rfl ?_
      exfalso; omega
termination_by n - k
decreasing_by all_goals (first | omega | (simp_wf; omega))
theorem L_el0 {X : Nat × (Nat → Int)} {d : Nat} {Po : mm_Po} {M : mm_M} {A : Nat → Nat → Int} {a : Nat → Int} (n : Nat) (hA : LQ A n a) (hr : R32 M) (hc : ∀ i c : Nat, i < n → c < 7 → M 16 (7 * i + c) = A c i) (k0 : ∀ N : mm_M, (R32 N ∧ (∀ i, i ≠ 16 → i ≠ 10 → N i = M i) ∧ (∀ q, q ≠ 5 → N 10 q = M 10 q) ∧ N 10 5 = dt n A ∧ ∀ i2 c : Nat, i2 < n → c < 7 → N 16 (7 * i2 + c) = cc A n i2 c) → Po (some (v_i 1)) Lam N) : mm_G X (d + 1) 0 0 mi_X4_eliminate Po 0 [(0, v_r 10), (1, v_i (n : Int))] [] Lam M 0 0 := by
  refine mm_lconst (mm_dc od_X4_eliminate_0 0 rfl) ?_
  refine mm_cst (st' := [v_l 1]) rfl ?_
  refine mm_lstore_n (L' := [(0, v_r 10), (1, v_i (n : Int)), (2, v_l 1)]) (mm_dc od_X4_eliminate_0 1 rfl) (by decide) rfl ?_
  refine mm_iconst (mm_dc od_X4_eliminate_0 2 rfl) ?_
  refine mm_istore (L' := [(0, v_r 10), (1, v_i (n : Int)), (2, v_l 1), (4, v_i 0)]) (mm_dc od_X4_eliminate_0 3 rfl) (by decide) rfl ?_
  exact L_el5 n hA k0 0 (by omega) ⟨frm_0 hr, fun i2 c h2 hc2 => by rw [cc_zero]; exact hc i2 c h2 hc2⟩
/-! a group solved -/
def mxM (M : mm_M) (m : Nat) : Nat → Nat → Int := mxG (M 11) (M 12) (M 13) (M 10 0).toNat m
def svO (A : Nat → Nat → Int) (n m o : Nat) : Int := if 0 ≤ rowF m o then cc A n (rowF m o).toNat 6 else 0
def frS (M N : mm_M) : Prop := R32 N ∧ (∀ i, i ≠ 14 → i ≠ 15 → i ≠ 16 → i ≠ 10 → N i = M i) ∧ ∀ q, q ≠ 5 → N 10 q = M 10 q
def SV (M : mm_M) (m n : Nat) (N : mm_M) : Prop := frS M N ∧ N 10 5 = dt n (mxM M m) ∧ ∀ o, o < 16 → N 14 o = svO (mxM M m) n m o
def S3 (B : mm_M) (A : Nat → Nat → Int) (n m j : Nat) (M : mm_M) : Prop := frm 14 B M ∧ ∀ o, o < j → M 14 o = svO A n m o
theorem S3_t {B M : mm_M} {A : Nat → Nat → Int} {n m j : Nat} {v : Int} (h : S3 B A n m j M) (hv : v = svO A n m j) : S3 B A n m (j + 1) (mm_up M 14 j v) := by
  refine ⟨frm_upL h.1 rfl, fun o ho => ?_⟩
  rw [mm_upa]
  by_cases e : o = j
  · rw [if_pos e, hv, e]
  · rw [if_neg e]; exact h.2 o (by omega)
theorem L_so37 {X : Nat × (Nat → Int)} {d : Nat} {Po : mm_Po} {M : mm_M} {B : mm_M} {A : Nat → Nat → Int} (m n : Nat) (hc : n ≤ 6) (hn : cntb m = (n : Int) + 1) (hw : ∀ o, o < 16 → B 15 o = rowF m o ∧ -1 ≤ rowF m o ∧ rowF m o < n) (hcl : ∀ i2 c : Nat, i2 < n → c < 7 → B 16 (7 * i2 + c) = cc A n i2 c) (g rows : Int) (k : ∀ N : mm_M, S3 B A n m 16 N → Po (some (v_i 1)) Lam N) (j : Nat) (hj : j ≤ 16) (hN : S3 B A n m j M) : mm_G X (d + 2) 0 0 mi_X4_solve Po 37 [(0, v_r 10), (1, v_i g), (2, v_i rows), (3, v_i (j : Int))] [] Lam M 0 0 := by
  have hr := hN.1.1
  have hrow : j < 16 → M 15 j = rowF m j := (fun q => by rw [hN.1.2 15 (by decide)]; exact (hw j q).1)
  have hrr : j < 16 → -1 ≤ rowF m j ∧ rowF m j < n := (fun q => (hw j q).2)
  refine mm_iload_n (mm_dc od_X4_solve_0 24 rfl) rfl ?_
  refine mm_bipush (mm_dc od_X4_solve_0 25 rfl) (by decide) ?_
  refine mm_icmp_ge 85 (mm_dc od_X4_solve_0 26 rfl) (by omega) (by first | omega | assumption | exact hr _ _ rfl) (by first | omega | assumption | exact hr _ _ rfl) (fun c1 => ?_) (fun c1 => ?_)
  · refine mm_iconst (mm_dc od_X4_solve_0 51 rfl) ?_
    refine mm_zret .boolean (mm_dc od_X4_solve_0 52 rfl) rfl rfl ?_
    have e : j = 16 := by omega
    subst e
    exact k _ hN
  · refine mm_aload_n (mm_dc od_X4_solve_0 27 rfl) rfl ?_
    refine mm_getR (ci := 4) (k := 4) (mm_dc od_X4_solve_0 28 rfl) rfl in_X4 (by decide) wd_1_89 rfl rfl ?_
    refine mm_iload_n (mm_dc od_X4_solve_0 29 rfl) rfl ?_
    refine mm_aload_n (mm_dc od_X4_solve_0 30 rfl) rfl ?_
    refine mm_getR (ci := 4) (k := 6) (mm_dc od_X4_solve_0 31 rfl) rfl in_X4 (by decide) wd_1_93 rfl rfl ?_
    refine mm_iload_n (mm_dc od_X4_solve_0 32 rfl) rfl ?_
    refine mm_iald (mm_dc od_X4_solve_0 33 rfl) rfl (by first | omega | assumption | exact hr _ _ rfl) (by first | omega | assumption | exact hr _ _ rfl) (by decide) ?_
    refine mm_cst (st' := [v_i (M 15 j), v_i (j : Int), v_r 14]) rfl ?_
    refine mm_if_lt 77 (mm_dc od_X4_solve_0 34 rfl) (by omega) (by first | omega | assumption | exact hr _ _ rfl) (fun c2 => ?_) (fun c2 => ?_)
    · refine mm_lconst (mm_dc od_X4_solve_0 47 rfl) ?_
      refine mm_cst (st' := [v_l 0, v_i (j : Int), v_r 14]) rfl ?_
      refine mm_last (mm_dc od_X4_solve_0 48 rfl) rfl (by first | omega | assumption | exact hr _ _ rfl) (by first | omega | assumption | exact hr _ _ rfl) (by decide) ?_
      refine mm_eqM (M' := mm_up M 14 j 0) rfl ?_
      refine mm_iinc (L' := [(0, v_r 10), (1, v_i g), (2, v_i rows), (3, v_i ((j : Int) + 1))]) (mm_dc od_X4_solve_0 49 rfl) rfl (by decide) rfl ?_
      refine mm_goto 37 (mm_dc od_X4_solve_0 50 rfl) (by omega) ?_
      exact L_so37 m n hc hn hw hcl g rows k (j + 1) (by omega) (S3_t hN (by
        unfold svO
        rw [← hrow (by omega), if_neg (by omega)]))
    · refine mm_aload_n (mm_dc od_X4_solve_0 35 rfl) rfl ?_
      refine mm_getR (ci := 4) (k := 7) (mm_dc od_X4_solve_0 36 rfl) rfl in_X4 (by decide) wd_1_94 rfl rfl ?_
      refine mm_aload_n (mm_dc od_X4_solve_0 37 rfl) rfl ?_
      refine mm_getR (ci := 4) (k := 6) (mm_dc od_X4_solve_0 38 rfl) rfl in_X4 (by decide) wd_1_93 rfl rfl ?_
      refine mm_iload_n (mm_dc od_X4_solve_0 39 rfl) rfl ?_
      refine mm_iald (mm_dc od_X4_solve_0 40 rfl) rfl (by first | omega | assumption | exact hr _ _ rfl) (by first | omega | assumption | exact hr _ _ rfl) (by decide) ?_
      refine mm_cst (st' := [v_i (M 15 j), v_r 16, v_i (j : Int), v_r 14]) rfl ?_
      refine mm_bipush (mm_dc od_X4_solve_0 41 rfl) (by decide) ?_
      refine mm_imul (mm_dc od_X4_solve_0 42 rfl) ?_
      refine mm_bipush (mm_dc od_X4_solve_0 43 rfl) (by decide) ?_
      refine mm_iadd (mm_dc od_X4_solve_0 44 rfl) ?_
      refine mm_lald (mm_dc od_X4_solve_0 45 rfl) rfl (by first | omega | assumption | exact hr _ _ rfl) (by first | omega | assumption | exact hr _ _ rfl) (by decide) ?_
      refine mm_goto 78 (mm_dc od_X4_solve_0 46 rfl) (by omega) ?_
      refine mm_last (mm_dc od_X4_solve_0 48 rfl) rfl (by first | omega | assumption | exact hr _ _ rfl) (by first | omega | assumption | exact hr _ _ rfl) (by decide) ?_
      refine mm_eqM (M' := mm_up M 14 j (M 16 (Int.toNat (((M 15 j) * 7) + 6)))) rfl ?_
      refine mm_iinc (L' := [(0, v_r 10), (1, v_i g), (2, v_i rows), (3, v_i ((j : Int) + 1))]) (mm_dc od_X4_solve_0 49 rfl) rfl (by decide) rfl ?_
      refine mm_goto 37 (mm_dc od_X4_solve_0 50 rfl) (by omega) ?_
      exact L_so37 m n hc hn hw hcl g rows k (j + 1) (by omega) (S3_t hN (by
        unfold svO
        rw [← hrow (by omega), if_pos (by omega), show (M 15 j * 7 + 6).toNat = 7 * (M 15 j).toNat + 6 by omega, hN.1.2 16 (by decide), hcl _ 6 (by have := hw j (by omega); rw [← hrow (by omega)] at this; omega) (by omega)]))
termination_by 16 - j
decreasing_by all_goals (first | omega | (simp_wf; omega))
theorem c_X4_solve {X : Nat × (Nat → Int)} {d : Nat} {Po : mm_Po} {M : mm_M} (g : Int) (hg : 0 ≤ g ∧ g < 65536) (hgq : ∃ o, o < 16 ∧ grpQ (M 11) (M 12) (M 10 0).toNat o g.toNat) (hJr : JRc M) (ho16 : M 1 0 ≤ 16) (hr : R32 M) (k : ∀ (N : mm_M) (r : Int), ((7 < cntb g.toNat ∧ r = 0 ∧ N = M) ∨ (r = 1 ∧ ∃ n : Nat, n ≤ 6 ∧ cntb g.toNat = (n : Int) + 1 ∧ SV M g.toNat n N)) → Po (some (v_i r)) Lam N) : mm_E X (d + 2) 0 0 mi_X4_solve [v_r 10, v_i g] Po Lam M := by
  show mm_G X (d + 2) 0 0 mi_X4_solve Po 0 [(0, v_r 10), (1, v_i g)] [] Lam M 0 0
  have hcr := cntb_r g.toNat
  have hc1 : 1 ≤ cntb g.toNat := (by
    obtain ⟨o, h1, h2⟩ := hgq
    have h := rowc_st (C := fun i => g.toNat.testBit i) h1 h2.2.1
    have h3 := rowc_r (fun i => g.toNat.testBit i) o
    unfold cntb; omega)
  obtain ⟨n, hn⟩ : ∃ n : Nat, cntb g.toNat = (n : Int) + 1 := ⟨(cntb g.toNat - 1).toNat, (by omega)⟩
  have ern : cntb g.toNat ≤ 7 → cntb g.toNat - 1 = (n : Int) := (fun _ => by omega)
  have hrF : ∀ o, o < 16 → -1 ≤ rowF g.toNat o ∧ rowF g.toNat o < n := fun o ho => rowF_r ho hn
  have hmx : cntb g.toNat ≤ 7 → ∃ a, LQ (mxM M g.toNat) n a := (fun q => by
    obtain ⟨o, h1, h2⟩ := hgq
    refine mx_LQ h2 h1 (by omega) (by have := hJr.2.1; omega) hn (fun r hr2 => ?_)
    have h := hJr.2.2 r (by omega)
    omega)
  refine mm_iload_n (mm_dc od_X4_solve_0 0 rfl) rfl ?_
  refine mm_callS (mi' := mi_J6_bitCount_0f7a4) [v_i g] [] (mm_dc od_X4_solve_0 1 rfl) rfl wd_2_181 wd_2_182 wd_1_13 wd_2_183 yk_J6_bitCount_0f7a4 (Nat.le_of_ble_eq_true rfl) rfl (by decide) (c_J6_bitCount_0f7a4 g (by first | omega | assumption | exact hr _ _ rfl) ⟨Nat.le_refl _, ?_⟩)
  refine mm_iconst (mm_dc od_X4_solve_0 2 rfl) ?_
  refine mm_isub (mm_dc od_X4_solve_0 3 rfl) ?_
  refine mm_istore_n (L' := [(0, v_r 10), (1, v_i g), (2, v_i ((cntb g.toNat) - 1))]) (mm_dc od_X4_solve_0 4 rfl) (by decide) rfl ?_
  refine mm_iload_n (mm_dc od_X4_solve_0 5 rfl) rfl ?_
  refine mm_bipush (mm_dc od_X4_solve_0 6 rfl) (by decide) ?_
  refine mm_icmp_le 15 (mm_dc od_X4_solve_0 7 rfl) (by omega) (by first | omega | assumption | exact hr _ _ rfl) (by first | omega | assumption | exact hr _ _ rfl) (fun c1 => ?_) (fun c1 => ?_)
  · refine mm_aload_n (mm_dc od_X4_solve_0 10 rfl) rfl ?_
    refine mm_iload_n (mm_dc od_X4_solve_0 11 rfl) rfl ?_
    refine mm_callV (b := 10) (mi' := mi_X4_numberRows) [v_i g] [] (mm_dc od_X4_solve_0 12 rfl) rfl wd_2_187 wd_2_189 wd_p_0 wd_1_3 wd_2_190 yk_X4_numberRows rfl rfl rfl (Nat.le_of_ble_eq_true rfl) rfl (by decide) (c_X4_numberRows g (by first | omega | assumption | exact hr _ _ rfl) (by first | omega | assumption | exact hr _ _ rfl) (fun N3 hq4 => ⟨Nat.le_refl _, ?_⟩))
    have hr := hq4.1.1
    have hJr1 : JRc N3 := by unfold JRc; rw [hq4.1.2 10 (by decide), hq4.1.2 11 (by decide), hq4.1.2 12 (by decide), hq4.1.2 13 (by decide), hq4.1.2 1 (by decide)]; exact hJr
    have ho1 : N3 1 0 ≤ 16 := by rw [hq4.1.2 1 (by decide)]; exact ho16
    have hJr := hJr1
    have hrw1 : rwQ N3 g.toNat := fun o ho => ⟨hq4.2 o ho, (hrF o ho).1, by have := (hrF o ho).2; omega⟩
    refine mm_aload_n (mm_dc od_X4_solve_0 13 rfl) rfl ?_
    refine mm_iload_n (mm_dc od_X4_solve_0 14 rfl) rfl ?_
    refine mm_callV (b := 10) (mi' := mi_X4_fillCells) [v_i g] [] (mm_dc od_X4_solve_0 15 rfl) rfl wd_2_192 wd_2_194 wd_p_1 wd_1_3 wd_2_195 yk_X4_fillCells rfl rfl rfl (Nat.le_of_ble_eq_true rfl) rfl (by decide) (c_X4_fillCells g (by first | omega | assumption | exact hr _ _ rfl) hJr (by first | omega | assumption | exact hr _ _ rfl) (by first | omega | assumption | exact hr _ _ rfl) (by first | omega | assumption | exact hr _ _ rfl) (fun N6 hq7 => ⟨Nat.le_refl _, ?_⟩))
    have hr := hq7.1.1
    refine mm_aload_n (mm_dc od_X4_solve_0 16 rfl) rfl ?_
    refine mm_iload_n (mm_dc od_X4_solve_0 17 rfl) rfl ?_
    have emx : mxG (N3 11) (N3 12) (N3 13) (N3 10 0).toNat g.toNat = mxM M g.toNat := by unfold mxM; rw [hq4.1.2 10 (by decide), hq4.1.2 11 (by decide), hq4.1.2 12 (by decide), hq4.1.2 13 (by decide)]
    obtain ⟨a, hLQ⟩ := hmx (by omega)
    rw [ern (by omega)]
    refine mm_callV (b := 10) (mi' := mi_X4_eliminate) [v_i (n : Int)] [] (mm_dc od_X4_solve_0 18 rfl) rfl wd_2_203 wd_2_205 wd_p_3 wd_1_3 wd_2_206 yk_X4_eliminate rfl rfl rfl (Nat.le_of_ble_eq_true rfl) rfl (by decide) (L_el0 n hLQ hr (fun i c hi hc => by rw [hq7.2 i c (by have := hLQ.1; omega) hc, emx]) (fun N hE => ⟨Nat.le_refl _, ?_⟩))
    refine mm_if_ne 35 (mm_dc od_X4_solve_0 19 rfl) (by omega) (by first | omega | assumption | exact hr _ _ rfl) (fun _ => ?_) (fun h => absurd h (by decide))
    refine mm_iconst (mm_dc od_X4_solve_0 22 rfl) ?_
    refine mm_istore_n (L' := [(0, v_r 10), (1, v_i g), (2, v_i (n : Int)), (3, v_i 0)]) (mm_dc od_X4_solve_0 23 rfl) (by decide) rfl ?_
    refine L_so37 (B := N) (A := mxM M g.toNat) g.toNat n (by omega) hn (fun o ho => ⟨?_, hrF o ho⟩) hE.2.2.2.2 _ _ (fun N3 h3 => ?_) 0 (by omega) ⟨frm_0 hE.1, fun o ho => by omega⟩
    · rw [hE.2.1 15 (by decide) (by decide), hq7.1.2 15 (by decide)]; exact hq4.2 o ho
    · refine k _ _ (Or.inr ⟨rfl, n, by omega, hn, ⟨h3.1.1, fun i h14 h15 h16 h10 => ?_, fun q hq => ?_⟩, ?_, fun o ho => h3.2 o ho⟩)
      · rw [h3.1.2 i h14, hE.2.1 i h16 h10, hq7.1.2 i h16, hq4.1.2 i h15]
      · rw [h3.1.2 10 (by decide), hE.2.2.1 q hq, hq7.1.2 10 (by decide), hq4.1.2 10 (by decide)]
      · rw [h3.1.2 10 (by decide), hE.2.2.2.1]
  · refine mm_iconst (mm_dc od_X4_solve_0 8 rfl) ?_
    refine mm_zret .boolean (mm_dc od_X4_solve_0 9 rfl) rfl rfl ?_
    exact k _ _ (Or.inl ⟨by omega, rfl, rfl⟩)
