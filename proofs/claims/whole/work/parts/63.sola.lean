/-! the class solves a group -/
theorem R32_upL {M : mm_M} {i k : Nat} {v : Int} (h : R32 M) (hi : mm_isL i k = true) : R32 (mm_up M i k v) := by
  intro a b hab
  unfold mm_up
  split
  · next e =>
    rw [e.1, e.2, hi] at hab
    cases hab
  · exact h a b hab
theorem frm_upL {c : Nat} {B M : mm_M} {k : Nat} {v : Int} (h : frm c B M) (hi : mm_isL c k = true) : frm c B (mm_up M c k v) :=
  ⟨R32_upL h.1 hi, fun i hi => by rw [← h.2 i hi]; exact mm_up_ne hi⟩
theorem frm_tr {c : Nat} {A B C : mm_M} (h : frm c A B) (h2 : frm c B C) : frm c A C := ⟨h2.1, fun i hi => by rw [h2.2 i hi, h.2 i hi]⟩
def NR (B : mm_M) (m j : Nat) (M : mm_M) : Prop := frm 15 B M ∧ ∀ o, o < j → M 15 o = rowF m o
theorem NR_t {B M : mm_M} {m j : Nat} (h : NR B m j M) (hj : j ≤ 16) (hb : m.testBit j = true) : NR B m (j + 1) (mm_up (mm_up M 15 j (-1)) 15 j (rowc (fun i => m.testBit i) j - 1)) := by
  have hrc := rowc_r (fun i => m.testBit i) j
  refine ⟨frm_up (frm_up h.1 (by decide)) (by omega), fun o ho => ?_⟩
  rw [mm_upa]
  by_cases e : o = j
  · rw [if_pos e, e]; unfold rowF; rw [if_pos hb]
  · rw [if_neg e, mm_upa, if_neg e]; exact h.2 o (by omega)
theorem NR_f {B M : mm_M} {m j : Nat} (h : NR B m j M) (hb : ¬ m.testBit j = true) : NR B m (j + 1) (mm_up M 15 j (-1)) := by
  refine ⟨frm_up h.1 (by decide), fun o ho => ?_⟩
  rw [mm_upa]
  by_cases e : o = j
  · rw [if_pos e, e]; unfold rowF; rw [if_neg hb]
  · rw [if_neg e]; exact h.2 o (by omega)
theorem L_nr {X : Nat × (Nat → Int)} {d : Nat} {Po : mm_Po} {M : mm_M} {B : mm_M} (m : Nat) (hm : m < 65536) (k : ∀ N : mm_M, (frm 15 B N ∧ ∀ o, o < 16 → N 15 o = rowF m o) → Po none Lam N) (j : Nat) (hj : j ≤ 16) (hN : NR B m j M) : mm_G X (d + 1) 0 0 mi_X4_numberRows Po 4 [(0, v_r 10), (1, v_i (m : Int)), (2, v_i (rowc (fun i => m.testBit i) j - 1)), (3, v_i (j : Int))] [] Lam M 0 0 := by
  have hr := hN.1.1
  have hrc := rowc_r (fun i => m.testBit i) j
  refine mm_iload_n (mm_dc od_X4_numberRows_0 4 rfl) rfl ?_
  refine mm_bipush (mm_dc od_X4_numberRows_0 5 rfl) (by decide) ?_
  refine mm_icmp_ge 41 (mm_dc od_X4_numberRows_0 6 rfl) (by omega) (by first | omega | assumption | exact hr _ _ rfl) (by first | omega | assumption | exact hr _ _ rfl) (fun c1 => ?_) (fun c1 => ?_)
  · refine mm_ret (mm_dc od_X4_numberRows_0 24 rfl) rfl ?_
    exact k _ ⟨hN.1, fun o ho => hN.2 o (by omega)⟩
  · refine mm_aload_n (mm_dc od_X4_numberRows_0 7 rfl) rfl ?_
    refine mm_getR (ci := 4) (k := 6) (mm_dc od_X4_numberRows_0 8 rfl) rfl in_X4 (by decide) wd_1_93 rfl rfl ?_
    refine mm_iload_n (mm_dc od_X4_numberRows_0 9 rfl) rfl ?_
    refine mm_iconst (mm_dc od_X4_numberRows_0 10 rfl) ?_
    refine mm_iast (mm_dc od_X4_numberRows_0 11 rfl) rfl (by first | omega | assumption | exact hr _ _ rfl) (by first | omega | assumption | exact hr _ _ rfl) (by decide) ?_
    refine mm_eqM (M' := mm_up M 15 j (-1)) rfl ?_
    refine mm_iload_n (mm_dc od_X4_numberRows_0 12 rfl) rfl ?_
    refine mm_iload_n (mm_dc od_X4_numberRows_0 13 rfl) rfl ?_
    refine mm_callN (mi' := mi_X9_has) [v_i (m : Int), v_i (j : Int)] [] (mm_dc od_X4_numberRows_0 14 rfl) rfl (List.mem_of_getElem? (i := 9) rfl) wd_2_171 wd_1_1 wd_2_172 yk_X9_has (Nat.le_of_ble_eq_true rfl) rfl (by decide) (c_X9_has (m : Int) (j : Int) (by first | omega | assumption | exact hr _ _ rfl) (by first | omega | assumption | exact hr _ _ rfl) (fun c2 => ⟨Nat.le_refl _, ?_⟩) (fun c2 => ⟨Nat.le_refl _, ?_⟩))
    · simp only [Int.toNat_natCast] at c2
      refine mm_if_eq 35 (mm_dc od_X4_numberRows_0 15 rfl) (by omega) (by first | omega | assumption | exact hr _ _ rfl) (fun h => absurd h (by decide)) (fun _ => ?_)
      refine mm_aload_n (mm_dc od_X4_numberRows_0 16 rfl) rfl ?_
      refine mm_getR (ci := 4) (k := 6) (mm_dc od_X4_numberRows_0 17 rfl) rfl in_X4 (by decide) wd_1_93 rfl rfl ?_
      refine mm_iload_n (mm_dc od_X4_numberRows_0 18 rfl) rfl ?_
      refine mm_iload_n (mm_dc od_X4_numberRows_0 19 rfl) rfl ?_
      refine mm_iast (mm_dc od_X4_numberRows_0 20 rfl) rfl (by first | omega | assumption | exact hr _ _ rfl) (by first | omega | assumption | exact hr _ _ rfl) (by decide) ?_
      refine mm_eqM (M' := mm_up (mm_up M 15 j (-1)) 15 j (rowc (fun i => m.testBit i) j - 1)) rfl ?_
      refine mm_iinc (L' := [(0, v_r 10), (1, v_i (m : Int)), (2, v_i ((rowc (fun i => m.testBit i) j - 1) + 1)), (3, v_i (j : Int))]) (mm_dc od_X4_numberRows_0 21 rfl) rfl (by decide) rfl ?_
      refine mm_iinc (L' := [(0, v_r 10), (1, v_i (m : Int)), (2, v_i ((rowc (fun i => m.testBit i) j - 1) + 1)), (3, v_i ((j : Int) + 1))]) (mm_dc od_X4_numberRows_0 22 rfl) rfl (by decide) rfl ?_
      refine mm_goto 4 (mm_dc od_X4_numberRows_0 23 rfl) (by omega) ?_
      have hb : m.testBit j = true := by simpa only [Int.toNat_natCast] using c2
      have er : rowc (fun i => m.testBit i) (j + 1) - 1 = rowc (fun i => m.testBit i) j - 1 + 1 := by simp only [rowc]; rw [if_pos hb]; omega
      refine mm_cL (L' := [(0, v_r 10), (1, v_i (m : Int)), (2, v_i (rowc (fun i => m.testBit i) (j + 1) - 1)), (3, v_i ((j + 1 : Nat) : Int))]) (by rw [er]; rfl) ?_
      exact L_nr m hm k (j + 1) (by omega) (NR_t hN (by omega) hb)
    · simp only [Int.toNat_natCast] at c2
      refine mm_if_eq 35 (mm_dc od_X4_numberRows_0 15 rfl) (by omega) (by first | omega | assumption | exact hr _ _ rfl) (fun _ => ?_) (fun h => absurd h (by decide))
      refine mm_iinc (L' := [(0, v_r 10), (1, v_i (m : Int)), (2, v_i (rowc (fun i => m.testBit i) j - 1)), (3, v_i ((j : Int) + 1))]) (mm_dc od_X4_numberRows_0 22 rfl) rfl (by decide) rfl ?_
      refine mm_goto 4 (mm_dc od_X4_numberRows_0 23 rfl) (by omega) ?_
      have hb : ¬ m.testBit j = true := by simpa only [Int.toNat_natCast] using c2
      have er : rowc (fun i => m.testBit i) (j + 1) - 1 = rowc (fun i => m.testBit i) j - 1 := by simp only [rowc]; rw [if_neg hb]; omega
      refine mm_cL (L' := [(0, v_r 10), (1, v_i (m : Int)), (2, v_i (rowc (fun i => m.testBit i) (j + 1) - 1)), (3, v_i ((j + 1 : Nat) : Int))]) (by rw [er]; rfl) ?_
      exact L_nr m hm k (j + 1) (by omega) (NR_f hN hb)
termination_by 16 - j
decreasing_by all_goals (first | omega | (simp_wf; omega))
theorem c_X4_numberRows {X : Nat × (Nat → Int)} {d : Nat} {Po : mm_Po} {M : mm_M} (g : Int) (hg : 0 ≤ g ∧ g < 65536) (hr : R32 M) (k : ∀ N : mm_M, (frm 15 M N ∧ ∀ o, o < 16 → N 15 o = rowF g.toNat o) → Po none Lam N) : mm_E X (d + 1) 0 0 mi_X4_numberRows [v_r 10, v_i g] Po Lam M := by
  show mm_G X (d + 1) 0 0 mi_X4_numberRows Po 0 [(0, v_r 10), (1, v_i g)] [] Lam M 0 0
  refine mm_iconst (mm_dc od_X4_numberRows_0 0 rfl) ?_
  refine mm_istore_n (L' := [(0, v_r 10), (1, v_i g), (2, v_i (-1))]) (mm_dc od_X4_numberRows_0 1 rfl) (by decide) rfl ?_
  refine mm_iconst (mm_dc od_X4_numberRows_0 2 rfl) ?_
  refine mm_istore_n (L' := [(0, v_r 10), (1, v_i g), (2, v_i (-1)), (3, v_i 0)]) (mm_dc od_X4_numberRows_0 3 rfl) (by decide) rfl ?_
  obtain ⟨m, rfl⟩ : ∃ m : Nat, g = m := ⟨g.toNat, by omega⟩
  exact L_nr m (by omega) k 0 (by omega) ⟨frm_0 hr, fun o ho => by omega⟩
def ad (c : Nat) (M : mm_M) (i j : Nat) (v : Int) : mm_M := mm_up M c (7 * i + j) (M c (7 * i + j) + v)
theorem ad_at {c : Nat} {M : mm_M} {i j i2 j2 : Nat} {v : Int} (h : j < 7) (h2 : j2 < 7) : ad c M i j v c (7 * i2 + j2) = M c (7 * i2 + j2) + (if i2 = i ∧ j2 = j then v else 0) := by
  unfold ad
  rw [mm_upa]
  by_cases e : i2 = i ∧ j2 = j
  · rw [if_pos e, if_pos (by omega), e.1, e.2]
  · rw [if_neg e, if_neg (by omega)]; omega
theorem ad_frm {c : Nat} {B M : mm_M} {i j : Nat} {v : Int} (h : frm c B M) (hc : ∀ k, mm_isL c k = true) : frm c B (ad c M i j v) := frm_upL h (hc _)
theorem at_0 {x y b : Int} {c i : Nat} (hx : x < 0) : ctR x y b c i = 0 := by
  unfold ctR; rw [if_neg (by omega)]
theorem at_1 {M : mm_M} {x y b : Int} {c i : Nat} (hx : 0 ≤ x ∧ x < 6) (hy : y < 0) (hc : c < 7) : ad 16 (ad 16 M x.toNat x.toNat 1) x.toNat 6 b 16 (7 * i + c) = M 16 (7 * i + c) + ctR x y b c i := by
  rw [ad_at (by omega) hc, ad_at (by omega) hc]
  unfold ctR
  repeat' split
  all_goals omega
theorem at_2 {M : mm_M} {x y b : Int} {c i : Nat} (hx : 0 ≤ x ∧ x < 6) (hy : 0 ≤ y ∧ y < 6) (hc : c < 7) : ad 16 (ad 16 (ad 16 M x.toNat x.toNat 1) x.toNat 6 b) x.toNat y.toNat (-1) 16 (7 * i + c) = M 16 (7 * i + c) + ctR x y b c i := by
  rw [ad_at (by omega) hc, ad_at (by omega) hc, ad_at (by omega) hc]
  unfold ctR
  repeat' split
  all_goals omega
theorem c_X4_addToRow {X : Nat × (Nat → Int)} {d : Nat} {Po : mm_Po} {M : mm_M} (row : Int) (other : Int) (bw : Int) (hw : -1 ≤ row ∧ row < 6) (ho : -1 ≤ other ∧ other < 6) (hb : mm_r32 bw) (hr : R32 M) (k : ∀ N : mm_M, (frm 16 M N ∧ ∀ i c : Nat, i < 6 → c < 7 → N 16 (7 * i + c) = M 16 (7 * i + c) + ctR row other bw c i) → Po none Lam N) : mm_E X d 0 0 mi_X4_addToRow [v_r 10, v_i row, v_i other, v_i bw] Po Lam M := by
  show mm_G X d 0 0 mi_X4_addToRow Po 0 [(0, v_r 10), (1, v_i row), (2, v_i other), (3, v_i bw)] [] Lam M 0 0
  refine mm_iload_n (mm_dc od_X4_addToRow_0 0 rfl) rfl ?_
  refine mm_if_ge 5 (mm_dc od_X4_addToRow_0 1 rfl) (by omega) (by first | omega | assumption | exact hr _ _ rfl) (fun c1 => ?_) (fun c1 => ?_)
  · refine mm_aload_n (mm_dc od_X4_addToRow_0 3 rfl) rfl ?_
    refine mm_getR (ci := 4) (k := 7) (mm_dc od_X4_addToRow_0 4 rfl) rfl in_X4 (by decide) wd_1_94 rfl rfl ?_
    refine mm_iload_n (mm_dc od_X4_addToRow_0 5 rfl) rfl ?_
    refine mm_bipush (mm_dc od_X4_addToRow_0 6 rfl) (by decide) ?_
    refine mm_imul (mm_dc od_X4_addToRow_0 7 rfl) ?_
    refine mm_iload_n (mm_dc od_X4_addToRow_0 8 rfl) rfl ?_
    refine mm_iadd (mm_dc od_X4_addToRow_0 9 rfl) ?_
    refine mm_dup2_ir (mm_dc od_X4_addToRow_0 10 rfl) ?_
    refine mm_lald (mm_dc od_X4_addToRow_0 11 rfl) rfl (by first | omega | assumption | exact hr _ _ rfl) (by first | omega | assumption | exact hr _ _ rfl) (by decide) ?_
    refine mm_lconst (mm_dc od_X4_addToRow_0 12 rfl) ?_
    refine mm_ladd (mm_dc od_X4_addToRow_0 13 rfl) ?_
    refine mm_last (mm_dc od_X4_addToRow_0 14 rfl) rfl (by first | omega | assumption | exact hr _ _ rfl) (by first | omega | assumption | exact hr _ _ rfl) (by decide) ?_
    refine mm_eqM (M' := ad 16 M row.toNat row.toNat 1) (by rw [show (row * 7 + row).toNat = 7 * row.toNat + row.toNat by omega]; rfl) ?_
    refine mm_aload_n (mm_dc od_X4_addToRow_0 15 rfl) rfl ?_
    refine mm_getR (ci := 4) (k := 7) (mm_dc od_X4_addToRow_0 16 rfl) rfl in_X4 (by decide) wd_1_94 rfl rfl ?_
    refine mm_iload_n (mm_dc od_X4_addToRow_0 17 rfl) rfl ?_
    refine mm_bipush (mm_dc od_X4_addToRow_0 18 rfl) (by decide) ?_
    refine mm_imul (mm_dc od_X4_addToRow_0 19 rfl) ?_
    refine mm_bipush (mm_dc od_X4_addToRow_0 20 rfl) (by decide) ?_
    refine mm_iadd (mm_dc od_X4_addToRow_0 21 rfl) ?_
    refine mm_dup2_ir (mm_dc od_X4_addToRow_0 22 rfl) ?_
    refine mm_lald (mm_dc od_X4_addToRow_0 23 rfl) rfl (by first | omega | assumption | exact hr _ _ rfl) (by first | omega | assumption | exact hr _ _ rfl) (by decide) ?_
    refine mm_iload_n (mm_dc od_X4_addToRow_0 24 rfl) rfl ?_
    refine mm_i2l (mm_dc od_X4_addToRow_0 25 rfl) (by first | omega | assumption | exact hr _ _ rfl) ?_
    refine mm_ladd (mm_dc od_X4_addToRow_0 26 rfl) ?_
    refine mm_last (mm_dc od_X4_addToRow_0 27 rfl) rfl (by first | omega | assumption | exact hr _ _ rfl) (by first | omega | assumption | exact hr _ _ rfl) (by decide) ?_
    refine mm_eqM (M' := ad 16 (ad 16 M row.toNat row.toNat 1) row.toNat 6 bw) (by rw [show (row * 7 + 6).toNat = 7 * row.toNat + 6 by omega]; rfl) ?_
    refine mm_iload_n (mm_dc od_X4_addToRow_0 28 rfl) rfl ?_
    refine mm_if_lt 56 (mm_dc od_X4_addToRow_0 29 rfl) (by omega) (by first | omega | assumption | exact hr _ _ rfl) (fun c2 => ?_) (fun c2 => ?_)
    · refine mm_ret (mm_dc od_X4_addToRow_0 42 rfl) rfl ?_
      exact k _ ⟨ad_frm (ad_frm (frm_0 hr) (fun k => by simp [mm_isL])) (fun k => by simp [mm_isL]), fun i c hi hc => at_1 (by omega) (by omega) hc⟩
    · refine mm_aload_n (mm_dc od_X4_addToRow_0 30 rfl) rfl ?_
      refine mm_getR (ci := 4) (k := 7) (mm_dc od_X4_addToRow_0 31 rfl) rfl in_X4 (by decide) wd_1_94 rfl rfl ?_
      refine mm_iload_n (mm_dc od_X4_addToRow_0 32 rfl) rfl ?_
      refine mm_bipush (mm_dc od_X4_addToRow_0 33 rfl) (by decide) ?_
      refine mm_imul (mm_dc od_X4_addToRow_0 34 rfl) ?_
      refine mm_iload_n (mm_dc od_X4_addToRow_0 35 rfl) rfl ?_
      refine mm_iadd (mm_dc od_X4_addToRow_0 36 rfl) ?_
      refine mm_dup2_ir (mm_dc od_X4_addToRow_0 37 rfl) ?_
      refine mm_lald (mm_dc od_X4_addToRow_0 38 rfl) rfl (by first | omega | assumption | exact hr _ _ rfl) (by first | omega | assumption | exact hr _ _ rfl) (by decide) ?_
      refine mm_lconst (mm_dc od_X4_addToRow_0 39 rfl) ?_
      refine mm_lsub (mm_dc od_X4_addToRow_0 40 rfl) ?_
      refine mm_last (mm_dc od_X4_addToRow_0 41 rfl) rfl (by first | omega | assumption | exact hr _ _ rfl) (by first | omega | assumption | exact hr _ _ rfl) (by decide) ?_
      refine mm_eqM (M' := ad 16 (ad 16 (ad 16 M row.toNat row.toNat 1) row.toNat 6 bw) row.toNat other.toNat (-1)) (by rw [show (row * 7 + other).toNat = 7 * row.toNat + other.toNat by omega]; rfl) ?_
      refine mm_ret (mm_dc od_X4_addToRow_0 42 rfl) rfl ?_
      exact k _ ⟨ad_frm (ad_frm (ad_frm (frm_0 hr) (fun k => by simp [mm_isL])) (fun k => by simp [mm_isL])) (fun k => by simp [mm_isL]), fun i c hi hc => at_2 (by omega) (by omega) hc⟩
  · refine mm_ret (mm_dc od_X4_addToRow_0 2 rfl) rfl ?_
    exact k _ ⟨frm_0 hr, fun i c hi hc => by rw [at_0 (by omega)]; omega⟩
def FC (B : mm_M) (m r : Nat) (M : mm_M) : Prop := frm 16 B M ∧ ∀ i c : Nat, i < 6 → c < 7 → M 16 (7 * i + c) = mxG (B 11) (B 12) (B 13) r m c i
def rwQ (B : mm_M) (m : Nat) : Prop := ∀ o, o < 16 → B 15 o = rowF m o ∧ -1 ≤ rowF m o ∧ rowF m o < 6
theorem FC_f {B M : mm_M} {m r : Nat} (h : FC B m r M) (hg : ¬ m.testBit (B 11 r).toNat = true) : FC B m (r + 1) M := by
  refine ⟨h.1, fun i c hi hc => ?_⟩
  rw [h.2 i c hi hc]
  unfold mxG
  simp only [tb]
  rw [if_neg hg]; omega
theorem FC_t {B M N1 N2 : mm_M} {m r : Nat} {x y w : Int} (h : FC B m r M) (hg : m.testBit (B 11 r).toNat = true) (hx : x = rowF m (B 11 r).toNat) (hy : y = rowF m (B 12 r).toNat) (hw : w = B 13 r) (h1 : frm 16 M N1 ∧ ∀ i c : Nat, i < 6 → c < 7 → N1 16 (7 * i + c) = M 16 (7 * i + c) + ctR x y w c i) (h2 : frm 16 N1 N2 ∧ ∀ i c : Nat, i < 6 → c < 7 → N2 16 (7 * i + c) = N1 16 (7 * i + c) + ctR y x (-w) c i) : FC B m (r + 1) N2 := by
  refine ⟨frm_tr (frm_tr h.1 h1.1) h2.1, fun i c hi hc => ?_⟩
  rw [h2.2 i c hi hc, h1.2 i c hi hc, h.2 i c hi hc]
  unfold mxG
  simp only [tb]
  rw [if_pos hg, hx, hy, hw]; omega
theorem L_fc10 {X : Nat × (Nat → Int)} {d : Nat} {Po : mm_Po} {M : mm_M} {B : mm_M} (m : Nat) (hm : m < 65536) (hJB : JRc B) (ho16 : B 1 0 ≤ 16) (hrw : rwQ B m) (k : ∀ N : mm_M, FC B m (B 10 0).toNat N → Po none Lam N) (j : Nat) (hj : (j : Int) ≤ B 10 0) (hN : FC B m j M) : mm_G X (d + 1) 0 0 mi_X4_fillCells Po 10 [(0, v_r 10), (1, v_i (m : Int)), (2, v_i (j : Int))] [] Lam M 0 0 := by
  have hr := hN.1.1
  have eb : ∀ i, i ≠ 16 → B i = M i := fun i hi => (hN.1.2 i hi).symm
  have hJr2 := hJB
  obtain ⟨hr0, hr40, hRr⟩ := hJr2
  have eb10 : B 10 0 = M 10 0 := (by rw [eb 10 (by decide)])
  have eb1 : B 1 0 = M 1 0 := (by rw [eb 1 (by decide)])
  have hR1 : (j : Int) < M 10 0 → (0 ≤ M 11 j ∧ M 11 j < M 1 0) ∧ (0 ≤ M 12 j ∧ M 12 j < M 1 0) ∧ M 11 j ≠ M 12 j ∧ (-999 ≤ M 13 j ∧ M 13 j ≤ 999) := (by
    have h := hRr j
    rw [eb 10 (by decide), eb 11 (by decide), eb 12 (by decide), eb 13 (by decide), eb 1 (by decide)] at h
    exact h)
  have hxA : (j : Int) < M 10 0 → M 15 (M 11 j).toNat = rowF m (M 11 j).toNat ∧ -1 ≤ rowF m (M 11 j).toNat ∧ rowF m (M 11 j).toNat < 6 := (fun q => by
    have h := hrw (M 11 j).toNat (by have := hR1 q; omega)
    rw [eb 15 (by decide)] at h
    exact h)
  have hyA : (j : Int) < M 10 0 → M 15 (M 12 j).toNat = rowF m (M 12 j).toNat ∧ -1 ≤ rowF m (M 12 j).toNat ∧ rowF m (M 12 j).toNat < 6 := (fun q => by
    have h := hrw (M 12 j).toNat (by have := hR1 q; omega)
    rw [eb 15 (by decide)] at h
    exact h)
  refine mm_iload_n (mm_dc od_X4_fillCells_0 6 rfl) rfl ?_
  refine mm_aload_n (mm_dc od_X4_fillCells_0 7 rfl) rfl ?_
  refine mm_getI (ci := 4) (k := 0) (mm_dc od_X4_fillCells_0 8 rfl) rfl in_X4 (by decide) wd_1_84 rfl rfl ?_
  refine mm_icmp_ge 89 (mm_dc od_X4_fillCells_0 9 rfl) (by omega) (by first | omega | assumption | exact hr _ _ rfl) (by first | omega | assumption | exact hr _ _ rfl) (fun c1 => ?_) (fun c1 => ?_)
  · refine mm_ret (mm_dc od_X4_fillCells_0 52 rfl) rfl ?_
    have e : j = (B 10 0).toNat := by omega
    exact k _ (e ▸ hN)
  · refine mm_iload_n (mm_dc od_X4_fillCells_0 10 rfl) rfl ?_
    refine mm_aload_n (mm_dc od_X4_fillCells_0 11 rfl) rfl ?_
    refine mm_getR (ci := 4) (k := 1) (mm_dc od_X4_fillCells_0 12 rfl) rfl in_X4 (by decide) wd_1_86 rfl rfl ?_
    refine mm_iload_n (mm_dc od_X4_fillCells_0 13 rfl) rfl ?_
    refine mm_iald (mm_dc od_X4_fillCells_0 14 rfl) rfl (by first | omega | assumption | exact hr _ _ rfl) (by first | omega | assumption | exact hr _ _ rfl) (by decide) ?_
    refine mm_cst (st' := [v_i (M 11 j), v_i (m : Int)]) rfl ?_
    refine mm_callN (mi' := mi_X9_has) [v_i (m : Int), v_i (M 11 j)] [] (mm_dc od_X4_fillCells_0 15 rfl) rfl (List.mem_of_getElem? (i := 9) rfl) wd_2_171 wd_1_1 wd_2_172 yk_X9_has (Nat.le_of_ble_eq_true rfl) rfl (by decide) (c_X9_has (m : Int) (M 11 j) (by first | omega | assumption | exact hr _ _ rfl) (by first | omega | assumption | exact hr _ _ rfl) (fun c2 => ⟨Nat.le_refl _, ?_⟩) (fun c2 => ⟨Nat.le_refl _, ?_⟩))
    · simp only [Int.toNat_natCast] at c2
      refine mm_if_eq 83 (mm_dc od_X4_fillCells_0 16 rfl) (by omega) (by first | omega | assumption | exact hr _ _ rfl) (fun h => absurd h (by decide)) (fun _ => ?_)
      refine mm_aload_n (mm_dc od_X4_fillCells_0 17 rfl) rfl ?_
      refine mm_getR (ci := 4) (k := 6) (mm_dc od_X4_fillCells_0 18 rfl) rfl in_X4 (by decide) wd_1_93 rfl rfl ?_
      refine mm_aload_n (mm_dc od_X4_fillCells_0 19 rfl) rfl ?_
      refine mm_getR (ci := 4) (k := 1) (mm_dc od_X4_fillCells_0 20 rfl) rfl in_X4 (by decide) wd_1_86 rfl rfl ?_
      refine mm_iload_n (mm_dc od_X4_fillCells_0 21 rfl) rfl ?_
      refine mm_iald (mm_dc od_X4_fillCells_0 22 rfl) rfl (by first | omega | assumption | exact hr _ _ rfl) (by first | omega | assumption | exact hr _ _ rfl) (by decide) ?_
      refine mm_cst (st' := [v_i (M 11 j), v_r 15]) rfl ?_
      refine mm_iald (mm_dc od_X4_fillCells_0 23 rfl) rfl (by first | omega | assumption | exact hr _ _ rfl) (by first | omega | assumption | exact hr _ _ rfl) (by decide) ?_
      refine mm_istore_n (L' := [(0, v_r 10), (1, v_i (m : Int)), (2, v_i (j : Int)), (3, v_i (M 15 (Int.toNat (M 11 j))))]) (mm_dc od_X4_fillCells_0 24 rfl) (by decide) rfl ?_
      refine mm_aload_n (mm_dc od_X4_fillCells_0 25 rfl) rfl ?_
      refine mm_getR (ci := 4) (k := 6) (mm_dc od_X4_fillCells_0 26 rfl) rfl in_X4 (by decide) wd_1_93 rfl rfl ?_
      refine mm_aload_n (mm_dc od_X4_fillCells_0 27 rfl) rfl ?_
      refine mm_getR (ci := 4) (k := 2) (mm_dc od_X4_fillCells_0 28 rfl) rfl in_X4 (by decide) wd_1_87 rfl rfl ?_
      refine mm_iload_n (mm_dc od_X4_fillCells_0 29 rfl) rfl ?_
      refine mm_iald (mm_dc od_X4_fillCells_0 30 rfl) rfl (by first | omega | assumption | exact hr _ _ rfl) (by first | omega | assumption | exact hr _ _ rfl) (by decide) ?_
      refine mm_cst (st' := [v_i (M 12 j), v_r 15]) rfl ?_
      refine mm_iald (mm_dc od_X4_fillCells_0 31 rfl) rfl (by first | omega | assumption | exact hr _ _ rfl) (by first | omega | assumption | exact hr _ _ rfl) (by decide) ?_
      refine mm_istore (L' := [(0, v_r 10), (1, v_i (m : Int)), (2, v_i (j : Int)), (3, v_i (M 15 (Int.toNat (M 11 j)))), (4, v_i (M 15 (Int.toNat (M 12 j))))]) (mm_dc od_X4_fillCells_0 32 rfl) (by decide) rfl ?_
      refine mm_aload_n (mm_dc od_X4_fillCells_0 33 rfl) rfl ?_
      refine mm_iload_n (mm_dc od_X4_fillCells_0 34 rfl) rfl ?_
      refine mm_iload (mm_dc od_X4_fillCells_0 35 rfl) rfl ?_
      refine mm_aload_n (mm_dc od_X4_fillCells_0 36 rfl) rfl ?_
      refine mm_getR (ci := 4) (k := 3) (mm_dc od_X4_fillCells_0 37 rfl) rfl in_X4 (by decide) wd_1_88 rfl rfl ?_
      refine mm_iload_n (mm_dc od_X4_fillCells_0 38 rfl) rfl ?_
      refine mm_iald (mm_dc od_X4_fillCells_0 39 rfl) rfl (by first | omega | assumption | exact hr _ _ rfl) (by first | omega | assumption | exact hr _ _ rfl) (by decide) ?_
      refine mm_cst (st' := [v_i (M 13 j), v_i (M 15 (Int.toNat (M 12 j))), v_i (M 15 (Int.toNat (M 11 j))), v_r 10]) rfl ?_
      refine mm_callV (b := 10) (mi' := mi_X4_addToRow) [v_i (M 15 (Int.toNat (M 11 j))), v_i (M 15 (Int.toNat (M 12 j))), v_i (M 13 j)] [] (mm_dc od_X4_fillCells_0 40 rfl) rfl wd_2_199 wd_2_201 wd_p_2 wd_1_3 wd_2_202 yk_X4_addToRow rfl rfl rfl (Nat.le_of_ble_eq_true rfl) rfl (by decide) (c_X4_addToRow (M 15 (Int.toNat (M 11 j))) (M 15 (Int.toNat (M 12 j))) (M 13 j) (by first | omega | assumption | exact hr _ _ rfl) (by first | omega | assumption | exact hr _ _ rfl) (by first | omega | assumption | exact hr _ _ rfl) (by first | omega | assumption | exact hr _ _ rfl) (fun N4 hq5 => ⟨Nat.le_refl _, ?_⟩))
      have hr := hq5.1.1
      have e13 : N4 13 = M 13 := hq5.1.2 13 (by decide)
      have e13j : N4 13 j = M 13 j := by rw [e13]
      refine mm_aload_n (mm_dc od_X4_fillCells_0 41 rfl) rfl ?_
      refine mm_iload (mm_dc od_X4_fillCells_0 42 rfl) rfl ?_
      refine mm_iload_n (mm_dc od_X4_fillCells_0 43 rfl) rfl ?_
      refine mm_aload_n (mm_dc od_X4_fillCells_0 44 rfl) rfl ?_
      refine mm_getR (ci := 4) (k := 3) (mm_dc od_X4_fillCells_0 45 rfl) rfl in_X4 (by decide) wd_1_88 rfl rfl ?_
      refine mm_iload_n (mm_dc od_X4_fillCells_0 46 rfl) rfl ?_
      refine mm_iald (mm_dc od_X4_fillCells_0 47 rfl) rfl (by first | omega | assumption | exact hr _ _ rfl) (by first | omega | assumption | exact hr _ _ rfl) (by decide) ?_
      refine mm_cst (st' := [v_i (N4 13 j), v_i (M 15 (Int.toNat (M 11 j))), v_i (M 15 (Int.toNat (M 12 j))), v_r 10]) rfl ?_
      refine mm_ineg (mm_dc od_X4_fillCells_0 48 rfl) ?_
      refine mm_callV (b := 10) (mi' := mi_X4_addToRow) [v_i (M 15 (Int.toNat (M 12 j))), v_i (M 15 (Int.toNat (M 11 j))), v_i (-(N4 13 j))] [] (mm_dc od_X4_fillCells_0 49 rfl) rfl wd_2_199 wd_2_201 wd_p_2 wd_1_3 wd_2_202 yk_X4_addToRow rfl rfl rfl (Nat.le_of_ble_eq_true rfl) rfl (by decide) (c_X4_addToRow (M 15 (Int.toNat (M 12 j))) (M 15 (Int.toNat (M 11 j))) (-(N4 13 j)) (by first | omega | assumption | exact hr _ _ rfl) (by first | omega | assumption | exact hr _ _ rfl) (by first | omega | assumption | exact hr _ _ rfl) (by first | omega | assumption | exact hr _ _ rfl) (fun N7 hq8 => ⟨Nat.le_refl _, ?_⟩))
      have hr := hq8.1.1
      refine mm_iinc (L' := [(0, v_r 10), (1, v_i (m : Int)), (2, v_i ((j : Int) + 1)), (3, v_i (M 15 (Int.toNat (M 11 j)))), (4, v_i (M 15 (Int.toNat (M 12 j))))]) (mm_dc od_X4_fillCells_0 50 rfl) rfl (by decide) rfl ?_
      refine mm_goto 10 (mm_dc od_X4_fillCells_0 51 rfl) (by omega) ?_
      have hg : m.testBit (B 11 j).toNat = true := by rw [eb 11 (by decide)]; simpa only [Int.toNat_natCast] using c2
      have e13b : M 13 j = B 13 j := by rw [eb 13 (by decide)]
      rw [e13] at hq8
      exact mm_less [0, 1, 2] rfl (L_fc10 m hm hJB ho16 hrw k (j + 1) (by omega) (FC_t hN hg (by rw [eb 11 (by decide)]; exact (hxA (by omega)).1) (by rw [eb 12 (by decide)]; exact (hyA (by omega)).1) e13b hq5 hq8))
    · simp only [Int.toNat_natCast] at c2
      refine mm_if_eq 83 (mm_dc od_X4_fillCells_0 16 rfl) (by omega) (by first | omega | assumption | exact hr _ _ rfl) (fun _ => ?_) (fun h => absurd h (by decide))
      refine mm_iinc (L' := [(0, v_r 10), (1, v_i (m : Int)), (2, v_i ((j : Int) + 1))]) (mm_dc od_X4_fillCells_0 50 rfl) rfl (by decide) rfl ?_
      refine mm_goto 10 (mm_dc od_X4_fillCells_0 51 rfl) (by omega) ?_
      have hg : ¬ m.testBit (B 11 j).toNat = true := by rw [eb 11 (by decide)]; simpa only [Int.toNat_natCast] using c2
      exact L_fc10 m hm hJB ho16 hrw k (j + 1) (by omega) (FC_f hN hg)
termination_by (B 10 0).toNat - j
decreasing_by all_goals (first | omega | (simp_wf; omega))
theorem c_X4_fillCells {X : Nat × (Nat → Int)} {d : Nat} {Po : mm_Po} {M : mm_M} (g : Int) (hg : 0 ≤ g ∧ g < 65536) (hJr : JRc M) (ho16 : M 1 0 ≤ 16) (hrw : rwQ M g.toNat) (hr : R32 M) (k : ∀ N : mm_M, (FC M g.toNat (M 10 0).toNat N) → Po none Lam N) : mm_E X (d + 1) 0 0 mi_X4_fillCells [v_r 10, v_i g] Po Lam M := by
  show mm_G X (d + 1) 0 0 mi_X4_fillCells Po 0 [(0, v_r 10), (1, v_i g)] [] Lam M 0 0
  refine mm_aload_n (mm_dc od_X4_fillCells_0 0 rfl) rfl ?_
  refine mm_getR (ci := 4) (k := 7) (mm_dc od_X4_fillCells_0 1 rfl) rfl in_X4 (by decide) wd_1_94 rfl rfl ?_
  refine mm_lconst (mm_dc od_X4_fillCells_0 2 rfl) ?_
  refine mm_callS (mi' := mi_J7_fill_d0a16) [v_r 16, v_l 0] [] (mm_dc od_X4_fillCells_0 3 rfl) rfl wd_2_196 wd_2_197 wd_1_11 wd_2_198 yk_J7_fill_d0a16 (Nat.le_of_ble_eq_true rfl) rfl (by decide) (c_fillL (n := 42) (by decide) rfl _ ⟨Nat.le_refl _, ?_⟩)
  refine mm_iconst (mm_dc od_X4_fillCells_0 4 rfl) ?_
  refine mm_istore_n (L' := [(0, v_r 10), (1, v_i g), (2, v_i 0)]) (mm_dc od_X4_fillCells_0 5 rfl) (by decide) rfl ?_
  obtain ⟨m, rfl⟩ : ∃ m : Nat, g = m := ⟨g.toNat, by omega⟩
  refine L_fc10 m (by omega) hJr ho16 hrw k 0 (by have := hJr.1; omega) ⟨⟨fun a b hab => ?_, fun i hi => ?_⟩, fun i c hi hc => ?_⟩
  · unfold mm_fill
    split
    · decide
    · exact hr a b hab
  · funext q; unfold mm_fill; rw [if_neg (fun e => hi e.1)]
  · unfold mm_fill; rw [if_pos (by omega)]; rfl
