/-! the reference's equations -/
def frT (M N : mm_M) : Prop := R32 N ∧ ∀ i, i ≠ 66 → i ≠ 67 → N i = M i
theorem tl_1 {M : mm_M} {x y b : Int} {c i : Nat} (hx : 0 ≤ x ∧ x < 6) (hy : y < 0) (hc : c < 6) : ad 66 M x.toNat x.toNat 1 66 (7 * i + c) = M 66 (7 * i + c) + ctR x y b c i := by
  rw [ad_at (by omega) (by omega)]
  unfold ctR
  repeat' split
  all_goals omega
theorem tl_2 {M : mm_M} {x y b : Int} {c i : Nat} (hx : 0 ≤ x ∧ x < 6) (hy : 0 ≤ y ∧ y < 6) (hc : c < 6) : ad 66 (ad 66 M x.toNat x.toNat 1) x.toNat y.toNat (-1) 66 (7 * i + c) = M 66 (7 * i + c) + ctR x y b c i := by
  rw [ad_at (by omega) (by omega), ad_at (by omega) (by omega)]
  unfold ctR
  repeat' split
  all_goals omega
theorem tl_6 {x y b : Int} {i : Nat} (hy : y < 6) (hi : i < 6) : ctR x y b 6 i = if x = (i : Int) then b else 0 := by
  unfold ctR
  repeat' split
  all_goals omega
theorem R32_ad {M : mm_M} {c i j : Nat} {v : Int} (h : R32 M) (hc : ∀ k, mm_isL c k = true) : R32 (ad c M i j v) := R32_upL h (hc _)
theorem c_X10_tells {X : Nat × (Nat → Int)} {d : Nat} {Po : mm_Po} {M : mm_M} (row : Int) (other : Int) (bw : Int) (hw : -1 ≤ row ∧ row < 6) (ho : -1 ≤ other ∧ other < 6) (hb : mm_r32 bw) (hr : R32 M) (k : ∀ N : mm_M, (frT M N ∧ (∀ i c : Nat, i < 6 → c < 6 → N 66 (7 * i + c) = M 66 (7 * i + c) + ctR row other bw c i) ∧ ∀ i : Nat, i < 6 → N 67 i = M 67 i + ctR row other bw 6 i) → Po none Lam N) : mm_E X d 0 0 mi_X10_tells [v_r 50, v_i row, v_i other, v_i bw] Po Lam M := by
  show mm_G X d 0 0 mi_X10_tells Po 0 [(0, v_r 50), (1, v_i row), (2, v_i other), (3, v_i bw)] [] Lam M 0 0
  refine mm_iload_n (mm_dc od_X10_tells_0 0 rfl) rfl ?_
  refine mm_if_ge 5 (mm_dc od_X10_tells_0 1 rfl) (by omega) (by first | omega | assumption | exact hr _ _ rfl) (fun c1 => ?_) (fun c1 => ?_)
  · refine mm_aload_n (mm_dc od_X10_tells_0 3 rfl) rfl ?_
    refine mm_getR (ci := 10) (k := 18) (mm_dc od_X10_tells_0 4 rfl) rfl in_X10 (by decide) wd_4_130 rfl rfl ?_
    refine mm_bipush (mm_dc od_X10_tells_0 5 rfl) (by decide) ?_
    refine mm_iload_n (mm_dc od_X10_tells_0 6 rfl) rfl ?_
    refine mm_imul (mm_dc od_X10_tells_0 7 rfl) ?_
    refine mm_iload_n (mm_dc od_X10_tells_0 8 rfl) rfl ?_
    refine mm_iadd (mm_dc od_X10_tells_0 9 rfl) ?_
    refine mm_dup2_ir (mm_dc od_X10_tells_0 10 rfl) ?_
    refine mm_lald (mm_dc od_X10_tells_0 11 rfl) rfl (by first | omega | assumption | exact hr _ _ rfl) (by first | omega | assumption | exact hr _ _ rfl) (by decide) ?_
    refine mm_lconst (mm_dc od_X10_tells_0 12 rfl) ?_
    refine mm_cst (st' := [v_l 1, v_l (M 66 (Int.toNat ((7 * row) + row))), v_i ((7 * row) + row), v_r 66]) rfl ?_
    refine mm_ladd (mm_dc od_X10_tells_0 13 rfl) ?_
    refine mm_last (mm_dc od_X10_tells_0 14 rfl) rfl (by first | omega | assumption | exact hr _ _ rfl) (by first | omega | assumption | exact hr _ _ rfl) (by decide) ?_
    refine mm_eqM (M' := ad 66 M row.toNat row.toNat 1) (by rw [show ((7 * row) + row).toNat = 7 * row.toNat + row.toNat by omega]; rfl) ?_
    refine mm_iload_n (mm_dc od_X10_tells_0 15 rfl) rfl ?_
    refine mm_if_lt 39 (mm_dc od_X10_tells_0 16 rfl) (by omega) (by first | omega | assumption | exact hr _ _ rfl) (fun c2 => ?_) (fun c2 => ?_)
    · refine mm_aload_n (mm_dc od_X10_tells_0 29 rfl) rfl ?_
      refine mm_getR (ci := 10) (k := 19) (mm_dc od_X10_tells_0 30 rfl) rfl in_X10 (by decide) wd_4_131 rfl rfl ?_
      refine mm_iload_n (mm_dc od_X10_tells_0 31 rfl) rfl ?_
      refine mm_dup2_ir (mm_dc od_X10_tells_0 32 rfl) ?_
      refine mm_lald (mm_dc od_X10_tells_0 33 rfl) rfl (by first | omega | assumption | exact hr _ _ rfl) (by first | omega | assumption | exact hr _ _ rfl) (by decide) ?_
      refine mm_iload_n (mm_dc od_X10_tells_0 34 rfl) rfl ?_
      refine mm_i2l (mm_dc od_X10_tells_0 35 rfl) (by first | omega | assumption | exact hr _ _ rfl) ?_
      refine mm_ladd (mm_dc od_X10_tells_0 36 rfl) ?_
      refine mm_last (mm_dc od_X10_tells_0 37 rfl) rfl (by first | omega | assumption | exact hr _ _ rfl) (by first | omega | assumption | exact hr _ _ rfl) (by decide) ?_
      refine mm_ret (mm_dc od_X10_tells_0 38 rfl) rfl ?_
      have ne : ∀ i, i ≠ 66 → (ad 66 M row.toNat row.toNat 1) i = M i := fun i hi => by unfold ad; rw [mm_up_ne hi]
      refine k _ ⟨⟨R32_upL (R32_ad hr (fun _ => rfl)) rfl, fun i h1 h2 => ?_⟩, fun i c hi hc => ?_, fun i hi => ?_⟩
      · rw [mm_up_ne h2]; exact ne i h1
      · rw [mm_up_ne (by decide)]; exact tl_1 (by omega) (by omega) hc
      · rw [mm_upa, ne 67 (by decide), tl_6 (by omega) hi]
        by_cases e : i = row.toNat
        · rw [if_pos e, if_pos (by omega), e]
        · rw [if_neg e, if_neg (by omega)]; omega
    · refine mm_aload_n (mm_dc od_X10_tells_0 17 rfl) rfl ?_
      refine mm_getR (ci := 10) (k := 18) (mm_dc od_X10_tells_0 18 rfl) rfl in_X10 (by decide) wd_4_130 rfl rfl ?_
      refine mm_bipush (mm_dc od_X10_tells_0 19 rfl) (by decide) ?_
      refine mm_iload_n (mm_dc od_X10_tells_0 20 rfl) rfl ?_
      refine mm_imul (mm_dc od_X10_tells_0 21 rfl) ?_
      refine mm_iload_n (mm_dc od_X10_tells_0 22 rfl) rfl ?_
      refine mm_iadd (mm_dc od_X10_tells_0 23 rfl) ?_
      refine mm_dup2_ir (mm_dc od_X10_tells_0 24 rfl) ?_
      refine mm_lald (mm_dc od_X10_tells_0 25 rfl) rfl (by first | omega | assumption | exact hr _ _ rfl) (by first | omega | assumption | exact hr _ _ rfl) (by decide) ?_
      refine mm_lconst (mm_dc od_X10_tells_0 26 rfl) ?_
      refine mm_cst (st' := [v_l 1, v_l ((ad 66 M row.toNat row.toNat 1) 66 (Int.toNat ((7 * row) + other))), v_i ((7 * row) + other), v_r 66]) rfl ?_
      refine mm_lsub (mm_dc od_X10_tells_0 27 rfl) ?_
      refine mm_last (mm_dc od_X10_tells_0 28 rfl) rfl (by first | omega | assumption | exact hr _ _ rfl) (by first | omega | assumption | exact hr _ _ rfl) (by decide) ?_
      refine mm_eqM (M' := ad 66 (ad 66 M row.toNat row.toNat 1) row.toNat other.toNat (-1)) (by rw [show ((7 * row) + other).toNat = 7 * row.toNat + other.toNat by omega]; rfl) ?_
      refine mm_aload_n (mm_dc od_X10_tells_0 29 rfl) rfl ?_
      refine mm_getR (ci := 10) (k := 19) (mm_dc od_X10_tells_0 30 rfl) rfl in_X10 (by decide) wd_4_131 rfl rfl ?_
      refine mm_iload_n (mm_dc od_X10_tells_0 31 rfl) rfl ?_
      refine mm_dup2_ir (mm_dc od_X10_tells_0 32 rfl) ?_
      refine mm_lald (mm_dc od_X10_tells_0 33 rfl) rfl (by first | omega | assumption | exact hr _ _ rfl) (by first | omega | assumption | exact hr _ _ rfl) (by decide) ?_
      refine mm_iload_n (mm_dc od_X10_tells_0 34 rfl) rfl ?_
      refine mm_i2l (mm_dc od_X10_tells_0 35 rfl) (by first | omega | assumption | exact hr _ _ rfl) ?_
      refine mm_ladd (mm_dc od_X10_tells_0 36 rfl) ?_
      refine mm_last (mm_dc od_X10_tells_0 37 rfl) rfl (by first | omega | assumption | exact hr _ _ rfl) (by first | omega | assumption | exact hr _ _ rfl) (by decide) ?_
      refine mm_ret (mm_dc od_X10_tells_0 38 rfl) rfl ?_
      have ne : ∀ i, i ≠ 66 → (ad 66 (ad 66 M row.toNat row.toNat 1) row.toNat other.toNat (-1)) i = M i := fun i hi => by unfold ad; rw [mm_up_ne hi, mm_up_ne hi]
      refine k _ ⟨⟨R32_upL (R32_ad (R32_ad hr (fun _ => rfl)) (fun _ => rfl)) rfl, fun i h1 h2 => ?_⟩, fun i c hi hc => ?_, fun i hi => ?_⟩
      · rw [mm_up_ne h2]; exact ne i h1
      · rw [mm_up_ne (by decide)]; exact tl_2 (by omega) (by omega) hc
      · rw [mm_upa, ne 67 (by decide), tl_6 (by omega) hi]
        by_cases e : i = row.toNat
        · rw [if_pos e, if_pos (by omega), e]
        · rw [if_neg e, if_neg (by omega)]; omega
  · refine mm_ret (mm_dc od_X10_tells_0 2 rfl) rfl ?_
    exact k _ ⟨⟨hr, fun _ _ _ => rfl⟩, fun i c hi hc => by rw [at_0 (by omega)]; omega, fun i hi => by rw [at_0 (by omega)]; omega⟩
def RT (B : mm_M) (m r : Nat) (M : mm_M) : Prop := frT B M ∧ (∀ i c : Nat, i < 6 → c < 6 → M 66 (7 * i + c) = mxG (B 61) (B 62) (B 63) r m c i) ∧ ∀ i : Nat, i < 6 → M 67 i = mxG (B 61) (B 62) (B 63) r m 6 i
theorem frT_tr {A B C : mm_M} (h : frT A B) (h2 : frT B C) : frT A C := ⟨h2.1, fun i q1 q2 => by rw [h2.2 i q1 q2, h.2 i q1 q2]⟩
theorem RT_f {B M : mm_M} {m r : Nat} (h : RT B m r M) (hg : ¬ m.testBit (B 61 r).toNat = true) : RT B m (r + 1) M := by
  have e : ∀ c i, mxG (B 61) (B 62) (B 63) (r + 1) m c i = mxG (B 61) (B 62) (B 63) r m c i := fun c i => by
    unfold mxG
    simp only [tb]
    rw [if_neg hg]; omega
  exact ⟨h.1, fun i c hi hc => by rw [e]; exact h.2.1 i c hi hc, fun i hi => by rw [e]; exact h.2.2 i hi⟩
theorem RT_t {B M N1 N2 : mm_M} {m r : Nat} {x y w : Int} (h : RT B m r M) (hg : m.testBit (B 61 r).toNat = true) (hx : x = rowF m (B 61 r).toNat) (hy : y = rowF m (B 62 r).toNat) (hw : w = B 63 r) (h1 : frT M N1 ∧ (∀ i c : Nat, i < 6 → c < 6 → N1 66 (7 * i + c) = M 66 (7 * i + c) + ctR x y w c i) ∧ ∀ i : Nat, i < 6 → N1 67 i = M 67 i + ctR x y w 6 i) (h2 : frT N1 N2 ∧ (∀ i c : Nat, i < 6 → c < 6 → N2 66 (7 * i + c) = N1 66 (7 * i + c) + ctR y x (-w) c i) ∧ ∀ i : Nat, i < 6 → N2 67 i = N1 67 i + ctR y x (-w) 6 i) : RT B m (r + 1) N2 := by
  have e : ∀ c i, mxG (B 61) (B 62) (B 63) (r + 1) m c i = mxG (B 61) (B 62) (B 63) r m c i + ctR x y w c i + ctR y x (-w) c i := fun c i => by
    unfold mxG
    simp only [tb]
    rw [if_pos hg, hx, hy, hw]; omega
  exact ⟨frT_tr (frT_tr h.1 h1.1) h2.1, fun i c hi hc => by rw [e, h2.2.1 i c hi hc, h1.2.1 i c hi hc, h.2.1 i c hi hc], fun i hi => by rw [e, h2.2.2 i hi, h1.2.2 i hi, h.2.2 i hi]⟩
def frR (M N : mm_M) : Prop := R32 N ∧ (∀ i, ¬ (64 ≤ i ∧ i ≤ 69) → i ≠ 50 → N i = M i) ∧ ∀ q, q ≠ 22 → q ≠ 23 → N 50 q = M 50 q
theorem frR_tr {A B C : mm_M} (h : frR A B) (h2 : frR B C) : frR A C := ⟨h2.1, fun i q1 q2 => by rw [h2.2.1 i q1 q2, h.2.1 i q1 q2], fun q q1 q2 => by rw [h2.2.2 q q1 q2, h.2.2 q q1 q2]⟩
theorem frR_0 {M : mm_M} (h : R32 M) : frR M M := ⟨h, fun _ _ _ => rfl, fun _ _ _ => rfl⟩
theorem frR_frm {c : Nat} {M N : mm_M} (h : frm c M N) (hc : 64 ≤ c ∧ c ≤ 69) : frR M N := ⟨h.1, fun i h1 _ => h.2 i (by omega), fun q _ _ => by rw [h.2 50 (by omega)]⟩
theorem frR_frT {M N : mm_M} (h : frT M N) : frR M N := ⟨h.1, fun i h1 _ => h.2 i (by omega) (by omega), fun q _ _ => by rw [h.2 50 (by omega) (by omega)]⟩
theorem frR_22 {M : mm_M} {v : Int} (h : R32 M) (hv : mm_r32 v) : frR M (mm_up M 50 22 v) := ⟨R32_up h hv, fun i _ h2 => mm_up_ne h2, fun q h1 _ => by rw [mm_upa, if_neg h1]⟩
theorem frR_23 {M : mm_M} {v : Int} (h : R32 M) : frR M (mm_up M 50 23 v) := ⟨R32_upL h rfl, fun i _ h2 => mm_up_ne h2, fun q _ h1 => by rw [mm_upa, if_neg h1]⟩
/-! places -/
def GA (m : Nat) (G : Nat → Int) (gr : Int) : Prop := (0 ≤ gr ∧ gr < 16) ∧ (∀ x, x < 16 → (m.testBit x = true ↔ G x = gr)) ∧ m.testBit gr.toNat = true ∧ ∀ x : Nat, (x : Int) < gr → m.testBit x = false
def oth (m j : Nat) : Int := max (rowc (fun i => m.testBit i) j - 1) 0
theorem rowc_none {C : Nat → Bool} : ∀ n : Nat, (∀ i, i < n → C i = false) → rowc C n = 0
  | 0, _ => rfl
  | n + 1, h => by
    simp only [rowc]
    rw [rowc_none n (fun i hi => h i (by omega)), h n (by omega)]; rfl
theorem ga_lo {m : Nat} {G : Nat → Int} {gr : Int} (h : GA m G gr) {x : Nat} (hx : (x : Int) ≤ gr) : rowc (fun i => m.testBit i) x = 0 := rowc_none x (fun i hi => h.2.2.2 i (by omega))
theorem ga_hi {m : Nat} {G : Nat → Int} {gr : Int} (h : GA m G gr) {x : Nat} (hx : gr < x) : 1 ≤ rowc (fun i => m.testBit i) x := by
  have h1 := rowc_st (C := fun i => m.testBit i) (x := gr.toNat) (y := x) (by have := h.1; omega) h.2.2.1
  have h2 := rowc_r (fun i => m.testBit i) gr.toNat
  omega
def P1 (B : mm_M) (m j : Nat) (M : mm_M) : Prop := frR B M ∧ M 64 = B 64 ∧ (∀ x, x < j → M 65 x = rowF m x) ∧ M 50 22 = oth m j ∧ oth m j ≤ 6
theorem oth_r (m j : Nat) : 0 ≤ oth m j := by unfold oth; omega
theorem P1_n {B M : mm_M} {m j : Nat} {gr : Int} (h : P1 B m j M) (hG : GA m (B 64) gr) (hj : j < 16) (hn : ¬ B 64 j = gr ∨ (j : Int) = gr) : P1 B m (j + 1) (mm_up M 65 j (-1)) := by
  obtain ⟨h1, h2, h3, h4, h5⟩ := h
  have key : rowF m j = -1 ∧ oth m (j + 1) = oth m j := by
    unfold rowF oth
    simp only [rowc]
    by_cases e : m.testBit j = true
    · have e2 : (j : Int) = gr := by
        rcases hn with q | q
        · exact absurd ((hG.2.1 j hj).mp e) q
        · exact q
      have e3 := ga_lo hG (x := j) (by omega)
      rw [if_pos e, if_pos e, e3]
      decide
    · rw [if_neg e, if_neg e]
      exact ⟨rfl, by omega⟩
  refine ⟨frR_tr h1 (frR_frm (frm_up (frm_0 h1.1) (by decide)) (by decide)), by rw [mm_up_ne (by decide)]; exact h2, fun x hx => ?_, by rw [mm_up_ne (by decide), key.2]; exact h4, by rw [key.2]; exact h5⟩
  rw [mm_upa]
  by_cases e : x = j
  · rw [if_pos e, e, key.1]
  · rw [if_neg e]; exact h3 x (by omega)
theorem P1_y {B M : mm_M} {m j : Nat} {gr : Int} (h : P1 B m j M) (hG : GA m (B 64) gr) (hj : j < 16) (hy : B 64 j = gr) (hn : ¬ (j : Int) = gr) (h6 : ¬ M 50 22 = 6) : P1 B m (j + 1) (mm_up (mm_up (mm_up M 65 j (-1)) 65 j (M 50 22)) 50 22 (M 50 22 + 1)) := by
  obtain ⟨h1, h2, h3, h4, h5⟩ := h
  have hb := (hG.2.1 j hj).mpr hy
  have hgt : gr < j := by
    rcases Int.lt_or_le gr j with q | q
    · exact q
    · exfalso
      have := hG.2.2.2 j (by omega)
      rw [hb] at this; cases this
  have e3 := ga_hi hG hgt
  have key : rowF m j = oth m j ∧ oth m (j + 1) = oth m j + 1 := by
    unfold rowF oth
    simp only [rowc]
    rw [if_pos hb, if_pos hb]
    omega
  have o0 := oth_r m j
  have f1 : frR B (mm_up (mm_up M 65 j (-1)) 65 j (M 50 22)) := frR_tr h1 (frR_frm (frm_up (frm_up (frm_0 h1.1) (by decide)) (by omega)) (by decide))
  refine ⟨frR_tr f1 (frR_22 f1.1 (by omega)), by rw [mm_up_ne (by decide), mm_up_ne (by decide), mm_up_ne (by decide)]; exact h2, fun x hx => ?_, by rw [mm_up_eq, key.2, h4], by rw [key.2]; omega⟩
  rw [mm_up_ne (by decide), mm_upa]
  by_cases e : x = j
  · rw [if_pos e, e, key.1, h4]
  · rw [if_neg e, mm_upa, if_neg e]; exact h3 x (by omega)
theorem P1_6 {B M : mm_M} {m j : Nat} {gr : Int} (h : P1 B m j M) (hG : GA m (B 64) gr) (hj : j < 16) (hy : B 64 j = gr) (h6 : M 50 22 = 6) : 7 < cntb m := by
  obtain ⟨h1, h2, h3, h4, h5⟩ := h
  have hb := (hG.2.1 j hj).mpr hy
  have h7 := rowc_st (C := fun i => m.testBit i) hj hb
  rw [h4] at h6
  unfold oth at h6
  unfold cntb
  omega
theorem P1_end {B M : mm_M} {m j : Nat} {gr : Int} (h : P1 B m j M) (hG : GA m (B 64) gr) (hj : j ≤ 16) (hz : ∀ x, j ≤ x → m.testBit x = false) : ∃ n : Nat, n ≤ 6 ∧ cntb m = (n : Int) + 1 ∧ M 50 22 = n := by
  obtain ⟨h1, h2, h3, h4, h5⟩ := h
  have e1 : cntb m = rowc (fun i => m.testBit i) j := by
    have := rowc_more (C := fun i => m.testBit i) hz (16 - j)
    rw [show j + (16 - j) = 16 by omega] at this
    exact this
  have hgj : gr < j := by
    rcases Int.lt_or_le gr j with q | q
    · exact q
    · have := hz gr.toNat (by omega)
      rw [hG.2.2.1] at this; cases this
  have e2 := ga_hi hG hgj
  unfold oth at h4 h5
  exact ⟨(rowc (fun i => m.testBit i) j - 1).toNat, by omega, by omega, by omega⟩
theorem L_s18 {X : Nat × (Nat → Int)} {d : Nat} {Po : mm_Po} {M : mm_M} {B : mm_M} (m : Nat) (o gr : Int) (hG : GA m (B 64) gr) (hJom : 0 ≤ B 50 10 ∧ B 50 10 ≤ 16) (K : ∀ N : mm_M, P1 B m (B 50 10).toNat N → mm_G X (d + 2) 0 0 mi_X10_solves Po 88 [(0, v_r 50), (1, v_i o), (2, v_i gr), (3, v_i (((B 50 10).toNat : Nat) : Int))] [] Lam N 0 0) (k0 : ∀ N : mm_M, frR B N → 7 < cntb m → Po (some (v_i 0)) Lam N) (j : Nat) (hj : (j : Int) ≤ B 50 10) (hN : P1 B m j M) : mm_G X (d + 2) 0 0 mi_X10_solves Po 18 [(0, v_r 50), (1, v_i o), (2, v_i gr), (3, v_i (j : Int))] [] Lam M 0 0 := by
  have hr := hN.1.1
  have e10 : M 50 10 = B 50 10 := hN.1.2.2 10 (by decide) (by decide)
  have o0 := oth_r m j
  have o6 := hN.2.2.2.2
  have o4 := hN.2.2.2.1
  have hg16 := hG.1
  refine mm_iload_n (mm_dc od_X10_solves_0 12 rfl) rfl ?_
  refine mm_aload_n (mm_dc od_X10_solves_0 13 rfl) rfl ?_
  refine mm_getI (ci := 10) (k := 10) (mm_dc od_X10_solves_0 14 rfl) rfl in_X10 (by decide) wd_4_122 rfl rfl ?_
  refine mm_icmp_ge 88 (mm_dc od_X10_solves_0 15 rfl) (by omega) (by first | omega | assumption | exact hr _ _ rfl) (by first | omega | assumption | exact hr _ _ rfl) (fun c1 => ?_) (fun c1 => ?_)
  · have e : j = (B 50 10).toNat := by omega
    subst e
    exact K _ hN
  · refine mm_aload_n (mm_dc od_X10_solves_0 16 rfl) rfl ?_
    refine mm_getR (ci := 10) (k := 17) (mm_dc od_X10_solves_0 17 rfl) rfl in_X10 (by decide) wd_4_129 rfl rfl ?_
    refine mm_iload_n (mm_dc od_X10_solves_0 18 rfl) rfl ?_
    refine mm_iconst (mm_dc od_X10_solves_0 19 rfl) ?_
    refine mm_iast (mm_dc od_X10_solves_0 20 rfl) rfl (by first | omega | assumption | exact hr _ _ rfl) (by first | omega | assumption | exact hr _ _ rfl) (by decide) ?_
    refine mm_eqM (M' := mm_up M 65 j (-1)) rfl ?_
    refine mm_aload_n (mm_dc od_X10_solves_0 21 rfl) rfl ?_
    refine mm_getR (ci := 10) (k := 15) (mm_dc od_X10_solves_0 22 rfl) rfl in_X10 (by decide) wd_4_127 rfl rfl ?_
    refine mm_iload_n (mm_dc od_X10_solves_0 23 rfl) rfl ?_
    refine mm_iald (mm_dc od_X10_solves_0 24 rfl) rfl (by first | omega | assumption | exact hr _ _ rfl) (by first | omega | assumption | exact hr _ _ rfl) (by decide) ?_
    refine mm_cst (st' := [v_i (M 64 j)]) rfl ?_
    refine mm_iload_n (mm_dc od_X10_solves_0 25 rfl) rfl ?_
    refine mm_icmp_ne 82 (mm_dc od_X10_solves_0 26 rfl) (by omega) (by first | omega | assumption | exact hr _ _ rfl) (by first | omega | assumption | exact hr _ _ rfl) (fun c2 => ?_) (fun c2 => ?_)
    · refine mm_iinc (L' := [(0, v_r 50), (1, v_i o), (2, v_i gr), (3, v_i ((j : Int) + 1))]) (mm_dc od_X10_solves_0 49 rfl) rfl (by decide) rfl ?_
      refine mm_goto 18 (mm_dc od_X10_solves_0 50 rfl) (by omega) ?_
      exact L_s18 m o gr hG hJom K k0 (j + 1) (by omega) (P1_n hN hG (by omega) (by rw [← hN.2.1]; omega))
    · refine mm_iload_n (mm_dc od_X10_solves_0 27 rfl) rfl ?_
      refine mm_iload_n (mm_dc od_X10_solves_0 28 rfl) rfl ?_
      refine mm_icmp_ne 51 (mm_dc od_X10_solves_0 29 rfl) (by omega) (by first | omega | assumption | exact hr _ _ rfl) (by first | omega | assumption | exact hr _ _ rfl) (fun c3 => ?_) (fun c3 => ?_)
      · refine mm_aload_n (mm_dc od_X10_solves_0 31 rfl) rfl ?_
        refine mm_getI (ci := 10) (k := 22) (mm_dc od_X10_solves_0 32 rfl) rfl in_X10 (by decide) wd_4_134 rfl rfl ?_
        refine mm_cst (st' := [v_i (M 50 22)]) rfl ?_
        refine mm_bipush (mm_dc od_X10_solves_0 33 rfl) (by decide) ?_
        refine mm_icmp_ne 62 (mm_dc od_X10_solves_0 34 rfl) (by omega) (by first | omega | assumption | exact hr _ _ rfl) (by first | omega | assumption | exact hr _ _ rfl) (fun c4 => ?_) (fun c4 => ?_)
        · refine mm_aload_n (mm_dc od_X10_solves_0 37 rfl) rfl ?_
          refine mm_getR (ci := 10) (k := 17) (mm_dc od_X10_solves_0 38 rfl) rfl in_X10 (by decide) wd_4_129 rfl rfl ?_
          refine mm_iload_n (mm_dc od_X10_solves_0 39 rfl) rfl ?_
          refine mm_aload_n (mm_dc od_X10_solves_0 40 rfl) rfl ?_
          refine mm_getI (ci := 10) (k := 22) (mm_dc od_X10_solves_0 41 rfl) rfl in_X10 (by decide) wd_4_134 rfl rfl ?_
          refine mm_cst (st' := [v_i (M 50 22), v_i (j : Int), v_r 65]) rfl ?_
          refine mm_iast (mm_dc od_X10_solves_0 42 rfl) rfl (by first | omega | assumption | exact hr _ _ rfl) (by first | omega | assumption | exact hr _ _ rfl) (by decide) ?_
          refine mm_eqM (M' := mm_up (mm_up M 65 j (-1)) 65 j (M 50 22)) rfl ?_
          refine mm_aload_n (mm_dc od_X10_solves_0 43 rfl) rfl ?_
          refine mm_dup_r (mm_dc od_X10_solves_0 44 rfl) ?_
          refine mm_getI (ci := 10) (k := 22) (mm_dc od_X10_solves_0 45 rfl) rfl in_X10 (by decide) wd_4_134 rfl rfl ?_
          refine mm_cst (st' := [v_i (M 50 22), v_r 50]) rfl ?_
          refine mm_iconst (mm_dc od_X10_solves_0 46 rfl) ?_
          refine mm_iadd (mm_dc od_X10_solves_0 47 rfl) ?_
          refine mm_putI (ci := 10) (k := 22) (mm_dc od_X10_solves_0 48 rfl) rfl in_X10 tyX10_ok nmX10 (by decide) wd_4_134 rfl rfl rfl rfl ?_
          refine mm_iinc (L' := [(0, v_r 50), (1, v_i o), (2, v_i gr), (3, v_i ((j : Int) + 1))]) (mm_dc od_X10_solves_0 49 rfl) rfl (by decide) rfl ?_
          refine mm_goto 18 (mm_dc od_X10_solves_0 50 rfl) (by omega) ?_
          exact L_s18 m o gr hG hJom K k0 (j + 1) (by omega) (P1_y hN hG (by omega) (by rw [← hN.2.1]; omega) (by omega) (by omega))
        · refine mm_iconst (mm_dc od_X10_solves_0 35 rfl) ?_
          refine mm_zret .boolean (mm_dc od_X10_solves_0 36 rfl) rfl rfl ?_
          exact k0 _ (frR_tr hN.1 (frR_frm (frm_up (frm_0 hr) (by decide)) (by decide))) (P1_6 hN hG (by omega) (by rw [← hN.2.1]; omega) (by omega))
      · refine mm_goto 82 (mm_dc od_X10_solves_0 30 rfl) (by omega) ?_
        refine mm_iinc (L' := [(0, v_r 50), (1, v_i o), (2, v_i gr), (3, v_i ((j : Int) + 1))]) (mm_dc od_X10_solves_0 49 rfl) rfl (by decide) rfl ?_
        refine mm_goto 18 (mm_dc od_X10_solves_0 50 rfl) (by omega) ?_
        exact L_s18 m o gr hG hJom K k0 (j + 1) (by omega) (P1_n hN hG (by omega) (by rw [← hN.2.1]; omega))
termination_by (B 50 10).toNat - j
decreasing_by all_goals (first | omega | (simp_wf; omega))
theorem L_s90 {X : Nat × (Nat → Int)} {d : Nat} {Po : mm_Po} {M : mm_M} (o gr : Int) (B : mm_M) (K : ∀ N : mm_M, frm 66 B N → (∀ i, i < 49 → N 66 i = 0) → mm_G X (d + 2) 0 0 mi_X10_solves Po 109 [(0, v_r 50), (1, v_i o), (2, v_i gr), (3, v_i 49)] [] Lam N 0 0) (j : Nat) (hj : j ≤ 49) (hf : frm 66 B M) (h0 : ∀ i, i < j → M 66 i = 0) : mm_G X (d + 2) 0 0 mi_X10_solves Po 90 [(0, v_r 50), (1, v_i o), (2, v_i gr), (3, v_i (j : Int))] [] Lam M 0 0 := by
  refine mm_iload_n (mm_dc od_X10_solves_0 53 rfl) rfl ?_
  refine mm_bipush (mm_dc od_X10_solves_0 54 rfl) (by decide) ?_
  refine mm_icmp_ge 109 (mm_dc od_X10_solves_0 55 rfl) (by omega) (by first | omega | assumption) (by first | omega | assumption) (fun c1 => ?_) (fun c1 => ?_)
  · have e : j = 49 := by omega
    subst e
    exact K _ hf h0
  · refine mm_aload_n (mm_dc od_X10_solves_0 56 rfl) rfl ?_
    refine mm_getR (ci := 10) (k := 18) (mm_dc od_X10_solves_0 57 rfl) rfl in_X10 (by decide) wd_4_130 rfl rfl ?_
    refine mm_iload_n (mm_dc od_X10_solves_0 58 rfl) rfl ?_
    refine mm_lconst (mm_dc od_X10_solves_0 59 rfl) ?_
    refine mm_cst (st' := [v_l 0, v_i (j : Int), v_r 66]) rfl ?_
    refine mm_last (mm_dc od_X10_solves_1 0 rfl) rfl (by first | omega | assumption) (by first | omega | assumption) (by decide) ?_
    refine mm_eqM (M' := mm_up M 66 j 0) rfl ?_
    refine mm_iinc (L' := [(0, v_r 50), (1, v_i o), (2, v_i gr), (3, v_i ((j : Int) + 1))]) (mm_dc od_X10_solves_1 1 rfl) rfl (by decide) rfl ?_
    refine mm_goto 90 (mm_dc od_X10_solves_1 2 rfl) (by omega) ?_
    exact L_s90 o gr B K (j + 1) (by omega) (frm_upL hf rfl) (fun i hi => by rw [mm_upa]; split; rfl; exact h0 i (by omega))
termination_by 49 - j
decreasing_by all_goals (first | omega | (simp_wf; omega))
theorem L_s111 {X : Nat × (Nat → Int)} {d : Nat} {Po : mm_Po} {M : mm_M} (o gr : Int) (B : mm_M) (K : ∀ N : mm_M, frm 67 B N → (∀ i, i < 7 → N 67 i = 0) → mm_G X (d + 2) 0 0 mi_X10_solves Po 130 [(0, v_r 50), (1, v_i o), (2, v_i gr), (3, v_i 7)] [] Lam N 0 0) (j : Nat) (hj : j ≤ 7) (hf : frm 67 B M) (h0 : ∀ i, i < j → M 67 i = 0) : mm_G X (d + 2) 0 0 mi_X10_solves Po 111 [(0, v_r 50), (1, v_i o), (2, v_i gr), (3, v_i (j : Int))] [] Lam M 0 0 := by
  refine mm_iload_n (mm_dc od_X10_solves_1 5 rfl) rfl ?_
  refine mm_bipush (mm_dc od_X10_solves_1 6 rfl) (by decide) ?_
  refine mm_icmp_ge 130 (mm_dc od_X10_solves_1 7 rfl) (by omega) (by first | omega | assumption) (by first | omega | assumption) (fun c1 => ?_) (fun c1 => ?_)
  · have e : j = 7 := by omega
    subst e
    exact K _ hf h0
  · refine mm_aload_n (mm_dc od_X10_solves_1 8 rfl) rfl ?_
    refine mm_getR (ci := 10) (k := 19) (mm_dc od_X10_solves_1 9 rfl) rfl in_X10 (by decide) wd_4_131 rfl rfl ?_
    refine mm_iload_n (mm_dc od_X10_solves_1 10 rfl) rfl ?_
    refine mm_lconst (mm_dc od_X10_solves_1 11 rfl) ?_
    refine mm_cst (st' := [v_l 0, v_i (j : Int), v_r 67]) rfl ?_
    refine mm_last (mm_dc od_X10_solves_1 12 rfl) rfl (by first | omega | assumption) (by first | omega | assumption) (by decide) ?_
    refine mm_eqM (M' := mm_up M 67 j 0) rfl ?_
    refine mm_iinc (L' := [(0, v_r 50), (1, v_i o), (2, v_i gr), (3, v_i ((j : Int) + 1))]) (mm_dc od_X10_solves_1 13 rfl) rfl (by decide) rfl ?_
    refine mm_goto 111 (mm_dc od_X10_solves_1 14 rfl) (by omega) ?_
    exact L_s111 o gr B K (j + 1) (by omega) (frm_upL hf rfl) (fun i hi => by rw [mm_upa]; split; rfl; exact h0 i (by omega))
termination_by 7 - j
decreasing_by all_goals (first | omega | (simp_wf; omega))
theorem L_s132 {X : Nat × (Nat → Int)} {d : Nat} {Po : mm_Po} {M : mm_M} {B : mm_M} (m : Nat) (o gr : Int) (hG : GA m (B 64) gr) (hJB : JRm B) (hpl : ∀ r, r < (B 50 16).toNat → m.testBit (B 61 r).toNat = true → (B 65 (B 61 r).toNat = rowF m (B 61 r).toNat ∧ B 65 (B 62 r).toNat = rowF m (B 62 r).toNat) ∧ (-1 ≤ rowF m (B 61 r).toNat ∧ rowF m (B 61 r).toNat < 6) ∧ (-1 ≤ rowF m (B 62 r).toNat ∧ rowF m (B 62 r).toNat < 6)) (K : ∀ N : mm_M, RT B m (B 50 16).toNat N → mm_G X (d + 2) 0 0 mi_X10_solves Po 229 [(0, v_r 50), (1, v_i o), (2, v_i gr), (3, v_i (((B 50 16).toNat : Nat) : Int))] [] Lam N 0 0) (j : Nat) (hj : (j : Int) ≤ B 50 16) (hN : RT B m j M) : mm_G X (d + 2) 0 0 mi_X10_solves Po 132 [(0, v_r 50), (1, v_i o), (2, v_i gr), (3, v_i (j : Int))] [] Lam M 0 0 := by
  have hr := hN.1.1
  have eb : ∀ i, i ≠ 66 → i ≠ 67 → M i = B i := hN.1.2
  have eb50 : M 50 16 = B 50 16 := (by rw [eb 50 (by decide) (by decide)])
  have eb61 : B 61 = M 61 := (eb 61 (by decide) (by decide)).symm
  have eb62 : B 62 = M 62 := (eb 62 (by decide) (by decide)).symm
  have eb63 : B 63 = M 63 := (eb 63 (by decide) (by decide)).symm
  have eb64 : M 64 = B 64 := eb 64 (by decide) (by decide)
  have eb65 : B 65 = M 65 := (eb 65 (by decide) (by decide)).symm
  have hJr2 := hJB
  obtain ⟨hr0, hr40, hRr⟩ := hJr2
  have hR1 := hRr j
  have hg16 := hG.1
  rw [eb61, eb62, eb63] at hR1
  have hgj : (j : Int) < M 50 16 → M 64 (M 61 j).toNat = gr → m.testBit (B 61 j).toNat = true := (fun q q2 => by rw [hG.2.1 _ (by rw [eb61]; omega), eb61, ← eb64]; exact q2)
  have hpj : (j : Int) < M 50 16 → M 64 (M 61 j).toNat = gr → (M 65 (M 61 j).toNat = rowF m (M 61 j).toNat ∧ M 65 (M 62 j).toNat = rowF m (M 62 j).toNat) ∧ (-1 ≤ rowF m (M 61 j).toNat ∧ rowF m (M 61 j).toNat < 6) ∧ (-1 ≤ rowF m (M 62 j).toNat ∧ rowF m (M 62 j).toNat < 6) := (fun q q2 => by
    have h := hpl j (by omega) (hgj q q2)
    rw [eb65, eb61, eb62] at h
    exact h)
  refine mm_iload_n (mm_dc od_X10_solves_1 17 rfl) rfl ?_
  refine mm_aload_n (mm_dc od_X10_solves_1 18 rfl) rfl ?_
  refine mm_getI (ci := 10) (k := 16) (mm_dc od_X10_solves_1 19 rfl) rfl in_X10 (by decide) wd_4_128 rfl rfl ?_
  refine mm_icmp_ge 229 (mm_dc od_X10_solves_1 20 rfl) (by omega) (by first | omega | assumption | exact hr _ _ rfl) (by first | omega | assumption | exact hr _ _ rfl) (fun c1 => ?_) (fun c1 => ?_)
  · have e : j = (B 50 16).toNat := by omega
    subst e
    exact K _ hN
  · refine mm_aload_n (mm_dc od_X10_solves_1 21 rfl) rfl ?_
    refine mm_getR (ci := 10) (k := 15) (mm_dc od_X10_solves_1 22 rfl) rfl in_X10 (by decide) wd_4_127 rfl rfl ?_
    refine mm_aload_n (mm_dc od_X10_solves_1 23 rfl) rfl ?_
    refine mm_getR (ci := 10) (k := 12) (mm_dc od_X10_solves_1 24 rfl) rfl in_X10 (by decide) wd_4_124 rfl rfl ?_
    refine mm_iload_n (mm_dc od_X10_solves_1 25 rfl) rfl ?_
    refine mm_iald (mm_dc od_X10_solves_1 26 rfl) rfl (by first | omega | assumption | exact hr _ _ rfl) (by first | omega | assumption | exact hr _ _ rfl) (by decide) ?_
    refine mm_cst (st' := [v_i (M 61 j), v_r 64]) rfl ?_
    refine mm_iald (mm_dc od_X10_solves_1 27 rfl) rfl (by first | omega | assumption | exact hr _ _ rfl) (by first | omega | assumption | exact hr _ _ rfl) (by decide) ?_
    refine mm_iload_n (mm_dc od_X10_solves_1 28 rfl) rfl ?_
    refine mm_icmp_eq 158 (mm_dc od_X10_solves_1 29 rfl) (by omega) (by first | omega | assumption | exact hr _ _ rfl) (by first | omega | assumption | exact hr _ _ rfl) (fun c2 => ?_) (fun c2 => ?_)
    · refine mm_aload_n (mm_dc od_X10_solves_1 31 rfl) rfl ?_
      refine mm_aload_n (mm_dc od_X10_solves_1 32 rfl) rfl ?_
      refine mm_getR (ci := 10) (k := 17) (mm_dc od_X10_solves_1 33 rfl) rfl in_X10 (by decide) wd_4_129 rfl rfl ?_
      refine mm_aload_n (mm_dc od_X10_solves_1 34 rfl) rfl ?_
      refine mm_getR (ci := 10) (k := 12) (mm_dc od_X10_solves_1 35 rfl) rfl in_X10 (by decide) wd_4_124 rfl rfl ?_
      refine mm_iload_n (mm_dc od_X10_solves_1 36 rfl) rfl ?_
      refine mm_iald (mm_dc od_X10_solves_1 37 rfl) rfl (by first | omega | assumption | exact hr _ _ rfl) (by first | omega | assumption | exact hr _ _ rfl) (by decide) ?_
      refine mm_cst (st' := [v_i (M 61 j), v_r 65, v_r 50]) rfl ?_
      refine mm_iald (mm_dc od_X10_solves_1 38 rfl) rfl (by first | omega | assumption | exact hr _ _ rfl) (by first | omega | assumption | exact hr _ _ rfl) (by decide) ?_
      refine mm_aload_n (mm_dc od_X10_solves_1 39 rfl) rfl ?_
      refine mm_getR (ci := 10) (k := 17) (mm_dc od_X10_solves_1 40 rfl) rfl in_X10 (by decide) wd_4_129 rfl rfl ?_
      refine mm_aload_n (mm_dc od_X10_solves_1 41 rfl) rfl ?_
      refine mm_getR (ci := 10) (k := 13) (mm_dc od_X10_solves_1 42 rfl) rfl in_X10 (by decide) wd_4_125 rfl rfl ?_
      refine mm_iload_n (mm_dc od_X10_solves_1 43 rfl) rfl ?_
      refine mm_iald (mm_dc od_X10_solves_1 44 rfl) rfl (by first | omega | assumption | exact hr _ _ rfl) (by first | omega | assumption | exact hr _ _ rfl) (by decide) ?_
      refine mm_cst (st' := [v_i (M 62 j), v_r 65, v_i (M 65 (Int.toNat (M 61 j))), v_r 50]) rfl ?_
      refine mm_iald (mm_dc od_X10_solves_1 45 rfl) rfl (by first | omega | assumption | exact hr _ _ rfl) (by first | omega | assumption | exact hr _ _ rfl) (by decide) ?_
      refine mm_aload_n (mm_dc od_X10_solves_1 46 rfl) rfl ?_
      refine mm_getR (ci := 10) (k := 14) (mm_dc od_X10_solves_1 47 rfl) rfl in_X10 (by decide) wd_4_126 rfl rfl ?_
      refine mm_iload_n (mm_dc od_X10_solves_1 48 rfl) rfl ?_
      refine mm_iald (mm_dc od_X10_solves_1 49 rfl) rfl (by first | omega | assumption | exact hr _ _ rfl) (by first | omega | assumption | exact hr _ _ rfl) (by decide) ?_
      refine mm_cst (st' := [v_i (M 63 j), v_i (M 65 (Int.toNat (M 62 j))), v_i (M 65 (Int.toNat (M 61 j))), v_r 50]) rfl ?_
      refine mm_callV (b := 50) (mi' := mi_X10_tells) [v_i (M 65 (Int.toNat (M 61 j))), v_i (M 65 (Int.toNat (M 62 j))), v_i (M 63 j)] [] (mm_dc od_X10_solves_1 50 rfl) rfl wd_5_113 wd_5_115 wd_p_29 wd_1_12 wd_5_116 yk_X10_tells rfl rfl rfl (Nat.le_of_ble_eq_true rfl) rfl (by decide) (c_X10_tells (M 65 (Int.toNat (M 61 j))) (M 65 (Int.toNat (M 62 j))) (M 63 j) (by first | omega | assumption | exact hr _ _ rfl) (by first | omega | assumption | exact hr _ _ rfl) (by first | omega | assumption | exact hr _ _ rfl) (by first | omega | assumption | exact hr _ _ rfl) (fun N4 hq5 => ⟨Nat.le_refl _, ?_⟩))
      have hr := hq5.1.1
      have eT : ∀ i, i ≠ 66 → i ≠ 67 → N4 i = M i := hq5.1.2
      have e63 : N4 63 j = M 63 j := by rw [eT 63 (by decide) (by decide)]
      have e65a : N4 65 (N4 61 j).toNat = M 65 (M 61 j).toNat := by rw [eT 65 (by decide) (by decide), eT 61 (by decide) (by decide)]
      have e65b : N4 65 (N4 62 j).toNat = M 65 (M 62 j).toNat := by rw [eT 65 (by decide) (by decide), eT 62 (by decide) (by decide)]
      have e61 : N4 61 j = M 61 j := by rw [eT 61 (by decide) (by decide)]
      have e62 : N4 62 j = M 62 j := by rw [eT 62 (by decide) (by decide)]
      refine mm_aload_n (mm_dc od_X10_solves_1 51 rfl) rfl ?_
      refine mm_aload_n (mm_dc od_X10_solves_1 52 rfl) rfl ?_
      refine mm_getR (ci := 10) (k := 17) (mm_dc od_X10_solves_1 53 rfl) rfl in_X10 (by decide) wd_4_129 rfl rfl ?_
      refine mm_aload_n (mm_dc od_X10_solves_1 54 rfl) rfl ?_
      refine mm_getR (ci := 10) (k := 13) (mm_dc od_X10_solves_1 55 rfl) rfl in_X10 (by decide) wd_4_125 rfl rfl ?_
      refine mm_iload_n (mm_dc od_X10_solves_1 56 rfl) rfl ?_
      refine mm_iald (mm_dc od_X10_solves_1 57 rfl) rfl (by first | omega | assumption | exact hr _ _ rfl) (by first | omega | assumption | exact hr _ _ rfl) (by decide) ?_
      refine mm_cst (st' := [v_i (N4 62 j), v_r 65, v_r 50]) rfl ?_
      refine mm_iald (mm_dc od_X10_solves_1 58 rfl) rfl (by first | omega | assumption | exact hr _ _ rfl) (by first | omega | assumption | exact hr _ _ rfl) (by decide) ?_
      refine mm_aload_n (mm_dc od_X10_solves_1 59 rfl) rfl ?_
      refine mm_getR (ci := 10) (k := 17) (mm_dc od_X10_solves_2 0 rfl) rfl in_X10 (by decide) wd_4_129 rfl rfl ?_
      refine mm_aload_n (mm_dc od_X10_solves_2 1 rfl) rfl ?_
      refine mm_getR (ci := 10) (k := 12) (mm_dc od_X10_solves_2 2 rfl) rfl in_X10 (by decide) wd_4_124 rfl rfl ?_
      refine mm_iload_n (mm_dc od_X10_solves_2 3 rfl) rfl ?_
      refine mm_iald (mm_dc od_X10_solves_2 4 rfl) rfl (by first | omega | assumption | exact hr _ _ rfl) (by first | omega | assumption | exact hr _ _ rfl) (by decide) ?_
      refine mm_cst (st' := [v_i (N4 61 j), v_r 65, v_i (N4 65 (Int.toNat (N4 62 j))), v_r 50]) rfl ?_
      refine mm_iald (mm_dc od_X10_solves_2 5 rfl) rfl (by first | omega | assumption | exact hr _ _ rfl) (by first | omega | assumption | exact hr _ _ rfl) (by decide) ?_
      refine mm_aload_n (mm_dc od_X10_solves_2 6 rfl) rfl ?_
      refine mm_getR (ci := 10) (k := 14) (mm_dc od_X10_solves_2 7 rfl) rfl in_X10 (by decide) wd_4_126 rfl rfl ?_
      refine mm_iload_n (mm_dc od_X10_solves_2 8 rfl) rfl ?_
      refine mm_iald (mm_dc od_X10_solves_2 9 rfl) rfl (by first | omega | assumption | exact hr _ _ rfl) (by first | omega | assumption | exact hr _ _ rfl) (by decide) ?_
      refine mm_cst (st' := [v_i (N4 63 j), v_i (N4 65 (Int.toNat (N4 61 j))), v_i (N4 65 (Int.toNat (N4 62 j))), v_r 50]) rfl ?_
      refine mm_ineg (mm_dc od_X10_solves_2 10 rfl) ?_
      refine mm_callV (b := 50) (mi' := mi_X10_tells) [v_i (N4 65 (Int.toNat (N4 62 j))), v_i (N4 65 (Int.toNat (N4 61 j))), v_i (-(N4 63 j))] [] (mm_dc od_X10_solves_2 11 rfl) rfl wd_5_113 wd_5_115 wd_p_29 wd_1_12 wd_5_116 yk_X10_tells rfl rfl rfl (Nat.le_of_ble_eq_true rfl) rfl (by decide) (c_X10_tells (N4 65 (Int.toNat (N4 62 j))) (N4 65 (Int.toNat (N4 61 j))) (-(N4 63 j)) (by first | omega | assumption | exact hr _ _ rfl) (by first | omega | assumption | exact hr _ _ rfl) (by first | omega | assumption | exact hr _ _ rfl) (by first | omega | assumption | exact hr _ _ rfl) (fun N7 hq8 => ⟨Nat.le_refl _, ?_⟩))
      have hr := hq8.1.1
      refine mm_iinc (L' := [(0, v_r 50), (1, v_i o), (2, v_i gr), (3, v_i ((j : Int) + 1))]) (mm_dc od_X10_solves_2 12 rfl) rfl (by decide) rfl ?_
      refine mm_goto 132 (mm_dc od_X10_solves_2 13 rfl) (by omega) ?_
      have hp := hpj (by omega) (by assumption)
      rw [e65a, e65b, e63] at hq8
      exact L_s132 m o gr hG hJB hpl K (j + 1) (by omega) (RT_t hN (hgj (by omega) (by assumption)) (by rw [hp.1.1, eb61]) (by rw [hp.1.2, eb62]) (by rw [eb63]) hq5 hq8)
    · refine mm_goto 223 (mm_dc od_X10_solves_1 30 rfl) (by omega) ?_
      refine mm_iinc (L' := [(0, v_r 50), (1, v_i o), (2, v_i gr), (3, v_i ((j : Int) + 1))]) (mm_dc od_X10_solves_2 12 rfl) rfl (by decide) rfl ?_
      refine mm_goto 132 (mm_dc od_X10_solves_2 13 rfl) (by omega) ?_
      have hg : ¬ m.testBit (B 61 j).toNat = true := by rw [hG.2.1 _ (by rw [eb61]; omega), eb61]; rw [← eb64]; assumption
      exact L_s132 m o gr hG hJB hpl K (j + 1) (by omega) (RT_f hN hg)
termination_by (B 50 16).toNat - j
decreasing_by all_goals (first | omega | (simp_wf; omega))
