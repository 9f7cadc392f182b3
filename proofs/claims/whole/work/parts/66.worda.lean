/-! words on the tape -/
def wtab : List (List (Nat × Nat)) := [[(0, 4), (5, 9), (10, 10)], [(0, 4), (5, 9), (10, 15), (16, 22), (23, 27), (28, 29), (30, 30)], [(0, 4), (5, 5)], [(0, 6), (7, 11), (12, 16), (17, 22), (23, 27), (28, 33), (34, 37), (38, 38)], [(0, 1), (2, 3), (4, 5), (6, 6)]]
def wst (i t : Nat) : Nat := ((wtab.getD i []).getD t (0, 0)).1
def wen (i t : Nat) : Nat := ((wtab.getD i []).getD t (0, 0)).2
def wL (i t : Nat) : Nat := wen i t - wst i t
def wd (i t : Nat) : Nat → Int := fun q => tx i (wst i t + q)
def cq (len : Int) (tp : Nat → Int) (p : Nat) (w : Nat → Int) (L r : Nat) : Prop := r ≤ L ∧ (∀ k, k < r → ((p + k : Nat) : Int) < len ∧ tp (p + k) = w k) ∧ (r < L → ¬ (((p + r : Nat) : Int) < len ∧ tp (p + r) = w r))
theorem cq_one {len : Int} {tp : Nat → Int} {p : Nat} {w : Nat → Int} {L r s : Nat} (h : cq len tp p w L r) (h2 : cq len tp p w L s) : r = s := by
  obtain ⟨a1, a2, a3⟩ := h
  obtain ⟨b1, b2, b3⟩ := h2
  rcases Nat.lt_trichotomy r s with q | q | q
  · exact absurd (b2 r q) (a3 (by omega))
  · exact q
  · exact absurd (a2 s q) (b3 (by omega))
theorem cq_len {len : Int} {tp : Nat → Int} {p : Nat} {w : Nat → Int} {L r : Nat} (h : cq len tp p w L r) (hp : (p : Int) ≤ len) : ((p + r : Nat) : Int) ≤ len := by
  rcases Nat.eq_zero_or_pos r with q | q
  · subst q; exact hp
  · have := (h.2.1 (r - 1) (by omega)).1
    omega
def TW (i K : Nat) (len : Int) (tp : Nat → Int) (p : Nat) (r : Int) (adv : Nat) : Prop := (∃ t : Nat, t < K ∧ r = t ∧ cq len tp p (wd i t) (wL i t) (wL i t) ∧ adv = wL i t) ∨ (r = -1 ∧ (∀ t, t < K → ∃ c, c < wL i t ∧ c ≤ adv ∧ cq len tp p (wd i t) (wL i t) c) ∧ (adv = 0 ∨ ∃ t, t < K ∧ cq len tp p (wd i t) (wL i t) adv))
theorem TW_r {i K : Nat} {len : Int} {tp : Nat → Int} {p : Nat} {r : Int} {adv : Nat} (h : TW i K len tp p r adv) (hp : (p : Int) ≤ len) : ((p + adv : Nat) : Int) ≤ len ∧ -1 ≤ r ∧ (r < K ∨ r = -1) := by
  rcases h with ⟨t, h1, h2, h3, h4⟩ | ⟨h1, h2, h3⟩
  · subst h4
    exact ⟨cq_len h3 hp, by omega, by omega⟩
  · refine ⟨?_, by omega, by omega⟩
    rcases h3 with q | ⟨t, _, q⟩
    · subst q; exact hp
    · exact cq_len q hp
def fA (B N : mm_M) (a : Int) : Prop := R32 N ∧ (∀ i, i ≠ 24 → N i = B i) ∧ N 24 0 = B 24 0 ∧ N 24 1 = a
theorem fA_up {B : mm_M} {a : Int} (h : R32 B) (ha : mm_r32 a) : fA B (mm_up B 24 1 a) a := ⟨R32_up h ha, fun i hi => mm_up_ne hi, by rw [mm_upa, if_neg (by decide)], mm_up_eq⟩
theorem fA_0 {B : mm_M} (h : R32 B) : fA B B (B 24 1) := ⟨h, fun _ _ => rfl, rfl, rfl⟩
theorem fA_tr {A B C : mm_M} {a b : Int} (h : fA A B a) (h2 : fA B C b) : fA A C b := ⟨h2.1, fun i hi => by rw [h2.2.1 i hi, h.2.1 i hi], by rw [h2.2.2.1, h.2.2.1], h2.2.2.2⟩
def JTp (M : mm_M) : Prop := 0 ≤ M 24 1 ∧ M 24 1 ≤ M 24 0 ∧ M 24 0 ≤ 120
def fQ (i : Nat) (len : Int) (tp : Nat → Int) (p t f : Nat) : Prop := (∀ u, u < t → ∃ c, c < wL i u ∧ c ≤ f ∧ cq len tp p (wd i u) (wL i u) c) ∧ (f = 0 ∨ ∃ u, u < t ∧ cq len tp p (wd i u) (wL i u) f)
theorem fQ_s {i : Nat} {len : Int} {tp : Nat → Int} {p t f c : Nat} (h : fQ i len tp p t f) (hc : cq len tp p (wd i t) (wL i t) c) (hl : c < wL i t) : fQ i len tp p (t + 1) (max f c) := by
  refine ⟨fun u hu => ?_, ?_⟩
  · by_cases e : u = t
    · subst e; exact ⟨c, hl, by omega, hc⟩
    · obtain ⟨c2, q1, q2, q3⟩ := h.1 u (by omega)
      exact ⟨c2, q1, by omega, q3⟩
  · rcases Nat.le_total f c with q | q
    · rw [Nat.max_eq_right q]; exact Or.inr ⟨t, by omega, hc⟩
    · rw [Nat.max_eq_left q]
      exact h.2.imp id (fun ⟨u, h1, h2⟩ => ⟨u, by omega, h2⟩)
theorem wtf0 : ∀ t : Nat, t < 2 → wst 0 t < wen 0 t ∧ wen 0 t ≤ 9 ∧ wst 0 (t + 1) = wen 0 t + 1 ∧ (wen 0 t = 9 ∨ tx 0 (wen 0 t) = 124) ∧ (t + 1 < 2 → wst 0 (t + 1) ≤ wen 0 (t + 1) ∧ wen 0 t < 9) ∧ ∀ e : Nat, e < 9 → wst 0 t ≤ e → e < wen 0 t → tx 0 e ≠ 124 := by decide +kernel
theorem wtf1 : ∀ t : Nat, t < 6 → wst 1 t < wen 1 t ∧ wen 1 t ≤ 29 ∧ wst 1 (t + 1) = wen 1 t + 1 ∧ (wen 1 t = 29 ∨ tx 1 (wen 1 t) = 124) ∧ (t + 1 < 6 → wst 1 (t + 1) ≤ wen 1 (t + 1) ∧ wen 1 t < 29) ∧ ∀ e : Nat, e < 29 → wst 1 t ≤ e → e < wen 1 t → tx 1 e ≠ 124 := by decide +kernel
theorem wtf2 : ∀ t : Nat, t < 1 → wst 2 t < wen 2 t ∧ wen 2 t ≤ 4 ∧ wst 2 (t + 1) = wen 2 t + 1 ∧ (wen 2 t = 4 ∨ tx 2 (wen 2 t) = 124) ∧ (t + 1 < 1 → wst 2 (t + 1) ≤ wen 2 (t + 1) ∧ wen 2 t < 4) ∧ ∀ e : Nat, e < 4 → wst 2 t ≤ e → e < wen 2 t → tx 2 e ≠ 124 := by decide +kernel
theorem wtf3 : ∀ t : Nat, t < 7 → wst 3 t < wen 3 t ∧ wen 3 t ≤ 37 ∧ wst 3 (t + 1) = wen 3 t + 1 ∧ (wen 3 t = 37 ∨ tx 3 (wen 3 t) = 124) ∧ (t + 1 < 7 → wst 3 (t + 1) ≤ wen 3 (t + 1) ∧ wen 3 t < 37) ∧ ∀ e : Nat, e < 37 → wst 3 t ≤ e → e < wen 3 t → tx 3 e ≠ 124 := by decide +kernel
theorem wtf4 : ∀ t : Nat, t < 3 → wst 4 t < wen 4 t ∧ wen 4 t ≤ 5 ∧ wst 4 (t + 1) = wen 4 t + 1 ∧ (wen 4 t = 5 ∨ tx 4 (wen 4 t) = 124) ∧ (t + 1 < 3 → wst 4 (t + 1) ≤ wen 4 (t + 1) ∧ wen 4 t < 5) ∧ ∀ e : Nat, e < 5 → wst 4 t ≤ e → e < wen 4 t → tx 4 e ≠ 124 := by decide +kernel
theorem c_X8_isAtEnd {X : Nat × (Nat → Int)} {d : Nat} {Po : mm_Po} {M : mm_M}  (hr : R32 M) (kt : M 24 0 ≤ M 24 1 → Po (some (v_i 1)) Lam M) (kf : ¬ (M 24 0 ≤ M 24 1) → Po (some (v_i 0)) Lam M) : mm_E X d 0 0 mi_X8_isAtEnd [v_r 24] Po Lam M := by
  show mm_G X d 0 0 mi_X8_isAtEnd Po 0 [(0, v_r 24)] [] Lam M 0 0
  refine mm_aload_n (mm_dc od_X8_isAtEnd_0 0 rfl) rfl ?_
  refine mm_getI (ci := 8) (k := 1) (mm_dc od_X8_isAtEnd_0 1 rfl) rfl in_X8 (by decide) wd_1_152 rfl rfl ?_
  refine mm_aload_n (mm_dc od_X8_isAtEnd_0 2 rfl) rfl ?_
  refine mm_getI (ci := 8) (k := 0) (mm_dc od_X8_isAtEnd_0 3 rfl) rfl in_X8 (by decide) wd_1_150 rfl rfl ?_
  refine mm_icmp_lt 15 (mm_dc od_X8_isAtEnd_0 4 rfl) (by omega) (by first | assumption | omega | exact hr _ _ rfl | exact mm_ti _ | exact mm_r3264 (hr _ _ rfl)) (by first | assumption | omega | exact hr _ _ rfl | exact mm_ti _ | exact mm_r3264 (hr _ _ rfl)) (fun c1 => ?_) (fun c1 => ?_)
  · refine mm_iconst (mm_dc od_X8_isAtEnd_0 7 rfl) ?_
    refine mm_zret .boolean (mm_dc od_X8_isAtEnd_0 8 rfl) rfl rfl ?_
    exact kf (by first | assumption | omega)
  · refine mm_iconst (mm_dc od_X8_isAtEnd_0 5 rfl) ?_
    refine mm_goto 16 (mm_dc od_X8_isAtEnd_0 6 rfl) (by omega) ?_
    refine mm_zret .boolean (mm_dc od_X8_isAtEnd_0 8 rfl) rfl rfl ?_
    exact kt (by first | assumption | omega)
theorem L_cs0 {X : Nat × (Nat → Int)} {d : Nat} {Po : mm_Po} {M : mm_M} (st en : Nat) (hse : st ≤ en) (hen : en ≤ 9) (hJ : JTp M) (hr : R32 M) (k : ∀ r : Nat, cq (M 24 0) (M 25) (M 24 1).toNat (fun q => tx 0 (st + q)) (en - st) r → Po (some (v_i (r : Int))) Lam M) (r : Nat) (hr1 : r ≤ en - st) (hm : ∀ q, q < r → (((M 24 1).toNat + q : Nat) : Int) < M 24 0 ∧ M 25 ((M 24 1).toNat + q) = tx 0 (st + q)) : mm_G X (d + 4) 0 0 mi_X8_countSame Po 6 [(0, v_r 24), (1, v_r 1002), (2, v_i (st : Int)), (3, v_i (en : Int)), (4, v_i (r : Int)), (5, v_i ((st + r : Nat) : Int))] [] Lam M 0 0 := by
  have hJ2 := hJ
  obtain ⟨j1, j2, j3⟩ := hJ2
  have hix : (M 24 1 + (r : Int)).toNat = (M 24 1).toNat + r := (by omega)
  have htx : st + r < 9 → 0 ≤ tx 0 (st + r) ∧ tx 0 (st + r) < 128 := (fun q => (tx_a0 (st + r) q).2.2.2)
  refine mm_iload (mm_dc od_X8_countSame_0 4 rfl) rfl ?_
  refine mm_iload_n (mm_dc od_X8_countSame_0 5 rfl) rfl ?_
  refine mm_icmp_ge 59 (mm_dc od_X8_countSame_0 6 rfl) (by omega) (by first | omega | assumption | exact hr _ _ rfl) (by first | omega | assumption | exact hr _ _ rfl) (fun c1 => ?_) (fun c1 => ?_)
  · refine mm_iload (mm_dc od_X8_countSame_0 29 rfl) rfl ?_
    refine mm_iret (mm_dc od_X8_countSame_0 30 rfl) rfl ?_
    exact k r ⟨hr1, hm, fun q => by dsimp only; rw [← hix]; omega⟩
  · refine mm_aload_n (mm_dc od_X8_countSame_0 7 rfl) rfl ?_
    refine mm_getI (ci := 8) (k := 1) (mm_dc od_X8_countSame_0 8 rfl) rfl in_X8 (by decide) wd_1_152 rfl rfl ?_
    refine mm_iload (mm_dc od_X8_countSame_0 9 rfl) rfl ?_
    refine mm_iadd (mm_dc od_X8_countSame_0 10 rfl) ?_
    refine mm_aload_n (mm_dc od_X8_countSame_0 11 rfl) rfl ?_
    refine mm_getI (ci := 8) (k := 0) (mm_dc od_X8_countSame_0 12 rfl) rfl in_X8 (by decide) wd_1_150 rfl rfl ?_
    refine mm_icmp_ge 59 (mm_dc od_X8_countSame_0 13 rfl) (by omega) (by first | omega | assumption | exact hr _ _ rfl) (by first | omega | assumption | exact hr _ _ rfl) (fun c2 => ?_) (fun c2 => ?_)
    · refine mm_iload (mm_dc od_X8_countSame_0 29 rfl) rfl ?_
      refine mm_iret (mm_dc od_X8_countSame_0 30 rfl) rfl ?_
      exact k r ⟨hr1, hm, fun q => by dsimp only; rw [← hix]; omega⟩
    · refine mm_aload_n (mm_dc od_X8_countSame_0 14 rfl) rfl ?_
      refine mm_getR (ci := 8) (k := 2) (mm_dc od_X8_countSame_0 15 rfl) rfl in_X8 (by decide) wd_1_155 rfl rfl ?_
      refine mm_aload_n (mm_dc od_X8_countSame_0 16 rfl) rfl ?_
      refine mm_getI (ci := 8) (k := 1) (mm_dc od_X8_countSame_0 17 rfl) rfl in_X8 (by decide) wd_1_152 rfl rfl ?_
      refine mm_iload (mm_dc od_X8_countSame_0 18 rfl) rfl ?_
      refine mm_iadd (mm_dc od_X8_countSame_0 19 rfl) ?_
      refine mm_iald (mm_dc od_X8_countSame_0 20 rfl) rfl (by first | omega | assumption | exact hr _ _ rfl) (by first | omega | assumption | exact hr _ _ rfl) (by decide) ?_
      refine mm_aload_n (mm_dc od_X8_countSame_0 21 rfl) rfl ?_
      refine mm_iload (mm_dc od_X8_countSame_0 22 rfl) rfl ?_
      refine mm_callT (i := 0) (mi' := mi_J0_charAt_5068e) [v_i ((st + r : Nat) : Int)] [v_i (M 25 (Int.toNat ((M 24 1) + (r : Int))))] (mm_dc od_X8_countSame_0 23 rfl) rfl wd_3_99 wd_3_100 wd_3_101 wd_1_16 wd_3_102 yk_J0_charAt_5068e (by decide) rfl (Nat.le_of_ble_eq_true rfl) rfl (by decide) (c_chr0 (st + r) (by omega) ⟨Nat.le_refl _, ?_⟩)
      refine mm_icmp_eq 50 (mm_dc od_X8_countSame_0 24 rfl) (by omega) (by first | omega | assumption | exact hr _ _ rfl) (by first | omega | assumption | exact hr _ _ rfl) (fun c3 => ?_) (fun c3 => ?_)
      · refine mm_iinc (L' := [(0, v_r 24), (1, v_r 1002), (2, v_i (st : Int)), (3, v_i (en : Int)), (4, v_i ((r : Int) + 1)), (5, v_i ((st + r : Nat) : Int))]) (mm_dc od_X8_countSame_0 26 rfl) rfl (by decide) rfl ?_
        refine mm_iinc (L' := [(0, v_r 24), (1, v_r 1002), (2, v_i (st : Int)), (3, v_i (en : Int)), (4, v_i ((r : Int) + 1)), (5, v_i (((st + r : Nat) : Int) + 1))]) (mm_dc od_X8_countSame_0 27 rfl) rfl (by decide) rfl ?_
        refine mm_goto 6 (mm_dc od_X8_countSame_0 28 rfl) (by omega) ?_
        exact L_cs0 st en hse hen hJ hr k (r + 1) (by omega) (fun q hq => by
          by_cases e : q = r
          · subst e
            exact ⟨by omega, by rw [← hix]; assumption⟩
          · exact hm q (by omega))
      · refine mm_goto 59 (mm_dc od_X8_countSame_0 25 rfl) (by omega) ?_
        refine mm_iload (mm_dc od_X8_countSame_0 29 rfl) rfl ?_
        refine mm_iret (mm_dc od_X8_countSame_0 30 rfl) rfl ?_
        exact k r ⟨hr1, hm, fun q => by dsimp only; rw [← hix]; omega⟩
termination_by en - st - r
decreasing_by all_goals (first | omega | (simp_wf; omega))
theorem c_cs0 {X : Nat × (Nat → Int)} {d : Nat} {Po : mm_Po} {M : mm_M} (st en : Nat) (hse : st ≤ en) (hen : en ≤ 9) (hJ : JTp M) (hr : R32 M) (k : ∀ r : Nat, cq (M 24 0) (M 25) (M 24 1).toNat (fun q => tx 0 (st + q)) (en - st) r → Po (some (v_i (r : Int))) Lam M) : mm_G X (d + 4) 0 0 mi_X8_countSame Po 0 [(0, v_r 24), (1, v_r 1002), (2, v_i (st : Int)), (3, v_i (en : Int))] [] Lam M 0 0 := by
  refine mm_iconst (mm_dc od_X8_countSame_0 0 rfl) ?_
  refine mm_istore (L' := [(0, v_r 24), (1, v_r 1002), (2, v_i (st : Int)), (3, v_i (en : Int)), (4, v_i 0)]) (mm_dc od_X8_countSame_0 1 rfl) (by decide) rfl ?_
  refine mm_iload_n (mm_dc od_X8_countSame_0 2 rfl) rfl ?_
  refine mm_istore (L' := [(0, v_r 24), (1, v_r 1002), (2, v_i (st : Int)), (3, v_i (en : Int)), (4, v_i 0), (5, v_i (st : Int))]) (mm_dc od_X8_countSame_0 3 rfl) (by decide) rfl ?_
  exact L_cs0 st en hse hen hJ hr k 0 (by omega) (fun q hq => by omega)
theorem L_cs1 {X : Nat × (Nat → Int)} {d : Nat} {Po : mm_Po} {M : mm_M} (st en : Nat) (hse : st ≤ en) (hen : en ≤ 29) (hJ : JTp M) (hr : R32 M) (k : ∀ r : Nat, cq (M 24 0) (M 25) (M 24 1).toNat (fun q => tx 1 (st + q)) (en - st) r → Po (some (v_i (r : Int))) Lam M) (r : Nat) (hr1 : r ≤ en - st) (hm : ∀ q, q < r → (((M 24 1).toNat + q : Nat) : Int) < M 24 0 ∧ M 25 ((M 24 1).toNat + q) = tx 1 (st + q)) : mm_G X (d + 4) 0 0 mi_X8_countSame Po 6 [(0, v_r 24), (1, v_r 1003), (2, v_i (st : Int)), (3, v_i (en : Int)), (4, v_i (r : Int)), (5, v_i ((st + r : Nat) : Int))] [] Lam M 0 0 := by
  have hJ2 := hJ
  obtain ⟨j1, j2, j3⟩ := hJ2
  have hix : (M 24 1 + (r : Int)).toNat = (M 24 1).toNat + r := (by omega)
  have htx : st + r < 29 → 0 ≤ tx 1 (st + r) ∧ tx 1 (st + r) < 128 := (fun q => (tx_a1 (st + r) q).2.2.2)
  refine mm_iload (mm_dc od_X8_countSame_0 4 rfl) rfl ?_
  refine mm_iload_n (mm_dc od_X8_countSame_0 5 rfl) rfl ?_
  refine mm_icmp_ge 59 (mm_dc od_X8_countSame_0 6 rfl) (by omega) (by first | omega | assumption | exact hr _ _ rfl) (by first | omega | assumption | exact hr _ _ rfl) (fun c1 => ?_) (fun c1 => ?_)
  · refine mm_iload (mm_dc od_X8_countSame_0 29 rfl) rfl ?_
    refine mm_iret (mm_dc od_X8_countSame_0 30 rfl) rfl ?_
    exact k r ⟨hr1, hm, fun q => by dsimp only; rw [← hix]; omega⟩
  · refine mm_aload_n (mm_dc od_X8_countSame_0 7 rfl) rfl ?_
    refine mm_getI (ci := 8) (k := 1) (mm_dc od_X8_countSame_0 8 rfl) rfl in_X8 (by decide) wd_1_152 rfl rfl ?_
    refine mm_iload (mm_dc od_X8_countSame_0 9 rfl) rfl ?_
    refine mm_iadd (mm_dc od_X8_countSame_0 10 rfl) ?_
    refine mm_aload_n (mm_dc od_X8_countSame_0 11 rfl) rfl ?_
    refine mm_getI (ci := 8) (k := 0) (mm_dc od_X8_countSame_0 12 rfl) rfl in_X8 (by decide) wd_1_150 rfl rfl ?_
    refine mm_icmp_ge 59 (mm_dc od_X8_countSame_0 13 rfl) (by omega) (by first | omega | assumption | exact hr _ _ rfl) (by first | omega | assumption | exact hr _ _ rfl) (fun c2 => ?_) (fun c2 => ?_)
    · refine mm_iload (mm_dc od_X8_countSame_0 29 rfl) rfl ?_
      refine mm_iret (mm_dc od_X8_countSame_0 30 rfl) rfl ?_
      exact k r ⟨hr1, hm, fun q => by dsimp only; rw [← hix]; omega⟩
    · refine mm_aload_n (mm_dc od_X8_countSame_0 14 rfl) rfl ?_
      refine mm_getR (ci := 8) (k := 2) (mm_dc od_X8_countSame_0 15 rfl) rfl in_X8 (by decide) wd_1_155 rfl rfl ?_
      refine mm_aload_n (mm_dc od_X8_countSame_0 16 rfl) rfl ?_
      refine mm_getI (ci := 8) (k := 1) (mm_dc od_X8_countSame_0 17 rfl) rfl in_X8 (by decide) wd_1_152 rfl rfl ?_
      refine mm_iload (mm_dc od_X8_countSame_0 18 rfl) rfl ?_
      refine mm_iadd (mm_dc od_X8_countSame_0 19 rfl) ?_
      refine mm_iald (mm_dc od_X8_countSame_0 20 rfl) rfl (by first | omega | assumption | exact hr _ _ rfl) (by first | omega | assumption | exact hr _ _ rfl) (by decide) ?_
      refine mm_aload_n (mm_dc od_X8_countSame_0 21 rfl) rfl ?_
      refine mm_iload (mm_dc od_X8_countSame_0 22 rfl) rfl ?_
      refine mm_callT (i := 1) (mi' := mi_J0_charAt_5068e) [v_i ((st + r : Nat) : Int)] [v_i (M 25 (Int.toNat ((M 24 1) + (r : Int))))] (mm_dc od_X8_countSame_0 23 rfl) rfl wd_3_99 wd_3_100 wd_3_101 wd_1_16 wd_3_102 yk_J0_charAt_5068e (by decide) rfl (Nat.le_of_ble_eq_true rfl) rfl (by decide) (c_chr1 (st + r) (by omega) ⟨Nat.le_refl _, ?_⟩)
      refine mm_icmp_eq 50 (mm_dc od_X8_countSame_0 24 rfl) (by omega) (by first | omega | assumption | exact hr _ _ rfl) (by first | omega | assumption | exact hr _ _ rfl) (fun c3 => ?_) (fun c3 => ?_)
      · refine mm_iinc (L' := [(0, v_r 24), (1, v_r 1003), (2, v_i (st : Int)), (3, v_i (en : Int)), (4, v_i ((r : Int) + 1)), (5, v_i ((st + r : Nat) : Int))]) (mm_dc od_X8_countSame_0 26 rfl) rfl (by decide) rfl ?_
        refine mm_iinc (L' := [(0, v_r 24), (1, v_r 1003), (2, v_i (st : Int)), (3, v_i (en : Int)), (4, v_i ((r : Int) + 1)), (5, v_i (((st + r : Nat) : Int) + 1))]) (mm_dc od_X8_countSame_0 27 rfl) rfl (by decide) rfl ?_
        refine mm_goto 6 (mm_dc od_X8_countSame_0 28 rfl) (by omega) ?_
        exact L_cs1 st en hse hen hJ hr k (r + 1) (by omega) (fun q hq => by
          by_cases e : q = r
          · subst e
            exact ⟨by omega, by rw [← hix]; assumption⟩
          · exact hm q (by omega))
      · refine mm_goto 59 (mm_dc od_X8_countSame_0 25 rfl) (by omega) ?_
        refine mm_iload (mm_dc od_X8_countSame_0 29 rfl) rfl ?_
        refine mm_iret (mm_dc od_X8_countSame_0 30 rfl) rfl ?_
        exact k r ⟨hr1, hm, fun q => by dsimp only; rw [← hix]; omega⟩
termination_by en - st - r
decreasing_by all_goals (first | omega | (simp_wf; omega))
theorem c_cs1 {X : Nat × (Nat → Int)} {d : Nat} {Po : mm_Po} {M : mm_M} (st en : Nat) (hse : st ≤ en) (hen : en ≤ 29) (hJ : JTp M) (hr : R32 M) (k : ∀ r : Nat, cq (M 24 0) (M 25) (M 24 1).toNat (fun q => tx 1 (st + q)) (en - st) r → Po (some (v_i (r : Int))) Lam M) : mm_G X (d + 4) 0 0 mi_X8_countSame Po 0 [(0, v_r 24), (1, v_r 1003), (2, v_i (st : Int)), (3, v_i (en : Int))] [] Lam M 0 0 := by
  refine mm_iconst (mm_dc od_X8_countSame_0 0 rfl) ?_
  refine mm_istore (L' := [(0, v_r 24), (1, v_r 1003), (2, v_i (st : Int)), (3, v_i (en : Int)), (4, v_i 0)]) (mm_dc od_X8_countSame_0 1 rfl) (by decide) rfl ?_
  refine mm_iload_n (mm_dc od_X8_countSame_0 2 rfl) rfl ?_
  refine mm_istore (L' := [(0, v_r 24), (1, v_r 1003), (2, v_i (st : Int)), (3, v_i (en : Int)), (4, v_i 0), (5, v_i (st : Int))]) (mm_dc od_X8_countSame_0 3 rfl) (by decide) rfl ?_
  exact L_cs1 st en hse hen hJ hr k 0 (by omega) (fun q hq => by omega)
theorem L_cs2 {X : Nat × (Nat → Int)} {d : Nat} {Po : mm_Po} {M : mm_M} (st en : Nat) (hse : st ≤ en) (hen : en ≤ 4) (hJ : JTp M) (hr : R32 M) (k : ∀ r : Nat, cq (M 24 0) (M 25) (M 24 1).toNat (fun q => tx 2 (st + q)) (en - st) r → Po (some (v_i (r : Int))) Lam M) (r : Nat) (hr1 : r ≤ en - st) (hm : ∀ q, q < r → (((M 24 1).toNat + q : Nat) : Int) < M 24 0 ∧ M 25 ((M 24 1).toNat + q) = tx 2 (st + q)) : mm_G X (d + 4) 0 0 mi_X8_countSame Po 6 [(0, v_r 24), (1, v_r 1004), (2, v_i (st : Int)), (3, v_i (en : Int)), (4, v_i (r : Int)), (5, v_i ((st + r : Nat) : Int))] [] Lam M 0 0 := by
  have hJ2 := hJ
  obtain ⟨j1, j2, j3⟩ := hJ2
  have hix : (M 24 1 + (r : Int)).toNat = (M 24 1).toNat + r := (by omega)
  have htx : st + r < 4 → 0 ≤ tx 2 (st + r) ∧ tx 2 (st + r) < 128 := (fun q => (tx_a2 (st + r) q).2.2.2)
  refine mm_iload (mm_dc od_X8_countSame_0 4 rfl) rfl ?_
  refine mm_iload_n (mm_dc od_X8_countSame_0 5 rfl) rfl ?_
  refine mm_icmp_ge 59 (mm_dc od_X8_countSame_0 6 rfl) (by omega) (by first | omega | assumption | exact hr _ _ rfl) (by first | omega | assumption | exact hr _ _ rfl) (fun c1 => ?_) (fun c1 => ?_)
  · refine mm_iload (mm_dc od_X8_countSame_0 29 rfl) rfl ?_
    refine mm_iret (mm_dc od_X8_countSame_0 30 rfl) rfl ?_
    exact k r ⟨hr1, hm, fun q => by dsimp only; rw [← hix]; omega⟩
  · refine mm_aload_n (mm_dc od_X8_countSame_0 7 rfl) rfl ?_
    refine mm_getI (ci := 8) (k := 1) (mm_dc od_X8_countSame_0 8 rfl) rfl in_X8 (by decide) wd_1_152 rfl rfl ?_
    refine mm_iload (mm_dc od_X8_countSame_0 9 rfl) rfl ?_
    refine mm_iadd (mm_dc od_X8_countSame_0 10 rfl) ?_
    refine mm_aload_n (mm_dc od_X8_countSame_0 11 rfl) rfl ?_
    refine mm_getI (ci := 8) (k := 0) (mm_dc od_X8_countSame_0 12 rfl) rfl in_X8 (by decide) wd_1_150 rfl rfl ?_
    refine mm_icmp_ge 59 (mm_dc od_X8_countSame_0 13 rfl) (by omega) (by first | omega | assumption | exact hr _ _ rfl) (by first | omega | assumption | exact hr _ _ rfl) (fun c2 => ?_) (fun c2 => ?_)
    · refine mm_iload (mm_dc od_X8_countSame_0 29 rfl) rfl ?_
      refine mm_iret (mm_dc od_X8_countSame_0 30 rfl) rfl ?_
      exact k r ⟨hr1, hm, fun q => by dsimp only; rw [← hix]; omega⟩
    · refine mm_aload_n (mm_dc od_X8_countSame_0 14 rfl) rfl ?_
      refine mm_getR (ci := 8) (k := 2) (mm_dc od_X8_countSame_0 15 rfl) rfl in_X8 (by decide) wd_1_155 rfl rfl ?_
      refine mm_aload_n (mm_dc od_X8_countSame_0 16 rfl) rfl ?_
      refine mm_getI (ci := 8) (k := 1) (mm_dc od_X8_countSame_0 17 rfl) rfl in_X8 (by decide) wd_1_152 rfl rfl ?_
      refine mm_iload (mm_dc od_X8_countSame_0 18 rfl) rfl ?_
      refine mm_iadd (mm_dc od_X8_countSame_0 19 rfl) ?_
      refine mm_iald (mm_dc od_X8_countSame_0 20 rfl) rfl (by first | omega | assumption | exact hr _ _ rfl) (by first | omega | assumption | exact hr _ _ rfl) (by decide) ?_
      refine mm_aload_n (mm_dc od_X8_countSame_0 21 rfl) rfl ?_
      refine mm_iload (mm_dc od_X8_countSame_0 22 rfl) rfl ?_
      refine mm_callT (i := 2) (mi' := mi_J0_charAt_5068e) [v_i ((st + r : Nat) : Int)] [v_i (M 25 (Int.toNat ((M 24 1) + (r : Int))))] (mm_dc od_X8_countSame_0 23 rfl) rfl wd_3_99 wd_3_100 wd_3_101 wd_1_16 wd_3_102 yk_J0_charAt_5068e (by decide) rfl (Nat.le_of_ble_eq_true rfl) rfl (by decide) (c_chr2 (st + r) (by omega) ⟨Nat.le_refl _, ?_⟩)
      refine mm_icmp_eq 50 (mm_dc od_X8_countSame_0 24 rfl) (by omega) (by first | omega | assumption | exact hr _ _ rfl) (by first | omega | assumption | exact hr _ _ rfl) (fun c3 => ?_) (fun c3 => ?_)
      · refine mm_iinc (L' := [(0, v_r 24), (1, v_r 1004), (2, v_i (st : Int)), (3, v_i (en : Int)), (4, v_i ((r : Int) + 1)), (5, v_i ((st + r : Nat) : Int))]) (mm_dc od_X8_countSame_0 26 rfl) rfl (by decide) rfl ?_
        refine mm_iinc (L' := [(0, v_r 24), (1, v_r 1004), (2, v_i (st : Int)), (3, v_i (en : Int)), (4, v_i ((r : Int) + 1)), (5, v_i (((st + r : Nat) : Int) + 1))]) (mm_dc od_X8_countSame_0 27 rfl) rfl (by decide) rfl ?_
        refine mm_goto 6 (mm_dc od_X8_countSame_0 28 rfl) (by omega) ?_
        exact L_cs2 st en hse hen hJ hr k (r + 1) (by omega) (fun q hq => by
          by_cases e : q = r
          · subst e
            exact ⟨by omega, by rw [← hix]; assumption⟩
          · exact hm q (by omega))
      · refine mm_goto 59 (mm_dc od_X8_countSame_0 25 rfl) (by omega) ?_
        refine mm_iload (mm_dc od_X8_countSame_0 29 rfl) rfl ?_
        refine mm_iret (mm_dc od_X8_countSame_0 30 rfl) rfl ?_
        exact k r ⟨hr1, hm, fun q => by dsimp only; rw [← hix]; omega⟩
termination_by en - st - r
decreasing_by all_goals (first | omega | (simp_wf; omega))
theorem c_cs2 {X : Nat × (Nat → Int)} {d : Nat} {Po : mm_Po} {M : mm_M} (st en : Nat) (hse : st ≤ en) (hen : en ≤ 4) (hJ : JTp M) (hr : R32 M) (k : ∀ r : Nat, cq (M 24 0) (M 25) (M 24 1).toNat (fun q => tx 2 (st + q)) (en - st) r → Po (some (v_i (r : Int))) Lam M) : mm_G X (d + 4) 0 0 mi_X8_countSame Po 0 [(0, v_r 24), (1, v_r 1004), (2, v_i (st : Int)), (3, v_i (en : Int))] [] Lam M 0 0 := by
  refine mm_iconst (mm_dc od_X8_countSame_0 0 rfl) ?_
  refine mm_istore (L' := [(0, v_r 24), (1, v_r 1004), (2, v_i (st : Int)), (3, v_i (en : Int)), (4, v_i 0)]) (mm_dc od_X8_countSame_0 1 rfl) (by decide) rfl ?_
  refine mm_iload_n (mm_dc od_X8_countSame_0 2 rfl) rfl ?_
  refine mm_istore (L' := [(0, v_r 24), (1, v_r 1004), (2, v_i (st : Int)), (3, v_i (en : Int)), (4, v_i 0), (5, v_i (st : Int))]) (mm_dc od_X8_countSame_0 3 rfl) (by decide) rfl ?_
  exact L_cs2 st en hse hen hJ hr k 0 (by omega) (fun q hq => by omega)
theorem L_cs3 {X : Nat × (Nat → Int)} {d : Nat} {Po : mm_Po} {M : mm_M} (st en : Nat) (hse : st ≤ en) (hen : en ≤ 37) (hJ : JTp M) (hr : R32 M) (k : ∀ r : Nat, cq (M 24 0) (M 25) (M 24 1).toNat (fun q => tx 3 (st + q)) (en - st) r → Po (some (v_i (r : Int))) Lam M) (r : Nat) (hr1 : r ≤ en - st) (hm : ∀ q, q < r → (((M 24 1).toNat + q : Nat) : Int) < M 24 0 ∧ M 25 ((M 24 1).toNat + q) = tx 3 (st + q)) : mm_G X (d + 4) 0 0 mi_X8_countSame Po 6 [(0, v_r 24), (1, v_r 1005), (2, v_i (st : Int)), (3, v_i (en : Int)), (4, v_i (r : Int)), (5, v_i ((st + r : Nat) : Int))] [] Lam M 0 0 := by
  have hJ2 := hJ
  obtain ⟨j1, j2, j3⟩ := hJ2
  have hix : (M 24 1 + (r : Int)).toNat = (M 24 1).toNat + r := (by omega)
  have htx : st + r < 37 → 0 ≤ tx 3 (st + r) ∧ tx 3 (st + r) < 128 := (fun q => (tx_a3 (st + r) q).2.2.2)
  refine mm_iload (mm_dc od_X8_countSame_0 4 rfl) rfl ?_
  refine mm_iload_n (mm_dc od_X8_countSame_0 5 rfl) rfl ?_
  refine mm_icmp_ge 59 (mm_dc od_X8_countSame_0 6 rfl) (by omega) (by first | omega | assumption | exact hr _ _ rfl) (by first | omega | assumption | exact hr _ _ rfl) (fun c1 => ?_) (fun c1 => ?_)
  · refine mm_iload (mm_dc od_X8_countSame_0 29 rfl) rfl ?_
    refine mm_iret (mm_dc od_X8_countSame_0 30 rfl) rfl ?_
    exact k r ⟨hr1, hm, fun q => by dsimp only; rw [← hix]; omega⟩
  · refine mm_aload_n (mm_dc od_X8_countSame_0 7 rfl) rfl ?_
    refine mm_getI (ci := 8) (k := 1) (mm_dc od_X8_countSame_0 8 rfl) rfl in_X8 (by decide) wd_1_152 rfl rfl ?_
    refine mm_iload (mm_dc od_X8_countSame_0 9 rfl) rfl ?_
    refine mm_iadd (mm_dc od_X8_countSame_0 10 rfl) ?_
    refine mm_aload_n (mm_dc od_X8_countSame_0 11 rfl) rfl ?_
    refine mm_getI (ci := 8) (k := 0) (mm_dc od_X8_countSame_0 12 rfl) rfl in_X8 (by decide) wd_1_150 rfl rfl ?_
    refine mm_icmp_ge 59 (mm_dc od_X8_countSame_0 13 rfl) (by omega) (by first | omega | assumption | exact hr _ _ rfl) (by first | omega | assumption | exact hr _ _ rfl) (fun c2 => ?_) (fun c2 => ?_)
    · refine mm_iload (mm_dc od_X8_countSame_0 29 rfl) rfl ?_
      refine mm_iret (mm_dc od_X8_countSame_0 30 rfl) rfl ?_
      exact k r ⟨hr1, hm, fun q => by dsimp only; rw [← hix]; omega⟩
    · refine mm_aload_n (mm_dc od_X8_countSame_0 14 rfl) rfl ?_
      refine mm_getR (ci := 8) (k := 2) (mm_dc od_X8_countSame_0 15 rfl) rfl in_X8 (by decide) wd_1_155 rfl rfl ?_
      refine mm_aload_n (mm_dc od_X8_countSame_0 16 rfl) rfl ?_
      refine mm_getI (ci := 8) (k := 1) (mm_dc od_X8_countSame_0 17 rfl) rfl in_X8 (by decide) wd_1_152 rfl rfl ?_
      refine mm_iload (mm_dc od_X8_countSame_0 18 rfl) rfl ?_
      refine mm_iadd (mm_dc od_X8_countSame_0 19 rfl) ?_
      refine mm_iald (mm_dc od_X8_countSame_0 20 rfl) rfl (by first | omega | assumption | exact hr _ _ rfl) (by first | omega | assumption | exact hr _ _ rfl) (by decide) ?_
      refine mm_aload_n (mm_dc od_X8_countSame_0 21 rfl) rfl ?_
      refine mm_iload (mm_dc od_X8_countSame_0 22 rfl) rfl ?_
      refine mm_callT (i := 3) (mi' := mi_J0_charAt_5068e) [v_i ((st + r : Nat) : Int)] [v_i (M 25 (Int.toNat ((M 24 1) + (r : Int))))] (mm_dc od_X8_countSame_0 23 rfl) rfl wd_3_99 wd_3_100 wd_3_101 wd_1_16 wd_3_102 yk_J0_charAt_5068e (by decide) rfl (Nat.le_of_ble_eq_true rfl) rfl (by decide) (c_chr3 (st + r) (by omega) ⟨Nat.le_refl _, ?_⟩)
      refine mm_icmp_eq 50 (mm_dc od_X8_countSame_0 24 rfl) (by omega) (by first | omega | assumption | exact hr _ _ rfl) (by first | omega | assumption | exact hr _ _ rfl) (fun c3 => ?_) (fun c3 => ?_)
      · refine mm_iinc (L' := [(0, v_r 24), (1, v_r 1005), (2, v_i (st : Int)), (3, v_i (en : Int)), (4, v_i ((r : Int) + 1)), (5, v_i ((st + r : Nat) : Int))]) (mm_dc od_X8_countSame_0 26 rfl) rfl (by decide) rfl ?_
        refine mm_iinc (L' := [(0, v_r 24), (1, v_r 1005), (2, v_i (st : Int)), (3, v_i (en : Int)), (4, v_i ((r : Int) + 1)), (5, v_i (((st + r : Nat) : Int) + 1))]) (mm_dc od_X8_countSame_0 27 rfl) rfl (by decide) rfl ?_
        refine mm_goto 6 (mm_dc od_X8_countSame_0 28 rfl) (by omega) ?_
        exact L_cs3 st en hse hen hJ hr k (r + 1) (by omega) (fun q hq => by
          by_cases e : q = r
          · subst e
            exact ⟨by omega, by rw [← hix]; assumption⟩
          · exact hm q (by omega))
      · refine mm_goto 59 (mm_dc od_X8_countSame_0 25 rfl) (by omega) ?_
        refine mm_iload (mm_dc od_X8_countSame_0 29 rfl) rfl ?_
        refine mm_iret (mm_dc od_X8_countSame_0 30 rfl) rfl ?_
        exact k r ⟨hr1, hm, fun q => by dsimp only; rw [← hix]; omega⟩
termination_by en - st - r
decreasing_by all_goals (first | omega | (simp_wf; omega))
theorem c_cs3 {X : Nat × (Nat → Int)} {d : Nat} {Po : mm_Po} {M : mm_M} (st en : Nat) (hse : st ≤ en) (hen : en ≤ 37) (hJ : JTp M) (hr : R32 M) (k : ∀ r : Nat, cq (M 24 0) (M 25) (M 24 1).toNat (fun q => tx 3 (st + q)) (en - st) r → Po (some (v_i (r : Int))) Lam M) : mm_G X (d + 4) 0 0 mi_X8_countSame Po 0 [(0, v_r 24), (1, v_r 1005), (2, v_i (st : Int)), (3, v_i (en : Int))] [] Lam M 0 0 := by
  refine mm_iconst (mm_dc od_X8_countSame_0 0 rfl) ?_
  refine mm_istore (L' := [(0, v_r 24), (1, v_r 1005), (2, v_i (st : Int)), (3, v_i (en : Int)), (4, v_i 0)]) (mm_dc od_X8_countSame_0 1 rfl) (by decide) rfl ?_
  refine mm_iload_n (mm_dc od_X8_countSame_0 2 rfl) rfl ?_
  refine mm_istore (L' := [(0, v_r 24), (1, v_r 1005), (2, v_i (st : Int)), (3, v_i (en : Int)), (4, v_i 0), (5, v_i (st : Int))]) (mm_dc od_X8_countSame_0 3 rfl) (by decide) rfl ?_
  exact L_cs3 st en hse hen hJ hr k 0 (by omega) (fun q hq => by omega)
theorem L_cs4 {X : Nat × (Nat → Int)} {d : Nat} {Po : mm_Po} {M : mm_M} (st en : Nat) (hse : st ≤ en) (hen : en ≤ 5) (hJ : JTp M) (hr : R32 M) (k : ∀ r : Nat, cq (M 24 0) (M 25) (M 24 1).toNat (fun q => tx 4 (st + q)) (en - st) r → Po (some (v_i (r : Int))) Lam M) (r : Nat) (hr1 : r ≤ en - st) (hm : ∀ q, q < r → (((M 24 1).toNat + q : Nat) : Int) < M 24 0 ∧ M 25 ((M 24 1).toNat + q) = tx 4 (st + q)) : mm_G X (d + 4) 0 0 mi_X8_countSame Po 6 [(0, v_r 24), (1, v_r 1006), (2, v_i (st : Int)), (3, v_i (en : Int)), (4, v_i (r : Int)), (5, v_i ((st + r : Nat) : Int))] [] Lam M 0 0 := by
  have hJ2 := hJ
  obtain ⟨j1, j2, j3⟩ := hJ2
  have hix : (M 24 1 + (r : Int)).toNat = (M 24 1).toNat + r := (by omega)
  have htx : st + r < 5 → 0 ≤ tx 4 (st + r) ∧ tx 4 (st + r) < 128 := (fun q => (tx_a4 (st + r) q).2.2.2)
  refine mm_iload (mm_dc od_X8_countSame_0 4 rfl) rfl ?_
  refine mm_iload_n (mm_dc od_X8_countSame_0 5 rfl) rfl ?_
  refine mm_icmp_ge 59 (mm_dc od_X8_countSame_0 6 rfl) (by omega) (by first | omega | assumption | exact hr _ _ rfl) (by first | omega | assumption | exact hr _ _ rfl) (fun c1 => ?_) (fun c1 => ?_)
  · refine mm_iload (mm_dc od_X8_countSame_0 29 rfl) rfl ?_
    refine mm_iret (mm_dc od_X8_countSame_0 30 rfl) rfl ?_
    exact k r ⟨hr1, hm, fun q => by dsimp only; rw [← hix]; omega⟩
  · refine mm_aload_n (mm_dc od_X8_countSame_0 7 rfl) rfl ?_
    refine mm_getI (ci := 8) (k := 1) (mm_dc od_X8_countSame_0 8 rfl) rfl in_X8 (by decide) wd_1_152 rfl rfl ?_
    refine mm_iload (mm_dc od_X8_countSame_0 9 rfl) rfl ?_
    refine mm_iadd (mm_dc od_X8_countSame_0 10 rfl) ?_
    refine mm_aload_n (mm_dc od_X8_countSame_0 11 rfl) rfl ?_
    refine mm_getI (ci := 8) (k := 0) (mm_dc od_X8_countSame_0 12 rfl) rfl in_X8 (by decide) wd_1_150 rfl rfl ?_
    refine mm_icmp_ge 59 (mm_dc od_X8_countSame_0 13 rfl) (by omega) (by first | omega | assumption | exact hr _ _ rfl) (by first | omega | assumption | exact hr _ _ rfl) (fun c2 => ?_) (fun c2 => ?_)
    · refine mm_iload (mm_dc od_X8_countSame_0 29 rfl) rfl ?_
      refine mm_iret (mm_dc od_X8_countSame_0 30 rfl) rfl ?_
      exact k r ⟨hr1, hm, fun q => by dsimp only; rw [← hix]; omega⟩
    · refine mm_aload_n (mm_dc od_X8_countSame_0 14 rfl) rfl ?_
      refine mm_getR (ci := 8) (k := 2) (mm_dc od_X8_countSame_0 15 rfl) rfl in_X8 (by decide) wd_1_155 rfl rfl ?_
      refine mm_aload_n (mm_dc od_X8_countSame_0 16 rfl) rfl ?_
      refine mm_getI (ci := 8) (k := 1) (mm_dc od_X8_countSame_0 17 rfl) rfl in_X8 (by decide) wd_1_152 rfl rfl ?_
      refine mm_iload (mm_dc od_X8_countSame_0 18 rfl) rfl ?_
      refine mm_iadd (mm_dc od_X8_countSame_0 19 rfl) ?_
      refine mm_iald (mm_dc od_X8_countSame_0 20 rfl) rfl (by first | omega | assumption | exact hr _ _ rfl) (by first | omega | assumption | exact hr _ _ rfl) (by decide) ?_
      refine mm_aload_n (mm_dc od_X8_countSame_0 21 rfl) rfl ?_
      refine mm_iload (mm_dc od_X8_countSame_0 22 rfl) rfl ?_
      refine mm_callT (i := 4) (mi' := mi_J0_charAt_5068e) [v_i ((st + r : Nat) : Int)] [v_i (M 25 (Int.toNat ((M 24 1) + (r : Int))))] (mm_dc od_X8_countSame_0 23 rfl) rfl wd_3_99 wd_3_100 wd_3_101 wd_1_16 wd_3_102 yk_J0_charAt_5068e (by decide) rfl (Nat.le_of_ble_eq_true rfl) rfl (by decide) (c_chr4 (st + r) (by omega) ⟨Nat.le_refl _, ?_⟩)
      refine mm_icmp_eq 50 (mm_dc od_X8_countSame_0 24 rfl) (by omega) (by first | omega | assumption | exact hr _ _ rfl) (by first | omega | assumption | exact hr _ _ rfl) (fun c3 => ?_) (fun c3 => ?_)
      · refine mm_iinc (L' := [(0, v_r 24), (1, v_r 1006), (2, v_i (st : Int)), (3, v_i (en : Int)), (4, v_i ((r : Int) + 1)), (5, v_i ((st + r : Nat) : Int))]) (mm_dc od_X8_countSame_0 26 rfl) rfl (by decide) rfl ?_
        refine mm_iinc (L' := [(0, v_r 24), (1, v_r 1006), (2, v_i (st : Int)), (3, v_i (en : Int)), (4, v_i ((r : Int) + 1)), (5, v_i (((st + r : Nat) : Int) + 1))]) (mm_dc od_X8_countSame_0 27 rfl) rfl (by decide) rfl ?_
        refine mm_goto 6 (mm_dc od_X8_countSame_0 28 rfl) (by omega) ?_
        exact L_cs4 st en hse hen hJ hr k (r + 1) (by omega) (fun q hq => by
          by_cases e : q = r
          · subst e
            exact ⟨by omega, by rw [← hix]; assumption⟩
          · exact hm q (by omega))
      · refine mm_goto 59 (mm_dc od_X8_countSame_0 25 rfl) (by omega) ?_
        refine mm_iload (mm_dc od_X8_countSame_0 29 rfl) rfl ?_
        refine mm_iret (mm_dc od_X8_countSame_0 30 rfl) rfl ?_
        exact k r ⟨hr1, hm, fun q => by dsimp only; rw [← hix]; omega⟩
termination_by en - st - r
decreasing_by all_goals (first | omega | (simp_wf; omega))
theorem c_cs4 {X : Nat × (Nat → Int)} {d : Nat} {Po : mm_Po} {M : mm_M} (st en : Nat) (hse : st ≤ en) (hen : en ≤ 5) (hJ : JTp M) (hr : R32 M) (k : ∀ r : Nat, cq (M 24 0) (M 25) (M 24 1).toNat (fun q => tx 4 (st + q)) (en - st) r → Po (some (v_i (r : Int))) Lam M) : mm_G X (d + 4) 0 0 mi_X8_countSame Po 0 [(0, v_r 24), (1, v_r 1006), (2, v_i (st : Int)), (3, v_i (en : Int))] [] Lam M 0 0 := by
  refine mm_iconst (mm_dc od_X8_countSame_0 0 rfl) ?_
  refine mm_istore (L' := [(0, v_r 24), (1, v_r 1006), (2, v_i (st : Int)), (3, v_i (en : Int)), (4, v_i 0)]) (mm_dc od_X8_countSame_0 1 rfl) (by decide) rfl ?_
  refine mm_iload_n (mm_dc od_X8_countSame_0 2 rfl) rfl ?_
  refine mm_istore (L' := [(0, v_r 24), (1, v_r 1006), (2, v_i (st : Int)), (3, v_i (en : Int)), (4, v_i 0), (5, v_i (st : Int))]) (mm_dc od_X8_countSame_0 3 rfl) (by decide) rfl ?_
  exact L_cs4 st en hse hen hJ hr k 0 (by omega) (fun q hq => by omega)
