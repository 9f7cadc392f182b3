/-! the reference's words -/
def WNl : List Nat := [525618, 212658, 5545236, 647437701, 578596, 27, 12468, 2098, 659100717, 763332, 278194, 14137992, 632645, 26727879, 9317, 294]
def WN (w : Nat) : Nat := WNl.getD w 0
def LTl : List (List Int) := [[112, 97, 105, 114], [102, 111, 117, 114], [101, 105, 103, 104, 116], [115, 105, 110, 103, 108, 101], [113, 117, 97, 100], [42], [108, 101, 116], [98, 97, 114], [115, 116, 114, 101, 97, 109], [119, 105, 110, 100], [104, 111, 117, 114], [109, 111, 110, 116, 104], [115, 105, 122, 101], [121, 111, 117, 110, 103], [105, 99, 101], [105, 102]]
def lt (w k : Nat) : Int := (LTl.getD w []).getD k 0
def wl (w : Nat) : Nat := (LTl.getD w []).length
def s1 (w a : Int) : Int := if 0 < a then fx_lor (fx_lshl w 5) a else w
def s6 (a b c d e f : Int) : Int := s1 (s1 (s1 (s1 (s1 (s1 0 a) b) c) d) e) f
theorem L_sp5 {X : Nat × (Nat → Int)} {d : Nat} {Po : mm_Po} {M : mm_M} (a b c e f g : Int) (ha : mm_r32 a) (hb : mm_r32 b) (hc : mm_r32 c) (he : mm_r32 e) (hf : mm_r32 f) (hg : mm_r32 g) (w : Int) (k : Po (some (v_l (s1 w g))) Lam M) : mm_G X d 0 0 mi_X10_spelled Po 95 [(0, v_i a), (1, v_i b), (2, v_i c), (3, v_i e), (4, v_i f), (5, v_i g), (6, v_l w)] [] Lam M 0 0 := by
  refine mm_iload (mm_dc od_X10_spelled_0 57 rfl) rfl ?_
  refine mm_if_le 111 (mm_dc od_X10_spelled_0 58 rfl) (by omega) (by first | omega | assumption) (fun c1 => ?_) (fun c1 => ?_)
  · refine mm_lload (mm_dc od_X10_spelled_1 6 rfl) rfl ?_
    refine mm_lret (mm_dc od_X10_spelled_1 7 rfl) rfl ?_
    exact mm_pl (by unfold s1; first | rw [if_pos (by omega)] | rw [if_neg (by omega)]) k
  · refine mm_lload (mm_dc od_X10_spelled_0 59 rfl) rfl ?_
    refine mm_iconst (mm_dc od_X10_spelled_1 0 rfl) ?_
    refine mm_lshl (mm_dc od_X10_spelled_1 1 rfl) ?_
    refine mm_iload (mm_dc od_X10_spelled_1 2 rfl) rfl ?_
    refine mm_i2l (mm_dc od_X10_spelled_1 3 rfl) (by first | omega | assumption) ?_
    refine mm_lor (mm_dc od_X10_spelled_1 4 rfl) ?_
    refine mm_goto 113 (mm_dc od_X10_spelled_1 5 rfl) (by omega) ?_
    refine mm_lret (mm_dc od_X10_spelled_1 7 rfl) rfl ?_
    exact mm_pl (by unfold s1; first | rw [if_pos (by omega)] | rw [if_neg (by omega)]) k
theorem L_sp4 {X : Nat × (Nat → Int)} {d : Nat} {Po : mm_Po} {M : mm_M} (a b c e f g : Int) (ha : mm_r32 a) (hb : mm_r32 b) (hc : mm_r32 c) (he : mm_r32 e) (hf : mm_r32 f) (hg : mm_r32 g) (w : Int) (K : mm_G X d 0 0 mi_X10_spelled Po 95 [(0, v_i a), (1, v_i b), (2, v_i c), (3, v_i e), (4, v_i f), (5, v_i g), (6, v_l (s1 w f))] [] Lam M 0 0) : mm_G X d 0 0 mi_X10_spelled Po 75 [(0, v_i a), (1, v_i b), (2, v_i c), (3, v_i e), (4, v_i f), (5, v_i g), (6, v_l w)] [] Lam M 0 0 := by
  refine mm_iload (mm_dc od_X10_spelled_0 46 rfl) rfl ?_
  refine mm_if_le 91 (mm_dc od_X10_spelled_0 47 rfl) (by omega) (by first | omega | assumption) (fun c1 => ?_) (fun c1 => ?_)
  · refine mm_lload (mm_dc od_X10_spelled_0 55 rfl) rfl ?_
    refine mm_lstore (L' := [(0, v_i a), (1, v_i b), (2, v_i c), (3, v_i e), (4, v_i f), (5, v_i g), (6, v_l w)]) (mm_dc od_X10_spelled_0 56 rfl) (by decide) rfl ?_
    refine mm_cL (L' := [(0, v_i a), (1, v_i b), (2, v_i c), (3, v_i e), (4, v_i f), (5, v_i g), (6, v_l (s1 w f))]) (by unfold s1; first | rw [if_pos (by omega)] | rw [if_neg (by omega)]) ?_
    exact K
  · refine mm_lload (mm_dc od_X10_spelled_0 48 rfl) rfl ?_
    refine mm_iconst (mm_dc od_X10_spelled_0 49 rfl) ?_
    refine mm_lshl (mm_dc od_X10_spelled_0 50 rfl) ?_
    refine mm_iload (mm_dc od_X10_spelled_0 51 rfl) rfl ?_
    refine mm_i2l (mm_dc od_X10_spelled_0 52 rfl) (by first | omega | assumption) ?_
    refine mm_lor (mm_dc od_X10_spelled_0 53 rfl) ?_
    refine mm_goto 93 (mm_dc od_X10_spelled_0 54 rfl) (by omega) ?_
    refine mm_lstore (L' := [(0, v_i a), (1, v_i b), (2, v_i c), (3, v_i e), (4, v_i f), (5, v_i g), (6, v_l (fx_lor (fx_lshl w 5) f))]) (mm_dc od_X10_spelled_0 56 rfl) (by decide) rfl ?_
    refine mm_cL (L' := [(0, v_i a), (1, v_i b), (2, v_i c), (3, v_i e), (4, v_i f), (5, v_i g), (6, v_l (s1 w f))]) (by unfold s1; first | rw [if_pos (by omega)] | rw [if_neg (by omega)]) ?_
    exact K
theorem L_sp3 {X : Nat × (Nat → Int)} {d : Nat} {Po : mm_Po} {M : mm_M} (a b c e f g : Int) (ha : mm_r32 a) (hb : mm_r32 b) (hc : mm_r32 c) (he : mm_r32 e) (hf : mm_r32 f) (hg : mm_r32 g) (w : Int) (K : mm_G X d 0 0 mi_X10_spelled Po 75 [(0, v_i a), (1, v_i b), (2, v_i c), (3, v_i e), (4, v_i f), (5, v_i g), (6, v_l (s1 w e))] [] Lam M 0 0) : mm_G X d 0 0 mi_X10_spelled Po 57 [(0, v_i a), (1, v_i b), (2, v_i c), (3, v_i e), (4, v_i f), (5, v_i g), (6, v_l w)] [] Lam M 0 0 := by
  refine mm_iload_n (mm_dc od_X10_spelled_0 35 rfl) rfl ?_
  refine mm_if_le 71 (mm_dc od_X10_spelled_0 36 rfl) (by omega) (by first | omega | assumption) (fun c1 => ?_) (fun c1 => ?_)
  · refine mm_lload (mm_dc od_X10_spelled_0 44 rfl) rfl ?_
    refine mm_lstore (L' := [(0, v_i a), (1, v_i b), (2, v_i c), (3, v_i e), (4, v_i f), (5, v_i g), (6, v_l w)]) (mm_dc od_X10_spelled_0 45 rfl) (by decide) rfl ?_
    refine mm_cL (L' := [(0, v_i a), (1, v_i b), (2, v_i c), (3, v_i e), (4, v_i f), (5, v_i g), (6, v_l (s1 w e))]) (by unfold s1; first | rw [if_pos (by omega)] | rw [if_neg (by omega)]) ?_
    exact K
  · refine mm_lload (mm_dc od_X10_spelled_0 37 rfl) rfl ?_
    refine mm_iconst (mm_dc od_X10_spelled_0 38 rfl) ?_
    refine mm_lshl (mm_dc od_X10_spelled_0 39 rfl) ?_
    refine mm_iload_n (mm_dc od_X10_spelled_0 40 rfl) rfl ?_
    refine mm_i2l (mm_dc od_X10_spelled_0 41 rfl) (by first | omega | assumption) ?_
    refine mm_lor (mm_dc od_X10_spelled_0 42 rfl) ?_
    refine mm_goto 73 (mm_dc od_X10_spelled_0 43 rfl) (by omega) ?_
    refine mm_lstore (L' := [(0, v_i a), (1, v_i b), (2, v_i c), (3, v_i e), (4, v_i f), (5, v_i g), (6, v_l (fx_lor (fx_lshl w 5) e))]) (mm_dc od_X10_spelled_0 45 rfl) (by decide) rfl ?_
    refine mm_cL (L' := [(0, v_i a), (1, v_i b), (2, v_i c), (3, v_i e), (4, v_i f), (5, v_i g), (6, v_l (s1 w e))]) (by unfold s1; first | rw [if_pos (by omega)] | rw [if_neg (by omega)]) ?_
    exact K
theorem L_sp2 {X : Nat × (Nat → Int)} {d : Nat} {Po : mm_Po} {M : mm_M} (a b c e f g : Int) (ha : mm_r32 a) (hb : mm_r32 b) (hc : mm_r32 c) (he : mm_r32 e) (hf : mm_r32 f) (hg : mm_r32 g) (w : Int) (K : mm_G X d 0 0 mi_X10_spelled Po 57 [(0, v_i a), (1, v_i b), (2, v_i c), (3, v_i e), (4, v_i f), (5, v_i g), (6, v_l (s1 w c))] [] Lam M 0 0) : mm_G X d 0 0 mi_X10_spelled Po 39 [(0, v_i a), (1, v_i b), (2, v_i c), (3, v_i e), (4, v_i f), (5, v_i g), (6, v_l w)] [] Lam M 0 0 := by
  refine mm_iload_n (mm_dc od_X10_spelled_0 24 rfl) rfl ?_
  refine mm_if_le 53 (mm_dc od_X10_spelled_0 25 rfl) (by omega) (by first | omega | assumption) (fun c1 => ?_) (fun c1 => ?_)
  · refine mm_lload (mm_dc od_X10_spelled_0 33 rfl) rfl ?_
    refine mm_lstore (L' := [(0, v_i a), (1, v_i b), (2, v_i c), (3, v_i e), (4, v_i f), (5, v_i g), (6, v_l w)]) (mm_dc od_X10_spelled_0 34 rfl) (by decide) rfl ?_
    refine mm_cL (L' := [(0, v_i a), (1, v_i b), (2, v_i c), (3, v_i e), (4, v_i f), (5, v_i g), (6, v_l (s1 w c))]) (by unfold s1; first | rw [if_pos (by omega)] | rw [if_neg (by omega)]) ?_
    exact K
  · refine mm_lload (mm_dc od_X10_spelled_0 26 rfl) rfl ?_
    refine mm_iconst (mm_dc od_X10_spelled_0 27 rfl) ?_
    refine mm_lshl (mm_dc od_X10_spelled_0 28 rfl) ?_
    refine mm_iload_n (mm_dc od_X10_spelled_0 29 rfl) rfl ?_
    refine mm_i2l (mm_dc od_X10_spelled_0 30 rfl) (by first | omega | assumption) ?_
    refine mm_lor (mm_dc od_X10_spelled_0 31 rfl) ?_
    refine mm_goto 55 (mm_dc od_X10_spelled_0 32 rfl) (by omega) ?_
    refine mm_lstore (L' := [(0, v_i a), (1, v_i b), (2, v_i c), (3, v_i e), (4, v_i f), (5, v_i g), (6, v_l (fx_lor (fx_lshl w 5) c))]) (mm_dc od_X10_spelled_0 34 rfl) (by decide) rfl ?_
    refine mm_cL (L' := [(0, v_i a), (1, v_i b), (2, v_i c), (3, v_i e), (4, v_i f), (5, v_i g), (6, v_l (s1 w c))]) (by unfold s1; first | rw [if_pos (by omega)] | rw [if_neg (by omega)]) ?_
    exact K
theorem L_sp1 {X : Nat × (Nat → Int)} {d : Nat} {Po : mm_Po} {M : mm_M} (a b c e f g : Int) (ha : mm_r32 a) (hb : mm_r32 b) (hc : mm_r32 c) (he : mm_r32 e) (hf : mm_r32 f) (hg : mm_r32 g) (w : Int) (K : mm_G X d 0 0 mi_X10_spelled Po 39 [(0, v_i a), (1, v_i b), (2, v_i c), (3, v_i e), (4, v_i f), (5, v_i g), (6, v_l (s1 w b))] [] Lam M 0 0) : mm_G X d 0 0 mi_X10_spelled Po 21 [(0, v_i a), (1, v_i b), (2, v_i c), (3, v_i e), (4, v_i f), (5, v_i g), (6, v_l w)] [] Lam M 0 0 := by
  refine mm_iload_n (mm_dc od_X10_spelled_0 13 rfl) rfl ?_
  refine mm_if_le 35 (mm_dc od_X10_spelled_0 14 rfl) (by omega) (by first | omega | assumption) (fun c1 => ?_) (fun c1 => ?_)
  · refine mm_lload (mm_dc od_X10_spelled_0 22 rfl) rfl ?_
    refine mm_lstore (L' := [(0, v_i a), (1, v_i b), (2, v_i c), (3, v_i e), (4, v_i f), (5, v_i g), (6, v_l w)]) (mm_dc od_X10_spelled_0 23 rfl) (by decide) rfl ?_
    refine mm_cL (L' := [(0, v_i a), (1, v_i b), (2, v_i c), (3, v_i e), (4, v_i f), (5, v_i g), (6, v_l (s1 w b))]) (by unfold s1; first | rw [if_pos (by omega)] | rw [if_neg (by omega)]) ?_
    exact K
  · refine mm_lload (mm_dc od_X10_spelled_0 15 rfl) rfl ?_
    refine mm_iconst (mm_dc od_X10_spelled_0 16 rfl) ?_
    refine mm_lshl (mm_dc od_X10_spelled_0 17 rfl) ?_
    refine mm_iload_n (mm_dc od_X10_spelled_0 18 rfl) rfl ?_
    refine mm_i2l (mm_dc od_X10_spelled_0 19 rfl) (by first | omega | assumption) ?_
    refine mm_lor (mm_dc od_X10_spelled_0 20 rfl) ?_
    refine mm_goto 37 (mm_dc od_X10_spelled_0 21 rfl) (by omega) ?_
    refine mm_lstore (L' := [(0, v_i a), (1, v_i b), (2, v_i c), (3, v_i e), (4, v_i f), (5, v_i g), (6, v_l (fx_lor (fx_lshl w 5) b))]) (mm_dc od_X10_spelled_0 23 rfl) (by decide) rfl ?_
    refine mm_cL (L' := [(0, v_i a), (1, v_i b), (2, v_i c), (3, v_i e), (4, v_i f), (5, v_i g), (6, v_l (s1 w b))]) (by unfold s1; first | rw [if_pos (by omega)] | rw [if_neg (by omega)]) ?_
    exact K
theorem L_sp0 {X : Nat × (Nat → Int)} {d : Nat} {Po : mm_Po} {M : mm_M} (a b c e f g : Int) (ha : mm_r32 a) (hb : mm_r32 b) (hc : mm_r32 c) (he : mm_r32 e) (hf : mm_r32 f) (hg : mm_r32 g) (w : Int) (K : mm_G X d 0 0 mi_X10_spelled Po 21 [(0, v_i a), (1, v_i b), (2, v_i c), (3, v_i e), (4, v_i f), (5, v_i g), (6, v_l (s1 w a))] [] Lam M 0 0) : mm_G X d 0 0 mi_X10_spelled Po 3 [(0, v_i a), (1, v_i b), (2, v_i c), (3, v_i e), (4, v_i f), (5, v_i g), (6, v_l w)] [] Lam M 0 0 := by
  refine mm_iload_n (mm_dc od_X10_spelled_0 2 rfl) rfl ?_
  refine mm_if_le 17 (mm_dc od_X10_spelled_0 3 rfl) (by omega) (by first | omega | assumption) (fun c1 => ?_) (fun c1 => ?_)
  · refine mm_lload (mm_dc od_X10_spelled_0 11 rfl) rfl ?_
    refine mm_lstore (L' := [(0, v_i a), (1, v_i b), (2, v_i c), (3, v_i e), (4, v_i f), (5, v_i g), (6, v_l w)]) (mm_dc od_X10_spelled_0 12 rfl) (by decide) rfl ?_
    refine mm_cL (L' := [(0, v_i a), (1, v_i b), (2, v_i c), (3, v_i e), (4, v_i f), (5, v_i g), (6, v_l (s1 w a))]) (by unfold s1; first | rw [if_pos (by omega)] | rw [if_neg (by omega)]) ?_
    exact K
  · refine mm_lload (mm_dc od_X10_spelled_0 4 rfl) rfl ?_
    refine mm_iconst (mm_dc od_X10_spelled_0 5 rfl) ?_
    refine mm_lshl (mm_dc od_X10_spelled_0 6 rfl) ?_
    refine mm_iload_n (mm_dc od_X10_spelled_0 7 rfl) rfl ?_
    refine mm_i2l (mm_dc od_X10_spelled_0 8 rfl) (by first | omega | assumption) ?_
    refine mm_lor (mm_dc od_X10_spelled_0 9 rfl) ?_
    refine mm_goto 19 (mm_dc od_X10_spelled_0 10 rfl) (by omega) ?_
    refine mm_lstore (L' := [(0, v_i a), (1, v_i b), (2, v_i c), (3, v_i e), (4, v_i f), (5, v_i g), (6, v_l (fx_lor (fx_lshl w 5) a))]) (mm_dc od_X10_spelled_0 12 rfl) (by decide) rfl ?_
    refine mm_cL (L' := [(0, v_i a), (1, v_i b), (2, v_i c), (3, v_i e), (4, v_i f), (5, v_i g), (6, v_l (s1 w a))]) (by unfold s1; first | rw [if_pos (by omega)] | rw [if_neg (by omega)]) ?_
    exact K
theorem c_X10_spelled {X : Nat × (Nat → Int)} {d : Nat} {Po : mm_Po} {M : mm_M} (a : Int) (b : Int) (c : Int) (e : Int) (f : Int) (g : Int) (ha : mm_r32 a) (hb : mm_r32 b) (hc : mm_r32 c) (he : mm_r32 e) (hf : mm_r32 f) (hg : mm_r32 g) (k : Po (some (v_l (s6 a b c e f g))) Lam M) : mm_E X d 0 0 mi_X10_spelled [v_i a, v_i b, v_i c, v_i e, v_i f, v_i g] Po Lam M := by
  show mm_G X d 0 0 mi_X10_spelled Po 0 [(0, v_i a), (1, v_i b), (2, v_i c), (3, v_i e), (4, v_i f), (5, v_i g)] [] Lam M 0 0
  refine mm_lconst (mm_dc od_X10_spelled_0 0 rfl) ?_
  refine mm_cst (st' := [v_l 0]) rfl ?_
  refine mm_lstore (L' := [(0, v_i a), (1, v_i b), (2, v_i c), (3, v_i e), (4, v_i f), (5, v_i g), (6, v_l 0)]) (mm_dc od_X10_spelled_0 1 rfl) (by decide) rfl ?_
  exact L_sp0 a b c e f g ha hb hc he hf hg _ (L_sp1 a b c e f g ha hb hc he hf hg _ (L_sp2 a b c e f g ha hb hc he hf hg _ (L_sp3 a b c e f g ha hb hc he hf hg _ (L_sp4 a b c e f g ha hb hc he hf hg _ (L_sp5 a b c e f g ha hb hc he hf hg _ k)))))
theorem c_X10_wordOf {X : Nat × (Nat → Int)} {d : Nat} {Po : mm_Po} {M : mm_M} (w : Int) (hw : 0 ≤ w ∧ w < 16) (k : Po (some (v_l (WN w.toNat : Int))) Lam M) : mm_E X (d + 1) 0 0 mi_X10_wordOf [v_i w] Po Lam M := by
  show mm_G X (d + 1) 0 0 mi_X10_wordOf Po 0 [(0, v_i w)] [] Lam M 0 0
  refine mm_iload_n (mm_dc od_X10_wordOf_0 0 rfl) rfl ?_
  have sw1 : (w < 0 ∨ 14 < w) ∨ w = 0 ∨ w = 1 ∨ w = 2 ∨ w = 3 ∨ w = 4 ∨ w = 5 ∨ w = 6 ∨ w = 7 ∨ w = 8 ∨ w = 9 ∨ w = 10 ∨ w = 11 ∨ w = 12 ∨ w = 13 ∨ w = 14 := by omega
  rcases sw1 with sw1 | sw1 | sw1 | sw1 | sw1 | sw1 | sw1 | sw1 | sw1 | sw1 | sw1 | sw1 | sw1 | sw1 | sw1 | sw1
  · refine mm_tabOut 266 (mm_dc od_X10_wordOf_0 1 rfl) (by first | omega | assumption | decide) sw1 (by omega) ?_
    refine mm_bipush (mm_dc od_X10_wordOf_1 56 rfl) (by decide) ?_
    refine mm_bipush (mm_dc od_X10_wordOf_1 57 rfl) (by decide) ?_
    refine mm_iconst (mm_dc od_X10_wordOf_1 58 rfl) ?_
    refine mm_iconst (mm_dc od_X10_wordOf_1 59 rfl) ?_
    refine mm_iconst (mm_dc od_X10_wordOf_2 0 rfl) ?_
    refine mm_iconst (mm_dc od_X10_wordOf_2 1 rfl) ?_
    refine mm_callS (mi' := mi_X10_spelled) [v_i 9, v_i 6, v_i 0, v_i 0, v_i 0, v_i 0] [] (mm_dc od_X10_wordOf_2 2 rfl) rfl wd_5_204 wd_5_205 wd_1_12 wd_5_206 yk_X10_spelled (Nat.le_of_ble_eq_true rfl) rfl (by decide) (c_X10_spelled 9 6 0 0 0 0 (by first | omega | assumption | decide) (by first | omega | assumption | decide) (by first | omega | assumption | decide) (by first | omega | assumption | decide) (by first | omega | assumption | decide) (by first | omega | assumption | decide) ⟨Nat.le_refl _, ?_⟩)
    refine mm_lret (mm_dc od_X10_wordOf_2 3 rfl) rfl ?_
    first | exact mm_pl (by rw [sw1]; decide +kernel) k | exact mm_pl (by rw [show w = 15 by omega]; decide +kernel) k
  · refine mm_tabIn (off := 75) 76 (mm_dc od_X10_wordOf_0 1 rfl) (by first | omega | assumption | decide) (by omega) (by omega) (by rw [sw1]; rfl) (by omega) ?_
    refine mm_bipush (mm_dc od_X10_wordOf_0 2 rfl) (by decide) ?_
    refine mm_iconst (mm_dc od_X10_wordOf_0 3 rfl) ?_
    refine mm_bipush (mm_dc od_X10_wordOf_0 4 rfl) (by decide) ?_
    refine mm_bipush (mm_dc od_X10_wordOf_0 5 rfl) (by decide) ?_
    refine mm_iconst (mm_dc od_X10_wordOf_0 6 rfl) ?_
    refine mm_iconst (mm_dc od_X10_wordOf_0 7 rfl) ?_
    refine mm_callS (mi' := mi_X10_spelled) [v_i 16, v_i 1, v_i 9, v_i 18, v_i 0, v_i 0] [] (mm_dc od_X10_wordOf_0 8 rfl) rfl wd_5_204 wd_5_205 wd_1_12 wd_5_206 yk_X10_spelled (Nat.le_of_ble_eq_true rfl) rfl (by decide) (c_X10_spelled 16 1 9 18 0 0 (by first | omega | assumption | decide) (by first | omega | assumption | decide) (by first | omega | assumption | decide) (by first | omega | assumption | decide) (by first | omega | assumption | decide) (by first | omega | assumption | decide) ⟨Nat.le_refl _, ?_⟩)
    refine mm_lret (mm_dc od_X10_wordOf_0 9 rfl) rfl ?_
    first | exact mm_pl (by rw [sw1]; decide +kernel) k | exact mm_pl (by rw [show w = 15 by omega]; decide +kernel) k
  · refine mm_tabIn (off := 88) 89 (mm_dc od_X10_wordOf_0 1 rfl) (by first | omega | assumption | decide) (by omega) (by omega) (by rw [sw1]; rfl) (by omega) ?_
    refine mm_bipush (mm_dc od_X10_wordOf_0 10 rfl) (by decide) ?_
    refine mm_bipush (mm_dc od_X10_wordOf_0 11 rfl) (by decide) ?_
    refine mm_bipush (mm_dc od_X10_wordOf_0 12 rfl) (by decide) ?_
    refine mm_bipush (mm_dc od_X10_wordOf_0 13 rfl) (by decide) ?_
    refine mm_iconst (mm_dc od_X10_wordOf_0 14 rfl) ?_
    refine mm_iconst (mm_dc od_X10_wordOf_0 15 rfl) ?_
    refine mm_callS (mi' := mi_X10_spelled) [v_i 6, v_i 15, v_i 21, v_i 18, v_i 0, v_i 0] [] (mm_dc od_X10_wordOf_0 16 rfl) rfl wd_5_204 wd_5_205 wd_1_12 wd_5_206 yk_X10_spelled (Nat.le_of_ble_eq_true rfl) rfl (by decide) (c_X10_spelled 6 15 21 18 0 0 (by first | omega | assumption | decide) (by first | omega | assumption | decide) (by first | omega | assumption | decide) (by first | omega | assumption | decide) (by first | omega | assumption | decide) (by first | omega | assumption | decide) ⟨Nat.le_refl _, ?_⟩)
    refine mm_lret (mm_dc od_X10_wordOf_0 17 rfl) rfl ?_
    first | exact mm_pl (by rw [sw1]; decide +kernel) k | exact mm_pl (by rw [show w = 15 by omega]; decide +kernel) k
  · refine mm_tabIn (off := 102) 103 (mm_dc od_X10_wordOf_0 1 rfl) (by first | omega | assumption | decide) (by omega) (by omega) (by rw [sw1]; rfl) (by omega) ?_
    refine mm_iconst (mm_dc od_X10_wordOf_0 18 rfl) ?_
    refine mm_bipush (mm_dc od_X10_wordOf_0 19 rfl) (by decide) ?_
    refine mm_bipush (mm_dc od_X10_wordOf_0 20 rfl) (by decide) ?_
    refine mm_bipush (mm_dc od_X10_wordOf_0 21 rfl) (by decide) ?_
    refine mm_bipush (mm_dc od_X10_wordOf_0 22 rfl) (by decide) ?_
    refine mm_iconst (mm_dc od_X10_wordOf_0 23 rfl) ?_
    refine mm_callS (mi' := mi_X10_spelled) [v_i 5, v_i 9, v_i 7, v_i 8, v_i 20, v_i 0] [] (mm_dc od_X10_wordOf_0 24 rfl) rfl wd_5_204 wd_5_205 wd_1_12 wd_5_206 yk_X10_spelled (Nat.le_of_ble_eq_true rfl) rfl (by decide) (c_X10_spelled 5 9 7 8 20 0 (by first | omega | assumption | decide) (by first | omega | assumption | decide) (by first | omega | assumption | decide) (by first | omega | assumption | decide) (by first | omega | assumption | decide) (by first | omega | assumption | decide) ⟨Nat.le_refl _, ?_⟩)
    refine mm_lret (mm_dc od_X10_wordOf_0 25 rfl) rfl ?_
    first | exact mm_pl (by rw [sw1]; decide +kernel) k | exact mm_pl (by rw [show w = 15 by omega]; decide +kernel) k
  · refine mm_tabIn (off := 116) 117 (mm_dc od_X10_wordOf_0 1 rfl) (by first | omega | assumption | decide) (by omega) (by omega) (by rw [sw1]; rfl) (by omega) ?_
    refine mm_bipush (mm_dc od_X10_wordOf_0 26 rfl) (by decide) ?_
    refine mm_bipush (mm_dc od_X10_wordOf_0 27 rfl) (by decide) ?_
    refine mm_bipush (mm_dc od_X10_wordOf_0 28 rfl) (by decide) ?_
    refine mm_bipush (mm_dc od_X10_wordOf_0 29 rfl) (by decide) ?_
    refine mm_bipush (mm_dc od_X10_wordOf_0 30 rfl) (by decide) ?_
    refine mm_iconst (mm_dc od_X10_wordOf_0 31 rfl) ?_
    refine mm_callS (mi' := mi_X10_spelled) [v_i 19, v_i 9, v_i 14, v_i 7, v_i 12, v_i 5] [] (mm_dc od_X10_wordOf_0 32 rfl) rfl wd_5_204 wd_5_205 wd_1_12 wd_5_206 yk_X10_spelled (Nat.le_of_ble_eq_true rfl) rfl (by decide) (c_X10_spelled 19 9 14 7 12 5 (by first | omega | assumption | decide) (by first | omega | assumption | decide) (by first | omega | assumption | decide) (by first | omega | assumption | decide) (by first | omega | assumption | decide) (by first | omega | assumption | decide) ⟨Nat.le_refl _, ?_⟩)
    refine mm_lret (mm_dc od_X10_wordOf_0 33 rfl) rfl ?_
    first | exact mm_pl (by rw [sw1]; decide +kernel) k | exact mm_pl (by rw [show w = 15 by omega]; decide +kernel) k
  · refine mm_tabIn (off := 131) 132 (mm_dc od_X10_wordOf_0 1 rfl) (by first | omega | assumption | decide) (by omega) (by omega) (by rw [sw1]; rfl) (by omega) ?_
    refine mm_bipush (mm_dc od_X10_wordOf_0 34 rfl) (by decide) ?_
    refine mm_bipush (mm_dc od_X10_wordOf_0 35 rfl) (by decide) ?_
    refine mm_iconst (mm_dc od_X10_wordOf_0 36 rfl) ?_
    refine mm_iconst (mm_dc od_X10_wordOf_0 37 rfl) ?_
    refine mm_iconst (mm_dc od_X10_wordOf_0 38 rfl) ?_
    refine mm_iconst (mm_dc od_X10_wordOf_0 39 rfl) ?_
    refine mm_callS (mi' := mi_X10_spelled) [v_i 17, v_i 21, v_i 1, v_i 4, v_i 0, v_i 0] [] (mm_dc od_X10_wordOf_0 40 rfl) rfl wd_5_204 wd_5_205 wd_1_12 wd_5_206 yk_X10_spelled (Nat.le_of_ble_eq_true rfl) rfl (by decide) (c_X10_spelled 17 21 1 4 0 0 (by first | omega | assumption | decide) (by first | omega | assumption | decide) (by first | omega | assumption | decide) (by first | omega | assumption | decide) (by first | omega | assumption | decide) (by first | omega | assumption | decide) ⟨Nat.le_refl _, ?_⟩)
    refine mm_lret (mm_dc od_X10_wordOf_0 41 rfl) rfl ?_
    first | exact mm_pl (by rw [sw1]; decide +kernel) k | exact mm_pl (by rw [show w = 15 by omega]; decide +kernel) k
  · refine mm_tabIn (off := 143) 144 (mm_dc od_X10_wordOf_0 1 rfl) (by first | omega | assumption | decide) (by omega) (by omega) (by rw [sw1]; rfl) (by omega) ?_
    refine mm_ldc2 (z := 27) (mm_dc od_X10_wordOf_0 42 rfl) wd_5_207 ?_
    refine mm_lret (mm_dc od_X10_wordOf_0 43 rfl) rfl ?_
    first | exact mm_pl (by rw [sw1]; decide +kernel) k | exact mm_pl (by rw [show w = 15 by omega]; decide +kernel) k
  · refine mm_tabIn (off := 147) 148 (mm_dc od_X10_wordOf_0 1 rfl) (by first | omega | assumption | decide) (by omega) (by omega) (by rw [sw1]; rfl) (by omega) ?_
    refine mm_bipush (mm_dc od_X10_wordOf_0 44 rfl) (by decide) ?_
    refine mm_iconst (mm_dc od_X10_wordOf_0 45 rfl) ?_
    refine mm_bipush (mm_dc od_X10_wordOf_0 46 rfl) (by decide) ?_
    refine mm_iconst (mm_dc od_X10_wordOf_0 47 rfl) ?_
    refine mm_iconst (mm_dc od_X10_wordOf_0 48 rfl) ?_
    refine mm_iconst (mm_dc od_X10_wordOf_0 49 rfl) ?_
    refine mm_callS (mi' := mi_X10_spelled) [v_i 12, v_i 5, v_i 20, v_i 0, v_i 0, v_i 0] [] (mm_dc od_X10_wordOf_0 50 rfl) rfl wd_5_204 wd_5_205 wd_1_12 wd_5_206 yk_X10_spelled (Nat.le_of_ble_eq_true rfl) rfl (by decide) (c_X10_spelled 12 5 20 0 0 0 (by first | omega | assumption | decide) (by first | omega | assumption | decide) (by first | omega | assumption | decide) (by first | omega | assumption | decide) (by first | omega | assumption | decide) (by first | omega | assumption | decide) ⟨Nat.le_refl _, ?_⟩)
    refine mm_lret (mm_dc od_X10_wordOf_0 51 rfl) rfl ?_
    first | exact mm_pl (by rw [sw1]; decide +kernel) k | exact mm_pl (by rw [show w = 15 by omega]; decide +kernel) k
  · refine mm_tabIn (off := 159) 160 (mm_dc od_X10_wordOf_0 1 rfl) (by first | omega | assumption | decide) (by omega) (by omega) (by rw [sw1]; rfl) (by omega) ?_
    refine mm_iconst (mm_dc od_X10_wordOf_0 52 rfl) ?_
    refine mm_iconst (mm_dc od_X10_wordOf_0 53 rfl) ?_
    refine mm_bipush (mm_dc od_X10_wordOf_0 54 rfl) (by decide) ?_
    refine mm_iconst (mm_dc od_X10_wordOf_0 55 rfl) ?_
    refine mm_iconst (mm_dc od_X10_wordOf_0 56 rfl) ?_
    refine mm_iconst (mm_dc od_X10_wordOf_0 57 rfl) ?_
    refine mm_callS (mi' := mi_X10_spelled) [v_i 2, v_i 1, v_i 18, v_i 0, v_i 0, v_i 0] [] (mm_dc od_X10_wordOf_0 58 rfl) rfl wd_5_204 wd_5_205 wd_1_12 wd_5_206 yk_X10_spelled (Nat.le_of_ble_eq_true rfl) rfl (by decide) (c_X10_spelled 2 1 18 0 0 0 (by first | omega | assumption | decide) (by first | omega | assumption | decide) (by first | omega | assumption | decide) (by first | omega | assumption | decide) (by first | omega | assumption | decide) (by first | omega | assumption | decide) ⟨Nat.le_refl _, ?_⟩)
    refine mm_lret (mm_dc od_X10_wordOf_0 59 rfl) rfl ?_
    first | exact mm_pl (by rw [sw1]; decide +kernel) k | exact mm_pl (by rw [show w = 15 by omega]; decide +kernel) k
  · refine mm_tabIn (off := 170) 171 (mm_dc od_X10_wordOf_0 1 rfl) (by first | omega | assumption | decide) (by omega) (by omega) (by rw [sw1]; rfl) (by omega) ?_
    refine mm_bipush (mm_dc od_X10_wordOf_1 0 rfl) (by decide) ?_
    refine mm_bipush (mm_dc od_X10_wordOf_1 1 rfl) (by decide) ?_
    refine mm_bipush (mm_dc od_X10_wordOf_1 2 rfl) (by decide) ?_
    refine mm_iconst (mm_dc od_X10_wordOf_1 3 rfl) ?_
    refine mm_iconst (mm_dc od_X10_wordOf_1 4 rfl) ?_
    refine mm_bipush (mm_dc od_X10_wordOf_1 5 rfl) (by decide) ?_
    refine mm_callS (mi' := mi_X10_spelled) [v_i 19, v_i 20, v_i 18, v_i 5, v_i 1, v_i 13] [] (mm_dc od_X10_wordOf_1 6 rfl) rfl wd_5_204 wd_5_205 wd_1_12 wd_5_206 yk_X10_spelled (Nat.le_of_ble_eq_true rfl) rfl (by decide) (c_X10_spelled 19 20 18 5 1 13 (by first | omega | assumption | decide) (by first | omega | assumption | decide) (by first | omega | assumption | decide) (by first | omega | assumption | decide) (by first | omega | assumption | decide) (by first | omega | assumption | decide) ⟨Nat.le_refl _, ?_⟩)
    refine mm_lret (mm_dc od_X10_wordOf_1 7 rfl) rfl ?_
    first | exact mm_pl (by rw [sw1]; decide +kernel) k | exact mm_pl (by rw [show w = 15 by omega]; decide +kernel) k
  · refine mm_tabIn (off := 184) 185 (mm_dc od_X10_wordOf_0 1 rfl) (by first | omega | assumption | decide) (by omega) (by omega) (by rw [sw1]; rfl) (by omega) ?_
    refine mm_bipush (mm_dc od_X10_wordOf_1 8 rfl) (by decide) ?_
    refine mm_bipush (mm_dc od_X10_wordOf_1 9 rfl) (by decide) ?_
    refine mm_bipush (mm_dc od_X10_wordOf_1 10 rfl) (by decide) ?_
    refine mm_iconst (mm_dc od_X10_wordOf_1 11 rfl) ?_
    refine mm_iconst (mm_dc od_X10_wordOf_1 12 rfl) ?_
    refine mm_iconst (mm_dc od_X10_wordOf_1 13 rfl) ?_
    refine mm_callS (mi' := mi_X10_spelled) [v_i 23, v_i 9, v_i 14, v_i 4, v_i 0, v_i 0] [] (mm_dc od_X10_wordOf_1 14 rfl) rfl wd_5_204 wd_5_205 wd_1_12 wd_5_206 yk_X10_spelled (Nat.le_of_ble_eq_true rfl) rfl (by decide) (c_X10_spelled 23 9 14 4 0 0 (by first | omega | assumption | decide) (by first | omega | assumption | decide) (by first | omega | assumption | decide) (by first | omega | assumption | decide) (by first | omega | assumption | decide) (by first | omega | assumption | decide) ⟨Nat.le_refl _, ?_⟩)
    refine mm_lret (mm_dc od_X10_wordOf_1 15 rfl) rfl ?_
    first | exact mm_pl (by rw [sw1]; decide +kernel) k | exact mm_pl (by rw [show w = 15 by omega]; decide +kernel) k
  · refine mm_tabIn (off := 197) 198 (mm_dc od_X10_wordOf_0 1 rfl) (by first | omega | assumption | decide) (by omega) (by omega) (by rw [sw1]; rfl) (by omega) ?_
    refine mm_bipush (mm_dc od_X10_wordOf_1 16 rfl) (by decide) ?_
    refine mm_bipush (mm_dc od_X10_wordOf_1 17 rfl) (by decide) ?_
    refine mm_bipush (mm_dc od_X10_wordOf_1 18 rfl) (by decide) ?_
    refine mm_bipush (mm_dc od_X10_wordOf_1 19 rfl) (by decide) ?_
    refine mm_iconst (mm_dc od_X10_wordOf_1 20 rfl) ?_
    refine mm_iconst (mm_dc od_X10_wordOf_1 21 rfl) ?_
    refine mm_callS (mi' := mi_X10_spelled) [v_i 8, v_i 15, v_i 21, v_i 18, v_i 0, v_i 0] [] (mm_dc od_X10_wordOf_1 22 rfl) rfl wd_5_204 wd_5_205 wd_1_12 wd_5_206 yk_X10_spelled (Nat.le_of_ble_eq_true rfl) rfl (by decide) (c_X10_spelled 8 15 21 18 0 0 (by first | omega | assumption | decide) (by first | omega | assumption | decide) (by first | omega | assumption | decide) (by first | omega | assumption | decide) (by first | omega | assumption | decide) (by first | omega | assumption | decide) ⟨Nat.le_refl _, ?_⟩)
    refine mm_lret (mm_dc od_X10_wordOf_1 23 rfl) rfl ?_
    first | exact mm_pl (by rw [sw1]; decide +kernel) k | exact mm_pl (by rw [show w = 15 by omega]; decide +kernel) k
  · refine mm_tabIn (off := 211) 212 (mm_dc od_X10_wordOf_0 1 rfl) (by first | omega | assumption | decide) (by omega) (by omega) (by rw [sw1]; rfl) (by omega) ?_
    refine mm_bipush (mm_dc od_X10_wordOf_1 24 rfl) (by decide) ?_
    refine mm_bipush (mm_dc od_X10_wordOf_1 25 rfl) (by decide) ?_
    refine mm_bipush (mm_dc od_X10_wordOf_1 26 rfl) (by decide) ?_
    refine mm_bipush (mm_dc od_X10_wordOf_1 27 rfl) (by decide) ?_
    refine mm_bipush (mm_dc od_X10_wordOf_1 28 rfl) (by decide) ?_
    refine mm_iconst (mm_dc od_X10_wordOf_1 29 rfl) ?_
    refine mm_callS (mi' := mi_X10_spelled) [v_i 13, v_i 15, v_i 14, v_i 20, v_i 8, v_i 0] [] (mm_dc od_X10_wordOf_1 30 rfl) rfl wd_5_204 wd_5_205 wd_1_12 wd_5_206 yk_X10_spelled (Nat.le_of_ble_eq_true rfl) rfl (by decide) (c_X10_spelled 13 15 14 20 8 0 (by first | omega | assumption | decide) (by first | omega | assumption | decide) (by first | omega | assumption | decide) (by first | omega | assumption | decide) (by first | omega | assumption | decide) (by first | omega | assumption | decide) ⟨Nat.le_refl _, ?_⟩)
    refine mm_lret (mm_dc od_X10_wordOf_1 31 rfl) rfl ?_
    first | exact mm_pl (by rw [sw1]; decide +kernel) k | exact mm_pl (by rw [show w = 15 by omega]; decide +kernel) k
  · refine mm_tabIn (off := 226) 227 (mm_dc od_X10_wordOf_0 1 rfl) (by first | omega | assumption | decide) (by omega) (by omega) (by rw [sw1]; rfl) (by omega) ?_
    refine mm_bipush (mm_dc od_X10_wordOf_1 32 rfl) (by decide) ?_
    refine mm_bipush (mm_dc od_X10_wordOf_1 33 rfl) (by decide) ?_
    refine mm_bipush (mm_dc od_X10_wordOf_1 34 rfl) (by decide) ?_
    refine mm_iconst (mm_dc od_X10_wordOf_1 35 rfl) ?_
    refine mm_iconst (mm_dc od_X10_wordOf_1 36 rfl) ?_
    refine mm_iconst (mm_dc od_X10_wordOf_1 37 rfl) ?_
    refine mm_callS (mi' := mi_X10_spelled) [v_i 19, v_i 9, v_i 26, v_i 5, v_i 0, v_i 0] [] (mm_dc od_X10_wordOf_1 38 rfl) rfl wd_5_204 wd_5_205 wd_1_12 wd_5_206 yk_X10_spelled (Nat.le_of_ble_eq_true rfl) rfl (by decide) (c_X10_spelled 19 9 26 5 0 0 (by first | omega | assumption | decide) (by first | omega | assumption | decide) (by first | omega | assumption | decide) (by first | omega | assumption | decide) (by first | omega | assumption | decide) (by first | omega | assumption | decide) ⟨Nat.le_refl _, ?_⟩)
    refine mm_lret (mm_dc od_X10_wordOf_1 39 rfl) rfl ?_
    first | exact mm_pl (by rw [sw1]; decide +kernel) k | exact mm_pl (by rw [show w = 15 by omega]; decide +kernel) k
  · refine mm_tabIn (off := 239) 240 (mm_dc od_X10_wordOf_0 1 rfl) (by first | omega | assumption | decide) (by omega) (by omega) (by rw [sw1]; rfl) (by omega) ?_
    refine mm_bipush (mm_dc od_X10_wordOf_1 40 rfl) (by decide) ?_
    refine mm_bipush (mm_dc od_X10_wordOf_1 41 rfl) (by decide) ?_
    refine mm_bipush (mm_dc od_X10_wordOf_1 42 rfl) (by decide) ?_
    refine mm_bipush (mm_dc od_X10_wordOf_1 43 rfl) (by decide) ?_
    refine mm_bipush (mm_dc od_X10_wordOf_1 44 rfl) (by decide) ?_
    refine mm_iconst (mm_dc od_X10_wordOf_1 45 rfl) ?_
    refine mm_callS (mi' := mi_X10_spelled) [v_i 25, v_i 15, v_i 21, v_i 14, v_i 7, v_i 0] [] (mm_dc od_X10_wordOf_1 46 rfl) rfl wd_5_204 wd_5_205 wd_1_12 wd_5_206 yk_X10_spelled (Nat.le_of_ble_eq_true rfl) rfl (by decide) (c_X10_spelled 25 15 21 14 7 0 (by first | omega | assumption | decide) (by first | omega | assumption | decide) (by first | omega | assumption | decide) (by first | omega | assumption | decide) (by first | omega | assumption | decide) (by first | omega | assumption | decide) ⟨Nat.le_refl _, ?_⟩)
    refine mm_lret (mm_dc od_X10_wordOf_1 47 rfl) rfl ?_
    first | exact mm_pl (by rw [sw1]; decide +kernel) k | exact mm_pl (by rw [show w = 15 by omega]; decide +kernel) k
  · refine mm_tabIn (off := 254) 255 (mm_dc od_X10_wordOf_0 1 rfl) (by first | omega | assumption | decide) (by omega) (by omega) (by rw [sw1]; rfl) (by omega) ?_
    refine mm_bipush (mm_dc od_X10_wordOf_1 48 rfl) (by decide) ?_
    refine mm_iconst (mm_dc od_X10_wordOf_1 49 rfl) ?_
    refine mm_iconst (mm_dc od_X10_wordOf_1 50 rfl) ?_
    refine mm_iconst (mm_dc od_X10_wordOf_1 51 rfl) ?_
    refine mm_iconst (mm_dc od_X10_wordOf_1 52 rfl) ?_
    refine mm_iconst (mm_dc od_X10_wordOf_1 53 rfl) ?_
    refine mm_callS (mi' := mi_X10_spelled) [v_i 9, v_i 3, v_i 5, v_i 0, v_i 0, v_i 0] [] (mm_dc od_X10_wordOf_1 54 rfl) rfl wd_5_204 wd_5_205 wd_1_12 wd_5_206 yk_X10_spelled (Nat.le_of_ble_eq_true rfl) rfl (by decide) (c_X10_spelled 9 3 5 0 0 0 (by first | omega | assumption | decide) (by first | omega | assumption | decide) (by first | omega | assumption | decide) (by first | omega | assumption | decide) (by first | omega | assumption | decide) (by first | omega | assumption | decide) ⟨Nat.le_refl _, ?_⟩)
    refine mm_lret (mm_dc od_X10_wordOf_1 55 rfl) rfl ?_
    first | exact mm_pl (by rw [sw1]; decide +kernel) k | exact mm_pl (by rw [show w = 15 by omega]; decide +kernel) k
theorem lt_sh : ∀ w : Nat, w < 16 → ∀ n : Nat, n < 7 → fx_lshr ((WN w / 32 ^ n : Nat) : Int) 5 = ((WN w / 32 ^ (n + 1) : Nat) : Int) ∧ (wl w ≤ n → WN w / 32 ^ n = 0) ∧ (n < wl w → 0 < WN w / 32 ^ n) ∧ WN w / 32 ^ n < 2147483648 := by decide +kernel
def dgF (w k : Nat) : Int := fx_land (fx_lshr (WN w : Int) (5 * ((wl w : Int) - 1 - (k : Int)))) 31
theorem lt_d0 : ∀ w : Nat, w < 16 → wl w ≤ 6 ∧ 0 < wl w := by decide +kernel
theorem lt_d1 : ∀ w : Nat, w < 16 → ∀ k : Nat, k < 7 → k < wl w → (dgF w k = 27 → lt w k = 42) := by decide +kernel
theorem lt_d2 : ∀ w : Nat, w < 16 → ∀ k : Nat, k < 7 → k < wl w → (¬ dgF w k = 27 → lt w k = 97 + dgF w k - 1) := by decide +kernel
theorem lt_d3 : ∀ w : Nat, w < 16 → ∀ k : Nat, k < 7 → k < wl w → (0 < lt w k ∧ lt w k < 128 ∧ 0 ≤ dgF w k ∧ dgF w k < 32) := by decide +kernel
theorem lt_dg (w : Nat) (hw : w < 16) : wl w ≤ 6 ∧ 0 < wl w ∧ ∀ k : Nat, k < 7 → k < wl w → (fx_land (fx_lshr (WN w : Int) (5 * ((wl w : Int) - 1 - (k : Int)))) 31 = 27 → lt w k = 42) ∧ (¬ fx_land (fx_lshr (WN w : Int) (5 * ((wl w : Int) - 1 - (k : Int)))) 31 = 27 → lt w k = 97 + fx_land (fx_lshr (WN w : Int) (5 * ((wl w : Int) - 1 - (k : Int)))) 31 - 1) ∧ 0 < lt w k ∧ lt w k < 128 ∧ mm_r32 (fx_land (fx_lshr (WN w : Int) (5 * ((wl w : Int) - 1 - (k : Int)))) 31) := by
  refine ⟨(lt_d0 w hw).1, (lt_d0 w hw).2, fun k h1 h2 => ?_⟩
  have h := lt_d3 w hw k h1 h2
  exact ⟨lt_d1 w hw k h1 h2, lt_d2 w hw k h1 h2, h.1, h.2.1, by have := h.2.2; unfold dgF at this; omega⟩
theorem lt_out {w k : Nat} (h : wl w ≤ k) : lt w k = 0 := by
  unfold lt
  rw [List.getD_eq_getElem?_getD, List.getElem?_eq_none (by exact h)]; rfl
theorem L_lt11 {X : Nat × (Nat → Int)} {d : Nat} {Po : mm_Po} {M : mm_M} (w k : Nat) (hw : w < 16) (hk : k < 200) (K : Po (some (v_i (lt w k))) Lam M) (n : Nat) (hn : n ≤ wl w) : mm_G X (d + 2) 0 0 mi_X10_letter Po 11 [(0, v_i (w : Int)), (1, v_i (k : Int)), (2, v_l (WN w : Int)), (4, v_l ((WN w / 32 ^ n : Nat) : Int)), (6, v_i (n : Int))] [] Lam M 0 0 := by
  have hd := lt_dg w hw
  have hs := lt_sh w hw n (by omega)
  have hlo := hs.2.2.2
  have qz := mm_cmp_is ((WN w / 32 ^ n : Nat) : Int) 0
  have hnz : mm_cmp ((WN w / 32 ^ n : Nat) : Int) 0 ≤ 0 → n = wl w := (fun q => by
    have h0 : WN w / 32 ^ n = 0 := (by omega)
    apply Classical.byContradiction
    intro q2
    have := hs.2.2.1 (by omega)
    omega)
  have hdg : k < n ∧ n = wl w → (fx_land (fx_lshr (WN w : Int) (5 * ((n : Int) - 1 - (k : Int)))) 31 = 27 → lt w k = 42) ∧ (¬ fx_land (fx_lshr (WN w : Int) (5 * ((n : Int) - 1 - (k : Int)))) 31 = 27 → lt w k = 97 + fx_land (fx_lshr (WN w : Int) (5 * ((n : Int) - 1 - (k : Int)))) 31 - 1) ∧ mm_r32 (fx_land (fx_lshr (WN w : Int) (5 * ((n : Int) - 1 - (k : Int)))) 31) := (fun q => by
    rw [q.2]
    have h := hd.2.2 k (by omega) (by omega)
    exact ⟨h.1, h.2.1, h.2.2.2.2⟩)
  refine mm_lload (mm_dc od_X10_letter_0 7 rfl) rfl ?_
  refine mm_lconst (mm_dc od_X10_letter_0 8 rfl) ?_
  refine mm_cst (st' := [v_l 0, v_l ((WN w / 32 ^ n : Nat) : Int)]) rfl ?_
  refine mm_lcmp (mm_dc od_X10_letter_0 9 rfl) (by first | omega | assumption | exact (hdg (by omega)).2.2) (by first | omega | assumption | exact (hdg (by omega)).2.2) ?_
  refine mm_if_le 30 (mm_dc od_X10_letter_0 10 rfl) (by omega) (by first | omega | assumption | exact (hdg (by omega)).2.2) (fun c1 => ?_) (fun c1 => ?_)
  · refine mm_iload_n (mm_dc od_X10_letter_0 17 rfl) rfl ?_
    refine mm_iload (mm_dc od_X10_letter_0 18 rfl) rfl ?_
    refine mm_icmp_lt 38 (mm_dc od_X10_letter_0 19 rfl) (by omega) (by first | omega | assumption | exact (hdg (by omega)).2.2) (by first | omega | assumption | exact (hdg (by omega)).2.2) (fun c2 => ?_) (fun c2 => ?_)
    · refine mm_lload_n (mm_dc od_X10_letter_0 22 rfl) rfl ?_
      refine mm_iconst (mm_dc od_X10_letter_0 23 rfl) ?_
      refine mm_iload (mm_dc od_X10_letter_0 24 rfl) rfl ?_
      refine mm_iconst (mm_dc od_X10_letter_0 25 rfl) ?_
      refine mm_isub (mm_dc od_X10_letter_0 26 rfl) ?_
      refine mm_iload_n (mm_dc od_X10_letter_0 27 rfl) rfl ?_
      refine mm_isub (mm_dc od_X10_letter_0 28 rfl) ?_
      refine mm_imul (mm_dc od_X10_letter_0 29 rfl) ?_
      refine mm_lshr (mm_dc od_X10_letter_0 30 rfl) ?_
      refine mm_ldc2 (z := 31) (mm_dc od_X10_letter_0 31 rfl) wd_5_208 ?_
      refine mm_land (mm_dc od_X10_letter_0 32 rfl) ?_
      refine mm_l2i (mm_dc od_X10_letter_0 33 rfl) ?_
      refine mm_istore (L' := [(0, v_i (w : Int)), (1, v_i (k : Int)), (2, v_l (WN w : Int)), (4, v_l ((WN w / 32 ^ n : Nat) : Int)), (6, v_i (n : Int)), (7, v_i (fx_land (fx_lshr (WN w : Int) (5 * (((n : Int) - 1) - (k : Int)))) 31))]) (mm_dc od_X10_letter_0 34 rfl) (by decide) rfl ?_
      refine mm_iload (mm_dc od_X10_letter_0 35 rfl) rfl ?_
      refine mm_bipush (mm_dc od_X10_letter_0 36 rfl) (by decide) ?_
      refine mm_icmp_ne 67 (mm_dc od_X10_letter_0 37 rfl) (by omega) (by first | omega | assumption | exact (hdg (by omega)).2.2) (by first | omega | assumption | exact (hdg (by omega)).2.2) (fun c3 => ?_) (fun c3 => ?_)
      · refine mm_bipush (mm_dc od_X10_letter_0 40 rfl) (by decide) ?_
        refine mm_iload (mm_dc od_X10_letter_0 41 rfl) rfl ?_
        refine mm_iadd (mm_dc od_X10_letter_0 42 rfl) ?_
        refine mm_iconst (mm_dc od_X10_letter_0 43 rfl) ?_
        refine mm_isub (mm_dc od_X10_letter_0 44 rfl) ?_
        refine mm_iret (mm_dc od_X10_letter_0 45 rfl) rfl ?_
        exact mm_pi ((hdg (by omega)).2.1 (by assumption)).symm K
      · refine mm_bipush (mm_dc od_X10_letter_0 38 rfl) (by decide) ?_
        refine mm_goto 74 (mm_dc od_X10_letter_0 39 rfl) (by omega) ?_
        refine mm_iret (mm_dc od_X10_letter_0 45 rfl) rfl ?_
        exact mm_pi ((hdg (by omega)).1 (by assumption)).symm K
    · refine mm_iconst (mm_dc od_X10_letter_0 20 rfl) ?_
      refine mm_iret (mm_dc od_X10_letter_0 21 rfl) rfl ?_
      have hz : wl w ≤ n := Nat.le_of_not_lt (fun q => by have := (lt_sh w hw n (by omega)).2.2.1 q; omega)
      exact mm_pi (by rw [lt_out (by omega)]) K
  · refine mm_lload (mm_dc od_X10_letter_0 11 rfl) rfl ?_
    refine mm_iconst (mm_dc od_X10_letter_0 12 rfl) ?_
    refine mm_lshr (mm_dc od_X10_letter_0 13 rfl) ?_
    refine mm_lstore (L' := [(0, v_i (w : Int)), (1, v_i (k : Int)), (2, v_l (WN w : Int)), (4, v_l (fx_lshr ((WN w / 32 ^ n : Nat) : Int) 5)), (6, v_i (n : Int))]) (mm_dc od_X10_letter_0 14 rfl) (by decide) rfl ?_
    refine mm_iinc (L' := [(0, v_i (w : Int)), (1, v_i (k : Int)), (2, v_l (WN w : Int)), (4, v_l (fx_lshr ((WN w / 32 ^ n : Nat) : Int) 5)), (6, v_i ((n : Int) + 1))]) (mm_dc od_X10_letter_0 15 rfl) rfl (by decide) rfl ?_
    refine mm_goto 11 (mm_dc od_X10_letter_0 16 rfl) (by omega) ?_
    have hlt : n < wl w := Nat.lt_of_not_le (fun q => by have := (lt_sh w hw n (by omega)).2.1 q; omega)
    refine mm_cL (L' := [(0, v_i (w : Int)), (1, v_i (k : Int)), (2, v_l (WN w : Int)), (4, v_l ((WN w / 32 ^ (n + 1) : Nat) : Int)), (6, v_i ((n + 1 : Nat) : Int))]) (by rw [(lt_sh w hw n (by omega)).1]; rfl) ?_
    exact L_lt11 w k hw hk K (n + 1) hlt
termination_by 7 - n
decreasing_by all_goals (first | omega | (simp_wf; omega))
theorem c_X10_letter {X : Nat × (Nat → Int)} {d : Nat} {Po : mm_Po} {M : mm_M} (w : Int) (nn : Int) (hw : 0 ≤ w ∧ w < 16) (hk : 0 ≤ nn ∧ nn < 200) (k : Po (some (v_i (lt w.toNat nn.toNat))) Lam M) : mm_E X (d + 2) 0 0 mi_X10_letter [v_i w, v_i nn] Po Lam M := by
  show mm_G X (d + 2) 0 0 mi_X10_letter Po 0 [(0, v_i w), (1, v_i nn)] [] Lam M 0 0
  refine mm_iload_n (mm_dc od_X10_letter_0 0 rfl) rfl ?_
  refine mm_callS (mi' := mi_X10_wordOf) [v_i w] [] (mm_dc od_X10_letter_0 1 rfl) rfl wd_5_201 wd_5_202 wd_1_12 wd_5_203 yk_X10_wordOf (Nat.le_of_ble_eq_true rfl) rfl (by decide) (c_X10_wordOf w (by first | assumption | omega | exact hr _ _ rfl | exact mm_ti _ | exact mm_r3264 (hr _ _ rfl)) ⟨Nat.le_refl _, ?_⟩)
  refine mm_lstore_n (L' := [(0, v_i w), (1, v_i nn), (2, v_l (WN w.toNat : Int))]) (mm_dc od_X10_letter_0 2 rfl) (by decide) rfl ?_
  refine mm_lload_n (mm_dc od_X10_letter_0 3 rfl) rfl ?_
  refine mm_lstore (L' := [(0, v_i w), (1, v_i nn), (2, v_l (WN w.toNat : Int)), (4, v_l (WN w.toNat : Int))]) (mm_dc od_X10_letter_0 4 rfl) (by decide) rfl ?_
  refine mm_iconst (mm_dc od_X10_letter_0 5 rfl) ?_
  refine mm_istore (L' := [(0, v_i w), (1, v_i nn), (2, v_l (WN w.toNat : Int)), (4, v_l (WN w.toNat : Int)), (6, v_i 0)]) (mm_dc od_X10_letter_0 6 rfl) (by decide) rfl ?_
  obtain ⟨x, rfl⟩ : ∃ x : Nat, w = x := ⟨w.toNat, by omega⟩
  obtain ⟨y, rfl⟩ : ∃ y : Nat, nn = y := ⟨nn.toNat, by omega⟩
  refine mm_cL (L' := [(0, v_i (x : Int)), (1, v_i (y : Int)), (2, v_l (WN x : Int)), (4, v_l ((WN x / 32 ^ 0 : Nat) : Int)), (6, v_i ((0 : Nat) : Int))]) (by rw [Int.toNat_natCast, Nat.pow_zero, Nat.div_one]; rfl) ?_
  exact L_lt11 x y (by omega) (by omega) k 0 (by omega)
