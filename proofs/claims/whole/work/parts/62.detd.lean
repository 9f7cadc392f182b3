/-! the equations that the races give -/
def ctR (x y b : Int) (c i : Nat) : Int := if x = (i : Int) then ((if c = i then 1 else 0) + (if c = 6 then b else 0) - (if y = (c : Int) then 1 else 0)) else 0
def tb (g : Nat → Bool) (X Y W : Nat → Int) : Nat → Nat → Nat → Int
  | 0, _, _ => 0
  | r + 1, c, i => tb g X Y W r c i + (if g r = true then ctR (X r) (Y r) (W r) c i + ctR (Y r) (X r) (-W r) c i else 0)
def dgR (g : Nat → Bool) (X Y : Nat → Int) : Nat → Nat → Int
  | 0, _ => 0
  | r + 1, i => dgR g X Y r i + (if g r = true then (if X r = (i : Int) then 1 else 0) + (if Y r = (i : Int) then 1 else 0) else 0)
def RW (g : Nat → Bool) (X Y W : Nat → Int) (R n : Nat) : Prop := ∀ r, r < R → g r = true → (-1 ≤ X r ∧ X r < n) ∧ (-1 ≤ Y r ∧ Y r < n) ∧ X r ≠ Y r ∧ (-999 ≤ W r ∧ W r ≤ 999)
def CN (g : Nat → Bool) (X Y : Nat → Int) (R n : Nat) : Prop := ∀ T : Int → Prop, (∀ r, r < R → g r = true → (T (X r) ↔ T (Y r))) → T (-1) → ∀ l : Nat, l < n → T (l : Int)
theorem tb_cong {g g2 : Nat → Bool} {X Y W X2 Y2 W2 : Nat → Int} {c i : Nat} : ∀ R : Nat, (∀ r, r < R → g r = g2 r ∧ (g r = true → X r = X2 r ∧ Y r = Y2 r ∧ W r = W2 r)) → tb g X Y W R c i = tb g2 X2 Y2 W2 R c i
  | 0, _ => rfl
  | R + 1, h => by
    have ih := tb_cong (c := c) (i := i) R (fun r hr => h r (by omega))
    have h1 := h R (by omega)
    simp only [tb]
    rw [ih, ← h1.1]
    by_cases e : g R = true
    · have h2 := h1.2 e
      rw [if_pos e, if_pos e, h2.1, h2.2.1, h2.2.2]
    · rw [if_neg e, if_neg e]
theorem sum_dl {y : Int} {f : Nat → Int} : ∀ n : Nat, sumI (fun c => if y = (c : Int) then f c else 0) n = if 0 ≤ y ∧ y < (n : Int) then f y.toNat else 0
  | 0 => by
    simp only [sumI]
    rw [if_neg (by omega)]
  | n + 1 => by
    have ih := sum_dl (y := y) (f := f) n
    simp only [sumI]
    rw [ih]
    by_cases e : y = (n : Int)
    · rw [if_neg (by omega), if_pos e, if_pos (by omega), show y.toNat = n by omega]; omega
    · rw [if_neg e, Int.add_zero]
      by_cases q : 0 ≤ y ∧ y < (n : Int)
      · rw [if_pos q, if_pos (by omega)]
      · rw [if_neg q, if_neg (by omega)]
theorem sum_d1 (y : Int) (n : Nat) : sumI (fun c => if y = (c : Int) then 1 else 0) n ≤ 1 := by
  rw [sum_dl (f := fun _ => 1)]
  split <;> omega
theorem ct_ab {x y b : Int} {c i : Nat} (hc : c < 6 ∨ y ≠ 6) (hc2 : c ≤ 6) (hi : i < 6) (hb : -999 ≤ b ∧ b ≤ 999) : ab (ctR x y b c i) ≤ 999 * (if x = (i : Int) then 1 else 0) := by
  unfold ctR ab
  by_cases e : x = (i : Int)
  · rw [if_pos e, if_pos e]
    by_cases e6 : c = 6
    · subst e6
      rw [if_neg (show ¬ 6 = i by omega), if_pos rfl, if_neg (show ¬ y = ((6 : Nat) : Int) by omega)]
      omega
    · rw [if_neg e6]
      by_cases q1 : c = i
      · rw [if_pos q1]
        split <;> omega
      · rw [if_neg q1]
        split <;> omega
  · rw [if_neg e, if_neg e]; omega
theorem ct_l1 {x y b : Int} {i : Nat} (hi : i < 6) : sumI (fun c => ab (ctR x y b c i)) 6 ≤ 2 * (if x = (i : Int) then 1 else 0) := by
  by_cases e : x = (i : Int)
  · rw [if_pos e]
    have h : sumI (fun c => ab (ctR x y b c i)) 6 ≤ sumI (fun c => (if (i : Int) = (c : Int) then 1 else 0) + (if y = (c : Int) then 1 else 0)) 6 := by
      refine sumI_le 6 (fun c hc => ?_)
      unfold ctR ab
      rw [if_pos e, if_neg (show ¬ c = 6 by omega)]
      by_cases q1 : c = i
      · rw [if_pos q1, if_pos (show (i : Int) = (c : Int) by omega)]
        split <;> omega
      · rw [if_neg q1, if_neg (show ¬ (i : Int) = (c : Int) by omega)]
        split <;> omega
    rw [sz_add] at h
    have h1 := sum_d1 (i : Int) 6
    have h2 := sum_d1 y 6
    omega
  · rw [if_neg e]
    rw [sz_zero 6 (fun c _ => by unfold ctR; rw [if_neg e]; rfl)]
    omega
theorem tb_l1 {g : Nat → Bool} {X Y W : Nat → Int} {i : Nat} (hi : i < 6) : ∀ R : Nat, sumI (fun c => ab (tb g X Y W R c i)) 6 ≤ 2 * dgR g X Y R i
  | 0 => by
    rw [sz_zero (f := fun c => ab (tb g X Y W 0 c i)) 6 (fun c _ => rfl)]
    simp [dgR]
  | R + 1 => by
    have ih := tb_l1 (g := g) (X := X) (Y := Y) (W := W) hi R
    simp only [tb, dgR]
    by_cases e : g R = true
    · simp only [if_pos e]
      have h1 := ct_l1 (x := X R) (y := Y R) (b := W R) hi
      have h2 := ct_l1 (x := Y R) (y := X R) (b := -W R) hi
      have h3 : sumI (fun c => ab (tb g X Y W R c i + (ctR (X R) (Y R) (W R) c i + ctR (Y R) (X R) (-W R) c i))) 6 ≤ sumI (fun c => ab (tb g X Y W R c i) + (ab (ctR (X R) (Y R) (W R) c i) + ab (ctR (Y R) (X R) (-W R) c i))) 6 := by
        refine sumI_le 6 (fun c hc => ?_)
        have q1 := ab_add (tb g X Y W R c i) (ctR (X R) (Y R) (W R) c i + ctR (Y R) (X R) (-W R) c i)
        have q2 := ab_add (ctR (X R) (Y R) (W R) c i) (ctR (Y R) (X R) (-W R) c i)
        omega
      rw [sz_add, sz_add] at h3
      omega
    · simp only [if_neg e, Int.add_zero]
      exact ih
theorem tb_en {g : Nat → Bool} {X Y W : Nat → Int} {n c i : Nat} (hn : n ≤ 6) (hc : c ≤ 6) (hi : i < 6) : ∀ R : Nat, RW g X Y W R n → ab (tb g X Y W R c i) ≤ 999 * dgR g X Y R i
  | 0, _ => by simp [tb, dgR, ab]
  | R + 1, h => by
    have ih := tb_en hn hc hi R (fun r hr => h r (by omega))
    simp only [tb, dgR]
    by_cases e : g R = true
    · simp only [if_pos e]
      have hR := h R (by omega) e
      have h1 := ct_ab (x := X R) (y := Y R) (b := W R) (c := c) (i := i) (Or.inr (by omega)) hc hi (by omega)
      have h2 := ct_ab (x := Y R) (y := X R) (b := -W R) (c := c) (i := i) (Or.inr (by omega)) hc hi (by omega)
      have q1 := ab_add (tb g X Y W R c i) (ctR (X R) (Y R) (W R) c i + ctR (Y R) (X R) (-W R) c i)
      have q2 := ab_add (ctR (X R) (Y R) (W R) c i) (ctR (Y R) (X R) (-W R) c i)
      omega
    · simp only [if_neg e, Int.add_zero]
      exact ih
theorem ct_off {x y b : Int} {c i : Nat} (hc : c < 6) (hn : c ≠ i) : ctR x y b c i = if x = (i : Int) ∧ y = (c : Int) then -1 else 0 := by
  unfold ctR
  rw [if_neg hn, if_neg (show ¬ c = 6 by omega)]
  by_cases e : x = (i : Int)
  · rw [if_pos e]
    by_cases e2 : y = (c : Int)
    · rw [if_pos e2, if_pos ⟨e, e2⟩]; rfl
    · rw [if_neg e2, if_neg (fun q => e2 q.2)]; rfl
  · rw [if_neg e, if_neg (fun q => e q.1)]
theorem tb_sy {g : Nat → Bool} {X Y W : Nat → Int} {c i : Nat} (hc : c < 6) (hi : i < 6) : ∀ R : Nat, tb g X Y W R c i = tb g X Y W R i c
  | 0 => rfl
  | R + 1 => by
    have ih := tb_sy (g := g) (X := X) (Y := Y) (W := W) hc hi R
    by_cases e : c = i
    · rw [e]
    · simp only [tb]
      rw [ih, ct_off hc e, ct_off hc e, ct_off hi (fun q => e q.symm), ct_off hi (fun q => e q.symm)]
      congr 1
      by_cases e2 : g R = true
      · rw [if_pos e2, if_pos e2]
        have cm : ∀ a b c d : Int, (if a = c ∧ b = d then (-1 : Int) else 0) = (if b = d ∧ a = c then -1 else 0) := by
          intro a b c d
          by_cases q : b = d ∧ a = c
          · rw [if_pos q, if_pos ⟨q.2, q.1⟩]
          · rw [if_neg q, if_neg (fun x => q ⟨x.2, x.1⟩)]
        rw [cm (X R) (Y R) c i, cm (Y R) (X R) c i]
        exact Int.add_comm _ _
      · rw [if_neg e2, if_neg e2]
theorem tb_di {g : Nat → Bool} {X Y W : Nat → Int} {n i : Nat} (hi : i < 6) : ∀ R : Nat, RW g X Y W R n → tb g X Y W R i i = dgR g X Y R i
  | 0, _ => rfl
  | R + 1, h => by
    have ih := tb_di hi R (fun r hr => h r (by omega))
    simp only [tb, dgR]
    rw [ih]
    congr 1
    by_cases e : g R = true
    · rw [if_pos e, if_pos e]
      have hR := (h R (by omega) e).2.2.1
      have ct : ∀ x y b : Int, x ≠ y → ctR x y b i i = if x = (i : Int) then 1 else 0 := by
        intro x y b hxy
        unfold ctR
        by_cases q : x = (i : Int)
        · rw [if_pos q, if_pos q, if_pos rfl, if_neg (by omega), if_neg (by omega)]; rfl
        · rw [if_neg q, if_neg q]
      rw [ct _ _ _ hR, ct _ _ _ (fun q => hR q.symm)]
    · rw [if_neg e, if_neg e]
theorem dg_nn (g : Nat → Bool) (X Y : Nat → Int) (i : Nat) : ∀ R : Nat, 0 ≤ dgR g X Y R i
  | 0 => Int.le_refl _
  | R + 1 => by
    have := dg_nn g X Y i R
    simp only [dgR]
    split
    · split <;> split <;> omega
    · omega
theorem dg_sum (g : Nat → Bool) (X Y : Nat → Int) (n : Nat) : ∀ R : Nat, sumI (fun i => dgR g X Y R i) n ≤ 2 * (R : Int)
  | 0 => by rw [sz_zero (f := fun i => dgR g X Y 0 i) n (fun _ _ => rfl)]; omega
  | R + 1 => by
    have ih : sumI (dgR g X Y R) n ≤ 2 * (R : Int) := dg_sum g X Y n R
    simp only [dgR]
    rw [sz_add]
    by_cases e : g R = true
    · simp only [if_pos e]
      rw [sz_add]
      have h1 := sum_d1 (X R) n
      have h2 := sum_d1 (Y R) n
      omega
    · simp only [if_neg e]
      rw [sz_zero n (fun _ _ => rfl)]
      omega
/-! sums of squares -/
def zt (k : Nat) (z : Nat → Int) (x : Int) : Int := if 0 ≤ x ∧ x < (k : Int) then z x.toNat else 0
theorem ct_in {x y b : Int} {k i : Nat} {z : Nat → Int} (hk : k ≤ 6) (hi : i < k) : sumI (fun c => ctR x y b c i * z c) k = if x = (i : Int) then z i - zt k z y else 0 := by
  by_cases e : x = (i : Int)
  · rw [if_pos e]
    have h : sumI (fun c => ctR x y b c i * z c) k = sumI (fun c => (if (i : Int) = (c : Int) then z c else 0) - (if y = (c : Int) then z c else 0)) k := by
      refine sz_cong k (fun c hc => ?_)
      unfold ctR
      rw [if_pos e, if_neg (show ¬ c = 6 by omega)]
      by_cases q1 : c = i
      · rw [if_pos q1, if_pos (show (i : Int) = (c : Int) by omega)]
        by_cases q2 : y = (c : Int)
        · rw [if_pos q2, if_pos q2]; omega
        · rw [if_neg q2, if_neg q2]; omega
      · rw [if_neg q1, if_neg (show ¬ (i : Int) = (c : Int) by omega)]
        by_cases q2 : y = (c : Int)
        · rw [if_pos q2, if_pos q2]; omega
        · rw [if_neg q2, if_neg q2]; omega
    rw [h, sz_sub, sum_dl, sum_dl, if_pos (by omega), Int.toNat_natCast]
    rfl
  · rw [if_neg e]
    exact sz_zero k (fun c _ => by unfold ctR; rw [if_neg e, Int.zero_mul])
theorem ct_qf {x y b : Int} {k : Nat} {z : Nat → Int} (hk : k ≤ 6) : qf (fun c i => ctR x y b c i) k z = zt k z x * (zt k z x - zt k z y) := by
  unfold qf
  have h : sumI (fun i => z i * sumI (fun c => ctR x y b c i * z c) k) k = sumI (fun i => if x = (i : Int) then z i * (z i - zt k z y) else 0) k := by
    refine sz_cong k (fun i hi => ?_)
    rw [ct_in hk hi]
    by_cases e : x = (i : Int)
    · rw [if_pos e, if_pos e]
    · rw [if_neg e, if_neg e, Int.mul_zero]
  rw [h, sum_dl]
  by_cases e : 0 ≤ x ∧ x < (k : Int)
  · have e2 : zt k z x = z x.toNat := if_pos e
    rw [if_pos e, e2]
  · have e2 : zt k z x = 0 := if_neg e
    rw [if_neg e, e2, Int.zero_mul]
theorem qf_add (A C : Nat → Nat → Int) (k : Nat) (z : Nat → Int) : qf (fun c i => A c i + C c i) k z = qf A k z + qf C k z := by
  unfold qf
  rw [← sz_add]
  refine sz_cong k (fun i _ => ?_)
  rw [← Int.mul_add, ← sz_add]
  congr 1
  exact sz_cong k (fun c _ => Int.add_mul _ _ _)
def sqR (g : Nat → Bool) (X Y : Nat → Int) (k : Nat) (z : Nat → Int) (r : Nat) : Int := if g r = true then (zt k z (X r) - zt k z (Y r)) * (zt k z (X r) - zt k z (Y r)) else 0
theorem tb_qf {g : Nat → Bool} {X Y W : Nat → Int} {k : Nat} {z : Nat → Int} (hk : k ≤ 6) : ∀ R : Nat, qf (fun c i => tb g X Y W R c i) k z = sumI (sqR g X Y k z) R
  | 0 => by
    unfold qf
    refine sz_zero k (fun i _ => ?_)
    rw [sz_zero k (fun c _ => by simp [tb]), Int.mul_zero]
  | R + 1 => by
    have ih := tb_qf (g := g) (X := X) (Y := Y) (W := W) (z := z) hk R
    simp only [tb, sumI]
    rw [qf_add, ih]
    congr 1
    unfold sqR
    by_cases e : g R = true
    · simp only [if_pos e]
      rw [qf_add, ct_qf hk, ct_qf hk]
      grind
    · simp only [if_neg e]
      unfold qf
      refine sz_zero k (fun i _ => ?_)
      rw [sz_zero k (fun c _ => Int.zero_mul _), Int.mul_zero]
theorem sz_z {f : Nat → Int} : ∀ n : Nat, (∀ i, i < n → 0 ≤ f i) → sumI f n = 0 → ∀ i, i < n → f i = 0
  | 0, _, _, i, hi => by omega
  | n + 1, h, hz, i, hi => by
    have h1 := sumI_nn n (fun i hi => h i (by omega))
    have h2 := h n (by omega)
    simp only [sumI] at hz
    by_cases e : i = n
    · rw [e]; omega
    · exact sz_z n (fun i hi => h i (by omega)) (by omega) i (by omega)
theorem sq_nn (x : Int) : 0 ≤ x * x := by
  rcases Int.le_total 0 x with h | h
  · exact Int.mul_nonneg h h
  · exact Int.mul_nonneg_of_nonpos_of_nonpos h h
theorem tb_pd {g : Nat → Bool} {X Y W : Nat → Int} {R n : Nat} (hn : n ≤ 6) (hc : CN g X Y R n) : PD (fun c i => tb g X Y W R c i) n := by
  intro k hk z
  rw [tb_qf (by omega)]
  have nn : ∀ r, 0 ≤ sqR g X Y k z r := by
    intro r
    unfold sqR
    split
    · exact sq_nn _
    · exact Int.le_refl _
  refine ⟨sumI_nn R (fun r _ => nn r), fun h0 l hl => ?_⟩
  have hz := sz_z R (fun r _ => nn r) h0
  have h1 := hc (fun x => zt k z x = 0) (fun r hr hg => by
    have h2 := hz r hr
    unfold sqR at h2
    rw [if_pos hg] at h2
    have h3 : zt k z (X r) - zt k z (Y r) = 0 := by
      rcases Int.mul_eq_zero.mp h2 with q | q <;> exact q
    have h4 : zt k z (X r) = zt k z (Y r) := by omega
    show zt k z (X r) = 0 ↔ zt k z (Y r) = 0
    rw [h4]) (by show zt k z (-1) = 0; unfold zt; rw [if_neg (by omega)]) l (by omega)
  have h5 : zt k z (l : Int) = 0 := h1
  unfold zt at h5
  rw [if_pos (by omega), Int.toNat_natCast] at h5
  exact h5
theorem tb_LQ {g : Nat → Bool} {X Y W : Nat → Int} {R n : Nat} (hn : n ≤ 6) (hR : R ≤ 40) (hw : RW g X Y W R n) (hc : CN g X Y R n) : LQ (fun c i => tb g X Y W R c i) n (fun i => dgR g X Y R i) := by
  refine ⟨hn, tb_pd hn hc, fun i l hi hl => tb_sy (by omega) (by omega) R, fun i => dg_nn g X Y i R, ?_, fun r hr => tb_l1 hr R, fun c r h1 h2 => tb_en hn h1 h2 R hw, fun r hr => tb_di (by omega) R hw⟩
  have := dg_sum g X Y n R
  omega
/-! rows of oars -/
def rowF (m x : Nat) : Int := if m.testBit x = true then rowc (fun i => m.testBit i) x - 1 else -1
theorem rowc_ivt {C : Nat → Bool} : ∀ (N : Nat) (v : Int), 0 ≤ v → v < rowc C N → ∃ x, x < N ∧ C x = true ∧ rowc C x = v
  | 0, v, h0, h => by simp only [rowc] at h; omega
  | N + 1, v, h0, h => by
    simp only [rowc] at h
    by_cases e : v < rowc C N
    · obtain ⟨x, h1, h2⟩ := rowc_ivt N v h0 e
      exact ⟨x, by omega, h2⟩
    · by_cases q : C N = true
      · rw [if_pos q] at h
        exact ⟨N, by omega, q, by omega⟩
      · rw [if_neg q] at h; omega
theorem rowc_mo {C : Nat → Bool} {x : Nat} : ∀ y : Nat, x ≤ y → rowc C x ≤ rowc C y
  | 0, h => by rw [show x = 0 by omega]; exact Int.le_refl _
  | y + 1, h => by
    by_cases e : x = y + 1
    · rw [e]; exact Int.le_refl _
    · have := rowc_mo (C := C) y (show x ≤ y by omega)
      simp only [rowc]
      split <;> omega
theorem rowc_st {C : Nat → Bool} {x y : Nat} (h : x < y) (hx : C x = true) : rowc C x + 1 ≤ rowc C y := by
  have h1 := rowc_mo (C := C) (x := x + 1) y h
  simp only [rowc] at h1
  rw [if_pos hx] at h1
  exact h1
theorem rowF_r {m x : Nat} {n : Nat} (hx : x < 16) (hn : cntb m = (n : Int) + 1) : -1 ≤ rowF m x ∧ rowF m x < n := by
  unfold rowF
  split
  · next e =>
    have h := rowc_st (C := fun i => m.testBit i) hx e
    have h2 := rowc_r (fun i => m.testBit i) x
    unfold cntb at hn
    omega
  · omega
theorem rowF_in {m x y : Nat} (hx : m.testBit x = true) (hy : m.testBit y = true) (hn : x ≠ y) : rowF m x ≠ rowF m y := by
  unfold rowF
  rw [if_pos hx, if_pos hy]
  rcases Nat.lt_or_gt_of_ne hn with h | h
  · have := rowc_st (C := fun i => m.testBit i) h hx
    omega
  · have := rowc_st (C := fun i => m.testBit i) h hy
    omega
theorem mk_CN {f s : Nat → Int} {R o m n : Nat} (h : grpQ f s R o m) (ho : o < 16) (hn : cntb m = (n : Int) + 1) : CN (fun r => m.testBit (f r).toNat) (fun r => rowF m (f r).toNat) (fun r => rowF m (s r).toNat) R n := by
  obtain ⟨h1, h2, h3, h4⟩ := h
  intro T hT h0
  have hR : RQ f s R (fun x => m.testBit x = true → T (rowF m x)) := by
    intro r hr
    have h5 := h3 r hr
    by_cases e : m.testBit (f r).toNat = true
    · have e2 := h5.mp e
      have h6 := hT r hr e
      exact ⟨fun q _ => h6.mp (q e), fun q _ => h6.mpr (q e2)⟩
    · exact ⟨fun _ q => absurd (h5.mpr q) e, fun _ q => absurd q e⟩
  obtain ⟨x0, x1, x2, x3⟩ := rowc_ivt (C := fun i => m.testBit i) 16 0 (by omega) (by unfold cntb at hn; omega)
  have hx0 : T (rowF m x0) := by
    unfold rowF
    rw [if_pos x2, x3]; exact h0
  have ho2 : T (rowF m o) := by
    apply Classical.byContradiction
    intro q
    have h7 := h4 (fun x => ¬ (m.testBit x = true → T (rowF m x))) (fun r hr => by
      have := hR r hr
      constructor
      · intro a b; exact a (this.mpr b)
      · intro a b; exact a (this.mp b)) (fun a => q (a h2)) x0 x2
    exact h7 (fun _ => hx0)
  have hall := h4 (fun x => m.testBit x = true → T (rowF m x)) hR (fun _ => ho2)
  intro l hl
  obtain ⟨x, y1, y2, y3⟩ := rowc_ivt (C := fun i => m.testBit i) 16 ((l : Int) + 1) (by omega) (by unfold cntb at hn; omega)
  have h8 := hall x y2 y2
  unfold rowF at h8
  rw [if_pos y2, y3, show (l : Int) + 1 - 1 = l by omega] at h8
  exact h8
theorem mk_RW {f s w : Nat → Int} {R o m n : Nat} (h : grpQ f s R o m) (hn : cntb m = (n : Int) + 1) (hq : ∀ r, r < R → (0 ≤ f r ∧ f r < 16) ∧ (0 ≤ s r ∧ s r < 16) ∧ f r ≠ s r ∧ (-999 ≤ w r ∧ w r ≤ 999)) : RW (fun r => m.testBit (f r).toNat) (fun r => rowF m (f r).toNat) (fun r => rowF m (s r).toNat) w R n := by
  intro r hr hg
  have h1 := hq r hr
  have hg2 := (h.2.2.1 r hr).mp hg
  exact ⟨rowF_r (by omega) hn, rowF_r (by omega) hn, rowF_in hg hg2 (by omega), h1.2.2.2⟩
/-- the matrix of a group -/
def mxG (f s w : Nat → Int) (R m : Nat) : Nat → Nat → Int := fun c i => tb (fun r => m.testBit (f r).toNat) (fun r => rowF m (f r).toNat) (fun r => rowF m (s r).toNat) w R c i
theorem mx_LQ {f s w : Nat → Int} {R o m n : Nat} (h : grpQ f s R o m) (ho : o < 16) (hn6 : n ≤ 6) (hR : R ≤ 40) (hn : cntb m = (n : Int) + 1) (hq : ∀ r, r < R → (0 ≤ f r ∧ f r < 16) ∧ (0 ≤ s r ∧ s r < 16) ∧ f r ≠ s r ∧ (-999 ≤ w r ∧ w r ≤ 999)) : ∃ a, LQ (mxG f s w R m) n a :=
  ⟨_, tb_LQ hn6 hR (mk_RW h hn hq) (mk_CN h ho hn)⟩
