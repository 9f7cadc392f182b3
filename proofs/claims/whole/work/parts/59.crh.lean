/-! crews: both weigh alike -/
def coS (S t : Nat) : Nat := (2 ^ S - 1) ^^^ t
theorem coS_bit (S t s : Nat) : (coS S t).testBit s = (decide (s < S) ^^ t.testBit s) := by
  unfold coS; rw [Nat.testBit_xor, Nat.testBit_two_pow_sub_one]
theorem coS_lt {S t : Nat} (h : t < 2 ^ S) : coS S t < 2 ^ S := by
  have := Nat.one_le_two_pow (n := S)
  exact Nat.xor_lt_two_pow (by omega) h
theorem coS_co (S t : Nat) : coS S (coS S t) = t := by
  apply Nat.eq_of_testBit_eq
  intro i
  rw [coS_bit, coS_bit]
  cases t.testBit i <;> cases decide (i < S) <;> rfl
theorem coS_0 (S : Nat) : coS S 0 = 2 ^ S - 1 := by unfold coS; rw [Nat.xor_zero]
theorem coS_all (S : Nat) : coS S (2 ^ S - 1) = 0 := by unfold coS; rw [Nat.xor_self]
theorem coS_step {S t s : Nat} (hs : s < S) (ht : t.testBit s = true) : coS S (t ^^^ 2 ^ s) = coS S t ||| 2 ^ s := by
  apply Nat.eq_of_testBit_eq
  intro i
  rw [coS_bit, Nat.testBit_xor, Nat.testBit_or, coS_bit, Nat.testBit_two_pow]
  by_cases e : s = i
  · subst e
    rw [ht]; simp [hs]
  · simp [e]
def crel (k : Nat) (c r : Int) : Prop := (c = 1000 ∧ r = 1000000) ∨ (c = r ∧ 0 ≤ c ∧ c ≤ 8 * k)
theorem crel_min {f g p q : Nat → Int} {S t k : Nat} (hk : k < 16) (ht : t < 2 ^ S) (hfg : ∀ t, t < 2 ^ S → crel k (f t) (g (coS S t))) (hpq : ∀ s, s < S → p s = q s ∧ 0 ≤ p s ∧ p s ≤ 8) : ∀ i, i ≤ S → crel (k + 1) (minX f p t i) (minM g q (coS S t) i)
  | 0, _ => by
    have h := hfg t ht
    unfold crel at *
    simp only [minX, minM]
    omega
  | i + 1, hi => by
    have ih := crel_min hk ht hfg hpq i (by omega)
    have hp := hpq i (by omega)
    have hb : (coS S t).testBit i = !t.testBit i := by rw [coS_bit, decide_eq_true (show i < S by omega)]; simp
    simp only [minX, minM]
    by_cases e : t.testBit i = true
    · rw [if_pos e, if_neg (by rw [hb, e]; decide)]
      have h := hfg (t ^^^ 2 ^ i) (Nat.xor_lt_two_pow ht (Nat.pow_lt_pow_right (by decide) (by omega)))
      rw [coS_step (by omega) e] at h
      unfold crel at *
      omega
    · rw [if_neg e, if_pos (by rw [hb]; simpa using e)]
      exact ih
theorem crel_eq {k : Nat} {c0 r0 c1 r1 p : Int} (hk : k ≤ 16) (h0 : crel (k + 1) c0 r0) (h1 : crel k c1 r1) (hp : 0 ≤ p ∧ p ≤ 8) : c1 + p = c0 ↔ p + r1 = r0 := by
  unfold crel at *
  omega
theorem fr_same {M : mm_M} (hI : inv M) {b hour : Int} (hb : 0 ≤ b ∧ b < M 1 5) {o : Nat} (ho : (o : Int) < M 1 0) : (freeX M b hour o ↔ freeM M b hour o) ∧ ∀ s : Int, 0 ≤ s → s < 8 → priX M b o s = cstM M b o s := by
  have hI0 := hI
  obtain ⟨hr, hJo, hJb, hJr, hJom, hJbm, v0, v1, v2, v3, v4, v5, v6, v7, v8, v9⟩ := hI0
  have jo := hJo; have jb := hJb; have jr := hJr; have jom := hJom; have jbm := hJbm
  obtain ⟨ho0, ho16, hO⟩ := jo
  obtain ⟨hb0, hb8, hB⟩ := jb
  obtain ⟨hr0, hr40, hRr⟩ := jr
  obtain ⟨go0, go16, gO⟩ := jom
  obtain ⟨gb0, gb8, gB⟩ := jbm
  have w1 := v1.1; have w2 := v2.1; have w3 := v3.1; have w4 := v4.1; have w5 := v5.1; have w6 := v6.1; have w7 := v7.1.1; have w7b := v7.2.1.1; have w8 := v8.1; have w8b := v8.2.2.2.1
  have h1 := v1.2.1 o ho
  have h2 := gO o (by omega)
  have h3 := (v2.2 b.toNat (by omega)).1
  constructor
  · unfold freeX freeM
    rw [Int.toNat_natCast, h1.1, h1.2.2.1]
    have h4 := h1.2.2.2
    constructor <;> intro q <;> omega
  · intro s hs1 hs2
    unfold priX cstM dislX dslM
    rw [Int.toNat_natCast, h1.1, h3]
    have h4 := h1.2.2.2
    congr 1
    by_cases e1 : M 5 o = 10 * b + s
    · rw [if_pos e1, if_neg (by omega), if_pos (by omega)]
    · rw [if_neg e1]
      by_cases e2 : M 5 o ≠ -1 ∧ M 5 o / 10 = b
      · rw [if_pos e2, if_neg (by omega), if_neg (by omega)]
      · rw [if_neg e2, if_pos (by omega)]
theorem crel_all {M A B : mm_M} (hI : inv M) {b hour : Int} (hb : 0 ≤ b ∧ b < M 1 5) {S n : Nat} (hS : S ≤ 8) (hn : M 1 0 = n) (hX : costQ M A b hour S n) (hM : cosM M B b hour S n) : ∀ r o, o + r = n → ∀ t, t < 2 ^ S → crel r (A 18 (256 * o + t)) (B 70 (256 * o + coS S t)) := by
  have hn16 := hI.2.1.2.1
  intro r
  induction r with
  | zero =>
    intro o ho t ht
    have e : o = n := by omega
    rw [e, hX.1 t ht, hM.1 _ (coS_lt ht)]
    unfold crel
    by_cases e0 : t = 0
    · rw [if_pos e0, e0, if_pos (coS_0 S)]; omega
    · rw [if_neg e0, if_neg]
      · omega
      · intro q
        apply e0
        have := congrArg (coS S) q
        rw [coS_co, coS_all] at this
        exact this
  | succ r ih =>
    intro o ho t ht
    have ih2 := ih (o + 1) (by omega)
    obtain ⟨hf1, hp1⟩ := fr_same hI (hour := hour) hb (o := o) (by omega)
    have hm := hM.2 o (by omega) (coS S t) (coS_lt ht)
    rcases hX.2 o (by omega) with ⟨a1, a2⟩ | ⟨a1, a2⟩
    · rcases hm with ⟨c1, c2⟩ | ⟨c1, c2⟩
      · rw [a2 t ht, c2]
        exact crel_min (by omega) ht ih2 (fun s hs => ⟨hp1 s (by omega) (by omega), priX_r M b o s⟩) S (Nat.le_refl _)
      · exact absurd (hf1.mp a1) c1
    · rcases hm with ⟨c1, c2⟩ | ⟨c1, c2⟩
      · exact absurd (hf1.mpr c1) a1
      · rw [a2 t ht, c2]
        have h := ih2 t ht
        unfold frowM
        unfold crel at *
        omega
theorem ch_same {M A B : mm_M} (hI : inv M) {b hour : Int} (hb : 0 ≤ b ∧ b < M 1 5) {S n : Nat} (hS : S ≤ 8) (hn : M 1 0 = n) (hX : costQ M A b hour S n) (hM : cosM M B b hour S n) {f g : Nat → Int}
    (hA : freeX A = freeX M ∧ priX A = priX M) (hB : freeM B = freeM M ∧ cstM B = cstM M) (hf : ∀ o, o < n → chX A b hour S o (opF f S o) (f o)) (hg : ∀ o, o < n → chM B b hour S o (opM g o) (g o)) : ∀ j, j ≤ n → coS S (opF f S j) = opM g j ∧ ∀ o, o < j → f o = g o := by
  have hn16 := hI.2.1.2.1
  intro j
  induction j with
  | zero => exact fun _ => ⟨by simp only [opF, opM]; exact coS_all S, fun o ho => by omega⟩
  | succ j ih =>
    intro hj
    obtain ⟨i1, i2⟩ := ih (by omega)
    have hlt : opF f S j < 2 ^ S := opF_lt j (fun i hi => chX_r (hf i (by omega)))
    obtain ⟨hf1, hp1⟩ := fr_same hI (hour := hour) hb (o := j) (by omega)
    have hfj := hf j (by omega)
    have hgj := hg j (by omega)
    have e : f j = g j := by
      unfold chX at hfj
      unfold chM at hgj
      rw [hA.1] at hfj
      rw [hB.1] at hgj
      rcases hfj with ⟨a1, a2⟩ | ⟨a1, a2⟩
      · rcases hgj with ⟨c1, c2⟩ | ⟨c1, c2⟩
        · refine firstP_one (firstP_cong a2 (fun s hs => ?_)) c2
          unfold chP
          rw [hA.2, hB.2, ← i1, hp1 s (by omega) (by omega)]
          have hbit : (coS S (opF f S j)).testBit s = !(opF f S j).testBit s := by rw [coS_bit, decide_eq_true (show s < S by omega)]; simp
          rw [hbit]
          by_cases q : (opF f S j).testBit s = true
          · have h0 := crel_all hI hb hS hn hX hM (n - j) j (by omega) _ hlt
            have h1 := crel_all hI hb hS hn hX hM (n - j - 1) (j + 1) (by omega) ((opF f S j) ^^^ 2 ^ s) (Nat.xor_lt_two_pow hlt (Nat.pow_lt_pow_right (by decide) (by omega)))
            rw [coS_step (by omega) q] at h1
            have hx := crel_eq (k := n - j - 1) (by omega) (show crel (n - j - 1 + 1) _ _ by rw [show n - j - 1 + 1 = n - j by omega]; exact h0) h1 (cstM_r M b j s)
            rw [q]
            simp only [Bool.not_true, true_and]
            exact hx
          · have q2 : (opF f S j).testBit s = false := by simpa using q
            rw [q2]; simp
        · exact absurd (hf1.mp a1) c1
      · rcases hgj with ⟨c1, c2⟩ | ⟨c1, c2⟩
        · exact absurd (hf1.mpr c1) a1
        · rw [a2, c2]
    refine ⟨?_, fun o ho => by by_cases q : o = j; rw [q]; exact e; exact i2 o (by omega)⟩
    simp only [opF, opM]
    have hr := chX_r hfj
    by_cases q : f j = -1
    · rw [if_pos q, if_pos (by omega)]; exact i1
    · rw [if_neg q, if_neg (by omega), ← i1, ← e]
      refine coS_step (by omega) ?_
      rcases hfj with ⟨_, a2⟩ | ⟨_, a2⟩
      · rcases a2 with ⟨a3, _⟩ | ⟨_, _, a5, _⟩
        · exact absurd a3 q
        · exact a5.1
      · exact absurd a2 q
/-- nobody has two seats -/
theorem opF_bit {A : mm_M} {b hour : Int} {S n : Nat} {f : Nat → Int} (hf : ∀ o, o < n → chX A b hour S o (opF f S o) (f o)) {j : Nat} (hj : j < n) (hr : f j ≠ -1) : (opF f S j).testBit (f j).toNat = true ∧ ∀ k, j + 1 + k ≤ n → (opF f S (j + 1 + k)).testBit (f j).toNat = false := by
  have key : ∀ o, o < n → f o ≠ -1 → (opF f S o).testBit (f o).toNat = true := by
    intro o ho hq
    rcases hf o ho with ⟨_, a2⟩ | ⟨_, a2⟩
    · rcases a2 with ⟨a3, _⟩ | ⟨_, _, a5, _⟩
      · exact absurd a3 hq
      · exact a5.1
    · exact absurd a2 hq
  have h0 := key j hj hr
  refine ⟨h0, fun k => ?_⟩
  induction k with
  | zero =>
    intro _
    simp only [Nat.add_zero, opF]
    rw [if_neg hr, Nat.testBit_xor, h0]
    simp
  | succ k ih =>
    intro hk
    have ih2 := ih (by omega)
    show (opF f S (j + 1 + k + 1)).testBit (f j).toNat = false
    simp only [opF]
    by_cases q : f (j + 1 + k) = -1
    · rw [if_pos q]; exact ih2
    · rw [if_neg q, Nat.testBit_xor, ih2]
      have h2 := key (j + 1 + k) (by omega) q
      have ne : (f (j + 1 + k)).toNat ≠ (f j).toNat := by
        intro e
        rw [e, ih2] at h2
        cases h2
      rw [Nat.testBit_two_pow]
      simp [ne]
theorem ch_inj {A : mm_M} {b hour : Int} {S n : Nat} {f : Nat → Int} (hf : ∀ o, o < n → chX A b hour S o (opF f S o) (f o)) {i j : Nat} (hi : i < n) (hj : j < n) (he : f i = f j) (hr : f i ≠ -1) : i = j := by
  have aux : ∀ a c, a < n → c < n → f a = f c → f a ≠ -1 → ¬ a < c := by
    intro a c ha hc e hr hlt
    have h1 := (opF_bit hf ha hr).2 (c - (a + 1)) (by omega)
    rw [show a + 1 + (c - (a + 1)) = c by omega, e] at h1
    have h2 := (opF_bit hf hc (by rw [← e]; exact hr)).1
    rw [h1] at h2
    cases h2
  have h1 := aux i j hi hj he hr
  have h2 := aux j i hj hi he.symm (by rw [← he]; exact hr)
  omega
theorem inv_crew {M N : mm_M} (hI : inv M) {b : Int} {S : Nat} {f : Nat → Int} (hb : 0 ≤ b ∧ b < M 1 5) (hS : mm_seats (M 6 b.toNat).toNat = S) (hS8 : S ≤ 8) (hfr : ∀ o : Nat, (o : Int) < M 1 0 → -1 ≤ f o ∧ f o < S) (hinj : ∀ i j : Nat, (i : Int) < M 1 0 → (j : Int) < M 1 0 → f i = f j → f i ≠ -1 → i = j) (hR : R32 N) (ne : ∀ j, j ∉ [5, 18, 19, 20, 53, 54, 70, 71] → N j = M j)
    (n5 : ∀ o : Nat, N 5 o = if (o : Int) < M 1 0 then (if f o ≠ -1 then 10 * b + f o else if (M 5 o ≠ -1 ∧ M 5 o / 10 = b) ∧ ¬ (M 5 o ≠ -1 ∧ M 5 o % 10 = 8) then -1 else M 5 o) else M 5 o)
    (n53 : ∀ o : Nat, N 53 o = if (o : Int) < M 1 0 then (if 0 ≤ f o then b else if M 53 o = b ∧ M 54 o ≠ 8 then -1 else M 53 o) else M 53 o)
    (n54 : ∀ o : Nat, N 54 o = if (o : Int) < M 1 0 then (if 0 ≤ f o then f o else M 54 o) else M 54 o) : inv N := by
  have hI0 := hI
  obtain ⟨hr, hJo, hJb, hJr, hJom, hJbm, v0, v1, v2, v3, v4, v5, v6, v7, v8, v9⟩ := hI0
  have jo := hJo; have jb := hJb; have jr := hJr; have jom := hJom; have jbm := hJbm
  obtain ⟨ho0, ho16, hO⟩ := jo
  obtain ⟨hb0, hb8, hB⟩ := jb
  obtain ⟨hr0, hr40, hRr⟩ := jr
  obtain ⟨go0, go16, gO⟩ := jom
  obtain ⟨gb0, gb8, gB⟩ := jbm
  have w1 := v1.1; have w2 := v2.1; have w3 := v3.1; have w4 := v4.1; have w5 := v5.1; have w6 := v6.1; have w7 := v7.1.1; have w7b := v7.2.1.1; have w8 := v8.1; have w8b := v8.2.2.2.1
  have u2 := v2.2 b.toNat (by omega)
  have e57 : M 57 b.toNat = M 6 b.toNat := u2.1
  have hSm : mm_seats (M 57 b.toNat).toNat = S := by rw [e57]; exact hS
  have c0 := ne 0 (by decide); have c1 := ne 1 (by decide); have c2 := ne 2 (by decide); have c3 := ne 3 (by decide); have c4 := ne 4 (by decide)
  have c50 := ne 50 (by decide); have c51 := ne 51 (by decide); have c52 := ne 52 (by decide); have c55 := ne 55 (by decide); have c57 := ne 57 (by decide)
  have d53 : ∀ o : Nat, (o : Int) < M 1 0 → (0 ≤ f o ∧ N 53 o = b ∧ N 54 o = f o ∧ N 5 o = 10 * b + f o) ∨ (f o = -1 ∧ (M 53 o = b ∧ M 54 o ≠ 8) ∧ N 53 o = -1 ∧ N 54 o = M 54 o ∧ N 5 o = -1) ∨ (f o = -1 ∧ ¬ (M 53 o = b ∧ M 54 o ≠ 8) ∧ N 53 o = M 53 o ∧ N 54 o = M 54 o ∧ N 5 o = M 5 o) := by
    intro o ho
    have h1 := n53 o; have h2 := n54 o; have h3 := n5 o
    rw [if_pos ho] at h1 h2 h3
    have h4 := hfr o ho
    have h5 := v1.2.1 o ho
    have h6 := gO o (by omega)
    by_cases q : 0 ≤ f o
    · rw [if_pos q] at h1 h2
      rw [if_pos (by omega)] at h3
      exact Or.inl ⟨q, h1, h2, h3⟩
    · rw [if_neg q] at h1 h2
      rw [if_neg (by omega)] at h3
      by_cases q2 : M 53 o = b ∧ M 54 o ≠ 8
      · rw [if_pos q2] at h1
        rw [if_pos (by omega)] at h3
        exact Or.inr (Or.inl ⟨by omega, q2, h1, h2, h3⟩)
      · rw [if_neg q2] at h1
        rw [if_neg (by omega)] at h3
        exact Or.inr (Or.inr ⟨by omega, q2, h1, h2, h3⟩)
  refine ⟨hR, ?_, ?_, ?_, ?_, ?_, ?_, ?_, ?_, ?_, ?_, ?_, ?_, ?_, ?_, ?_⟩
  · unfold JO
    rw [c1, c2, c3, c4]
    refine ⟨ho0, ho16, fun i hi => ?_⟩
    have h := hO i hi
    refine ⟨h.1, h.2.1, h.2.2.1, ?_⟩
    have h4 := hfr i hi
    rcases d53 i hi with q | q | q <;> omega
  · unfold JB; simp only [c1, ne 6 (by decide), ne 7 (by decide), ne 8 (by decide), ne 9 (by decide)]; exact hJb
  · unfold JRc; simp only [c1, ne 10 (by decide), ne 11 (by decide), ne 12 (by decide), ne 13 (by decide)]; exact hJr
  · unfold JOm
    rw [c50, c51, c52, c55]
    refine ⟨go0, go16, fun i hi => ?_⟩
    have h := gO i hi
    have h4 := hfr i (by omega)
    refine ⟨h.1, h.2.1, h.2.2.1, ?_, ?_⟩
    · rcases d53 i (by omega) with q | q | q <;> omega
    · rcases d53 i (by omega) with q | q | q <;> omega
  · unfold JBm; simp only [c50, c57, ne 58 (by decide), ne 59 (by decide), ne 60 (by decide)]; exact hJbm
  · unfold V0
    simp only [c50, c57]
    refine ⟨fun i hi => ?_, fun i j hi hj => ?_⟩
    · have h4 := hfr i (by omega)
      rcases d53 i (by omega) with ⟨q1, q2, q3, q4⟩ | ⟨q1, q2, q3, q4, q5⟩ | ⟨q1, q2, q3, q4, q5⟩
      · rw [q2, q3, hSm]; intro _; omega
      · rw [q3]; intro q; omega
      · rw [q3, q4]; exact v0.1 i hi
    · have f1 := hfr i (by omega)
      have f2 := hfr j (by omega)
      have f3 := hinj i j (by omega) (by omega)
      have z := v0.2 i j hi hj
      rcases d53 i (by omega) with ⟨q1, q2, q3, q4⟩ | ⟨q1, q2, q3, q4, q5⟩ | ⟨q1, q2, q3, q4, q5⟩
      · rcases d53 j (by omega) with ⟨p1, p2, p3, p4⟩ | ⟨p1, p2, p3, p4, p5⟩ | ⟨p1, p2, p3, p4, p5⟩
        · rw [q2, q3, p2, p3]; intro _ _ e; exact f3 e (by omega)
        · rw [q2, p3]; intro _ e; omega
        · rw [q2, q3, p3, p4]; intro _ e1 e2; omega
      · rw [q3]; intro q; omega
      · rcases d53 j (by omega) with ⟨p1, p2, p3, p4⟩ | ⟨p1, p2, p3, p4, p5⟩ | ⟨p1, p2, p3, p4, p5⟩
        · rw [q3, q4, p2, p3]; intro _ e1 e2; omega
        · rw [q3, p3]; intro q e; omega
        · rw [q3, q4, p3, p4]; exact z
  · unfold V1
    simp only [c50, c1, c51, c2, c52, c3, c55, c4]
    refine ⟨w1, fun i hi => ?_, fun i h1 h2 => ?_⟩
    · have h := v1.2.1 i hi
      refine ⟨h.1, h.2.1, h.2.2.1, ?_⟩
      rcases d53 i hi with q | q | q <;> omega
    · have h := v1.2.2 i h1 h2
      rw [n54, if_neg (by omega)]
      exact h
  · unfold V2; simp only [c50, c1, c57, ne 6 (by decide), ne 7 (by decide), ne 8 (by decide), ne 9 (by decide), ne 58 (by decide), ne 59 (by decide), ne 60 (by decide)]; exact v2
  · unfold V3; simp only [c50, ne 10 (by decide), ne 11 (by decide), ne 12 (by decide), ne 13 (by decide), ne 61 (by decide), ne 62 (by decide), ne 63 (by decide)]; exact v3
  · unfold V4; simp only [c50, c0, ne 22 (by decide), ne 23 (by decide), ne 72 (by decide), ne 73 (by decide)]; exact v4
  · unfold V5; simp only [c50, ne 24 (by decide), ne 25 (by decide), ne 74 (by decide)]; exact v5
  · unfold V6; simp only [c50, ne 26 (by decide), ne 27 (by decide), ne 28 (by decide), ne 29 (by decide), ne 30 (by decide), ne 31 (by decide), ne 32 (by decide), ne 33 (by decide), ne 75 (by decide), ne 76 (by decide), ne 77 (by decide), ne 78 (by decide)]; exact v6
  · unfold V7; simp only [c50, ne 35 (by decide), ne 36 (by decide), ne 37 (by decide), ne 38 (by decide), ne 39 (by decide), ne 40 (by decide), ne 41 (by decide), ne 42 (by decide), ne 56 (by decide), ne 79 (by decide), ne 80 (by decide), ne 81 (by decide), ne 82 (by decide), ne 83 (by decide), ne 84 (by decide), ne 85 (by decide)]; exact v7
  · unfold V8; simp only [c50, c1, ne 43 (by decide), ne 44 (by decide), ne 45 (by decide), ne 86 (by decide), ne 87 (by decide)]; exact v8
  · unfold V9; simp only [ne 47 (by decide), ne 88 (by decide)]; exact v9
