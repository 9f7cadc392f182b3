/-! sums over who sits and over the seats -/
theorem sumI_add {f g : Nat → Int} : ∀ n : Nat, sumI (fun i => f i + g i) n = sumI f n + sumI g n
  | 0 => rfl
  | n + 1 => by simp only [sumI]; rw [sumI_add n]; omega
theorem sumI_swap {C : Nat → Prop} [∀ o, Decidable (C o)] {w : Nat → Int} {f : Nat → Int} {S : Nat} : ∀ n : Nat, (∀ o, o < n → C o → 0 ≤ f o ∧ f o < S) → sumI (fun o => if C o then w o else 0) n = sumI (fun s => sumI (fun o => if C o ∧ f o = (s : Int) then w o else 0) n) S
  | 0, _ => by
    symm
    simp only [sumI]
    exact sumI_zero (fun _ _ => rfl)
  | n + 1, h => by
    have ih := sumI_swap (C := C) (w := w) (f := f) (S := S) n (fun o ho => h o (by omega))
    simp only [sumI]
    rw [sumI_add, ih]
    congr 1
    by_cases e : C n
    · have h1 := h n (by omega) e
      rw [if_pos e, sumI_one (r := (f n).toNat) (n := S) (by omega) (fun i hi hne => by rw [if_neg (by omega)]), if_pos ⟨e, by omega⟩]
    · rw [if_neg e, sumI_zero (fun i hi => by rw [if_neg (fun q => e q.1)])]
theorem sumI_more {f : Nat → Int} {n : Nat} : ∀ k : Nat, (∀ i, n ≤ i → i < n + k → f i = 0) → sumI f (n + k) = sumI f n
  | 0, _ => rfl
  | k + 1, h => by
    rw [show n + (k + 1) = (n + k) + 1 by omega]
    simp only [sumI]
    rw [sumI_more k (fun i h1 h2 => h i h1 (by omega)), h (n + k) (by omega) (by omega)]
    omega
theorem sumI_full {f : Nat → Int} : ∀ n : Nat, (∀ i, i < n → f i ≤ 1) → sumI f n ≤ n ∧ (sumI f n = n → ∀ i, i < n → f i = 1)
  | 0, _ => ⟨by simp [sumI], fun _ i hi => by omega⟩
  | n + 1, h => by
    obtain ⟨h1, h2⟩ := sumI_full n (fun i hi => h i (by omega))
    have h3 := h n (by omega)
    simp only [sumI]
    refine ⟨by omega, fun e i hi => ?_⟩
    by_cases q : i = n
    · rw [q]; omega
    · exact h2 (by omega) i (by omega)
theorem sumI_ones {f : Nat → Int} {n : Nat} (h : ∀ i, i < n → f i = 1) : sumI f n = n := by
  induction n with
  | zero => rfl
  | succ n ih => simp only [sumI]; rw [ih (fun i hi => h i (by omega)), h n (by omega)]; omega
theorem rowc_sum {C : Nat → Bool} : ∀ n : Nat, rowc C n = sumI (fun o => if C o = true then 1 else 0) n
  | 0 => rfl
  | n + 1 => by simp only [rowc, sumI]; rw [rowc_sum n]
def ocN (M : mm_M) (b : Int) (s : Nat) : Int := sumI (fun o => if M 53 o = b ∧ M 54 o = (s : Int) then 1 else 0) (M 50 10).toNat
theorem ocN_is {M : mm_M} {b : Int} (hb : 0 ≤ b) (h0 : V0 M) (s : Nat) : (ocQ M b s → ocN M b s = 1) ∧ (¬ ocQ M b s → ocN M b s = 0) := by
  constructor
  · rintro ⟨r, h1, h3⟩
    have h4 := sumI_one (f := fun o => if M 53 o = b ∧ M 54 o = (s : Int) then (1 : Int) else 0) (n := (M 50 10).toNat) (r := r) (by omega) (fun i hi hne => by
      rw [if_neg]
      intro q
      exact hne (h0.2 i r (by omega) (by omega) (by omega) (by omega) (by omega)))
    unfold ocN
    rw [h4, if_pos h3]
  · intro h
    exact sumI_zero (fun i hi => by rw [if_neg]; intro q; exact h ⟨i, by omega, q⟩)
theorem ocN_le {M : mm_M} {b : Int} (hb : 0 ≤ b) (h0 : V0 M) (s : Nat) : 0 ≤ ocN M b s ∧ ocN M b s ≤ 1 := by
  have h := ocN_is hb h0 s
  by_cases e : ocQ M b s
  · rw [h.1 e]; omega
  · rw [h.2 e]; omega
theorem in_same {M : mm_M} (hI : inv M) {b : Int} (hb : 0 ≤ b ∧ b < M 1 5) {o : Nat} (ho : (o : Int) < M 1 0) : (inX M b o = true ↔ M 53 o = b) ∧ ((M 5 o ≠ -1 ∧ M 5 o % 10 = 8) ↔ (0 ≤ M 53 o ∧ M 54 o = 8)) := by
  have hI0 := hI
  obtain ⟨hr, hJo, hJb, hJr, hJom, hJbm, v0, v1, v2, v3, v4, v5, v6, v7, v8, v9⟩ := hI0
  have jo := hJo; have jb := hJb; have jr := hJr; have jom := hJom; have jbm := hJbm
  obtain ⟨ho0, ho16, hO⟩ := jo
  obtain ⟨hb0, hb8, hB⟩ := jb
  obtain ⟨hr0, hr40, hRr⟩ := jr
  obtain ⟨go0, go16, gO⟩ := jom
  obtain ⟨gb0, gb8, gB⟩ := jbm
  have w1 := v1.1; have w2 := v2.1; have w3 := v3.1; have w4 := v4.1; have w5 := v5.1; have w6 := v6.1; have w7 := v7.1.1; have w7b := v7.2.1.1; have w8 := v8.1; have w8b := v8.2.2.2.1
  have h1 := v1.2.1 o ho
  have h2 := gO o (by omega)
  unfold inX
  rw [decide_eq_true_eq]
  omega
theorem man_same {M : mm_M} (hI : inv M) {b : Int} (hb : 0 ≤ b ∧ b < M 1 5) : (manX M b ↔ manM M b) ∧ meanX M b = meanM M b := by
  have hI0 := hI
  obtain ⟨hr, hJo, hJb, hJr, hJom, hJbm, v0, v1, v2, v3, v4, v5, v6, v7, v8, v9⟩ := hI0
  have jo := hJo; have jb := hJb; have jr := hJr; have jom := hJom; have jbm := hJbm
  obtain ⟨ho0, ho16, hO⟩ := jo
  obtain ⟨hb0, hb8, hB⟩ := jb
  obtain ⟨hr0, hr40, hRr⟩ := jr
  obtain ⟨go0, go16, gO⟩ := jom
  obtain ⟨gb0, gb8, gB⟩ := jbm
  have w1 := v1.1; have w2 := v2.1; have w3 := v3.1; have w4 := v4.1; have w5 := v5.1; have w6 := v6.1; have w7 := v7.1.1; have w7b := v7.2.1.1; have w8 := v8.1; have w8b := v8.2.2.2.1
  have hb57 := (v2.2 b.toNat (by omega)).1
  have hB1 := hB b.toNat (by omega)
  have hse := mm_seats_le (M 6 b.toNat).toNat (by omega)
  obtain ⟨S, hS⟩ : ∃ S : Nat, mm_seats (M 6 b.toNat).toNat = S := ⟨(mm_seats (M 6 b.toNat).toNat).toNat, by omega⟩
  have hslot : ∀ o : Nat, (o : Int) < M 50 10 → M 53 o = b → (M 54 o = 8 ∧ (M 6 b.toNat = 1 ∨ M 6 b.toNat = 2)) ∨ M 54 o < S := by
    intro o ho e
    have h := (v0.1 o ho (by omega)).2
    rw [e, hb57, hS] at h
    exact h
  have hn0 : ∀ s : Nat, S ≤ s → s < 8 → ¬ ocQ M b s := by
    rintro s h1 h2 ⟨o, h3, h4, h5⟩
    have := hslot o h3 h4
    omega
  have hn8 : ¬ (M 6 b.toNat = 1 ∨ M 6 b.toNat = 2) → ¬ ocQ M b 8 := by
    rintro h1 ⟨o, h3, h4, h5⟩
    have := hslot o h3 h4
    omega
  constructor
  · have hcount : rowc (inX M b) (M 1 0).toNat = sumI (ocN M b) S + ocN M b 8 := by
      have e1 : rowc (inX M b) (M 1 0).toNat = sumI (fun o => if M 53 o = b then 1 else 0) (M 1 0).toNat := by
        rw [rowc_sum]
        refine sumI_cong (fun o ho => ?_)
        have h := (in_same hI hb (o := o) (by omega)).1
        by_cases e : M 53 o = b
        · rw [if_pos e, if_pos (h.mpr e)]
        · rw [if_neg e, if_neg (fun q => e (h.mp q))]
      have e2 := sumI_swap (C := fun o => M 53 o = b) (w := fun _ => 1) (f := M 54) (S := 9) (M 1 0).toNat (fun o ho _ => by have h := gO o (by omega); omega)
      have e3 : sumI (fun s => sumI (fun o => if M 53 o = b ∧ M 54 o = (s : Int) then (1 : Int) else 0) (M 1 0).toNat) 9 = sumI (ocN M b) 9 := by
        refine sumI_cong (fun s hs => ?_)
        unfold ocN
        rw [w1]
      have e4 : sumI (ocN M b) 9 = sumI (ocN M b) 8 + ocN M b 8 := rfl
      have e5 := sumI_more (f := ocN M b) (n := S) (8 - S) (fun i h1 h2 => (ocN_is hb.1 v0 i).2 (hn0 i h1 (by omega)))
      rw [show S + (8 - S) = 8 by omega] at e5
      rw [e1, e2, e3, e4, e5]
    unfold manX manM
    rw [hcount, hb57, hS]
    have hle := sumI_full (f := ocN M b) S (fun i _ => (ocN_le hb.1 v0 i).2)
    have h8 := ocN_le hb.1 v0 8
    constructor
    · intro h
      by_cases hc : M 6 b.toNat = 1 ∨ M 6 b.toNat = 2
      · rw [if_pos hc] at h
        refine ⟨fun s hs => ?_, fun _ => ?_⟩
        · have h1 := hle.2 (by omega) s (by omega)
          apply Classical.byContradiction
          intro q
          have := (ocN_is hb.1 v0 s).2 q
          omega
        · apply Classical.byContradiction
          intro q
          have := (ocN_is hb.1 v0 8).2 q
          omega
      · rw [if_neg hc] at h
        have h9 := (ocN_is hb.1 v0 8).2 (hn8 hc)
        refine ⟨fun s hs => ?_, fun q => absurd q hc⟩
        have h1 := hle.2 (by omega) s (by omega)
        apply Classical.byContradiction
        intro q
        have := (ocN_is hb.1 v0 s).2 q
        omega
    · rintro ⟨h1, h2⟩
      rw [sumI_ones (fun i hi => (ocN_is hb.1 v0 i).1 (h1 i (by omega)))]
      by_cases hc : M 6 b.toNat = 1 ∨ M 6 b.toNat = 2
      · rw [if_pos hc, (ocN_is hb.1 v0 8).1 (h2 hc)]
      · rw [if_neg hc, (ocN_is hb.1 v0 8).2 (hn8 hc)]
  · have e1 : sumI (wgX M b) (M 1 0).toNat = sumI (fun o => if M 53 o = b ∧ M 54 o ≠ 8 then M 52 o else 0) (M 1 0).toNat := by
      refine sumI_cong (fun o ho => ?_)
      have h := in_same hI hb (o := o) (by omega)
      have h3 := (v1.2.1 o (by omega)).2.1
      unfold inX at h
      rw [decide_eq_true_eq] at h
      unfold wgX
      by_cases e : M 53 o = b ∧ M 54 o ≠ 8
      · rw [if_pos e, if_pos (by omega), h3]
      · rw [if_neg e, if_neg (by omega)]
    have e2 := sumI_swap (C := fun o => M 53 o = b ∧ M 54 o ≠ 8) (w := M 52) (f := M 54) (S := 8) (M 1 0).toNat (fun o ho _ => by have h := gO o (by omega); omega)
    have e3 : sumI (fun s => sumI (fun o => if (M 53 o = b ∧ M 54 o ≠ 8) ∧ M 54 o = (s : Int) then M 52 o else 0) (M 1 0).toNat) 8 = sumI (siW M b) 8 := by
      refine sumI_cong (fun s hs => ?_)
      unfold siW
      rw [w1]
      refine sumI_cong (fun o ho => ?_)
      by_cases e : M 53 o = b ∧ M 54 o = (s : Int)
      · rw [if_pos e, if_pos (by omega)]
      · rw [if_neg e, if_neg (by omega)]
    have e5 := sumI_more (f := siW M b) (n := S) (8 - S) (fun i h1 h2 => sumI_zero (fun o ho => by rw [if_neg]; intro q; exact hn0 i h1 (by omega) ⟨o, by omega, q⟩))
    rw [show S + (8 - S) = 8 by omega] at e5
    unfold meanX meanM
    rw [e1, e2, e3, e5, hb57, hS, Int.toNat_natCast]
theorem ok_same {M : mm_M} (hI : inv M) {b hour : Int} (hb : 0 ≤ b ∧ b < M 1 5) : okX M b hour ↔ okM M b hour := by
  have hI0 := hI
  obtain ⟨hr, hJo, hJb, hJr, hJom, hJbm, v0, v1, v2, v3, v4, v5, v6, v7, v8, v9⟩ := hI0
  have jo := hJo; have jb := hJb; have jr := hJr; have jom := hJom; have jbm := hJbm
  obtain ⟨ho0, ho16, hO⟩ := jo
  obtain ⟨hb0, hb8, hB⟩ := jb
  obtain ⟨hr0, hr40, hRr⟩ := jr
  obtain ⟨go0, go16, gO⟩ := jom
  obtain ⟨gb0, gb8, gB⟩ := jbm
  have w1 := v1.1; have w2 := v2.1; have w3 := v3.1; have w4 := v4.1; have w5 := v5.1; have w6 := v6.1; have w7 := v7.1.1; have w7b := v7.2.1.1; have w8 := v8.1; have w8b := v8.2.2.2.1
  unfold okX okM
  rw [w1]
  refine forall_congr' fun o => ?_
  constructor
  · intro h ho e
    have h1 := v1.2.1 o ho
    have h2 := h ho ((in_same hI hb ho).1.mpr e)
    omega
  · intro h ho e
    have h1 := v1.2.1 o ho
    have h2 := h ho ((in_same hI hb ho).1.mp e)
    omega
theorem broken_same {M : mm_M} (hI : inv M) {b : Int} (hb : 0 ≤ b ∧ b < M 1 5) : brokenQ M b ↔ M 56 b.toNat = 1 := by
  have hI0 := hI
  obtain ⟨hr, hJo, hJb, hJr, hJom, hJbm, v0, v1, v2, v3, v4, v5, v6, v7, v8, v9⟩ := hI0
  have jo := hJo; have jb := hJb; have jr := hJr; have jom := hJom; have jbm := hJbm
  obtain ⟨ho0, ho16, hO⟩ := jo
  obtain ⟨hb0, hb8, hB⟩ := jb
  obtain ⟨hr0, hr40, hRr⟩ := jr
  obtain ⟨go0, go16, gO⟩ := jom
  obtain ⟨gb0, gb8, gB⟩ := jbm
  have w1 := v1.1; have w2 := v2.1; have w3 := v3.1; have w4 := v4.1; have w5 := v5.1; have w6 := v6.1; have w7 := v7.1.1; have w7b := v7.2.1.1; have w8 := v8.1; have w8b := v8.2.2.2.1
  obtain ⟨h1, h2⟩ := v7.2.2 b.toNat (by omega)
  have e : ((b.toNat : Nat) : Int) = b := by omega
  rw [e] at h2
  unfold brokenQ
  constructor
  · rintro ⟨f, q1, q2, q3⟩
    exact (h2 f q1).mpr ⟨q2, q3⟩
  · intro q
    obtain ⟨f, hf⟩ := lastP_ex (P := fun i => M 40 i = b) (M 35 5).toNat
    have := (h2 f hf).mp q
    exact ⟨f, hf, this.1, this.2⟩
def WhX (M : mm_M) (b hour r : Int) : Prop := WhyQ (brokenQ M b) (manX M b) (M 7 b.toNat ≤ meanX M b ∧ meanX M b ≤ M 8 b.toNat) (okX M b hour) (fun q => lastP (rulX M (nowX M b hour) (M 6 b.toNat)) q (M 26 0).toNat) (M 27) r
def WhM (M : mm_M) (b hour r : Int) : Prop := WhyQ (M 56 b.toNat = 1) (manM M b) (M 58 b.toNat ≤ meanM M b ∧ meanM M b ≤ M 59 b.toNat) (okM M b hour) (fun q => lastP (rulM M (nowM M b hour) (M 57 b.toNat)) q (M 50 30).toNat) (M 75) r
theorem why_same {M : mm_M} (hI : inv M) {b hour r s : Int} (hb : 0 ≤ b ∧ b < M 1 5) (h : WhX M b hour r) (h2 : WhM M b hour s) : r = s := by
  have hI0 := hI
  obtain ⟨hr, hJo, hJb, hJr, hJom, hJbm, v0, v1, v2, v3, v4, v5, v6, v7, v8, v9⟩ := hI0
  have jo := hJo; have jb := hJb; have jr := hJr; have jom := hJom; have jbm := hJbm
  obtain ⟨ho0, ho16, hO⟩ := jo
  obtain ⟨hb0, hb8, hB⟩ := jb
  obtain ⟨hr0, hr40, hRr⟩ := jr
  obtain ⟨go0, go16, gO⟩ := jom
  obtain ⟨gb0, gb8, gB⟩ := jbm
  have w1 := v1.1; have w2 := v2.1; have w3 := v3.1; have w4 := v4.1; have w5 := v5.1; have w6 := v6.1; have w7 := v7.1.1; have w7b := v7.2.1.1; have w8 := v8.1; have w8b := v8.2.2.2.1
  have hm := man_same hI hb
  have hb2 := v2.2 b.toNat (by omega)
  unfold WhX at h
  unfold WhM at h2
  refine WhyQ_one h h2 (broken_same hI hb) hm.1 (fun _ => by rw [hm.2, hb2.2.1, hb2.2.2.1]) (ok_same hI hb) (fun q h1 t h3 => ?_)
  rw [w6] at h3
  have h5 := lastP_cong h1 (rul_same hI hb)
  have h4 := lastP_one h5 h3
  have h6 := lastP_rng h1
  refine ⟨h4, fun hq => ?_⟩
  rw [(v6.2.2.2 q.toNat (by omega)).1]
theorem whyM_frm {M N : mm_M} {b hour r : Int} (hN : ∀ i, i ≠ 34 → N i = M i) (h : WhM N b hour r) : WhM M b hour r := by
  have h50 := hN 50 (by decide); have h51 := hN 51 (by decide); have h52 := hN 52 (by decide); have h53 := hN 53 (by decide); have h54 := hN 54 (by decide); have h55 := hN 55 (by decide); have h56 := hN 56 (by decide); have h57 := hN 57 (by decide); have h58 := hN 58 (by decide); have h59 := hN 59 (by decide); have h75 := hN 75 (by decide)
  have ho : ocQ N b = ocQ M b := by funext s; unfold ocQ; rw [h50, h53, h54]
  have hs : siW N b = siW M b := by funext s; unfold siW; rw [h50, h53, h54, h52]
  have hm : manM N b = manM M b := by unfold manM; rw [ho, h57]
  have he : meanM N b = meanM M b := by unfold meanM; rw [hs, h57]
  have hk : okM N b hour = okM M b hour := by unfold okM; rw [h50, h53, h55, h51]
  unfold WhM at *
  rw [hm, he, hk, askM_frm hN, h56, h58, h59, h75, h50] at h
  exact h
