/-! pairs whose memory is known by properties alone -/
def Pair2 (kx km : mm_Mi) (va : Int → mm_V) (as : List mm_V) (M : mm_M) : Prop := ∃ PX : Int → mm_M → Prop, (∀ (X : Nat × (Nat → Int)) (d : Nat) (Po : mm_Po), (∀ a MX, PX a MX → Po (some (va a)) Lam MX) → mm_E X (d + 12) 0 0 kx (v_r 0 :: as) Po Lam M) ∧ ∀ a MX, PX a MX → (va a = v_i a → mm_r32 a) ∧ (va a = v_l a → mm_r64 a) ∧ ∀ (X : Nat × (Nat → Int)) (d : Nat) (Po : mm_Po), (∀ MM, inv MM → Po (some (va a)) Lam MM) → mm_E X (d + 12) 0 0 km (v_r 50 :: as) Po Lam MX
theorem Pair.to2 {kx km : mm_Mi} {va : Int → mm_V} {as : List mm_V} {M : mm_M} (h : Pair kx km va as M) : Pair2 kx km va as M := by
  obtain ⟨a, MX, MM, h1, h2, h3, h4, h5⟩ := h
  refine ⟨fun b N => b = a ∧ N = MX, fun X d Po k => h1 X d Po (k a MX ⟨rfl, rfl⟩), fun b N hb => ?_⟩
  obtain ⟨rfl, rfl⟩ := hb
  exact ⟨h3, h4, fun X d Po k => h2 X d Po (k MM h5)⟩
theorem Pair2_i {kx km : mm_Mi} {as : List mm_V} {M : mm_M} (PX : Int → mm_M → Prop) (h1 : ∀ (X : Nat × (Nat → Int)) (d : Nat) (Po : mm_Po), (∀ a MX, PX a MX → Po (some (v_i a)) Lam MX) → mm_E X (d + 12) 0 0 kx (v_r 0 :: as) Po Lam M) (h2 : ∀ a MX, PX a MX → mm_r32 a ∧ ∀ (X : Nat × (Nat → Int)) (d : Nat) (Po : mm_Po), (∀ MM, inv MM → Po (some (v_i a)) Lam MM) → mm_E X (d + 12) 0 0 km (v_r 50 :: as) Po Lam MX) : Pair2 kx km v_i as M :=
  ⟨PX, h1, fun a MX h => ⟨fun _ => (h2 a MX h).1, fun e => absurd e (v_li a), (h2 a MX h).2⟩⟩
theorem Pair2_l {kx km : mm_Mi} {as : List mm_V} {M : mm_M} (PX : Int → mm_M → Prop) (h1 : ∀ (X : Nat × (Nat → Int)) (d : Nat) (Po : mm_Po), (∀ a MX, PX a MX → Po (some (v_l a)) Lam MX) → mm_E X (d + 12) 0 0 kx (v_r 0 :: as) Po Lam M) (h2 : ∀ a MX, PX a MX → mm_r64 a ∧ ∀ (X : Nat × (Nat → Int)) (d : Nat) (Po : mm_Po), (∀ MM, inv MM → Po (some (v_l a)) Lam MM) → mm_E X (d + 12) 0 0 km (v_r 50 :: as) Po Lam MX) : Pair2 kx km v_l as M :=
  ⟨PX, h1, fun a MX h => ⟨fun e => absurd e (v_il a), fun _ => (h2 a MX h).1, (h2 a MX h).2⟩⟩
/-! groups -/
def RQ (f s : Nat → Int) (n : Nat) (T : Nat → Prop) : Prop := ∀ r, r < n → (T (f r).toNat ↔ T (s r).toNat)
def grpQ (f s : Nat → Int) (n o m : Nat) : Prop := m < 65536 ∧ m.testBit o = true ∧ RQ f s n (fun x => m.testBit x = true) ∧ ∀ T : Nat → Prop, RQ f s n T → T o → ∀ x, m.testBit x = true → T x
def GS (f s : Nat → Int) (n o m0 m j : Nat) : Prop := m < 65536 ∧ m.testBit o = true ∧ (∀ T : Nat → Prop, RQ f s n T → T o → ∀ x, m.testBit x = true → T x) ∧ (∀ x, m0.testBit x = true → m.testBit x = true) ∧ (m = m0 → ∀ r, r < j → (m.testBit (f r).toNat = true ↔ m.testBit (s r).toNat = true))
theorem gb_two (m x y i : Nat) : (m ||| (2 ^ x ||| 2 ^ y)).testBit i = true ↔ (m.testBit i = true ∨ i = x ∨ i = y) := by
  rw [← Nat.or_assoc, fb_bit_set, fb_bit_set]
  simp [or_assoc]
theorem gb_both {a b : Int} (h1 : 0 ≤ a ∧ a < 16) (h2 : 0 ≤ b ∧ b < 16) : fx_or (fx_shl 1 a) (fx_shl 1 b) = ((2 ^ a.toNat ||| 2 ^ b.toNat : Nat) : Int) := by
  obtain ⟨x, rfl⟩ : ∃ x : Nat, a = x := ⟨a.toNat, by omega⟩
  obtain ⟨y, rfl⟩ : ∃ y : Nat, b = y := ⟨b.toNat, by omega⟩
  rw [fx_shl_1 (by omega), fx_shl_1 (by omega), Int.toNat_natCast, Int.toNat_natCast, fx_or_n]
  · exact Nat.lt_of_lt_of_le (Nat.pow_lt_pow_right (by decide) (show x < 16 by omega)) (by decide)
  · exact Nat.lt_of_lt_of_le (Nat.pow_lt_pow_right (by decide) (show y < 16 by omega)) (by decide)
theorem gb_lt {m x y : Nat} (hm : m < 65536) (hx : x < 16) (hy : y < 16) : m ||| (2 ^ x ||| 2 ^ y) < 65536 :=
  Nat.or_lt_two_pow (n := 16) hm (Nat.or_lt_two_pow (n := 16) (Nat.pow_lt_pow_right (by decide) hx) (Nat.pow_lt_pow_right (by decide) hy))
theorem gb_lt2 {x y : Nat} (hx : x < 16) (hy : y < 16) : 2 ^ x ||| 2 ^ y < 65536 := Nat.or_lt_two_pow (n := 16) (Nat.pow_lt_pow_right (by decide) hx) (Nat.pow_lt_pow_right (by decide) hy)
theorem gb_touch {m x y : Nat} (hm : m < 65536) : fx_and (m : Int) ((2 ^ x ||| 2 ^ y : Nat) : Int) = 0 ↔ (m.testBit x = false ∧ m.testBit y = false) := by
  rw [fx_and_n (by omega)]
  constructor
  · intro h
    have h0 : m &&& (2 ^ x ||| 2 ^ y) = 0 := by omega
    have hb : ∀ i, (m.testBit i && (2 ^ x ||| 2 ^ y).testBit i) = false := fun i => by rw [← Nat.testBit_and, h0, Nat.zero_testBit]
    have hx : (2 ^ x ||| 2 ^ y).testBit x = true := by rw [Nat.testBit_or]; simp
    have hy : (2 ^ x ||| 2 ^ y).testBit y = true := by rw [fb_bit_set]; simp
    have h1 := hb x
    have h2 := hb y
    rw [hx, Bool.and_true] at h1
    rw [hy, Bool.and_true] at h2
    exact ⟨h1, h2⟩
  · rintro ⟨h1, h2⟩
    have : m &&& (2 ^ x ||| 2 ^ y) = 0 := by
      apply Nat.eq_of_testBit_eq
      intro i
      rw [Nat.testBit_and, Nat.zero_testBit]
      by_cases e1 : i = x
      · subst e1; rw [h1]; rfl
      · by_cases e2 : i = y
        · subst e2; rw [h2]; rfl
        · have : (2 ^ x ||| 2 ^ y).testBit i = false := by
            have h := gb_two 0 x y i
            rw [Nat.zero_or, Nat.zero_testBit] at h
            rw [← Bool.not_eq_true]
            intro q
            rcases h.mp q with q | q | q
            · cases q
            · exact e1 q
            · exact e2 q
          rw [this, Bool.and_false]
    rw [this]; rfl
theorem GS_no {f s : Nat → Int} {n o m0 m j : Nat} (h : GS f s n o m0 m j) (h1 : m.testBit (f j).toNat = false) (h2 : m.testBit (s j).toNat = false) : GS f s n o m0 m (j + 1) := by
  obtain ⟨a1, a2, a3, a4, a5⟩ := h
  refine ⟨a1, a2, a3, a4, fun e r hr => ?_⟩
  by_cases q : r = j
  · subst q; rw [h1, h2]
  · exact a5 e r (by omega)
theorem GS_yes {f s : Nat → Int} {n o m0 m j : Nat} (h : GS f s n o m0 m j) (hj : j < n) (hf : (f j).toNat < 16) (hs : (s j).toNat < 16) (h1 : ¬ (m.testBit (f j).toNat = false ∧ m.testBit (s j).toNat = false)) : GS f s n o m0 (m ||| (2 ^ (f j).toNat ||| 2 ^ (s j).toNat)) (j + 1) := by
  obtain ⟨a1, a2, a3, a4, a5⟩ := h
  refine ⟨gb_lt a1 hf hs, by rw [gb_two]; exact Or.inl a2, fun T hT ho x hx => ?_, fun x hx => by rw [gb_two]; exact Or.inl (a4 x hx), fun e r hr => ?_⟩
  · have hA := a3 T hT ho
    have hB : T (f j).toNat ∧ T (s j).toNat := by
      have hi := hT j hj
      by_cases q : m.testBit (f j).toNat = true
      · exact ⟨hA _ q, hi.mp (hA _ q)⟩
      · have q2 : m.testBit (s j).toNat = true := by
          by_cases q2 : m.testBit (s j).toNat = true
          · exact q2
          · exact absurd ⟨by simpa using q, by simpa using q2⟩ h1
        exact ⟨hi.mpr (hA _ q2), hA _ q2⟩
    rcases (gb_two _ _ _ _).mp hx with q | q | q
    · exact hA x q
    · rw [q]; exact hB.1
    · rw [q]; exact hB.2
  · have e2 : m = m0 := by
      apply Nat.eq_of_testBit_eq
      intro i
      rw [Bool.eq_iff_iff]
      refine ⟨fun q => ?_, a4 i⟩
      rw [← e, gb_two]; exact Or.inl q
    have e3 : m ||| (2 ^ (f j).toNat ||| 2 ^ (s j).toNat) = m := by rw [e, e2]
    by_cases q : r = j
    · subst q
      constructor <;> intro
      · rw [gb_two]; exact Or.inr (Or.inr rfl)
      · rw [gb_two]; exact Or.inr (Or.inl rfl)
    · rw [e3]; exact a5 e2 r (by omega)
theorem rowc_le {C D : Nat → Bool} : ∀ n : Nat, (∀ i, i < n → C i = true → D i = true) → rowc C n ≤ rowc D n
  | 0, _ => by simp [rowc]
  | n + 1, h => by
    have ih := rowc_le n (fun i hi => h i (by omega))
    have h1 := h n (by omega)
    simp only [rowc]
    by_cases e : C n = true
    · rw [e, h1 e]; simpa using ih
    · rw [show C n = false by simpa using e]
      by_cases e2 : D n = true
      · rw [e2]; simp; omega
      · rw [show D n = false by simpa using e2]; simpa using ih
theorem rowcs_lt {C D : Nat → Bool} : ∀ n : Nat, (∀ i, i < n → C i = true → D i = true) → (∃ i, i < n ∧ C i = false ∧ D i = true) → rowc C n + 1 ≤ rowc D n
  | 0, _, h => by obtain ⟨i, h1, _⟩ := h; omega
  | n + 1, h, hx => by
    obtain ⟨i, hi, h1, h2⟩ := hx
    by_cases e : i = n
    · subst e
      have ih := rowc_le i (fun k hk => h k (by omega))
      simp only [rowc]
      rw [h1, h2]; simp; omega
    · have ih := rowcs_lt n (fun k hk => h k (by omega)) ⟨i, by omega, h1, h2⟩
      have h1 := h n (by omega)
      simp only [rowc]
      by_cases e : C n = true
      · rw [e, h1 e]; simp; omega
      · rw [show C n = false by simpa using e]
        by_cases e2 : D n = true
        · rw [e2]; simp; omega
        · rw [show D n = false by simpa using e2]; simpa using ih
def cntb (m : Nat) : Int := rowc (fun i => m.testBit i) 16
theorem cntb_r (m : Nat) : 0 ≤ cntb m ∧ cntb m ≤ 16 := by
  have := rowc_r (fun i => m.testBit i) 16
  unfold cntb
  omega
theorem cntb_lt {m0 m : Nat} (hm : m < 65536) (h : ∀ x, m0.testBit x = true → m.testBit x = true) (hn : m ≠ m0) : cntb m0 + 1 ≤ cntb m := by
  refine rowcs_lt 16 (fun i _ => h i) ?_
  apply Classical.byContradiction
  intro hx
  apply hn
  apply Nat.eq_of_testBit_eq
  intro i
  by_cases e : i < 16
  · rw [Bool.eq_iff_iff]
    refine ⟨fun q => ?_, h i⟩
    apply Classical.byContradiction
    intro q2
    exact hx ⟨i, e, by simpa using q2, q⟩
  · have h1 : m.testBit i = false := Nat.testBit_lt_two_pow (Nat.lt_of_lt_of_le hm (Nat.pow_le_pow_right (n := 2) (i := 16) (by decide) (by omega)))
    rw [h1]
    symm
    rw [← Bool.not_eq_true]
    intro q
    rw [h i q] at h1
    cases h1
theorem cntb_1 {o : Nat} (ho : o < 16) : 1 ≤ cntb (2 ^ o) := by
  have h := rowcs_lt (C := fun _ => false) (D := fun i => (2 ^ o).testBit i) 16 (fun i _ h => by cases h) ⟨o, ho, rfl, by simp⟩
  have h2 := rowc_r (fun _ => false) 16
  unfold cntb
  omega
theorem gb_sub {m0 m : Nat} (h : ∀ x, m0.testBit x = true → m.testBit x = true) : True := trivial
/-- the two ways to say what a group is -/
def gQ (f s g : Nat → Int) (n : Nat) : Prop := (∀ x, x < 16 → 0 ≤ g x ∧ g x ≤ x) ∧ (∀ T : Nat → Prop, RQ f s n T → ∀ x, x < 16 → (T x ↔ T (g x).toNat))
theorem gQ_0 (f s : Nat → Int) (n : Nat) {g : Nat → Int} (h : ∀ x : Nat, x < 16 → g x = x) : gQ f s g n := ⟨fun x hx => by rw [h x hx]; omega, fun T hT x hx => by rw [h x hx]; simp⟩
theorem grp_all {f s g : Nat → Int} {n o m : Nat} (ho : o < 16) (hm : grpQ f s n o m) (hg : gQ f s g n) (he : ∀ r, r < n → g (f r).toNat = g (s r).toNat) : (∀ x, x < 16 → (m.testBit x = true ↔ g x = g o)) ∧ m.testBit (g o).toNat = true ∧ ∀ x : Nat, (x : Int) < g o → m.testBit x = false := by
  obtain ⟨m1, m2, m3, m4⟩ := hm
  have hT : ∀ x, m.testBit x = true → g x = g o := m4 (fun x => g x = g o) (fun r hr => by dsimp only; rw [he r hr]) rfl
  have hS : m.testBit (g o).toNat = true := (hg.2 _ m3 o ho).mp m2
  refine ⟨fun x hx => ⟨hT x, fun e => ?_⟩, hS, fun x hx => ?_⟩
  · rw [hg.2 _ m3 x hx, e]; exact hS
  · rw [← Bool.not_eq_true]
    intro q
    have h1 := hg.1 o ho
    have h2 := hg.1 x (by omega)
    have h3 := hT x q
    omega
theorem L_grpI {X : Nat × (Nat → Int)} {d : Nat} {Po : mm_Po} {M : mm_M} (o : Int) (ho : 0 ≤ o ∧ o < 16) (hJo : JO M) (hJr : JRc M) (hr : R32 M) (R : Int) (m0 : Nat) (K : ∀ m : Nat, GS (M 11) (M 12) (M 10 0).toNat o.toNat m0 m (M 10 0).toNat → mm_G X d 0 0 mi_X4_groupOf Po 66 [(0, v_r 10), (1, v_i o), (2, v_i (m : Int)), (3, v_i R), (4, v_i (m0 : Int))] [] Lam M 0 0) (m j : Nat) (hm : GS (M 11) (M 12) (M 10 0).toNat o.toNat m0 m j) (hj : (j : Int) ≤ M 10 0) : mm_G X d 0 0 mi_X4_groupOf Po 18 [(0, v_r 10), (1, v_i o), (2, v_i (m : Int)), (3, v_i R), (4, v_i (m0 : Int)), (5, v_i (j : Int))] [] Lam M 0 0 := by
  have hJo2 := hJo
  obtain ⟨ho0, ho16, hO⟩ := hJo2
  have hJr2 := hJr
  obtain ⟨hr0, hr40, hRr⟩ := hJr2
  have hR1 := hRr j
  refine mm_iload (mm_dc od_X4_groupOf_0 13 rfl) rfl ?_
  refine mm_aload_n (mm_dc od_X4_groupOf_0 14 rfl) rfl ?_
  refine mm_getI (ci := 4) (k := 0) (mm_dc od_X4_groupOf_0 15 rfl) rfl in_X4 (by decide) wd_1_84 rfl rfl ?_
  refine mm_icmp_ge 66 (mm_dc od_X4_groupOf_0 16 rfl) (by omega) (by first | assumption | omega | exact hr _ _ rfl | exact mm_ti _ | exact mm_r3264 (hr _ _ rfl)) (by first | assumption | omega | exact hr _ _ rfl | exact mm_ti _ | exact mm_r3264 (hr _ _ rfl)) (fun c1 => ?_) (fun c1 => ?_)
  · have e : j = (M 10 0).toNat := by omega
    exact mm_less [0, 1, 2, 3, 4] rfl (K m (e ▸ hm))
  · refine mm_iconst (mm_dc od_X4_groupOf_0 17 rfl) ?_
    refine mm_aload_n (mm_dc od_X4_groupOf_0 18 rfl) rfl ?_
    refine mm_getR (ci := 4) (k := 1) (mm_dc od_X4_groupOf_0 19 rfl) rfl in_X4 (by decide) wd_1_86 rfl rfl ?_
    refine mm_iload (mm_dc od_X4_groupOf_0 20 rfl) rfl ?_
    refine mm_iald (mm_dc od_X4_groupOf_0 21 rfl) rfl (by first | assumption | omega | exact hr _ _ rfl | exact mm_ti _ | exact mm_r3264 (hr _ _ rfl)) (by first | assumption | omega | exact hr _ _ rfl | exact mm_ti _ | exact mm_r3264 (hr _ _ rfl)) (by decide) ?_
    refine mm_cst (st' := [v_i (M 11 j), v_i 1]) rfl ?_
    refine mm_ishl (mm_dc od_X4_groupOf_0 22 rfl) ?_
    refine mm_iconst (mm_dc od_X4_groupOf_0 23 rfl) ?_
    refine mm_aload_n (mm_dc od_X4_groupOf_0 24 rfl) rfl ?_
    refine mm_getR (ci := 4) (k := 2) (mm_dc od_X4_groupOf_0 25 rfl) rfl in_X4 (by decide) wd_1_87 rfl rfl ?_
    refine mm_iload (mm_dc od_X4_groupOf_0 26 rfl) rfl ?_
    refine mm_iald (mm_dc od_X4_groupOf_0 27 rfl) rfl (by first | assumption | omega | exact hr _ _ rfl | exact mm_ti _ | exact mm_r3264 (hr _ _ rfl)) (by first | assumption | omega | exact hr _ _ rfl | exact mm_ti _ | exact mm_r3264 (hr _ _ rfl)) (by decide) ?_
    refine mm_cst (st' := [v_i (M 12 j), v_i 1, v_i (fx_shl 1 (M 11 j))]) rfl ?_
    refine mm_ishl (mm_dc od_X4_groupOf_0 28 rfl) ?_
    refine mm_ior (mm_dc od_X4_groupOf_0 29 rfl) ?_
    refine mm_istore (L' := [(0, v_r 10), (1, v_i o), (2, v_i (m : Int)), (3, v_i R), (4, v_i (m0 : Int)), (5, v_i (j : Int)), (6, v_i (fx_or (fx_shl 1 (M 11 j)) (fx_shl 1 (M 12 j))))]) (mm_dc od_X4_groupOf_0 30 rfl) (by decide) rfl ?_
    refine mm_iload_n (mm_dc od_X4_groupOf_0 31 rfl) rfl ?_
    refine mm_iload (mm_dc od_X4_groupOf_0 32 rfl) rfl ?_
    refine mm_iand (mm_dc od_X4_groupOf_0 33 rfl) ?_
    refine mm_if_eq 60 (mm_dc od_X4_groupOf_0 34 rfl) (by omega) (by first | assumption | omega | exact hr _ _ rfl | exact mm_ti _ | exact mm_r3264 (hr _ _ rfl)) (fun c2 => ?_) (fun c2 => ?_)
    · refine mm_iinc (L' := [(0, v_r 10), (1, v_i o), (2, v_i (m : Int)), (3, v_i R), (4, v_i (m0 : Int)), (5, v_i ((j : Int) + 1)), (6, v_i (fx_or (fx_shl 1 (M 11 j)) (fx_shl 1 (M 12 j))))]) (mm_dc od_X4_groupOf_0 39 rfl) rfl (by decide) rfl ?_
      refine mm_goto 18 (mm_dc od_X4_groupOf_0 40 rfl) (by omega) ?_
      have hR1 := hRr j (by omega)
      have hbo := gb_both (a := M 11 j) (b := M 12 j) (by omega) (by omega)
      rw [hbo] at c2
      have htc := gb_touch (x := (M 11 j).toNat) (y := (M 12 j).toNat) hm.1
      rw [htc] at c2
      exact mm_less [0, 1, 2, 3, 4, 5] rfl (L_grpI o ho hJo hJr hr R m0 K m (j + 1) (GS_no hm c2.1 c2.2) (by omega))
    · refine mm_iload_n (mm_dc od_X4_groupOf_0 35 rfl) rfl ?_
      refine mm_iload (mm_dc od_X4_groupOf_0 36 rfl) rfl ?_
      refine mm_ior (mm_dc od_X4_groupOf_0 37 rfl) ?_
      refine mm_istore_n (L' := [(0, v_r 10), (1, v_i o), (2, v_i (fx_or (m : Int) (fx_or (fx_shl 1 (M 11 j)) (fx_shl 1 (M 12 j))))), (3, v_i R), (4, v_i (m0 : Int)), (5, v_i (j : Int)), (6, v_i (fx_or (fx_shl 1 (M 11 j)) (fx_shl 1 (M 12 j))))]) (mm_dc od_X4_groupOf_0 38 rfl) (by decide) rfl ?_
      refine mm_iinc (L' := [(0, v_r 10), (1, v_i o), (2, v_i (fx_or (m : Int) (fx_or (fx_shl 1 (M 11 j)) (fx_shl 1 (M 12 j))))), (3, v_i R), (4, v_i (m0 : Int)), (5, v_i ((j : Int) + 1)), (6, v_i (fx_or (fx_shl 1 (M 11 j)) (fx_shl 1 (M 12 j))))]) (mm_dc od_X4_groupOf_0 39 rfl) rfl (by decide) rfl ?_
      refine mm_goto 18 (mm_dc od_X4_groupOf_0 40 rfl) (by omega) ?_
      have hR1 := hRr j (by omega)
      have hbo := gb_both (a := M 11 j) (b := M 12 j) (by omega) (by omega)
      rw [hbo] at c2
      have htc := gb_touch (x := (M 11 j).toNat) (y := (M 12 j).toNat) hm.1
      rw [htc] at c2
      refine mm_less (L' := [(0, v_r 10), (1, v_i o), (2, v_i (fx_or (m : Int) (fx_or (fx_shl 1 (M 11 j)) (fx_shl 1 (M 12 j))))), (3, v_i R), (4, v_i (m0 : Int)), (5, v_i ((j : Int) + 1))]) [0, 1, 2, 3, 4, 5] rfl ?_
      rw [hbo, fx_or_n (by have := hm.1; omega) (Nat.lt_of_lt_of_le (gb_lt2 (by omega) (by omega)) (by decide))]
      exact L_grpI o ho hJo hJr hr R m0 K (m ||| (2 ^ (M 11 j).toNat ||| 2 ^ (M 12 j).toNat)) (j + 1) (GS_yes hm (by omega) (by omega) (by omega) c2) (by omega)
termination_by (M 10 0).toNat - j
decreasing_by all_goals (first | omega | (simp_wf; omega))
theorem gb_leq {a b : Nat} (h : ∀ x, a.testBit x = true → b.testBit x = true) : a ≤ b := by
  have e : a ||| b = b := by
    apply Nat.eq_of_testBit_eq
    intro i
    rw [Nat.testBit_or]
    by_cases q : a.testBit i = true
    · rw [q, h i q]; rfl
    · rw [show a.testBit i = false by simpa using q]; rfl
  rw [← e]
  exact Nat.left_le_or
theorem L_grpT {X : Nat × (Nat → Int)} {d : Nat} {Po : mm_Po} {M : mm_M} (o : Int) (ho : 0 ≤ o ∧ o < 16) (hJo : JO M) (hJr : JRc M) (hr : R32 M) (k : ∀ r : Int, (∃ m : Nat, r = m ∧ grpQ (M 11) (M 12) (M 10 0).toNat o.toNat m) → Po (some (v_i r)) Lam M) (R m m2 : Nat) (hm : GS (M 11) (M 12) (M 10 0).toNat o.toNat m m2 (M 10 0).toNat) (K : m2 ≠ m → mm_G X d 0 0 mi_X4_groupOf Po 6 [(0, v_r 10), (1, v_i o), (2, v_i (m2 : Int)), (3, v_i (((R + 1 : Nat) : Int)))] [] Lam M 0 0) : mm_G X d 0 0 mi_X4_groupOf Po 66 [(0, v_r 10), (1, v_i o), (2, v_i (m2 : Int)), (3, v_i (R : Int)), (4, v_i (m : Int))] [] Lam M 0 0 := by
  have hJo2 := hJo
  obtain ⟨ho0, ho16, hO⟩ := hJo2
  have hJr2 := hJr
  obtain ⟨hr0, hr40, hRr⟩ := hJr2
  have hcr := hm.1
  have hcr2 : m ≤ m2 := gb_leq hm.2.2.2.1
  refine mm_iload_n (mm_dc od_X4_groupOf_0 41 rfl) rfl ?_
  refine mm_iload (mm_dc od_X4_groupOf_0 42 rfl) rfl ?_
  refine mm_icmp_ne 75 (mm_dc od_X4_groupOf_0 43 rfl) (by omega) (by first | assumption | omega | exact hr _ _ rfl | exact mm_ti _ | exact mm_r3264 (hr _ _ rfl)) (by first | assumption | omega | exact hr _ _ rfl | exact mm_ti _ | exact mm_r3264 (hr _ _ rfl)) (fun c1 => ?_) (fun c1 => ?_)
  · refine mm_iinc (L' := [(0, v_r 10), (1, v_i o), (2, v_i (m2 : Int)), (3, v_i ((R : Int) + 1)), (4, v_i (m : Int))]) (mm_dc od_X4_groupOf_0 45 rfl) rfl (by decide) rfl ?_
    refine mm_goto 6 (mm_dc od_X4_groupOf_0 46 rfl) (by omega) ?_
    exact mm_less [0, 1, 2, 3] rfl (K (by omega))
  · refine mm_goto 81 (mm_dc od_X4_groupOf_0 44 rfl) (by omega) ?_
    refine mm_iload_n (mm_dc od_X4_groupOf_0 47 rfl) rfl ?_
    refine mm_iret (mm_dc od_X4_groupOf_0 48 rfl) rfl ?_
    exact k _ ⟨m2, rfl, hm.1, hm.2.1, fun r hr => hm.2.2.2.2 (by omega) r hr, hm.2.2.1⟩
theorem L_grpO {X : Nat × (Nat → Int)} {d : Nat} {Po : mm_Po} {M : mm_M} (o : Int) (ho : 0 ≤ o ∧ o < 16) (hJo : JO M) (hJr : JRc M) (hr : R32 M) (k : ∀ r : Int, (∃ m : Nat, r = m ∧ grpQ (M 11) (M 12) (M 10 0).toNat o.toNat m) → Po (some (v_i r)) Lam M) (R m : Nat) (hm : GS (M 11) (M 12) (M 10 0).toNat o.toNat m m 0) (hc : (R : Int) + 1 ≤ cntb m) : mm_G X d 0 0 mi_X4_groupOf Po 6 [(0, v_r 10), (1, v_i o), (2, v_i (m : Int)), (3, v_i (R : Int))] [] Lam M 0 0 := by
  have hJo2 := hJo
  obtain ⟨ho0, ho16, hO⟩ := hJo2
  have hJr2 := hJr
  obtain ⟨hr0, hr40, hRr⟩ := hJr2
  have hcr := cntb_r m
  refine mm_iload_n (mm_dc od_X4_groupOf_0 6 rfl) rfl ?_
  refine mm_bipush (mm_dc od_X4_groupOf_0 7 rfl) (by decide) ?_
  refine mm_icmp_ge 81 (mm_dc od_X4_groupOf_0 8 rfl) (by omega) (by first | assumption | omega | exact hr _ _ rfl | exact mm_ti _ | exact mm_r3264 (hr _ _ rfl)) (by first | assumption | omega | exact hr _ _ rfl | exact mm_ti _ | exact mm_r3264 (hr _ _ rfl)) (fun c1 => ?_) (fun c1 => ?_)
  · refine mm_iload_n (mm_dc od_X4_groupOf_0 47 rfl) rfl ?_
    refine mm_iret (mm_dc od_X4_groupOf_0 48 rfl) rfl ?_
    exfalso; omega
  · refine mm_iload_n (mm_dc od_X4_groupOf_0 9 rfl) rfl ?_
    refine mm_istore (L' := [(0, v_r 10), (1, v_i o), (2, v_i (m : Int)), (3, v_i (R : Int)), (4, v_i (m : Int))]) (mm_dc od_X4_groupOf_0 10 rfl) (by decide) rfl ?_
    refine mm_iconst (mm_dc od_X4_groupOf_0 11 rfl) ?_
    refine mm_istore (L' := [(0, v_r 10), (1, v_i o), (2, v_i (m : Int)), (3, v_i (R : Int)), (4, v_i (m : Int)), (5, v_i 0)]) (mm_dc od_X4_groupOf_0 12 rfl) (by decide) rfl ?_
    refine L_grpI o ho hJo hJr hr (R : Int) m (fun m2 hm2 => ?_) m 0 hm (by omega)
    exact L_grpT o ho hJo hJr hr k R m m2 hm2 (fun hn => L_grpO o ho hJo hJr hr k (R + 1) m2 ⟨hm2.1, hm2.2.1, hm2.2.2.1, fun x h => h, fun _ r q => by omega⟩ (by have := cntb_lt hm2.1 hm2.2.2.2.1 hn; omega))
termination_by 17 - R
decreasing_by all_goals (first | omega | (simp_wf; omega))
theorem c_X4_groupOf {X : Nat × (Nat → Int)} {d : Nat} {Po : mm_Po} {M : mm_M} (o : Int) (ho : 0 ≤ o ∧ o < 16) (hJo : JO M) (hJr : JRc M) (hr : R32 M) (k : ∀ r : Int, (∃ m : Nat, r = m ∧ grpQ (M 11) (M 12) (M 10 0).toNat o.toNat m) → Po (some (v_i r)) Lam M) : mm_E X d 0 0 mi_X4_groupOf [v_r 10, v_i o] Po Lam M := by
  show mm_G X d 0 0 mi_X4_groupOf Po 0 [(0, v_r 10), (1, v_i o)] [] Lam M 0 0
  refine mm_iconst (mm_dc od_X4_groupOf_0 0 rfl) ?_
  refine mm_iload_n (mm_dc od_X4_groupOf_0 1 rfl) rfl ?_
  refine mm_ishl (mm_dc od_X4_groupOf_0 2 rfl) ?_
  refine mm_istore_n (L' := [(0, v_r 10), (1, v_i o), (2, v_i (fx_shl 1 o))]) (mm_dc od_X4_groupOf_0 3 rfl) (by decide) rfl ?_
  refine mm_iconst (mm_dc od_X4_groupOf_0 4 rfl) ?_
  refine mm_istore_n (L' := [(0, v_r 10), (1, v_i o), (2, v_i (fx_shl 1 o)), (3, v_i 0)]) (mm_dc od_X4_groupOf_0 5 rfl) (by decide) rfl ?_
  obtain ⟨x, rfl⟩ : ∃ x : Nat, o = x := ⟨o.toNat, by omega⟩
  rw [fx_shl_1 (by omega)]
  exact L_grpO x ho hJo hJr hr k 0 (2 ^ x) ⟨Nat.pow_lt_pow_right (n := 16) (by decide) (by omega), by rw [Int.toNat_natCast]; simp, fun T _ hT y hy => by rw [Int.toNat_natCast] at hT; rw [Nat.testBit_two_pow, decide_eq_true_eq] at hy; rw [← hy]; exact hT, fun x h => h, fun _ r q => by omega⟩ (by have := cntb_1 (o := x) (by omega); omega)
theorem grpR_r {f s : Nat → Int} {n o : Nat} {r : Int} (h : ∃ m : Nat, r = m ∧ grpQ f s n o m) : 0 ≤ r ∧ r < 65536 := by
  obtain ⟨m, rfl, h, _⟩ := h
  omega
theorem c_X9_has {X : Nat × (Nat → Int)} {d : Nat} {Po : mm_Po} {M : mm_M} (set : Int) (i : Int) (hs : 0 ≤ set ∧ set < 2147483648) (hi : 0 ≤ i ∧ i < 32) (kt : set.toNat.testBit i.toNat = true → Po (some (v_i 1)) Lam M) (kf : ¬ (set.toNat.testBit i.toNat = true) → Po (some (v_i 0)) Lam M) : mm_E X d 0 0 mi_X9_has [v_i set, v_i i] Po Lam M := by
  show mm_G X d 0 0 mi_X9_has Po 0 [(0, v_i set), (1, v_i i)] [] Lam M 0 0
  refine mm_iload_n (mm_dc od_X9_has_0 0 rfl) rfl ?_
  refine mm_iload_n (mm_dc od_X9_has_0 1 rfl) rfl ?_
  refine mm_ishr (mm_dc od_X9_has_0 2 rfl) ?_
  refine mm_iconst (mm_dc od_X9_has_0 3 rfl) ?_
  refine mm_iand (mm_dc od_X9_has_0 4 rfl) ?_
  refine mm_if_eq 12 (mm_dc od_X9_has_0 5 rfl) (by omega) (by first | assumption | omega | exact hr _ _ rfl | exact mm_ti _ | exact mm_r3264 (hr _ _ rfl)) (fun c1 => ?_) (fun c1 => ?_)
  · refine mm_iconst (mm_dc od_X9_has_0 8 rfl) ?_
    refine mm_zret .boolean (mm_dc od_X9_has_0 9 rfl) rfl rfl ?_
    obtain ⟨a, rfl⟩ : ∃ a : Nat, set = a := ⟨set.toNat, by omega⟩
    obtain ⟨b, rfl⟩ : ∃ b : Nat, i = b := ⟨i.toNat, by omega⟩
    rw [fx_bit (by omega) (by omega)] at c1
    exact kf (by rw [Int.toNat_natCast, Int.toNat_natCast]; intro q; rw [if_pos q] at c1; cases c1)
  · refine mm_iconst (mm_dc od_X9_has_0 6 rfl) ?_
    refine mm_goto 13 (mm_dc od_X9_has_0 7 rfl) (by omega) ?_
    refine mm_zret .boolean (mm_dc od_X9_has_0 9 rfl) rfl rfl ?_
    obtain ⟨a, rfl⟩ : ∃ a : Nat, set = a := ⟨set.toNat, by omega⟩
    obtain ⟨b, rfl⟩ : ∃ b : Nat, i = b := ⟨i.toNat, by omega⟩
    rw [fx_bit (by omega) (by omega)] at c1
    exact kt (by rw [Int.toNat_natCast, Int.toNat_natCast]; by_cases q : a.testBit b = true; exact q; rw [if_neg q] at c1; exact absurd rfl c1)
theorem L_least {X : Nat × (Nat → Int)} {d : Nat} {Po : mm_Po} {M : mm_M} (set : Int) (hs : 0 ≤ set ∧ set < 65536) (k : ∀ r : Int, firstP (fun i => set.toNat.testBit i = true) r 16 → Po (some (v_i r)) Lam M) (j : Nat) (hj : ∀ i : Nat, i < j → ¬ set.toNat.testBit i = true) (hj2 : j ≤ 16) : mm_G X (d + 1) 0 0 mi_X9_leastOf Po 2 [(0, v_i set), (1, v_i (j : Int))] [] Lam M 0 0 := by
  refine mm_iload_n (mm_dc od_X9_leastOf_0 2 rfl) rfl ?_
  refine mm_bipush (mm_dc od_X9_leastOf_0 3 rfl) (by decide) ?_
  refine mm_icmp_ge 24 (mm_dc od_X9_leastOf_0 4 rfl) (by omega) (by first | assumption | omega | exact hr _ _ rfl | exact mm_ti _ | exact mm_r3264 (hr _ _ rfl)) (by first | assumption | omega | exact hr _ _ rfl | exact mm_ti _ | exact mm_r3264 (hr _ _ rfl)) (fun c1 => ?_) (fun c1 => ?_)
  · refine mm_iconst (mm_dc od_X9_leastOf_0 13 rfl) ?_
    refine mm_iret (mm_dc od_X9_leastOf_0 14 rfl) rfl ?_
    exact k _ (Or.inl ⟨rfl, fun i hi => hj i (by omega)⟩)
  · refine mm_iload_n (mm_dc od_X9_leastOf_0 5 rfl) rfl ?_
    refine mm_iload_n (mm_dc od_X9_leastOf_0 6 rfl) rfl ?_
    refine mm_callS (mi' := mi_X9_has) [v_i set, v_i (j : Int)] [] (mm_dc od_X9_leastOf_0 7 rfl) rfl wd_2_170 wd_2_171 wd_1_1 wd_2_172 yk_X9_has (Nat.le_of_ble_eq_true rfl) rfl (by decide) (c_X9_has set (j : Int) (by first | assumption | omega | exact hr _ _ rfl | exact mm_ti _ | exact mm_r3264 (hr _ _ rfl)) (by first | assumption | omega | exact hr _ _ rfl | exact mm_ti _ | exact mm_r3264 (hr _ _ rfl)) (fun c2 => ⟨Nat.le_refl _, ?_⟩) (fun c2 => ⟨Nat.le_refl _, ?_⟩))
    · simp only [Int.toNat_natCast] at c2
      refine mm_if_eq 18 (mm_dc od_X9_leastOf_0 8 rfl) (by omega) (by first | assumption | omega | exact hr _ _ rfl | exact mm_ti _ | exact mm_r3264 (hr _ _ rfl)) (fun h => absurd h (by decide)) (fun _ => ?_)
      refine mm_iload_n (mm_dc od_X9_leastOf_0 9 rfl) rfl ?_
      refine mm_iret (mm_dc od_X9_leastOf_0 10 rfl) rfl ?_
      exact k _ (Or.inr ⟨by omega, by omega, by assumption, fun i hi => hj i (by omega)⟩)
    · simp only [Int.toNat_natCast] at c2
      refine mm_if_eq 18 (mm_dc od_X9_leastOf_0 8 rfl) (by omega) (by first | assumption | omega | exact hr _ _ rfl | exact mm_ti _ | exact mm_r3264 (hr _ _ rfl)) (fun _ => ?_) (fun h => absurd h (by decide))
      refine mm_iinc (L' := [(0, v_i set), (1, v_i ((j : Int) + 1))]) (mm_dc od_X9_leastOf_0 11 rfl) rfl (by decide) rfl ?_
      refine mm_goto 2 (mm_dc od_X9_leastOf_0 12 rfl) (by omega) ?_
      refine mm_cL (L' := [(0, v_i set), (1, v_i ((j + 1 : Nat) : Int))]) rfl ?_
      exact L_least set hs k (j + 1) (lt_s hj (by assumption)) (by omega)
termination_by 17 - j
decreasing_by all_goals (first | omega | (simp_wf; omega))
theorem c_X9_leastOf {X : Nat × (Nat → Int)} {d : Nat} {Po : mm_Po} {M : mm_M} (set : Int) (hs : 0 ≤ set ∧ set < 65536) (k : ∀ r : Int, (firstP (fun i => set.toNat.testBit i = true) r 16) → Po (some (v_i r)) Lam M) : mm_E X (d + 1) 0 0 mi_X9_leastOf [v_i set] Po Lam M := by
  show mm_G X (d + 1) 0 0 mi_X9_leastOf Po 0 [(0, v_i set)] [] Lam M 0 0
  refine mm_iconst (mm_dc od_X9_leastOf_0 0 rfl) ?_
  refine mm_istore_n (L' := [(0, v_i set), (1, v_i 0)]) (mm_dc od_X9_leastOf_0 1 rfl) (by decide) rfl ?_
  exact L_least set hs k 0 (fun i hi => by omega) (by omega)
def frm (c : Nat) (M N : mm_M) : Prop := R32 N ∧ ∀ i, i ≠ c → N i = M i
theorem frm_0 {c : Nat} {M : mm_M} (h : R32 M) : frm c M M := ⟨h, fun _ _ => rfl⟩
theorem frm_up {c : Nat} {B M : mm_M} {k : Nat} {v : Int} (h : frm c B M) (hv : mm_r32 v) : frm c B (mm_up M c k v) :=
  ⟨R32_up h.1 hv, fun i hi => by rw [← h.2 i hi]; exact mm_up_ne hi⟩
theorem JRm_frm {c : Nat} {M N : mm_M} (hc : c = 64) (h : frm c M N) (hJ : JRm M) : JRm N := by
  subst hc
  unfold JRm at *
  rw [h.2 50 (by decide), h.2 61 (by decide), h.2 62 (by decide), h.2 63 (by decide)]
  exact hJ
def sumI (f : Nat → Int) : Nat → Int
  | 0 => 0
  | n + 1 => sumI f n + f n
theorem sumI_le {f g : Nat → Int} : ∀ n : Nat, (∀ i, i < n → f i ≤ g i) → sumI f n ≤ sumI g n
  | 0, _ => Int.le_refl _
  | n + 1, h => by
    have h1 := sumI_le n (fun i hi => h i (by omega))
    have h2 := h n (by omega)
    simp only [sumI]; omega
theorem sumI_lt {f g : Nat → Int} : ∀ n : Nat, (∀ i, i < n → f i ≤ g i) → (∃ i, i < n ∧ f i < g i) → sumI f n < sumI g n
  | 0, _, h => by obtain ⟨i, h, _⟩ := h; omega
  | n + 1, h, hx => by
    obtain ⟨i, hi, h1⟩ := hx
    have h2 := h n (by omega)
    simp only [sumI]
    by_cases e : i = n
    · subst e
      have h3 := sumI_le i (fun k hk => h k (by omega))
      omega
    · have h3 := sumI_lt n (fun k hk => h k (by omega)) ⟨i, by omega, h1⟩
      omega
theorem sumI_nn {f : Nat → Int} : ∀ n : Nat, (∀ i, i < n → 0 ≤ f i) → 0 ≤ sumI f n
  | 0, _ => Int.le_refl _
  | n + 1, h => by
    have h1 := sumI_nn n (fun i hi => h i (by omega))
    have h2 := h n (by omega)
    simp only [sumI]; omega
theorem fg_step {f s g : Nat → Int} {n r x y : Nat} {v : Int} (hg : gQ f s g n) (hr : r < n) (hx : (f r).toNat = x) (hy : (s r).toNat = y) (hx16 : x < 16) (hy16 : y < 16) (hv : v = g x ∨ v = g y) (hv1 : v ≤ g x) (hv2 : v ≤ g y) : gQ f s (fun k => if k = y then v else if k = x then v else g k) n := by
  obtain ⟨h1, h2⟩ := hg
  refine ⟨fun z hz => ?_, fun T hT z hz => ?_⟩
  · have a := h1 z hz
    have b := h1 x hx16
    have c := h1 y hy16
    dsimp only
    split
    · subst z; omega
    · split
      · subst z; omega
      · exact a
  · have a := h2 T hT z hz
    have b := h2 T hT x hx16
    have c := h2 T hT y hy16
    have d := hT r hr
    rw [hx, hy] at d
    have e : T v.toNat ↔ T x := by
      rcases hv with q | q
      · rw [q]; exact b.symm
      · rw [q, d]; exact c.symm
    dsimp only
    split
    · rw [e, d]; subst z; exact Iff.rfl
    · split
      · rw [e]; subst z; exact Iff.rfl
      · exact a
theorem fg_sum {g : Nat → Int} {x y : Nat} {v : Int} (hx16 : x < 16) (hy16 : y < 16) (hv1 : v ≤ g x) (hv2 : v ≤ g y) (hn : g x ≠ g y) : sumI (fun k => if k = y then v else if k = x then v else g k) 16 < sumI g 16 := by
  refine sumI_lt 16 (fun i _ => ?_) ?_
  · split
    · subst i; exact hv2
    · split
      · subst i; exact hv1
      · exact Int.le_refl _
  · by_cases e : v < g y
    · exact ⟨y, hy16, by simp [e]⟩
    · refine ⟨x, hx16, ?_⟩
      have : x ≠ y := fun q => hn (by rw [q])
      simp only [if_neg this, if_pos]
      omega
theorem fg_mem {M : mm_M} {x y : Nat} {v : Int} : mm_up (mm_up M 64 x v) 64 y v 64 = (fun k => if k = y then v else if k = x then v else M 64 k) := by
  funext k
  simp [mm_up]
def FGQ (B N : mm_M) : Prop := frm 64 B N ∧ gQ (B 61) (B 62) (N 64) (B 50 16).toNat ∧ ∀ r, r < (B 50 16).toNat → N 64 (B 61 r).toNat = N 64 (B 62 r).toNat
def fgI (B M : mm_M) (S mo : Int) (j : Nat) : Prop := frm 64 B M ∧ gQ (B 61) (B 62) (M 64) (B 50 16).toNat ∧ ((mo = 0 ∧ sumI (M 64) 16 ≤ S ∧ ∀ r, r < j → M 64 (B 61 r).toNat = M 64 (B 62 r).toNat) ∨ (mo = 1 ∧ sumI (M 64) 16 < S))
theorem fgI_eq {B M : mm_M} {S mo : Int} {j : Nat} (h : fgI B M S mo j) (he : M 64 (B 61 j).toNat = M 64 (B 62 j).toNat) : fgI B M S mo (j + 1) := by
  refine ⟨h.1, h.2.1, ?_⟩
  rcases h.2.2 with ⟨a, b, c⟩ | a
  · refine Or.inl ⟨a, b, fun r hr => ?_⟩
    by_cases q : r = j
    · rw [q]; exact he
    · exact c r (by omega)
  · exact Or.inr a
theorem fgI_ne {B M : mm_M} {S mo v : Int} {j x y : Nat} (h : fgI B M S mo j) (hj : j < (B 50 16).toNat) (hx : (B 61 j).toNat = x) (hy : (B 62 j).toNat = y) (hx16 : x < 16) (hy16 : y < 16) (hv : v = M 64 x ∨ v = M 64 y) (hv1 : v ≤ M 64 x) (hv2 : v ≤ M 64 y) (hn : M 64 x ≠ M 64 y) : fgI B (mm_up (mm_up M 64 x v) 64 y v) S 1 (j + 1) := by
  have hvr : mm_r32 v := by
    have a := h.2.1.1 x hx16
    have b := h.2.1.1 y hy16
    omega
  refine ⟨frm_up (frm_up h.1 hvr) hvr, ?_, Or.inr ⟨rfl, ?_⟩⟩
  · rw [fg_mem]; exact fg_step h.2.1 hj hx hy hx16 hy16 hv hv1 hv2
  · rw [fg_mem]
    have := fg_sum hx16 hy16 hv1 hv2 hn
    rcases h.2.2 with ⟨a, b, c⟩ | a <;> omega
theorem L_fgI {X : Nat × (Nat → Int)} {d : Nat} {Po : mm_Po} {M : mm_M} (B : mm_M) (hJB : JRm B) (S : Int) (K : ∀ (N : mm_M) (mo : Int), fgI B N S mo (B 50 16).toNat → mm_G X d 0 0 mi_X10_findGroups Po 23 [(0, v_r 50), (1, v_i mo)] [] Lam N 0 0) (mo : Int) (j : Nat) (hf : fgI B M S mo j) (hj : (j : Int) ≤ M 50 16) : mm_G X d 0 0 mi_X10_findGroups Po 31 [(0, v_r 50), (1, v_i mo), (2, v_i (j : Int))] [] Lam M 0 0 := by
  have hJrm := JRm_frm rfl hf.1 hJB
  have hr := hf.1.1
  have hJr2 := hJrm
  obtain ⟨hr0, hr40, hRr⟩ := hJr2
  have hb50 : B 50 16 = M 50 16 := (by rw [hf.1.2 50 (by decide)])
  have hb61 : B 61 = M 61 := (hf.1.2 61 (by decide)).symm
  have hb62 : B 62 = M 62 := (hf.1.2 62 (by decide)).symm
  have hR1 := hRr j
  have hga := hf.2.1.1 (M 61 j).toNat
  have hgb := hf.2.1.1 (M 62 j).toNat
  refine mm_iload_n (mm_dc od_X10_findGroups_0 20 rfl) rfl ?_
  refine mm_aload_n (mm_dc od_X10_findGroups_0 21 rfl) rfl ?_
  refine mm_getI (ci := 10) (k := 16) (mm_dc od_X10_findGroups_0 22 rfl) rfl in_X10 (by decide) wd_4_128 rfl rfl ?_
  refine mm_icmp_ge 127 (mm_dc od_X10_findGroups_0 23 rfl) (by omega) (by first | assumption | omega | exact hr _ _ rfl | exact mm_ti _ | exact mm_r3264 (hr _ _ rfl)) (by first | assumption | omega | exact hr _ _ rfl | exact mm_ti _ | exact mm_r3264 (hr _ _ rfl)) (fun c1 => ?_) (fun c1 => ?_)
  · refine mm_goto 23 (mm_dc od_X10_findGroups_1 14 rfl) (by omega) ?_
    have e : j = (B 50 16).toNat := by omega
    exact mm_less [0, 1] rfl (K M mo (e ▸ hf))
  · refine mm_aload_n (mm_dc od_X10_findGroups_0 24 rfl) rfl ?_
    refine mm_getR (ci := 10) (k := 15) (mm_dc od_X10_findGroups_0 25 rfl) rfl in_X10 (by decide) wd_4_127 rfl rfl ?_
    refine mm_aload_n (mm_dc od_X10_findGroups_0 26 rfl) rfl ?_
    refine mm_getR (ci := 10) (k := 12) (mm_dc od_X10_findGroups_0 27 rfl) rfl in_X10 (by decide) wd_4_124 rfl rfl ?_
    refine mm_iload_n (mm_dc od_X10_findGroups_0 28 rfl) rfl ?_
    refine mm_iald (mm_dc od_X10_findGroups_0 29 rfl) rfl (by first | assumption | omega | exact hr _ _ rfl | exact mm_ti _ | exact mm_r3264 (hr _ _ rfl)) (by first | assumption | omega | exact hr _ _ rfl | exact mm_ti _ | exact mm_r3264 (hr _ _ rfl)) (by decide) ?_
    refine mm_cst (st' := [v_i (M 61 j), v_r 64]) rfl ?_
    refine mm_iald (mm_dc od_X10_findGroups_0 30 rfl) rfl (by first | assumption | omega | exact hr _ _ rfl | exact mm_ti _ | exact mm_r3264 (hr _ _ rfl)) (by first | assumption | omega | exact hr _ _ rfl | exact mm_ti _ | exact mm_r3264 (hr _ _ rfl)) (by decide) ?_
    refine mm_istore_n (L' := [(0, v_r 50), (1, v_i mo), (2, v_i (j : Int)), (3, v_i (M 64 (Int.toNat (M 61 j))))]) (mm_dc od_X10_findGroups_0 31 rfl) (by decide) rfl ?_
    refine mm_aload_n (mm_dc od_X10_findGroups_0 32 rfl) rfl ?_
    refine mm_getR (ci := 10) (k := 15) (mm_dc od_X10_findGroups_0 33 rfl) rfl in_X10 (by decide) wd_4_127 rfl rfl ?_
    refine mm_aload_n (mm_dc od_X10_findGroups_0 34 rfl) rfl ?_
    refine mm_getR (ci := 10) (k := 13) (mm_dc od_X10_findGroups_0 35 rfl) rfl in_X10 (by decide) wd_4_125 rfl rfl ?_
    refine mm_iload_n (mm_dc od_X10_findGroups_0 36 rfl) rfl ?_
    refine mm_iald (mm_dc od_X10_findGroups_0 37 rfl) rfl (by first | assumption | omega | exact hr _ _ rfl | exact mm_ti _ | exact mm_r3264 (hr _ _ rfl)) (by first | assumption | omega | exact hr _ _ rfl | exact mm_ti _ | exact mm_r3264 (hr _ _ rfl)) (by decide) ?_
    refine mm_cst (st' := [v_i (M 62 j), v_r 64]) rfl ?_
    refine mm_iald (mm_dc od_X10_findGroups_0 38 rfl) rfl (by first | assumption | omega | exact hr _ _ rfl | exact mm_ti _ | exact mm_r3264 (hr _ _ rfl)) (by first | assumption | omega | exact hr _ _ rfl | exact mm_ti _ | exact mm_r3264 (hr _ _ rfl)) (by decide) ?_
    refine mm_istore (L' := [(0, v_r 50), (1, v_i mo), (2, v_i (j : Int)), (3, v_i (M 64 (Int.toNat (M 61 j)))), (4, v_i (M 64 (Int.toNat (M 62 j))))]) (mm_dc od_X10_findGroups_0 39 rfl) (by decide) rfl ?_
    refine mm_iload_n (mm_dc od_X10_findGroups_0 40 rfl) rfl ?_
    refine mm_iload (mm_dc od_X10_findGroups_0 41 rfl) rfl ?_
    refine mm_icmp_ne 73 (mm_dc od_X10_findGroups_0 42 rfl) (by omega) (by first | assumption | omega | exact hr _ _ rfl | exact mm_ti _ | exact mm_r3264 (hr _ _ rfl)) (by first | assumption | omega | exact hr _ _ rfl | exact mm_ti _ | exact mm_r3264 (hr _ _ rfl)) (fun c2 => ?_) (fun c2 => ?_)
    · refine mm_aload_n (mm_dc od_X10_findGroups_0 44 rfl) rfl ?_
      refine mm_getR (ci := 10) (k := 15) (mm_dc od_X10_findGroups_0 45 rfl) rfl in_X10 (by decide) wd_4_127 rfl rfl ?_
      refine mm_aload_n (mm_dc od_X10_findGroups_0 46 rfl) rfl ?_
      refine mm_getR (ci := 10) (k := 12) (mm_dc od_X10_findGroups_0 47 rfl) rfl in_X10 (by decide) wd_4_124 rfl rfl ?_
      refine mm_iload_n (mm_dc od_X10_findGroups_0 48 rfl) rfl ?_
      refine mm_iald (mm_dc od_X10_findGroups_0 49 rfl) rfl (by first | assumption | omega | exact hr _ _ rfl | exact mm_ti _ | exact mm_r3264 (hr _ _ rfl)) (by first | assumption | omega | exact hr _ _ rfl | exact mm_ti _ | exact mm_r3264 (hr _ _ rfl)) (by decide) ?_
      refine mm_cst (st' := [v_i (M 61 j), v_r 64]) rfl ?_
      refine mm_iload_n (mm_dc od_X10_findGroups_0 50 rfl) rfl ?_
      refine mm_iload (mm_dc od_X10_findGroups_0 51 rfl) rfl ?_
      refine mm_icmp_ge 93 (mm_dc od_X10_findGroups_0 52 rfl) (by omega) (by first | assumption | omega | exact hr _ _ rfl | exact mm_ti _ | exact mm_r3264 (hr _ _ rfl)) (by first | assumption | omega | exact hr _ _ rfl | exact mm_ti _ | exact mm_r3264 (hr _ _ rfl)) (fun c3 => ?_) (fun c3 => ?_)
      · refine mm_iload (mm_dc od_X10_findGroups_0 55 rfl) rfl ?_
        refine mm_iast (mm_dc od_X10_findGroups_0 56 rfl) rfl (by first | assumption | omega | exact hr _ _ rfl | exact mm_ti _ | exact mm_r3264 (hr _ _ rfl)) (by first | assumption | omega | exact hr _ _ rfl | exact mm_ti _ | exact mm_r3264 (hr _ _ rfl)) (by decide) ?_
        refine mm_aload_n (mm_dc od_X10_findGroups_0 57 rfl) rfl ?_
        refine mm_getR (ci := 10) (k := 15) (mm_dc od_X10_findGroups_0 58 rfl) rfl in_X10 (by decide) wd_4_127 rfl rfl ?_
        refine mm_aload_n (mm_dc od_X10_findGroups_0 59 rfl) rfl ?_
        refine mm_getR (ci := 10) (k := 13) (mm_dc od_X10_findGroups_1 0 rfl) rfl in_X10 (by decide) wd_4_125 rfl rfl ?_
        refine mm_iload_n (mm_dc od_X10_findGroups_1 1 rfl) rfl ?_
        refine mm_iald (mm_dc od_X10_findGroups_1 2 rfl) rfl (by first | assumption | omega | exact hr _ _ rfl | exact mm_ti _ | exact mm_r3264 (hr _ _ rfl)) (by first | assumption | omega | exact hr _ _ rfl | exact mm_ti _ | exact mm_r3264 (hr _ _ rfl)) (by decide) ?_
        refine mm_cst (st' := [v_i (M 62 j), v_r 64]) rfl ?_
        refine mm_iload_n (mm_dc od_X10_findGroups_1 3 rfl) rfl ?_
        refine mm_iload (mm_dc od_X10_findGroups_1 4 rfl) rfl ?_
        refine mm_icmp_ge 116 (mm_dc od_X10_findGroups_1 5 rfl) (by omega) (by first | assumption | omega | exact hr _ _ rfl | exact mm_ti _ | exact mm_r3264 (hr _ _ rfl)) (by first | assumption | omega | exact hr _ _ rfl | exact mm_ti _ | exact mm_r3264 (hr _ _ rfl)) (fun c4 => ?_) (fun c4 => ?_)
        · refine mm_iload (mm_dc od_X10_findGroups_1 8 rfl) rfl ?_
          refine mm_iast (mm_dc od_X10_findGroups_1 9 rfl) rfl (by first | assumption | omega | exact hr _ _ rfl | exact mm_ti _ | exact mm_r3264 (hr _ _ rfl)) (by first | assumption | omega | exact hr _ _ rfl | exact mm_ti _ | exact mm_r3264 (hr _ _ rfl)) (by decide) ?_
          refine mm_iconst (mm_dc od_X10_findGroups_1 10 rfl) ?_
          refine mm_istore_n (L' := [(0, v_r 50), (1, v_i 1), (2, v_i (j : Int)), (3, v_i (M 64 (Int.toNat (M 61 j)))), (4, v_i (M 64 (Int.toNat (M 62 j))))]) (mm_dc od_X10_findGroups_1 11 rfl) (by decide) rfl ?_
          refine mm_iinc (L' := [(0, v_r 50), (1, v_i 1), (2, v_i ((j : Int) + 1)), (3, v_i (M 64 (Int.toNat (M 61 j)))), (4, v_i (M 64 (Int.toNat (M 62 j))))]) (mm_dc od_X10_findGroups_1 12 rfl) rfl (by decide) rfl ?_
          refine mm_goto 31 (mm_dc od_X10_findGroups_1 13 rfl) (by omega) ?_
          have hR1 := hRr j (by omega)
          exact mm_less [0, 1, 2] rfl (L_fgI B hJB S K 1 (j + 1) (fgI_ne hf (by omega) (by rw [hb61]) (by rw [hb62]) (by omega) (by omega) (by omega) (by omega) (by omega) (by assumption)) (by show ((j + 1 : Nat) : Int) ≤ M 50 16; omega))
        · refine mm_iload_n (mm_dc od_X10_findGroups_1 6 rfl) rfl ?_
          refine mm_goto 118 (mm_dc od_X10_findGroups_1 7 rfl) (by omega) ?_
          refine mm_iast (mm_dc od_X10_findGroups_1 9 rfl) rfl (by first | assumption | omega | exact hr _ _ rfl | exact mm_ti _ | exact mm_r3264 (hr _ _ rfl)) (by first | assumption | omega | exact hr _ _ rfl | exact mm_ti _ | exact mm_r3264 (hr _ _ rfl)) (by decide) ?_
          refine mm_iconst (mm_dc od_X10_findGroups_1 10 rfl) ?_
          refine mm_istore_n (L' := [(0, v_r 50), (1, v_i 1), (2, v_i (j : Int)), (3, v_i (M 64 (Int.toNat (M 61 j)))), (4, v_i (M 64 (Int.toNat (M 62 j))))]) (mm_dc od_X10_findGroups_1 11 rfl) (by decide) rfl ?_
          refine mm_iinc (L' := [(0, v_r 50), (1, v_i 1), (2, v_i ((j : Int) + 1)), (3, v_i (M 64 (Int.toNat (M 61 j)))), (4, v_i (M 64 (Int.toNat (M 62 j))))]) (mm_dc od_X10_findGroups_1 12 rfl) rfl (by decide) rfl ?_
          refine mm_goto 31 (mm_dc od_X10_findGroups_1 13 rfl) (by omega) ?_
          exfalso; omega
      · refine mm_iload_n (mm_dc od_X10_findGroups_0 53 rfl) rfl ?_
        refine mm_goto 95 (mm_dc od_X10_findGroups_0 54 rfl) (by omega) ?_
        refine mm_iast (mm_dc od_X10_findGroups_0 56 rfl) rfl (by first | assumption | omega | exact hr _ _ rfl | exact mm_ti _ | exact mm_r3264 (hr _ _ rfl)) (by first | assumption | omega | exact hr _ _ rfl | exact mm_ti _ | exact mm_r3264 (hr _ _ rfl)) (by decide) ?_
        refine mm_aload_n (mm_dc od_X10_findGroups_0 57 rfl) rfl ?_
        refine mm_getR (ci := 10) (k := 15) (mm_dc od_X10_findGroups_0 58 rfl) rfl in_X10 (by decide) wd_4_127 rfl rfl ?_
        refine mm_aload_n (mm_dc od_X10_findGroups_0 59 rfl) rfl ?_
        refine mm_getR (ci := 10) (k := 13) (mm_dc od_X10_findGroups_1 0 rfl) rfl in_X10 (by decide) wd_4_125 rfl rfl ?_
        refine mm_iload_n (mm_dc od_X10_findGroups_1 1 rfl) rfl ?_
        refine mm_iald (mm_dc od_X10_findGroups_1 2 rfl) rfl (by first | assumption | omega | exact hr _ _ rfl | exact mm_ti _ | exact mm_r3264 (hr _ _ rfl)) (by first | assumption | omega | exact hr _ _ rfl | exact mm_ti _ | exact mm_r3264 (hr _ _ rfl)) (by decide) ?_
        refine mm_cst (st' := [v_i (M 62 j), v_r 64]) rfl ?_
        refine mm_iload_n (mm_dc od_X10_findGroups_1 3 rfl) rfl ?_
        refine mm_iload (mm_dc od_X10_findGroups_1 4 rfl) rfl ?_
        refine mm_icmp_ge 116 (mm_dc od_X10_findGroups_1 5 rfl) (by omega) (by first | assumption | omega | exact hr _ _ rfl | exact mm_ti _ | exact mm_r3264 (hr _ _ rfl)) (by first | assumption | omega | exact hr _ _ rfl | exact mm_ti _ | exact mm_r3264 (hr _ _ rfl)) (fun c5 => ?_) (fun c5 => ?_)
        · refine mm_iload (mm_dc od_X10_findGroups_1 8 rfl) rfl ?_
          refine mm_iast (mm_dc od_X10_findGroups_1 9 rfl) rfl (by first | assumption | omega | exact hr _ _ rfl | exact mm_ti _ | exact mm_r3264 (hr _ _ rfl)) (by first | assumption | omega | exact hr _ _ rfl | exact mm_ti _ | exact mm_r3264 (hr _ _ rfl)) (by decide) ?_
          refine mm_iconst (mm_dc od_X10_findGroups_1 10 rfl) ?_
          refine mm_istore_n (L' := [(0, v_r 50), (1, v_i 1), (2, v_i (j : Int)), (3, v_i (M 64 (Int.toNat (M 61 j)))), (4, v_i (M 64 (Int.toNat (M 62 j))))]) (mm_dc od_X10_findGroups_1 11 rfl) (by decide) rfl ?_
          refine mm_iinc (L' := [(0, v_r 50), (1, v_i 1), (2, v_i ((j : Int) + 1)), (3, v_i (M 64 (Int.toNat (M 61 j)))), (4, v_i (M 64 (Int.toNat (M 62 j))))]) (mm_dc od_X10_findGroups_1 12 rfl) rfl (by decide) rfl ?_
          refine mm_goto 31 (mm_dc od_X10_findGroups_1 13 rfl) (by omega) ?_
          exfalso; omega
        · refine mm_iload_n (mm_dc od_X10_findGroups_1 6 rfl) rfl ?_
          refine mm_goto 118 (mm_dc od_X10_findGroups_1 7 rfl) (by omega) ?_
          refine mm_iast (mm_dc od_X10_findGroups_1 9 rfl) rfl (by first | assumption | omega | exact hr _ _ rfl | exact mm_ti _ | exact mm_r3264 (hr _ _ rfl)) (by first | assumption | omega | exact hr _ _ rfl | exact mm_ti _ | exact mm_r3264 (hr _ _ rfl)) (by decide) ?_
          refine mm_iconst (mm_dc od_X10_findGroups_1 10 rfl) ?_
          refine mm_istore_n (L' := [(0, v_r 50), (1, v_i 1), (2, v_i (j : Int)), (3, v_i (M 64 (Int.toNat (M 61 j)))), (4, v_i (M 64 (Int.toNat (M 62 j))))]) (mm_dc od_X10_findGroups_1 11 rfl) (by decide) rfl ?_
          refine mm_iinc (L' := [(0, v_r 50), (1, v_i 1), (2, v_i ((j : Int) + 1)), (3, v_i (M 64 (Int.toNat (M 61 j)))), (4, v_i (M 64 (Int.toNat (M 62 j))))]) (mm_dc od_X10_findGroups_1 12 rfl) rfl (by decide) rfl ?_
          refine mm_goto 31 (mm_dc od_X10_findGroups_1 13 rfl) (by omega) ?_
          have hR1 := hRr j (by omega)
          exact mm_less [0, 1, 2] rfl (L_fgI B hJB S K 1 (j + 1) (fgI_ne hf (by omega) (by rw [hb61]) (by rw [hb62]) (by omega) (by omega) (by omega) (by omega) (by omega) (by assumption)) (by show ((j + 1 : Nat) : Int) ≤ M 50 16; omega))
    · refine mm_goto 121 (mm_dc od_X10_findGroups_0 43 rfl) (by omega) ?_
      refine mm_iinc (L' := [(0, v_r 50), (1, v_i mo), (2, v_i ((j : Int) + 1)), (3, v_i (M 64 (Int.toNat (M 61 j)))), (4, v_i (M 64 (Int.toNat (M 62 j))))]) (mm_dc od_X10_findGroups_1 12 rfl) rfl (by decide) rfl ?_
      refine mm_goto 31 (mm_dc od_X10_findGroups_1 13 rfl) (by omega) ?_
      have hR1 := hRr j (by omega)
      exact mm_less [0, 1, 2] rfl (L_fgI B hJB S K mo (j + 1) (fgI_eq hf (by rw [hb61, hb62]; assumption)) (by omega))
termination_by (B 50 16).toNat - j
decreasing_by all_goals (first | omega | (simp_wf; omega))
theorem L_fgE {X : Nat × (Nat → Int)} {d : Nat} {Po : mm_Po} {M : mm_M} (hr : R32 M) (k : Po none Lam M) : mm_G X d 0 0 mi_X10_findGroups Po 23 [(0, v_r 50), (1, v_i 0)] [] Lam M 0 0 := by
  refine mm_iload_n (mm_dc od_X10_findGroups_0 14 rfl) rfl ?_
  refine mm_if_eq 130 (mm_dc od_X10_findGroups_0 15 rfl) (by omega) (by first | assumption | omega | exact hr _ _ rfl | exact mm_ti _ | exact mm_r3264 (hr _ _ rfl)) (fun _ => ?_) (fun h => absurd h (by decide))
  refine mm_ret (mm_dc od_X10_findGroups_1 15 rfl) rfl ?_
  exact k
theorem L_fgO {X : Nat × (Nat → Int)} {d : Nat} {Po : mm_Po} {M : mm_M} (B : mm_M) (hJB : JRm B) (k : ∀ N : mm_M, FGQ B N → Po none Lam N) (hf : frm 64 B M) (hg : gQ (B 61) (B 62) (M 64) (B 50 16).toNat) : mm_G X d 0 0 mi_X10_findGroups Po 23 [(0, v_r 50), (1, v_i 1)] [] Lam M 0 0 := by
  have hJrm := JRm_frm rfl hf hJB
  have hr := hf.1
  have hnn := sumI_nn 16 (fun i hi => (hg.1 i hi).1)
  refine mm_iload_n (mm_dc od_X10_findGroups_0 14 rfl) rfl ?_
  refine mm_if_eq 130 (mm_dc od_X10_findGroups_0 15 rfl) (by omega) (by first | assumption | omega | exact hr _ _ rfl | exact mm_ti _ | exact mm_r3264 (hr _ _ rfl)) (fun h => absurd h (by decide)) (fun _ => ?_)
  refine mm_iconst (mm_dc od_X10_findGroups_0 16 rfl) ?_
  refine mm_istore_n (L' := [(0, v_r 50), (1, v_i 0)]) (mm_dc od_X10_findGroups_0 17 rfl) (by decide) rfl ?_
  refine mm_iconst (mm_dc od_X10_findGroups_0 18 rfl) ?_
  refine mm_istore_n (L' := [(0, v_r 50), (1, v_i 0), (2, v_i 0)]) (mm_dc od_X10_findGroups_0 19 rfl) (by decide) rfl ?_
  refine L_fgI B hJB (sumI (M 64) 16) (fun N mo hN => ?_) 0 0 ⟨hf, hg, Or.inl ⟨rfl, Int.le_refl _, fun r hr => by omega⟩⟩ (by have := hJrm.1; omega)
  rcases hN with ⟨h1, h2, ⟨rfl, h4, h5⟩ | ⟨rfl, h4⟩⟩
  · exact L_fgE h1.1 (k N ⟨h1, h2, h5⟩)
  · exact L_fgO B hJB k h1 h2
termination_by (sumI (M 64) 16).toNat
decreasing_by all_goals (have hn2 := sumI_nn 16 (fun i hi => (h2.1 i hi).1); omega)
theorem L_fg0 {X : Nat × (Nat → Int)} {d : Nat} {Po : mm_Po} {M : mm_M} (B : mm_M) (hJB : JRm B) (k : ∀ N : mm_M, FGQ B N → Po none Lam N) (j : Nat) (hf : frm 64 B M) (hg : ∀ i : Nat, i < j → M 64 i = i) (hj : j ≤ 16) : mm_G X d 0 0 mi_X10_findGroups Po 2 [(0, v_r 50), (1, v_i (j : Int))] [] Lam M 0 0 := by
  have hr := hf.1
  refine mm_iload_n (mm_dc od_X10_findGroups_0 2 rfl) rfl ?_
  refine mm_bipush (mm_dc od_X10_findGroups_0 3 rfl) (by decide) ?_
  refine mm_icmp_ge 21 (mm_dc od_X10_findGroups_0 4 rfl) (by omega) (by first | assumption | omega | exact hr _ _ rfl | exact mm_ti _ | exact mm_r3264 (hr _ _ rfl)) (by first | assumption | omega | exact hr _ _ rfl | exact mm_ti _ | exact mm_r3264 (hr _ _ rfl)) (fun c1 => ?_) (fun c1 => ?_)
  · refine mm_iconst (mm_dc od_X10_findGroups_0 12 rfl) ?_
    refine mm_istore_n (L' := [(0, v_r 50), (1, v_i 1)]) (mm_dc od_X10_findGroups_0 13 rfl) (by decide) rfl ?_
    exact L_fgO B hJB k hf (gQ_0 _ _ _ (fun x hx => hg x (by omega)))
  · refine mm_aload_n (mm_dc od_X10_findGroups_0 5 rfl) rfl ?_
    refine mm_getR (ci := 10) (k := 15) (mm_dc od_X10_findGroups_0 6 rfl) rfl in_X10 (by decide) wd_4_127 rfl rfl ?_
    refine mm_iload_n (mm_dc od_X10_findGroups_0 7 rfl) rfl ?_
    refine mm_iload_n (mm_dc od_X10_findGroups_0 8 rfl) rfl ?_
    refine mm_iast (mm_dc od_X10_findGroups_0 9 rfl) rfl (by first | assumption | omega | exact hr _ _ rfl | exact mm_ti _ | exact mm_r3264 (hr _ _ rfl)) (by first | assumption | omega | exact hr _ _ rfl | exact mm_ti _ | exact mm_r3264 (hr _ _ rfl)) (by decide) ?_
    refine mm_eqM (M' := mm_up M 64 j (j : Int)) rfl ?_
    refine mm_iinc (L' := [(0, v_r 50), (1, v_i ((j : Int) + 1))]) (mm_dc od_X10_findGroups_0 10 rfl) rfl (by decide) rfl ?_
    refine mm_goto 2 (mm_dc od_X10_findGroups_0 11 rfl) (by omega) ?_
    exact L_fg0 B hJB k (j + 1) (frm_up hf (by omega)) (fun i hi => by rw [mm_upa]; split; omega; exact hg i (by omega)) (by omega)
termination_by 16 - j
decreasing_by all_goals (first | omega | (simp_wf; omega))
theorem c_X10_findGroups {X : Nat × (Nat → Int)} {d : Nat} {Po : mm_Po} {M : mm_M}  (hJrm : JRm M) (hr : R32 M) (k : ∀ N : mm_M, (FGQ M N) → Po none Lam N) : mm_E X d 0 0 mi_X10_findGroups [v_r 50] Po Lam M := by
  show mm_G X d 0 0 mi_X10_findGroups Po 0 [(0, v_r 50)] [] Lam M 0 0
  refine mm_iconst (mm_dc od_X10_findGroups_0 0 rfl) ?_
  refine mm_istore_n (L' := [(0, v_r 50), (1, v_i 0)]) (mm_dc od_X10_findGroups_0 1 rfl) (by decide) rfl ?_
  exact L_fg0 M hJrm k 0 (frm_0 hr) (fun i hi => by omega) (by omega)
theorem c_X9_group {X : Nat × (Nat → Int)} {d : Nat} {Po : mm_Po} {M : mm_M} (o : Int) (ho0 : mm_r32 o) (hJo : JO M) (hJr : JRc M) (hr : R32 M) (k1 : (¬ (0 ≤ o ∧ o < M 1 0)) → Po (some (v_i (-1))) Lam M) (k2 : (0 ≤ o ∧ o < M 1 0) → ∀ (m : Nat), ∀ (r : Int), grpQ (M 11) (M 12) (M 10 0).toNat o.toNat m → firstP (fun i => m.testBit i = true) r 16 → Po (some (v_i r)) Lam M) : mm_E X (d + 2) 0 0 mi_X9_group [v_r 0, v_i o] Po Lam M := by
  show mm_G X (d + 2) 0 0 mi_X9_group Po 0 [(0, v_r 0), (1, v_i o)] [] Lam M 0 0
  have hJo2 := hJo
  obtain ⟨ho0, ho16, hO⟩ := hJo2
  have hJr2 := hJr
  obtain ⟨hr0, hr40, hRr⟩ := hJr2
  refine mm_aload_n (mm_dc od_X9_group_0 0 rfl) rfl ?_
  refine mm_getR (ci := 9) (k := 0) (mm_dc od_X9_group_0 1 rfl) rfl in_X9 (by decide) wd_2_45 rfl rfl ?_
  refine mm_iload_n (mm_dc od_X9_group_0 2 rfl) rfl ?_
  refine mm_callV (b := 1) (mi' := mi_X0_hasOar) [v_i o] [] (mm_dc od_X9_group_0 3 rfl) rfl wd_2_99 wd_2_100 wd_2_101 wd_1_2 wd_2_102 yk_X0_hasOar rfl rfl rfl (Nat.le_of_ble_eq_true rfl) rfl (by decide) (c_X0_hasOar o (by first | assumption | omega | exact hr _ _ rfl | exact mm_ti _ | exact mm_r3264 (hr _ _ rfl)) (by first | assumption | omega | exact hr _ _ rfl | exact mm_ti _ | exact mm_r3264 (hr _ _ rfl)) (fun c1 => ⟨Nat.le_refl _, ?_⟩) (fun c1 => ⟨Nat.le_refl _, ?_⟩))
  · refine mm_if_eq 25 (mm_dc od_X9_group_0 4 rfl) (by omega) (by first | assumption | omega | exact hr _ _ rfl | exact mm_ti _ | exact mm_r3264 (hr _ _ rfl)) (fun h => absurd h (by decide)) (fun _ => ?_)
    refine mm_aload_n (mm_dc od_X9_group_0 5 rfl) rfl ?_
    refine mm_getR (ci := 9) (k := 1) (mm_dc od_X9_group_0 6 rfl) rfl in_X9 (by decide) wd_2_46 rfl rfl ?_
    refine mm_iload_n (mm_dc od_X9_group_0 7 rfl) rfl ?_
    refine mm_callV (b := 10) (mi' := mi_X4_groupOf) [v_i o] [] (mm_dc od_X9_group_0 8 rfl) rfl wd_2_163 wd_2_164 wd_2_165 wd_1_3 wd_2_166 yk_X4_groupOf rfl rfl rfl (Nat.le_of_ble_eq_true rfl) rfl (by decide) (c_X4_groupOf o (by first | assumption | omega | exact hr _ _ rfl | exact mm_ti _ | exact mm_r3264 (hr _ _ rfl)) hJo hJr (by first | assumption | omega | exact hr _ _ rfl | exact mm_ti _ | exact mm_r3264 (hr _ _ rfl)) (fun r2 hq3 => ⟨Nat.le_refl _, ?_⟩))
    have hq3_r := grpR_r hq3
    refine mm_callS (mi' := mi_X9_leastOf) [v_i r2] [] (mm_dc od_X9_group_0 9 rfl) rfl wd_2_167 wd_2_168 wd_1_1 wd_2_169 yk_X9_leastOf (Nat.le_of_ble_eq_true rfl) rfl (by decide) (c_X9_leastOf r2 (by first | assumption | omega | exact hr _ _ rfl | exact mm_ti _ | exact mm_r3264 (hr _ _ rfl)) (fun r4 hq5 => ⟨Nat.le_refl _, ?_⟩))
    refine mm_goto 26 (mm_dc od_X9_group_0 10 rfl) (by omega) ?_
    refine mm_iret (mm_dc od_X9_group_0 12 rfl) rfl ?_
    obtain ⟨m, e, q⟩ := hq3
    subst e
    exact k2 (by omega) m _ q (by simpa only [Int.toNat_natCast] using hq5)
  · refine mm_if_eq 25 (mm_dc od_X9_group_0 4 rfl) (by omega) (by first | assumption | omega | exact hr _ _ rfl | exact mm_ti _ | exact mm_r3264 (hr _ _ rfl)) (fun _ => ?_) (fun h => absurd h (by decide))
    refine mm_iconst (mm_dc od_X9_group_0 11 rfl) ?_
    refine mm_iret (mm_dc od_X9_group_0 12 rfl) rfl ?_
    exact k1 (by omega)
theorem c_X10_group {X : Nat × (Nat → Int)} {d : Nat} {Po : mm_Po} {M : mm_M} (o : Int) (ho0 : mm_r32 o) (hJom : JOm M) (hJrm : JRm M) (hr : R32 M) (k : ∀ (N : mm_M) (r : Int), ((¬ (0 ≤ o ∧ o < M 50 10) ∧ r = -1 ∧ N = M) ∨ ((0 ≤ o ∧ o < M 50 10) ∧ FGQ M N ∧ r = N 64 o.toNat)) → Po (some (v_i r)) Lam N) : mm_E X (d + 1) 0 0 mi_X10_group [v_r 50, v_i o] Po Lam M := by
  show mm_G X (d + 1) 0 0 mi_X10_group Po 0 [(0, v_r 50), (1, v_i o)] [] Lam M 0 0
  have hJom2 := hJom
  obtain ⟨ho0, ho16, hO⟩ := hJom2
  refine mm_aload_n (mm_dc od_X10_group_0 0 rfl) rfl ?_
  refine mm_iload_n (mm_dc od_X10_group_0 1 rfl) rfl ?_
  refine mm_callV (b := 50) (mi' := mi_X10_isOar) [v_i o] [] (mm_dc od_X10_group_0 2 rfl) rfl wd_5_51 wd_5_53 wd_p_21 wd_1_12 wd_5_54 yk_X10_isOar rfl rfl rfl (Nat.le_of_ble_eq_true rfl) rfl (by decide) (c_X10_isOar o (by first | assumption | omega | exact hr _ _ rfl | exact mm_ti _ | exact mm_r3264 (hr _ _ rfl)) (by first | assumption | omega | exact hr _ _ rfl | exact mm_ti _ | exact mm_r3264 (hr _ _ rfl)) (fun c1 => ⟨Nat.le_refl _, ?_⟩) (fun c1 => ⟨Nat.le_refl _, ?_⟩))
  · refine mm_if_ne 10 (mm_dc od_X10_group_0 3 rfl) (by omega) (by first | assumption | omega | exact hr _ _ rfl | exact mm_ti _ | exact mm_r3264 (hr _ _ rfl)) (fun _ => ?_) (fun h => absurd h (by decide))
    refine mm_aload_n (mm_dc od_X10_group_0 6 rfl) rfl ?_
    refine mm_callV (b := 50) (mi' := mi_X10_findGroups) [] [] (mm_dc od_X10_group_0 7 rfl) rfl wd_5_101 wd_5_103 wd_p_27 wd_1_12 wd_5_104 yk_X10_findGroups rfl rfl rfl (Nat.le_of_ble_eq_true rfl) rfl (by decide) (c_X10_findGroups  hJrm (by first | assumption | omega | exact hr _ _ rfl | exact mm_ti _ | exact mm_r3264 (hr _ _ rfl)) (fun N3 hq4 => ⟨Nat.le_refl _, ?_⟩))
    have hro := hr
    have hr := hq4.1.1
    have hJrmo := hJrm
    have hJrm := JRm_frm rfl hq4.1 hJrm
    have hfg10 : N3 50 = M 50 := hq4.1.2 50 (by decide)
    refine mm_aload_n (mm_dc od_X10_group_0 8 rfl) rfl ?_
    refine mm_getR (ci := 10) (k := 15) (mm_dc od_X10_group_0 9 rfl) rfl in_X10 (by decide) wd_4_127 rfl rfl ?_
    refine mm_iload_n (mm_dc od_X10_group_0 10 rfl) rfl ?_
    refine mm_iald (mm_dc od_X10_group_0 11 rfl) rfl (by first | assumption | omega | exact hr _ _ rfl | exact mm_ti _ | exact mm_r3264 (hr _ _ rfl)) (by first | assumption | omega | exact hr _ _ rfl | exact mm_ti _ | exact mm_r3264 (hr _ _ rfl)) (by decide) ?_
    refine mm_iret (mm_dc od_X10_group_0 12 rfl) rfl ?_
    exact k _ _ (Or.inr ⟨by omega, hq4, rfl⟩)
  · refine mm_if_ne 10 (mm_dc od_X10_group_0 3 rfl) (by omega) (by first | assumption | omega | exact hr _ _ rfl | exact mm_ti _ | exact mm_r3264 (hr _ _ rfl)) (fun h => absurd h (by decide)) (fun _ => ?_)
    refine mm_iconst (mm_dc od_X10_group_0 4 rfl) ?_
    refine mm_iret (mm_dc od_X10_group_0 5 rfl) rfl ?_
    exact k _ _ (Or.inl ⟨by omega, rfl, rfl⟩)
theorem inv_frm {c : Nat} {M N : mm_M} (hI : inv M) (h : frm c M N) (hc : c ∉ liveA) (hc2 : ∀ q, q ∈ liveF → q.1 ≠ c) : inv N :=
  inv_cong hI h.1 (fun j hj => h.2 j (fun e => hc (e ▸ hj))) (fun q hq => by rw [h.2 _ (hc2 q hq)])
theorem grpQ_cong {f s f2 s2 : Nat → Int} {n o m : Nat} (h : grpQ f s n o m) (he : ∀ r, r < n → f r = f2 r ∧ s r = s2 r) : grpQ f2 s2 n o m := by
  have hR : ∀ T, RQ f s n T ↔ RQ f2 s2 n T := fun T => ⟨fun h r hr => by rw [← (he r hr).1, ← (he r hr).2]; exact h r hr, fun h r hr => by rw [(he r hr).1, (he r hr).2]; exact h r hr⟩
  exact ⟨h.1, h.2.1, (hR _).mp h.2.2.1, fun T hT => h.2.2.2 T ((hR T).mpr hT)⟩
theorem pair_group {M : mm_M} (hI : inv M) (o : Int) (ho : mm_r32 o) : Pair2 mi_X9_group mi_X10_group v_i [v_i o] M := by
  have hI0 := hI
  obtain ⟨hr, hJo, hJb, hJr, hJom, hJbm, v0, v1, v2, v3, v4, v5, v6, v7, v8, v9⟩ := hI0
  have jo := hJo; have jb := hJb; have jr := hJr; have jom := hJom; have jbm := hJbm
  obtain ⟨ho0, ho16, hO⟩ := jo
  obtain ⟨hb0, hb8, hB⟩ := jb
  obtain ⟨hr0, hr40, hRr⟩ := jr
  obtain ⟨go0, go16, gO⟩ := jom
  obtain ⟨gb0, gb8, gB⟩ := jbm
  have w1 := v1.1; have w2 := v2.1; have w3 := v3.1; have w4 := v4.1; have w5 := v5.1; have w6 := v6.1; have w7 := v7.1.1; have w7b := v7.2.1.1; have w8 := v8.1; have w8b := v8.2.2.2.1
  have hJrm := inv_JRm hI
  refine Pair2_i (fun a MX => MX = M ∧ ((¬ (0 ≤ o ∧ o < M 1 0) ∧ a = -1) ∨ ((0 ≤ o ∧ o < M 1 0) ∧ ∃ m, grpQ (M 11) (M 12) (M 10 0).toNat o.toNat m ∧ firstP (fun i => m.testBit i = true) a 16))) (fun X d Po k => c_X9_group (d := d + 10) o ho hJo hJr hr (fun q => k _ _ ⟨rfl, Or.inl ⟨q, rfl⟩⟩) (fun q m r q1 q2 => k _ _ ⟨rfl, Or.inr ⟨q, m, q1, q2⟩⟩)) (fun a MX h => ?_)
  obtain ⟨rfl, h⟩ := h
  rcases h with ⟨hv, rfl⟩ | ⟨hv, m, h1, h2⟩
  · refine ⟨by decide, fun X d Po k => c_X10_group (d := d + 11) o ho hJom hJrm hr (fun N r hq => ?_)⟩
    rcases hq with ⟨_, rfl, rfl⟩ | ⟨q, _⟩
    · exact k _ hI
    · exfalso; omega
  · have h3 : mm_r32 a := by rcases h2 with ⟨e, _⟩ | ⟨e1, e2, _⟩ <;> omega
    refine ⟨h3, fun X d Po k => c_X10_group (d := d + 11) o ho hJom hJrm hr (fun N r hq => ?_)⟩
    rcases hq with ⟨q, _⟩ | ⟨_, q, e⟩
    · exfalso; omega
    · obtain ⟨q1, q2, q3⟩ := q
      have hall := grp_all (by omega) (grpQ_cong h1 (fun r hr => by have h := v3.2 r (by omega); exact ⟨h.1.symm, h.2.1.symm⟩)) (w3 ▸ q2) (w3 ▸ q3)
      have hg := q2.1 o.toNat (by omega)
      rw [← e] at hall hg
      have ea : r = a := by
        rcases h2 with ⟨e1, e2⟩ | ⟨e1, e2, e3, e4⟩
        · exact absurd hall.2.1 (e2 _ (by omega))
        · rcases Int.lt_or_le a r with q | q
          · have h9 := hall.2.2 a.toNat (by omega)
            rw [h9] at e3; cases e3
          · rcases Int.lt_or_le r a with q2 | q2
            · exact absurd hall.2.1 (e4 _ (by omega))
            · omega
      rw [ea]
      exact k _ (inv_frm hI q1 (by decide) (by decide))
