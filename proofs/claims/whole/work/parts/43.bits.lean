/-! bits -/
theorem fa_and (a b : Nat) : nI a &&& nI b = nI (a &&& b) := by
  apply Int32.toBitVec_inj.1
  show BitVec.ofNat 32 a &&& BitVec.ofNat 32 b = BitVec.ofNat 32 (a &&& b)
  apply BitVec.eq_of_getLsbD_eq
  intro i hi
  simp [hi]
theorem fa_or (a b : Nat) : nI a ||| nI b = nI (a ||| b) := by
  apply Int32.toBitVec_inj.1
  show BitVec.ofNat 32 a ||| BitVec.ofNat 32 b = BitVec.ofNat 32 (a ||| b)
  apply BitVec.eq_of_getLsbD_eq
  intro i hi
  simp [hi]
theorem fb_xorI (a b : Nat) : nI a ^^^ nI b = nI (a ^^^ b) := by
  apply Int32.toBitVec_inj.1
  show BitVec.ofNat 32 a ^^^ BitVec.ofNat 32 b = BitVec.ofNat 32 (a ^^^ b)
  apply BitVec.eq_of_getLsbD_eq
  intro i hi
  simp [hi]
theorem fb_bit_set (n j i : Nat) : (n ||| 2 ^ j).testBit i = (n.testBit i || decide (i = j)) := by
  rw [Nat.testBit_or]
  by_cases h : j = i
  · subst h; simp
  · have h2 : ¬ i = j := fun e => h e.symm
    first | (simp [Nat.testBit_two_pow, h, h2]; done) | (simp [Nat.testBit_two_pow_of_ne h, h2]; done)
theorem fb_bit_flip (n j i : Nat) : (n ^^^ 2 ^ j).testBit i = (n.testBit i ^^ decide (i = j)) := by
  rw [Nat.testBit_xor]
  by_cases h : j = i
  · subst h; simp
  · have h2 : ¬ i = j := fun e => h e.symm
    first | (simp [Nat.testBit_two_pow, h, h2]; done) | (simp [Nat.testBit_two_pow_of_ne h, h2]; done)
theorem fx_and_n {a b : Nat} (ha : a < 2147483648) : fx_and (a : Int) (b : Int) = ((a &&& b : Nat) : Int) := by
  unfold fx_and
  show (nI a &&& nI b).toInt = _
  rw [fa_and, nI_toInt (Nat.lt_of_le_of_lt Nat.and_le_left ha)]
theorem fx_or_n {a b : Nat} (ha : a < 2147483648) (hb : b < 2147483648) : fx_or (a : Int) (b : Int) = ((a ||| b : Nat) : Int) := by
  unfold fx_or
  show (nI a ||| nI b).toInt = _
  rw [fa_or, nI_toInt (Nat.or_lt_two_pow (n := 31) ha hb)]
theorem fx_xor_n {a b : Nat} (ha : a < 2147483648) (hb : b < 2147483648) : fx_xor (a : Int) (b : Int) = ((a ^^^ b : Nat) : Int) := by
  unfold fx_xor
  show (nI a ^^^ nI b).toInt = _
  rw [fb_xorI, nI_toInt (Nat.xor_lt_two_pow (n := 31) ha hb)]
theorem fx_sh31 : ∀ j : Nat, j < 32 → ((nI j &&& 31).toBitVec.smod 32).toNat = j := by decide
theorem fx_shl_n {a j : Nat} (hj : j < 32) (h : a * 2 ^ j < 2147483648) : fx_shl (a : Int) (j : Int) = ((a * 2 ^ j : Nat) : Int) := by
  unfold fx_shl
  show (nI a <<< (nI j &&& 31)).toInt = _
  rw [pk_shlN _ j (fx_sh31 j hj) (by omega), nI_toInt h]
theorem fx_shr_n {a j : Nat} (hj : j < 32) (h : a < 2147483648) : fx_shr (a : Int) (j : Int) = ((a / 2 ^ j : Nat) : Int) := by
  unfold fx_shr
  show (nI a >>> (nI j &&& 31)).toInt = _
  rw [pk_shrN h _ j (fx_sh31 j hj), nI_toInt (Nat.lt_of_le_of_lt (Nat.div_le_self _ _) h)]
/-- whether a bit is there, as '(set >> j & 1)' asks it -/
theorem fx_bit {a j : Nat} (hj : j < 32) (h : a < 2147483648) : fx_and (fx_shr (a : Int) (j : Int)) 1 = if a.testBit j then 1 else 0 := by
  rw [fx_shr_n hj h]
  have h2 := fx_and_n (a := a / 2 ^ j) (b := 1) (Nat.lt_of_le_of_lt (Nat.div_le_self _ _) h)
  rw [show ((1 : Nat) : Int) = 1 from rfl] at h2
  rw [h2, Nat.and_one_is_mod, Nat.testBit_eq_decide_div_mod_eq]
  by_cases e : a / 2 ^ j % 2 = 1
  · simp [e]
  · have e2 : a / 2 ^ j % 2 = 0 := by omega
    simp [e2]
/-- a set of places below n as bits -/
def bitsP (m : Nat) (P : Nat → Prop) (n : Nat) : Prop := m < 2 ^ n ∧ ∀ i : Nat, m.testBit i = true ↔ (i < n ∧ P i)
theorem bitsP_0 {P : Nat → Prop} : bitsP 0 P 0 := ⟨by decide, fun i => by simp⟩
theorem bitsP_new {m j : Nat} {P : Nat → Prop} (h : bitsP m P j) (hp : P j) : bitsP (m ||| 2 ^ j) P (j + 1) := by
  refine ⟨Nat.or_lt_two_pow (Nat.lt_trans h.1 (Nat.pow_lt_pow_right (by decide) (Nat.lt_succ_self j))) (Nat.pow_lt_pow_right (by decide) (Nat.lt_succ_self j)), fun i => ?_⟩
  rw [fb_bit_set, Bool.or_eq_true, h.2 i, decide_eq_true_eq]
  constructor
  · rintro (⟨h1, h2⟩ | rfl)
    · exact ⟨by omega, h2⟩
    · exact ⟨by omega, hp⟩
  · rintro ⟨h1, h2⟩
    by_cases e : i = j
    · exact Or.inr e
    · exact Or.inl ⟨by omega, h2⟩
theorem bitsP_old {m j : Nat} {P : Nat → Prop} (h : bitsP m P j) (hp : ¬ P j) : bitsP m P (j + 1) := by
  refine ⟨Nat.lt_trans h.1 (Nat.pow_lt_pow_right (by decide) (Nat.lt_succ_self j)), fun i => ?_⟩
  rw [h.2 i]
  constructor
  · rintro ⟨h1, h2⟩
    exact ⟨by omega, h2⟩
  · rintro ⟨h1, h2⟩
    refine ⟨?_, h2⟩
    rcases Nat.lt_or_ge i j with q | q
    · exact q
    · have e : i = j := by omega
      rw [e] at h2
      exact absurd h2 hp
theorem bitsP_one {m m2 n : Nat} {P Q : Nat → Prop} (h : bitsP m P n) (h2 : bitsP m2 Q n) (he : ∀ i, i < n → (P i ↔ Q i)) : m = m2 := by
  apply Nat.eq_of_testBit_eq
  intro i
  rw [Bool.eq_iff_iff, h.2 i, h2.2 i]
  constructor
  · rintro ⟨h1, h3⟩
    exact ⟨h1, (he i h1).mp h3⟩
  · rintro ⟨h1, h3⟩
    exact ⟨h1, (he i h1).mpr h3⟩
theorem bitsP_16 {m n : Nat} {P : Nat → Prop} (h : bitsP m P n) (hn : n ≤ 16) : m < 65536 := Nat.lt_of_lt_of_le h.1 (Nat.pow_le_pow_right (by decide) hn)
theorem lastP_cong {P Q : Nat → Prop} {f : Int} {n : Nat} (h : lastP P f n) (he : ∀ i, i < n → (P i ↔ Q i)) : lastP Q f n := by
  rcases h with ⟨h1, h2⟩ | ⟨h1, h2, h3, h4⟩
  · exact Or.inl ⟨h1, fun i hi hq => h2 i hi ((he i hi).mpr hq)⟩
  · exact Or.inr ⟨h1, h2, (he _ (by omega)).mp h3, fun i hi hn hq => h4 i hi hn ((he i hn).mpr hq)⟩
theorem firstP_cong {P Q : Nat → Prop} {f : Int} {n : Nat} (h : firstP P f n) (he : ∀ i, i < n → (P i ↔ Q i)) : firstP Q f n := by
  rcases h with ⟨h1, h2⟩ | ⟨h1, h2, h3, h4⟩
  · exact Or.inl ⟨h1, fun i hi hq => h2 i hi ((he i hi).mpr hq)⟩
  · exact Or.inr ⟨h1, h2, (he _ (by omega)).mp h3, fun i hi hq => h4 i hi ((he i (by omega)).mpr hq)⟩
theorem lastP_back {P : Nat → Prop} {f : Int} {n : Nat} (h : lastP P f (n + 1)) (hn : ¬ P n) : lastP P f n := by
  obtain ⟨g, hg⟩ := lastP_ex (P := P) n
  have e := lastP_one h (lastP_old hg hn)
  rw [e]; exact hg
theorem pair_look {M : mm_M} (hI : inv M) (b whole : Int) (hb : mm_r32 b) (hwhole : mm_r32 whole) : Pair mi_X9_look mi_X10_look v_i [v_i b, v_i whole] M := by
  have hI0 := hI
  obtain ⟨hr, hJo, hJb, hJr, hJom, hJbm, v0, v1, v2, v3, v4, v5, v6, v7, v8, v9⟩ := hI0
  have jo := hJo; have jb := hJb; have jr := hJr; have jom := hJom; have jbm := hJbm
  obtain ⟨ho0, ho16, hO⟩ := jo
  obtain ⟨hb0, hb8, hB⟩ := jb
  obtain ⟨hr0, hr40, hRr⟩ := jr
  obtain ⟨go0, go16, gO⟩ := jom
  obtain ⟨gb0, gb8, gB⟩ := jbm
  have w1 := v1.1; have w2 := v2.1; have w3 := v3.1; have w4 := v4.1; have w5 := v5.1; have w6 := v6.1; have w7 := v7.1.1; have w7b := v7.2.1.1; have w8 := v8.1; have w8b := v8.2.2.2.1
  have y2 := v7.2.1.2.1; have y3 := v7.2.1.2.2.1
  by_cases hv : 0 ≤ b ∧ b < M 1 5
  · by_cases hf : 0 ≤ whole ∧ whole ≤ 1
    · by_cases hg : M 35 5 < 60
      · have hrX : R32 (mm_up (mm_up (mm_up (mm_up M 40 (M 35 5).toNat b) 41 (M 35 5).toNat whole) 42 (M 35 5).toNat (M 35 0)) 35 5 (M 35 5 + 1)) := (R32_up (R32_up (R32_up (R32_up hr (by first | omega | assumption | exact hr _ _ rfl)) (by first | omega | assumption | exact hr _ _ rfl)) (by first | omega | assumption | exact hr _ _ rfl)) (by first | omega | assumption | exact hr _ _ rfl))
        refine Pair_i (M 35 5) (mm_up (mm_up (mm_up (mm_up M 40 (M 35 5).toNat b) 41 (M 35 5).toNat whole) 42 (M 35 5).toNat (M 35 0)) 35 5 (M 35 5 + 1)) (mm_up (mm_up (mm_up (mm_up (mm_up (mm_up (mm_up (mm_up (mm_up M 40 (M 35 5).toNat b) 41 (M 35 5).toNat whole) 42 (M 35 5).toNat (M 35 0)) 35 5 (M 35 5 + 1)) 83 (M 50 45).toNat b) 84 (M 50 45).toNat (M 50 44)) 85 (M 50 45).toNat whole) 56 b.toNat (1 - whole)) 50 45 (M 50 45 + 1)) (fun X d Po k => c_X9_look (d := d + 11) b whole (show mm_r32 b from (by first | assumption | omega)) (show mm_r32 whole from (by first | assumption | omega)) (show 0 ≤ M 35 5 from (by first | assumption | omega)) hr (fun (q0 : ¬ (0 ≤ b ∧ b < M 1 5)) => by exfalso; omega) (fun (q0 : 0 ≤ b ∧ b < M 1 5) (q1 : ¬ (0 ≤ whole ∧ whole ≤ 1)) => by exfalso; omega) (fun (q0 : 0 ≤ b ∧ b < M 1 5) (q1 : 0 ≤ whole ∧ whole ≤ 1) (q2 : 60 ≤ M 35 5) => by exfalso; omega) (fun (q0 : 0 ≤ b ∧ b < M 1 5) (q1 : 0 ≤ whole ∧ whole ≤ 1) (q2 : M 35 5 < 60) => by first | exact k | exact mm_pi (show M 35 5 = M 35 5 by omega) k)) (fun X d Po k => c_X10_look (d := d + 11) b whole (show mm_r32 b from (by first | assumption | omega)) (show mm_r32 whole from (by first | assumption | omega)) (show 0 ≤ M 50 45 ∧ M 50 45 ≤ 60 from (by first | assumption | omega)) (show M 50 11 ≤ 8 from (by first | assumption | omega)) hrX (fun (q0 : ¬ (0 ≤ b ∧ b < M 50 11)) => by exfalso; omega) (fun (q0 : 0 ≤ b ∧ b < M 50 11) (q1 : ¬ (0 ≤ whole ∧ whole ≤ 1)) => by exfalso; omega) (fun (q0 : 0 ≤ b ∧ b < M 50 11) (q1 : 0 ≤ whole ∧ whole ≤ 1) (q2 : 60 ≤ M 50 45) => by exfalso; omega) (fun (q0 : 0 ≤ b ∧ b < M 50 11) (q1 : 0 ≤ whole ∧ whole ≤ 1) (q2 : M 50 45 < 60) => by first | exact k | exact mm_pi (show M 50 45 = M 35 5 by omega) k)) (by first | decide | omega | exact hr _ _ rfl) ?_
        refine ⟨(R32_up (R32_up (R32_up (R32_up (R32_up (R32_up (R32_up (R32_up (R32_up hr (by first | omega | assumption | exact hr _ _ rfl)) (by first | omega | assumption | exact hr _ _ rfl)) (by first | omega | assumption | exact hr _ _ rfl)) (by first | omega | assumption | exact hr _ _ rfl)) (by first | omega | assumption | exact hr _ _ rfl)) (by first | omega | assumption | exact hr _ _ rfl)) (by first | omega | assumption | exact hr _ _ rfl)) (by first | omega | assumption | exact hr _ _ rfl)) (by first | omega | assumption | exact hr _ _ rfl)), hJo, hJb, hJr, hJom, hJbm, v0, v1, v2, v3, v4, v5, v6, ?_, v8, v9⟩
        obtain ⟨z1, ⟨x1, x2, x3, x4⟩, z3⟩ := v7
        refine ⟨z1, ⟨by show M 50 45 + 1 = M 35 5 + 1; omega, by show 0 ≤ M 35 5 + 1; omega, by show M 35 5 + 1 ≤ 60; omega, push_all (n := M 35 5) x2 x4 (fun o ho h => ?_) ?_⟩, fun c hc => ?_⟩
        · have e : ¬ o = (M 35 5).toNat := by omega
          have e2 : ¬ o = (M 50 45).toNat := by omega
          simp [mm_up, e, e2]; omega
        · simp [mm_up, w7b]; omega
        · obtain ⟨N', hN'⟩ : ∃ N' : mm_M, N' = mm_up (mm_up (mm_up (mm_up (mm_up (mm_up (mm_up (mm_up (mm_up M 40 (M 35 5).toNat b) 41 (M 35 5).toNat whole) 42 (M 35 5).toNat (M 35 0)) 35 5 (M 35 5 + 1)) 83 (M 50 45).toNat b) 84 (M 50 45).toNat (M 50 44)) 85 (M 50 45).toNat whole) 56 b.toNat (1 - whole)) 50 45 (M 50 45 + 1) := ⟨_, rfl⟩
          rw [← hN']
          have z4 := z3 c hc
          have n35 : N' 35 5 = M 35 5 + 1 := by rw [hN']; rfl
          have q56 : N' 56 c = if c = b.toNat then 1 - whole else M 56 c := by simp [hN', mm_up]
          refine ⟨by show N' 56 c = 0 ∨ N' 56 c = 1; rw [q56]; split <;> omega, fun f hf => ?_⟩
          have hn : (N' 35 5).toNat = (M 35 5).toNat + 1 := by rw [n35]; omega
          have hf : lastP (fun i => N' 40 i = c) f ((M 35 5).toNat + 1) := by rw [← hn]; exact hf
          show N' 56 c = 1 ↔ (f ≠ -1 ∧ N' 41 f.toNat = 0)
          have q40 : ∀ i, N' 40 i = if i = (M 35 5).toNat then b else M 40 i := fun i => by simp [hN', mm_up]
          have q41 : ∀ i, N' 41 i = if i = (M 35 5).toNat then whole else M 41 i := fun i => by simp [hN', mm_up]
          by_cases e : (c : Int) = b
          · have hl : lastP (fun i => N' 40 i = c) ((M 35 5).toNat : Int) ((M 35 5).toNat + 1) := lastP_new (by show N' 40 _ = _; rw [q40, if_pos rfl]; exact e.symm)
            have ef := lastP_one hf hl
            rw [q56, if_pos (by omega), q41, if_pos (by omega)]
            omega
          · have hb2 := lastP_back hf (by show ¬ N' 40 _ = _; rw [q40, if_pos rfl]; exact fun h => e h.symm)
            have hb3 := lastP_cong (Q := fun i => M 40 i = c) hb2 (fun i hi => by rw [q40, if_neg (by omega)])
            have h5 := z4.2 f hb3
            have h6 := lastP_rng hb3
            rw [q56, if_neg (by omega), q41]
            by_cases e7 : f.toNat = (M 35 5).toNat
            · rw [if_pos e7]
              have e8 : f = -1 := by omega
              omega
            · rw [if_neg e7]; exact h5
      · have hrX : R32 (M) := hr
        refine Pair_i (-4) (M) (M) (fun X d Po k => c_X9_look (d := d + 11) b whole (show mm_r32 b from (by first | assumption | omega)) (show mm_r32 whole from (by first | assumption | omega)) (show 0 ≤ M 35 5 from (by first | assumption | omega)) hr (fun (q0 : ¬ (0 ≤ b ∧ b < M 1 5)) => by exfalso; omega) (fun (q0 : 0 ≤ b ∧ b < M 1 5) (q1 : ¬ (0 ≤ whole ∧ whole ≤ 1)) => by exfalso; omega) (fun (q0 : 0 ≤ b ∧ b < M 1 5) (q1 : 0 ≤ whole ∧ whole ≤ 1) (q2 : 60 ≤ M 35 5) => by first | exact k | exact mm_pi (show (-4) = -4 by omega) k) (fun (q0 : 0 ≤ b ∧ b < M 1 5) (q1 : 0 ≤ whole ∧ whole ≤ 1) (q2 : M 35 5 < 60) => by exfalso; omega)) (fun X d Po k => c_X10_look (d := d + 11) b whole (show mm_r32 b from (by first | assumption | omega)) (show mm_r32 whole from (by first | assumption | omega)) (show 0 ≤ M 50 45 ∧ M 50 45 ≤ 60 from (by first | assumption | omega)) (show M 50 11 ≤ 8 from (by first | assumption | omega)) hrX (fun (q0 : ¬ (0 ≤ b ∧ b < M 50 11)) => by exfalso; omega) (fun (q0 : 0 ≤ b ∧ b < M 50 11) (q1 : ¬ (0 ≤ whole ∧ whole ≤ 1)) => by exfalso; omega) (fun (q0 : 0 ≤ b ∧ b < M 50 11) (q1 : 0 ≤ whole ∧ whole ≤ 1) (q2 : 60 ≤ M 50 45) => by first | exact k | exact mm_pi (show (-4) = -4 by omega) k) (fun (q0 : 0 ≤ b ∧ b < M 50 11) (q1 : 0 ≤ whole ∧ whole ≤ 1) (q2 : M 50 45 < 60) => by exfalso; omega)) (by first | decide | omega | exact hr _ _ rfl) ?_
        exact hI
    · have hrX : R32 (M) := hr
      refine Pair_i (-2) (M) (M) (fun X d Po k => c_X9_look (d := d + 11) b whole (show mm_r32 b from (by first | assumption | omega)) (show mm_r32 whole from (by first | assumption | omega)) (show 0 ≤ M 35 5 from (by first | assumption | omega)) hr (fun (q0 : ¬ (0 ≤ b ∧ b < M 1 5)) => by exfalso; omega) (fun (q0 : 0 ≤ b ∧ b < M 1 5) (q1 : ¬ (0 ≤ whole ∧ whole ≤ 1)) => by first | exact k | exact mm_pi (show (-2) = -2 by omega) k) (fun (q0 : 0 ≤ b ∧ b < M 1 5) (q1 : 0 ≤ whole ∧ whole ≤ 1) (q2 : 60 ≤ M 35 5) => by exfalso; omega) (fun (q0 : 0 ≤ b ∧ b < M 1 5) (q1 : 0 ≤ whole ∧ whole ≤ 1) (q2 : M 35 5 < 60) => by exfalso; omega)) (fun X d Po k => c_X10_look (d := d + 11) b whole (show mm_r32 b from (by first | assumption | omega)) (show mm_r32 whole from (by first | assumption | omega)) (show 0 ≤ M 50 45 ∧ M 50 45 ≤ 60 from (by first | assumption | omega)) (show M 50 11 ≤ 8 from (by first | assumption | omega)) hrX (fun (q0 : ¬ (0 ≤ b ∧ b < M 50 11)) => by exfalso; omega) (fun (q0 : 0 ≤ b ∧ b < M 50 11) (q1 : ¬ (0 ≤ whole ∧ whole ≤ 1)) => by first | exact k | exact mm_pi (show (-2) = -2 by omega) k) (fun (q0 : 0 ≤ b ∧ b < M 50 11) (q1 : 0 ≤ whole ∧ whole ≤ 1) (q2 : 60 ≤ M 50 45) => by exfalso; omega) (fun (q0 : 0 ≤ b ∧ b < M 50 11) (q1 : 0 ≤ whole ∧ whole ≤ 1) (q2 : M 50 45 < 60) => by exfalso; omega)) (by first | decide | omega | exact hr _ _ rfl) ?_
      exact hI
  · have hrX : R32 (M) := hr
    refine Pair_i (-1) (M) (M) (fun X d Po k => c_X9_look (d := d + 11) b whole (show mm_r32 b from (by first | assumption | omega)) (show mm_r32 whole from (by first | assumption | omega)) (show 0 ≤ M 35 5 from (by first | assumption | omega)) hr (fun (q0 : ¬ (0 ≤ b ∧ b < M 1 5)) => by first | exact k | exact mm_pi (show (-1) = -1 by omega) k) (fun (q0 : 0 ≤ b ∧ b < M 1 5) (q1 : ¬ (0 ≤ whole ∧ whole ≤ 1)) => by exfalso; omega) (fun (q0 : 0 ≤ b ∧ b < M 1 5) (q1 : 0 ≤ whole ∧ whole ≤ 1) (q2 : 60 ≤ M 35 5) => by exfalso; omega) (fun (q0 : 0 ≤ b ∧ b < M 1 5) (q1 : 0 ≤ whole ∧ whole ≤ 1) (q2 : M 35 5 < 60) => by exfalso; omega)) (fun X d Po k => c_X10_look (d := d + 11) b whole (show mm_r32 b from (by first | assumption | omega)) (show mm_r32 whole from (by first | assumption | omega)) (show 0 ≤ M 50 45 ∧ M 50 45 ≤ 60 from (by first | assumption | omega)) (show M 50 11 ≤ 8 from (by first | assumption | omega)) hrX (fun (q0 : ¬ (0 ≤ b ∧ b < M 50 11)) => by first | exact k | exact mm_pi (show (-1) = -1 by omega) k) (fun (q0 : 0 ≤ b ∧ b < M 50 11) (q1 : ¬ (0 ≤ whole ∧ whole ≤ 1)) => by exfalso; omega) (fun (q0 : 0 ≤ b ∧ b < M 50 11) (q1 : 0 ≤ whole ∧ whole ≤ 1) (q2 : 60 ≤ M 50 45) => by exfalso; omega) (fun (q0 : 0 ≤ b ∧ b < M 50 11) (q1 : 0 ≤ whole ∧ whole ≤ 1) (q2 : M 50 45 < 60) => by exfalso; omega)) (by first | decide | omega | exact hr _ _ rfl) ?_
    exact hI
