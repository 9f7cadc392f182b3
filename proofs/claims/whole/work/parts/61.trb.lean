theorem fx_ushr_z {x : Int} {j : Nat} (hx : mm_r32 x) (hj : j ≤ 8) : fx_ushr x (j : Int) = 0 ↔ (0 ≤ x ∧ x < ((2 ^ j : Nat) : Int)) := by
  have hp : 2 ^ j ≤ 2 ^ 8 := Nat.pow_le_pow_right (by decide) hj
  have hp2 : 0 < 2 ^ j := Nat.two_pow_pos j
  by_cases h0 : 0 ≤ x
  · obtain ⟨a, rfl⟩ : ∃ a : Nat, x = a := ⟨x.toNat, by omega⟩
    rw [fx_ushr_n (by omega) (by omega)]
    constructor
    · intro q
      have : a / 2 ^ j = 0 := by omega
      rw [Nat.div_eq_zero_iff] at this
      omega
    · intro q
      have : a / 2 ^ j = 0 := by rw [Nat.div_eq_zero_iff]; omega
      rw [this]; rfl
  · constructor
    · intro q
      exfalso
      unfold fx_ushr at q
      have q2 : ((BitVec.ofInt 32 x) >>> (((nI j).toUInt32 &&& Int32.toUInt32 31).toBitVec % 32)).toInt = 0 := q
      rw [fx_ushr_amt j (by omega), BitVec.ushiftRight_eq'] at q2
      have e : (BitVec.ofNat 32 j).toNat = j := by rw [BitVec.toNat_ofNat]; omega
      rw [e] at q2
      have q3 : (BitVec.ofInt 32 x >>> j) = 0#32 := by
        apply BitVec.eq_of_toInt_eq
        rw [q2]; decide
      have q4 := congrArg BitVec.toNat q3
      rw [BitVec.toNat_ushiftRight, BitVec.toNat_ofInt, Nat.shiftRight_eq_div_pow] at q4
      have q5 : (x % ((2 ^ 32 : Nat) : Int)).toNat = (x + 4294967296).toNat := by
        have : ((2 ^ 32 : Nat) : Int) = 4294967296 := by decide
        rw [this]; omega
      rw [q5] at q4
      have q6 : (x + 4294967296).toNat / 2 ^ j = 0 := q4
      rw [Nat.div_eq_zero_iff] at q6
      omega
    · intro q; omega
theorem R32_fill {M : mm_M} {b n : Nat} {v : Int} (h : R32 M) (hv : mm_r32 v) : R32 (mm_fill M b n v) := by
  intro i k hik
  unfold mm_fill
  split
  · exact hv
  · exact h i k hik
theorem c_X5_load {X : Nat × (Nat → Int)} {d : Nat} {Po : mm_Po} {M : mm_M} (set : Int) (lim : Int) (hs : 0 ≤ set ∧ set < 256) (hlim : 1 ≤ lim ∧ lim ≤ 999) (hl : lnQ M set.toNat) (hr : R32 M) (k : ∀ (N : mm_M) (r : Int), (LI M set.toNat lim (M 47) 0 0 (1 * bsF set.toNat 8) N ∧ r = N 46 3) → Po (some (v_i r)) Lam N) : mm_E X (d + 10) 0 0 mi_X5_load [v_r 46, v_r 9, v_i set, v_i lim] Po Lam M := by
  show mm_G X (d + 10) 0 0 mi_X5_load Po 0 [(0, v_r 46), (1, v_r 9), (2, v_i set), (3, v_i lim)] [] Lam M 0 0
  refine mm_aload_n (mm_dc od_X5_load_0 0 rfl) rfl ?_
  refine mm_getR (ci := 5) (k := 1) (mm_dc od_X5_load_0 1 rfl) rfl in_X5 (by decide) wd_2_33 rfl rfl ?_
  refine mm_iconst (mm_dc od_X5_load_0 2 rfl) ?_
  refine mm_callS (mi' := mi_J7_fill_53178) [v_r 48, v_i (-1)] [] (mm_dc od_X5_load_0 3 rfl) rfl wd_2_28 wd_2_29 wd_1_11 wd_2_30 yk_J7_fill_53178 (Nat.le_of_ble_eq_true rfl) rfl (by decide) (c_fillI (n := 8) (by decide) rfl _ ⟨Nat.le_refl _, ?_⟩)
  refine mm_aload_n (mm_dc od_X5_load_0 4 rfl) rfl ?_
  refine mm_getR (ci := 5) (k := 2) (mm_dc od_X5_load_0 5 rfl) rfl in_X5 (by decide) wd_2_34 rfl rfl ?_
  refine mm_iconst (mm_dc od_X5_load_0 6 rfl) ?_
  refine mm_callS (mi' := mi_J7_fill_53178) [v_r 49, v_i 0] [] (mm_dc od_X5_load_0 7 rfl) rfl wd_2_28 wd_2_29 wd_1_11 wd_2_30 yk_J7_fill_53178 (Nat.le_of_ble_eq_true rfl) rfl (by decide) (c_fillI (n := 3) (by decide) rfl _ ⟨Nat.le_refl _, ?_⟩)
  refine mm_aload_n (mm_dc od_X5_load_0 8 rfl) rfl ?_
  refine mm_iload_n (mm_dc od_X5_load_0 9 rfl) rfl ?_
  refine mm_iconst (mm_dc od_X5_load_0 10 rfl) ?_
  refine mm_iadd (mm_dc od_X5_load_0 11 rfl) ?_
  refine mm_putI (ci := 5) (k := 3) (mm_dc od_X5_load_0 12 rfl) rfl in_X5 tyX5_ok nmX5 (by decide) wd_2_35 rfl rfl rfl rfl ?_
  refine mm_aload_n (mm_dc od_X5_load_0 13 rfl) rfl ?_
  refine mm_aload_n (mm_dc od_X5_load_0 14 rfl) rfl ?_
  refine mm_iload_n (mm_dc od_X5_load_0 15 rfl) rfl ?_
  refine mm_iconst (mm_dc od_X5_load_0 16 rfl) ?_
  obtain ⟨N0, hN0⟩ : ∃ N0 : mm_M, N0 = mm_up (mm_fill (mm_fill M 48 8 (-1)) 49 3 0) 46 3 (lim + 1) := ⟨_, rfl⟩
  rw [← hN0]
  have hL : LI M set.toNat lim (M 47) 0 0 (0 * bsF set.toNat 8) N0 := by
    rw [Nat.zero_mul, hN0]
    refine ⟨R32_up (R32_fill (R32_fill hr (by decide)) (by decide)) (by omega), fun i hi => ?_, fun r hr => ?_, fun i hi hi2 => ?_, ?_, fun i hi => ?_⟩
    · funext q; simp [mm_up, mm_fill]; omega
    · simp [mm_up, mm_fill, rwF]; omega
    · simp [mm_up, mm_fill, asF, hi]
    · simp [mm_up, stF]
    · simp [mm_up, mm_fill, stF]
  have ez : set = ((set.toNat : Nat) : Int) := by omega
  rw [ez]
  refine mm_callS (mi' := mi_X5_lay) [v_r 46, v_r 9, v_i ((set.toNat : Nat) : Int), v_i 0] [] (mm_dc od_X5_load_0 17 rfl) rfl wd_4_88 wd_4_89 wd_1_10 wd_4_90 yk_X5_lay (Nat.le_of_ble_eq_true rfl) rfl (by decide) (c_X5_lay set.toNat lim (M 47) (by omega) hl 8 0 (by omega) d 0 N0 _ hL (fun N hN => ⟨Nat.le_refl _, ?_⟩))
  rw [← ez]
  refine mm_aload_n (mm_dc od_X5_load_0 18 rfl) rfl ?_
  refine mm_getI (ci := 5) (k := 3) (mm_dc od_X5_load_0 19 rfl) rfl in_X5 (by decide) wd_2_35 rfl rfl ?_
  refine mm_iret (mm_dc od_X5_load_0 20 rfl) rfl ?_
  exact k _ _ ⟨hN, rfl⟩
theorem trl_ln {M : mm_M} (hJb : JB M) {set : Nat} (hs : (set : Int) < ((2 ^ (M 1 5).toNat : Nat) : Int)) : lnQ M set := by
  intro i hi
  have h1 : i < (M 1 5).toNat := by
    apply Classical.byContradiction
    intro q
    have h2 : set < 2 ^ i := Nat.lt_of_lt_of_le (by omega) (Nat.pow_le_pow_right (n := 2) (i := (M 1 5).toNat) (by decide) (by omega))
    rw [Nat.testBit_lt_two_pow h2] at hi
    cases hi
  have h3 := (hJb.2.2 i (by have := hJb.1; omega)).2.2.2
  omega
theorem c_X9_trailer {X : Nat × (Nat → Int)} {d : Nat} {Po : mm_Po} {M : mm_M} (set : Int) (len : Int) (hs0 : mm_r32 set) (hl0 : mm_r32 len) (hJb : JB M) (hr : R32 M) (k : ∀ (N : mm_M) (r : Int), ((¬ ((0 ≤ set ∧ set < ((2 ^ (M 1 5).toNat : Nat) : Int)) ∧ (1 ≤ len ∧ len ≤ 999)) ∧ r = -2 ∧ N = M) ∨ (((0 ≤ set ∧ set < ((2 ^ (M 1 5).toNat : Nat) : Int)) ∧ (1 ≤ len ∧ len ≤ 999)) ∧ LI M set.toNat len (M 47) 0 0 (1 * bsF set.toNat 8) N ∧ ((len < N 46 3 ∧ r = -3) ∨ (N 46 3 ≤ len ∧ r = N 46 3)))) → Po (some (v_i r)) Lam N) : mm_E X (d + 11) 0 0 mi_X9_trailer [v_r 0, v_i set, v_i len] Po Lam M := by
  show mm_G X (d + 11) 0 0 mi_X9_trailer Po 0 [(0, v_r 0), (1, v_i set), (2, v_i len)] [] Lam M 0 0
  have hJb2 := hJb
  obtain ⟨hb0, hb8, hB⟩ := hJb2
  have hz := fx_ushr_z (x := set) (j := (M 1 5).toNat) hs0 (by omega)
  rw [Int.toNat_of_nonneg hb0] at hz
  have hur : mm_r32 (fx_ushr set (M 1 5)) := (by unfold fx_ushr; exact mm_ti _)
  have hp : 2 ^ (M 1 5).toNat ≤ 2 ^ 8 := Nat.pow_le_pow_right (by decide) (by omega)
  have hlnz : 0 ≤ set ∧ set < ((2 ^ (M 1 5).toNat : Nat) : Int) → lnQ M set.toNat := fun q => trl_ln hJb (by omega)
  refine mm_iload_n (mm_dc od_X9_trailer_0 0 rfl) rfl ?_
  refine mm_aload_n (mm_dc od_X9_trailer_0 1 rfl) rfl ?_
  refine mm_getR (ci := 9) (k := 0) (mm_dc od_X9_trailer_0 2 rfl) rfl in_X9 (by decide) wd_2_45 rfl rfl ?_
  refine mm_getI (ci := 0) (k := 5) (mm_dc od_X9_trailer_0 3 rfl) rfl in_X0 (by decide) wd_1_47 rfl rfl ?_
  refine mm_iushr (mm_dc od_X9_trailer_0 4 rfl) ?_
  refine mm_if_ne 23 (mm_dc od_X9_trailer_0 5 rfl) (by omega) (by first | omega | assumption | exact hr _ _ rfl | exact hlnz (by omega)) (fun c1 => ?_) (fun c1 => ?_)
  · refine mm_bipush (mm_dc od_X9_trailer_0 11 rfl) (by decide) ?_
    refine mm_iret (mm_dc od_X9_trailer_0 12 rfl) rfl ?_
    exact k _ _ (Or.inl ⟨by omega, rfl, rfl⟩)
  · refine mm_iload_n (mm_dc od_X9_trailer_0 6 rfl) rfl ?_
    refine mm_iconst (mm_dc od_X9_trailer_0 7 rfl) ?_
    refine mm_sipush (mm_dc od_X9_trailer_0 8 rfl) (by decide) ?_
    refine mm_callS (mi' := mi_X9_within) [v_i len, v_i 1, v_i 999] [] (mm_dc od_X9_trailer_0 9 rfl) rfl wd_2_80 wd_2_81 wd_1_1 wd_2_82 yk_X9_within (Nat.le_of_ble_eq_true rfl) rfl (by decide) (c_X9_within len 1 999 (by first | omega | assumption | exact hr _ _ rfl | exact hlnz (by omega)) (by first | omega | assumption | exact hr _ _ rfl | exact hlnz (by omega)) (by first | omega | assumption | exact hr _ _ rfl | exact hlnz (by omega)) (fun c2 => ⟨Nat.le_refl _, ?_⟩) (fun c2 => ⟨Nat.le_refl _, ?_⟩))
    · refine mm_if_ne 26 (mm_dc od_X9_trailer_0 10 rfl) (by omega) (by first | omega | assumption | exact hr _ _ rfl | exact hlnz (by omega)) (fun _ => ?_) (fun h => absurd h (by decide))
      refine mm_aload_n (mm_dc od_X9_trailer_0 13 rfl) rfl ?_
      refine mm_getR (ci := 9) (k := 8) (mm_dc od_X9_trailer_0 14 rfl) rfl in_X9 (by decide) wd_2_53 rfl rfl ?_
      refine mm_aload_n (mm_dc od_X9_trailer_0 15 rfl) rfl ?_
      refine mm_getR (ci := 9) (k := 0) (mm_dc od_X9_trailer_0 16 rfl) rfl in_X9 (by decide) wd_2_45 rfl rfl ?_
      refine mm_getR (ci := 0) (k := 9) (mm_dc od_X9_trailer_0 17 rfl) rfl in_X0 (by decide) wd_1_55 rfl rfl ?_
      refine mm_iload_n (mm_dc od_X9_trailer_0 18 rfl) rfl ?_
      refine mm_iload_n (mm_dc od_X9_trailer_0 19 rfl) rfl ?_
      refine mm_callV (b := 46) (mi' := mi_X5_load) [v_r 9, v_i set, v_i len] [] (mm_dc od_X9_trailer_0 20 rfl) rfl wd_4_84 wd_4_85 wd_4_86 wd_1_10 wd_4_87 yk_X5_load rfl rfl rfl (Nat.le_of_ble_eq_true rfl) rfl (by decide) (c_X5_load set len (by first | omega | assumption | exact hr _ _ rfl | exact hlnz (by omega)) (by first | omega | assumption | exact hr _ _ rfl | exact hlnz (by omega)) (by first | omega | assumption | exact hr _ _ rfl | exact hlnz (by omega)) (by first | omega | assumption | exact hr _ _ rfl | exact hlnz (by omega)) (fun N4 r3 hq5 => ⟨Nat.le_refl _, ?_⟩))
      have hrr : mm_r32 r3 := by rw [hq5.2]; exact hq5.1.1 _ _ rfl
      refine mm_istore_n (L' := [(0, v_r 0), (1, v_i set), (2, v_i len), (3, v_i r3)]) (mm_dc od_X9_trailer_0 21 rfl) (by decide) rfl ?_
      refine mm_iload_n (mm_dc od_X9_trailer_0 22 rfl) rfl ?_
      refine mm_iload_n (mm_dc od_X9_trailer_0 23 rfl) rfl ?_
      refine mm_icmp_gt 52 (mm_dc od_X9_trailer_0 24 rfl) (by omega) (by first | omega | assumption | exact hr _ _ rfl | exact hlnz (by omega)) (by first | omega | assumption | exact hr _ _ rfl | exact hlnz (by omega)) (fun c6 => ?_) (fun c6 => ?_)
      · refine mm_bipush (mm_dc od_X9_trailer_0 27 rfl) (by decide) ?_
        refine mm_iret (mm_dc od_X9_trailer_0 28 rfl) rfl ?_
        exact k _ _ (Or.inr ⟨by omega, hq5.1, Or.inl ⟨by rw [← hq5.2]; omega, rfl⟩⟩)
      · refine mm_iload_n (mm_dc od_X9_trailer_0 25 rfl) rfl ?_
        refine mm_goto 54 (mm_dc od_X9_trailer_0 26 rfl) (by omega) ?_
        refine mm_iret (mm_dc od_X9_trailer_0 28 rfl) rfl ?_
        exact k _ _ (Or.inr ⟨by omega, hq5.1, Or.inr ⟨by rw [← hq5.2]; omega, hq5.2⟩⟩)
    · refine mm_if_ne 26 (mm_dc od_X9_trailer_0 10 rfl) (by omega) (by first | omega | assumption | exact hr _ _ rfl | exact hlnz (by omega)) (fun h => absurd h (by decide)) (fun _ => ?_)
      refine mm_bipush (mm_dc od_X9_trailer_0 11 rfl) (by decide) ?_
      refine mm_iret (mm_dc od_X9_trailer_0 12 rfl) rfl ?_
      exact k _ _ (Or.inl ⟨by omega, rfl, rfl⟩)
