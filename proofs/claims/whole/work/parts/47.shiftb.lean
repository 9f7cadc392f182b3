theorem c_X9_shift {X : Nat × (Nat → Int)} {d : Nat} {Po : mm_Po} {M : mm_M} (h : Int) (hh : mm_r32 h) (hJh : JH M) (hr : R32 M) (k1 : (¬ (0 ≤ h ∧ h < M 43 0)) → Po (some (v_i (-1))) Lam M) (k2 : ∀ (r : Int), (0 ≤ h ∧ h < M 43 0) → ((freeQ (M 44) (M 45) (M 43 1) h.toNat (M 43 0).toNat r ∧ r ≤ 2438)) → r ≤ 1439 → Po (some (v_i r)) Lam M) (k3 : ∀ (r : Int), (0 ≤ h ∧ h < M 43 0) → ((freeQ (M 44) (M 45) (M 43 1) h.toNat (M 43 0).toNat r ∧ r ≤ 2438)) → 1439 < r → Po (some (v_i (-3))) Lam M) : mm_E X (d + 3) 0 0 mi_X9_shift [v_r 0, v_i h] Po Lam M := by
  show mm_G X (d + 3) 0 0 mi_X9_shift Po 0 [(0, v_r 0), (1, v_i h)] [] Lam M 0 0
  have hJh2 := hJh
  obtain ⟨hh0, hh20, ha0, ha9, hH⟩ := hJh2
  have hHh := hH h.toNat
  refine mm_iload_n (mm_dc od_X9_shift_0 0 rfl) rfl ?_
  refine mm_iconst (mm_dc od_X9_shift_0 1 rfl) ?_
  refine mm_aload_n (mm_dc od_X9_shift_0 2 rfl) rfl ?_
  refine mm_getR (ci := 9) (k := 7) (mm_dc od_X9_shift_0 3 rfl) rfl in_X9 (by decide) wd_2_52 rfl rfl ?_
  refine mm_getI (ci := 2) (k := 0) (mm_dc od_X9_shift_0 4 rfl) rfl in_X2 (by decide) wd_2_8 rfl rfl ?_
  refine mm_iconst (mm_dc od_X9_shift_0 5 rfl) ?_
  refine mm_isub (mm_dc od_X9_shift_0 6 rfl) ?_
  refine mm_callS (mi' := mi_X9_within) [v_i h, v_i 0, v_i ((M 43 0) - 1)] [] (mm_dc od_X9_shift_0 7 rfl) rfl wd_2_80 wd_2_81 wd_1_1 wd_2_82 yk_X9_within (Nat.le_of_ble_eq_true rfl) rfl (by decide) (c_X9_within h 0 ((M 43 0) - 1) (by first | assumption | omega | exact hr _ _ rfl | exact mm_ti _ | exact mm_r3264 (hr _ _ rfl)) (by first | assumption | omega | exact hr _ _ rfl | exact mm_ti _ | exact mm_r3264 (hr _ _ rfl)) (by first | assumption | omega | exact hr _ _ rfl | exact mm_ti _ | exact mm_r3264 (hr _ _ rfl)) (fun c1 => ⟨Nat.le_refl _, ?_⟩) (fun c1 => ⟨Nat.le_refl _, ?_⟩))
  · refine mm_if_ne 19 (mm_dc od_X9_shift_0 8 rfl) (by omega) (by first | assumption | omega | exact hr _ _ rfl | exact mm_ti _ | exact mm_r3264 (hr _ _ rfl)) (fun _ => ?_) (fun h => absurd h (by decide))
    refine mm_aload_n (mm_dc od_X9_shift_0 11 rfl) rfl ?_
    refine mm_getR (ci := 9) (k := 7) (mm_dc od_X9_shift_0 12 rfl) rfl in_X9 (by decide) wd_2_52 rfl rfl ?_
    refine mm_iload_n (mm_dc od_X9_shift_0 13 rfl) rfl ?_
    refine mm_callV (b := 43) (mi' := mi_X2_freeMinute) [v_i h] [] (mm_dc od_X9_shift_0 14 rfl) rfl wd_4_72 wd_4_73 wd_4_74 wd_1_9 wd_4_75 yk_X2_freeMinute rfl rfl rfl (Nat.le_of_ble_eq_true rfl) rfl (by decide) (c_X2_freeMinute h (by first | assumption | omega | exact hr _ _ rfl | exact mm_ti _ | exact mm_r3264 (hr _ _ rfl)) hJh (by first | assumption | omega | exact hr _ _ rfl | exact mm_ti _ | exact mm_r3264 (hr _ _ rfl)) (fun r2 hq3 => ⟨Nat.le_refl _, ?_⟩))
    have hq3_r := freeQ_r hq3
    refine mm_istore_n (L' := [(0, v_r 0), (1, v_i h), (2, v_i r2)]) (mm_dc od_X9_shift_0 15 rfl) (by decide) rfl ?_
    refine mm_iload_n (mm_dc od_X9_shift_0 16 rfl) rfl ?_
    refine mm_sipush (mm_dc od_X9_shift_0 17 rfl) (by decide) ?_
    refine mm_icmp_gt 39 (mm_dc od_X9_shift_0 18 rfl) (by omega) (by first | assumption | omega | exact hr _ _ rfl | exact mm_ti _ | exact mm_r3264 (hr _ _ rfl)) (by first | assumption | omega | exact hr _ _ rfl | exact mm_ti _ | exact mm_r3264 (hr _ _ rfl)) (fun c4 => ?_) (fun c4 => ?_)
    · refine mm_bipush (mm_dc od_X9_shift_0 21 rfl) (by decide) ?_
      refine mm_iret (mm_dc od_X9_shift_0 22 rfl) rfl ?_
      exact k3 _ (by omega) (by assumption) (by omega)
    · refine mm_iload_n (mm_dc od_X9_shift_0 19 rfl) rfl ?_
      refine mm_goto 41 (mm_dc od_X9_shift_0 20 rfl) (by omega) ?_
      refine mm_iret (mm_dc od_X9_shift_0 22 rfl) rfl ?_
      exact k2 _ (by omega) (by assumption) (by omega)
  · refine mm_if_ne 19 (mm_dc od_X9_shift_0 8 rfl) (by omega) (by first | assumption | omega | exact hr _ _ rfl | exact mm_ti _ | exact mm_r3264 (hr _ _ rfl)) (fun h => absurd h (by decide)) (fun _ => ?_)
    refine mm_iconst (mm_dc od_X9_shift_0 9 rfl) ?_
    refine mm_iret (mm_dc od_X9_shift_0 10 rfl) rfl ?_
    exact k1 (by omega)
theorem L_si {X : Nat × (Nat → Int)} {d : Nat} {Po : mm_Po} {M : mm_M} (h mi : Int) (h0 : 0 ≤ h ∧ h < M 50 48) (h1 : 0 ≤ mi ∧ mi ≤ 1439) (hJhm : JHm M) (hJom : JOm M) (hr : R32 M) (K1 : (∀ o, o < (M 50 48).toNat → ¬ clP (M 86) (M 87) (M 50 49) h.toNat mi o) → Po (some (v_i mi)) Lam M) (K2 : (∃ o, o < (M 50 48).toNat ∧ clP (M 86) (M 87) (M 50 49) h.toNat mi o) → mm_G X (d + 2) 0 0 mi_X10_shift Po 25 [(0, v_r 50), (1, v_i h), (2, v_i (mi + 1))] [] Lam M 0 0) (fr : Int) (j : Nat) (hfr : (fr = 1 ∧ ∀ i : Nat, i < j → ¬ clP (M 86) (M 87) (M 50 49) h.toNat mi i) ∨ (fr = 0 ∧ ∃ i : Nat, i < j ∧ clP (M 86) (M 87) (M 50 49) h.toNat mi i)) (hj : (j : Int) ≤ M 50 48) : mm_G X (d + 2) 0 0 mi_X10_shift Po 37 [(0, v_r 50), (1, v_i h), (2, v_i mi), (3, v_i fr), (4, v_i (j : Int))] [] Lam M 0 0 := by
  have hJh2 := hJhm
  obtain ⟨hh0, hh20, ha0, ha9, hH⟩ := hJh2
  have hfr2 : fr = 0 ∨ fr = 1 := (by omega)
  refine mm_iload (mm_dc od_X10_shift_0 24 rfl) rfl ?_
  refine mm_aload_n (mm_dc od_X10_shift_0 25 rfl) rfl ?_
  refine mm_getI (ci := 10) (k := 48) (mm_dc od_X10_shift_0 26 rfl) rfl in_X10 (by decide) wd_4_160 rfl rfl ?_
  refine mm_icmp_ge 79 (mm_dc od_X10_shift_0 27 rfl) (by omega) (by first | assumption | omega | exact hr _ _ rfl | exact mm_ti _ | exact mm_r3264 (hr _ _ rfl)) (by first | assumption | omega | exact hr _ _ rfl | exact mm_ti _ | exact mm_r3264 (hr _ _ rfl)) (fun c1 => ?_) (fun c1 => ?_)
  · refine mm_iload_n (mm_dc od_X10_shift_0 45 rfl) rfl ?_
    refine mm_if_eq 85 (mm_dc od_X10_shift_0 46 rfl) (by omega) (by first | assumption | omega | exact hr _ _ rfl | exact mm_ti _ | exact mm_r3264 (hr _ _ rfl)) (fun c2 => ?_) (fun c2 => ?_)
    · refine mm_iinc (L' := [(0, v_r 50), (1, v_i h), (2, v_i (mi + 1)), (3, v_i fr), (4, v_i (j : Int))]) (mm_dc od_X10_shift_0 49 rfl) rfl (by decide) rfl ?_
      refine mm_goto 25 (mm_dc od_X10_shift_0 50 rfl) (by omega) ?_
      exact mm_less [0, 1, 2] rfl (K2 (by rcases hfr with ⟨e, _⟩ | ⟨_, i, a, b⟩; omega; exact ⟨i, by omega, b⟩))
    · refine mm_iload_n (mm_dc od_X10_shift_0 47 rfl) rfl ?_
      refine mm_iret (mm_dc od_X10_shift_0 48 rfl) rfl ?_
      exact K1 (fun o ho => by rcases hfr with ⟨_, e⟩ | ⟨e, _⟩; exact e o (by omega); omega)
  · refine mm_iload_n (mm_dc od_X10_shift_0 28 rfl) rfl ?_
    refine mm_if_eq 79 (mm_dc od_X10_shift_0 29 rfl) (by omega) (by first | assumption | omega | exact hr _ _ rfl | exact mm_ti _ | exact mm_r3264 (hr _ _ rfl)) (fun c3 => ?_) (fun c3 => ?_)
    · refine mm_iload_n (mm_dc od_X10_shift_0 45 rfl) rfl ?_
      refine mm_if_eq 85 (mm_dc od_X10_shift_0 46 rfl) (by omega) (by first | assumption | omega | exact hr _ _ rfl | exact mm_ti _ | exact mm_r3264 (hr _ _ rfl)) (fun c4 => ?_) (fun c4 => ?_)
      · refine mm_iinc (L' := [(0, v_r 50), (1, v_i h), (2, v_i (mi + 1)), (3, v_i fr), (4, v_i (j : Int))]) (mm_dc od_X10_shift_0 49 rfl) rfl (by decide) rfl ?_
        refine mm_goto 25 (mm_dc od_X10_shift_0 50 rfl) (by omega) ?_
        exact mm_less [0, 1, 2] rfl (K2 (by rcases hfr with ⟨e, _⟩ | ⟨_, i, a, b⟩; omega; exact ⟨i, by omega, b⟩))
      · refine mm_iload_n (mm_dc od_X10_shift_0 47 rfl) rfl ?_
        refine mm_iret (mm_dc od_X10_shift_0 48 rfl) rfl ?_
        exact K1 (fun o ho => by rcases hfr with ⟨_, e⟩ | ⟨e, _⟩; exact e o (by omega); omega)
    · refine mm_iload (mm_dc od_X10_shift_0 30 rfl) rfl ?_
      refine mm_iload_n (mm_dc od_X10_shift_0 31 rfl) rfl ?_
      refine mm_icmp_eq 67 (mm_dc od_X10_shift_0 32 rfl) (by omega) (by first | assumption | omega | exact hr _ _ rfl | exact mm_ti _ | exact mm_r3264 (hr _ _ rfl)) (by first | assumption | omega | exact hr _ _ rfl | exact mm_ti _ | exact mm_r3264 (hr _ _ rfl)) (fun c5 => ?_) (fun c5 => ?_)
      · refine mm_iconst (mm_dc od_X10_shift_0 39 rfl) ?_
        refine mm_goto 72 (mm_dc od_X10_shift_0 40 rfl) (by omega) ?_
        refine mm_istore_n (L' := [(0, v_r 50), (1, v_i h), (2, v_i mi), (3, v_i 1), (4, v_i (j : Int))]) (mm_dc od_X10_shift_0 42 rfl) (by decide) rfl ?_
        refine mm_iinc (L' := [(0, v_r 50), (1, v_i h), (2, v_i mi), (3, v_i 1), (4, v_i ((j : Int) + 1))]) (mm_dc od_X10_shift_0 43 rfl) rfl (by decide) rfl ?_
        refine mm_goto 37 (mm_dc od_X10_shift_0 44 rfl) (by omega) ?_
        exact L_si h mi h0 h1 hJhm hJom hr K1 K2 1 (j + 1) (Or.inl ⟨rfl, lt_s (by rcases hfr with ⟨_, e⟩ | ⟨e, _⟩; exact e; omega) (by unfold clP; omega)⟩) (by omega)
      · refine mm_aload_n (mm_dc od_X10_shift_0 33 rfl) rfl ?_
        refine mm_iload_n (mm_dc od_X10_shift_0 34 rfl) rfl ?_
        refine mm_iload_n (mm_dc od_X10_shift_0 35 rfl) rfl ?_
        refine mm_iload (mm_dc od_X10_shift_0 36 rfl) rfl ?_
        refine mm_callV (b := 50) (mi' := mi_X10_clash) [v_i h, v_i mi, v_i (j : Int)] [] (mm_dc od_X10_shift_0 37 rfl) rfl wd_6_46 wd_6_48 wd_p_47 wd_1_12 wd_6_49 yk_X10_clash rfl rfl rfl (Nat.le_of_ble_eq_true rfl) rfl (by decide) (c_X10_clash h mi (j : Int) (by first | assumption | omega | exact hr _ _ rfl | exact mm_ti _ | exact mm_r3264 (hr _ _ rfl)) (by first | assumption | omega | exact hr _ _ rfl | exact mm_ti _ | exact mm_r3264 (hr _ _ rfl)) (by first | assumption | omega | exact hr _ _ rfl | exact mm_ti _ | exact mm_r3264 (hr _ _ rfl)) hJhm hJom (by first | assumption | omega | exact hr _ _ rfl | exact mm_ti _ | exact mm_r3264 (hr _ _ rfl)) (fun c6 => ⟨Nat.le_refl _, ?_⟩) (fun c6 => ⟨Nat.le_refl _, ?_⟩))
        · simp only [Int.toNat_natCast] at c6
          refine mm_if_ne 71 (mm_dc od_X10_shift_0 38 rfl) (by omega) (by first | assumption | omega | exact hr _ _ rfl | exact mm_ti _ | exact mm_r3264 (hr _ _ rfl)) (fun _ => ?_) (fun h => absurd h (by decide))
          refine mm_iconst (mm_dc od_X10_shift_0 41 rfl) ?_
          refine mm_istore_n (L' := [(0, v_r 50), (1, v_i h), (2, v_i mi), (3, v_i 0), (4, v_i (j : Int))]) (mm_dc od_X10_shift_0 42 rfl) (by decide) rfl ?_
          refine mm_iinc (L' := [(0, v_r 50), (1, v_i h), (2, v_i mi), (3, v_i 0), (4, v_i ((j : Int) + 1))]) (mm_dc od_X10_shift_0 43 rfl) rfl (by decide) rfl ?_
          refine mm_goto 37 (mm_dc od_X10_shift_0 44 rfl) (by omega) ?_
          exact L_si h mi h0 h1 hJhm hJom hr K1 K2 0 (j + 1) (Or.inr ⟨rfl, ⟨j, by omega, by unfold clP; omega⟩⟩) (by omega)
        · simp only [Int.toNat_natCast] at c6
          refine mm_if_ne 71 (mm_dc od_X10_shift_0 38 rfl) (by omega) (by first | assumption | omega | exact hr _ _ rfl | exact mm_ti _ | exact mm_r3264 (hr _ _ rfl)) (fun h => absurd h (by decide)) (fun _ => ?_)
          refine mm_iconst (mm_dc od_X10_shift_0 39 rfl) ?_
          refine mm_goto 72 (mm_dc od_X10_shift_0 40 rfl) (by omega) ?_
          refine mm_istore_n (L' := [(0, v_r 50), (1, v_i h), (2, v_i mi), (3, v_i 1), (4, v_i (j : Int))]) (mm_dc od_X10_shift_0 42 rfl) (by decide) rfl ?_
          refine mm_iinc (L' := [(0, v_r 50), (1, v_i h), (2, v_i mi), (3, v_i 1), (4, v_i ((j : Int) + 1))]) (mm_dc od_X10_shift_0 43 rfl) rfl (by decide) rfl ?_
          refine mm_goto 37 (mm_dc od_X10_shift_0 44 rfl) (by omega) ?_
          exact L_si h mi h0 h1 hJhm hJom hr K1 K2 1 (j + 1) (Or.inl ⟨rfl, lt_s (by rcases hfr with ⟨_, e⟩ | ⟨e, _⟩; exact e; omega) (by unfold clP; omega)⟩) (by omega)
termination_by (M 50 48).toNat - j
decreasing_by all_goals (first | omega | (simp_wf; omega))
theorem L_so {X : Nat × (Nat → Int)} {d : Nat} {Po : mm_Po} {M : mm_M} (h : Int) (h0 : 0 ≤ h ∧ h < M 50 48) (hJhm : JHm M) (hJom : JOm M) (hr : R32 M) (k2 : ∀ r : Int, freeQ (M 86) (M 87) (M 50 49) h.toNat (M 50 48).toNat r → r ≤ 1439 → Po (some (v_i r)) Lam M) (k3 : (∀ m : Int, M 87 h.toNat ≤ m → m < 1440 → ∃ o, o < (M 50 48).toNat ∧ clP (M 86) (M 87) (M 50 49) h.toNat m o) → Po (some (v_i (-3))) Lam M) (mi : Int) (hm : M 87 h.toNat ≤ mi ∧ mi ≤ 1440) (hI2 : ∀ m : Int, M 87 h.toNat ≤ m → m < mi → ∃ o, o < (M 50 48).toNat ∧ clP (M 86) (M 87) (M 50 49) h.toNat m o) : mm_G X (d + 2) 0 0 mi_X10_shift Po 25 [(0, v_r 50), (1, v_i h), (2, v_i mi)] [] Lam M 0 0 := by
  have hJh2 := hJhm
  obtain ⟨hh0, hh20, ha0, ha9, hH⟩ := hJh2
  have hHh := hH h.toNat (by omega)
  refine mm_iload_n (mm_dc od_X10_shift_0 17 rfl) rfl ?_
  refine mm_sipush (mm_dc od_X10_shift_0 18 rfl) (by decide) ?_
  refine mm_icmp_ge 91 (mm_dc od_X10_shift_0 19 rfl) (by omega) (by first | assumption | omega | exact hr _ _ rfl | exact mm_ti _ | exact mm_r3264 (hr _ _ rfl)) (by first | assumption | omega | exact hr _ _ rfl | exact mm_ti _ | exact mm_r3264 (hr _ _ rfl)) (fun c1 => ?_) (fun c1 => ?_)
  · refine mm_bipush (mm_dc od_X10_shift_0 51 rfl) (by decide) ?_
    refine mm_iret (mm_dc od_X10_shift_0 52 rfl) rfl ?_
    exact k3 (fun m hm1 hm2 => hI2 m hm1 (by omega))
  · refine mm_iconst (mm_dc od_X10_shift_0 20 rfl) ?_
    refine mm_istore_n (L' := [(0, v_r 50), (1, v_i h), (2, v_i mi), (3, v_i 1)]) (mm_dc od_X10_shift_0 21 rfl) (by decide) rfl ?_
    refine mm_iconst (mm_dc od_X10_shift_0 22 rfl) ?_
    refine mm_istore (L' := [(0, v_r 50), (1, v_i h), (2, v_i mi), (3, v_i 1), (4, v_i 0)]) (mm_dc od_X10_shift_0 23 rfl) (by decide) rfl ?_
    exact L_si h mi h0 (by omega) hJhm hJom hr (fun hno => k2 mi ⟨by omega, hno, hI2⟩ (by omega)) (fun hex => L_so h h0 hJhm hJom hr k2 k3 (mi + 1) (by omega) (fun m hm1 hm2 => by rcases Int.lt_or_le m mi with e | e; exact hI2 m hm1 e; have e2 : m = mi := (by omega); rw [e2]; exact hex)) 1 0 (Or.inl ⟨rfl, fun i hi => by omega⟩) (by omega)
termination_by (1440 - mi).toNat
decreasing_by all_goals (first | omega | (simp_wf; omega))
theorem c_X10_shift {X : Nat × (Nat → Int)} {d : Nat} {Po : mm_Po} {M : mm_M} (h : Int) (hh : mm_r32 h) (hJhm : JHm M) (hJom : JOm M) (hr : R32 M) (k1 : (¬ (0 ≤ h ∧ h < M 50 48)) → Po (some (v_i (-1))) Lam M) (k2 : ∀ (r : Int), (0 ≤ h ∧ h < M 50 48) → freeQ (M 86) (M 87) (M 50 49) h.toNat (M 50 48).toNat r → r ≤ 1439 → Po (some (v_i r)) Lam M) (k3 : (0 ≤ h ∧ h < M 50 48) → (∀ m : Int, M 87 h.toNat ≤ m → m < 1440 → ∃ o, o < (M 50 48).toNat ∧ clP (M 86) (M 87) (M 50 49) h.toNat m o) → Po (some (v_i (-3))) Lam M) : mm_E X (d + 2) 0 0 mi_X10_shift [v_r 50, v_i h] Po Lam M := by
  show mm_G X (d + 2) 0 0 mi_X10_shift Po 0 [(0, v_r 50), (1, v_i h)] [] Lam M 0 0
  have hJh2 := hJhm
  obtain ⟨hh0, hh20, ha0, ha9, hH⟩ := hJh2
  have hHh := hH h.toNat
  refine mm_iload_n (mm_dc od_X10_shift_0 0 rfl) rfl ?_
  refine mm_i2l (mm_dc od_X10_shift_0 1 rfl) (by first | assumption | omega | exact hr _ _ rfl | exact mm_ti _ | exact mm_r3264 (hr _ _ rfl)) ?_
  refine mm_lconst (mm_dc od_X10_shift_0 2 rfl) ?_
  refine mm_aload_n (mm_dc od_X10_shift_0 3 rfl) rfl ?_
  refine mm_getI (ci := 10) (k := 48) (mm_dc od_X10_shift_0 4 rfl) rfl in_X10 (by decide) wd_4_160 rfl rfl ?_
  refine mm_iconst (mm_dc od_X10_shift_0 5 rfl) ?_
  refine mm_isub (mm_dc od_X10_shift_0 6 rfl) ?_
  refine mm_i2l (mm_dc od_X10_shift_0 7 rfl) (by first | assumption | omega | exact hr _ _ rfl | exact mm_ti _ | exact mm_r3264 (hr _ _ rfl)) ?_
  refine mm_callS (mi' := mi_X10_isIn) [v_l h, v_l 0, v_l ((M 50 48) - 1)] [] (mm_dc od_X10_shift_0 8 rfl) rfl wd_5_37 wd_5_38 wd_1_12 wd_5_39 yk_X10_isIn (Nat.le_of_ble_eq_true rfl) rfl (by decide) (c_X10_isIn h 0 ((M 50 48) - 1) (by first | assumption | omega | exact hr _ _ rfl | exact mm_ti _ | exact mm_r3264 (hr _ _ rfl)) (by first | assumption | omega | exact hr _ _ rfl | exact mm_ti _ | exact mm_r3264 (hr _ _ rfl)) (by first | assumption | omega | exact hr _ _ rfl | exact mm_ti _ | exact mm_r3264 (hr _ _ rfl)) (fun c1 => ⟨Nat.le_refl _, ?_⟩) (fun c1 => ⟨Nat.le_refl _, ?_⟩))
  · refine mm_if_ne 18 (mm_dc od_X10_shift_0 9 rfl) (by omega) (by first | assumption | omega | exact hr _ _ rfl | exact mm_ti _ | exact mm_r3264 (hr _ _ rfl)) (fun _ => ?_) (fun h => absurd h (by decide))
    refine mm_aload_n (mm_dc od_X10_shift_0 12 rfl) rfl ?_
    refine mm_getR (ci := 10) (k := 47) (mm_dc od_X10_shift_0 13 rfl) rfl in_X10 (by decide) wd_4_159 rfl rfl ?_
    refine mm_iload_n (mm_dc od_X10_shift_0 14 rfl) rfl ?_
    refine mm_iald (mm_dc od_X10_shift_0 15 rfl) rfl (by first | assumption | omega | exact hr _ _ rfl | exact mm_ti _ | exact mm_r3264 (hr _ _ rfl)) (by first | assumption | omega | exact hr _ _ rfl | exact mm_ti _ | exact mm_r3264 (hr _ _ rfl)) (by decide) ?_
    refine mm_istore_n (L' := [(0, v_r 50), (1, v_i h), (2, v_i (M 87 (Int.toNat h)))]) (mm_dc od_X10_shift_0 16 rfl) (by decide) rfl ?_
    exact L_so h (by omega) hJhm hJom hr (fun r q1 q2 => k2 r (by omega) q1 q2) (fun q => k3 (by omega) q) (M 87 h.toNat) (by omega) (fun m a b => by omega)
  · refine mm_if_ne 18 (mm_dc od_X10_shift_0 9 rfl) (by omega) (by first | assumption | omega | exact hr _ _ rfl | exact mm_ti _ | exact mm_r3264 (hr _ _ rfl)) (fun h => absurd h (by decide)) (fun _ => ?_)
    refine mm_iconst (mm_dc od_X10_shift_0 10 rfl) ?_
    refine mm_iret (mm_dc od_X10_shift_0 11 rfl) rfl ?_
    first | exact k1 (by first | assumption | omega) | (exfalso; omega)
theorem pair_shift {M : mm_M} (hI : inv M) (h : Int) (hh : mm_r32 h) : Pair mi_X9_shift mi_X10_shift v_i [v_i h] M := by
  have hI0 := hI
  obtain ⟨hr, hJo, hJb, hJr, hJom, hJbm, v0, v1, v2, v3, v4, v5, v6, v7, v8, v9⟩ := hI0
  have jo := hJo; have jb := hJb; have jr := hJr; have jom := hJom; have jbm := hJbm
  obtain ⟨ho0, ho16, hO⟩ := jo
  obtain ⟨hb0, hb8, hB⟩ := jb
  obtain ⟨hr0, hr40, hRr⟩ := jr
  obtain ⟨go0, go16, gO⟩ := jom
  obtain ⟨gb0, gb8, gB⟩ := jbm
  have w1 := v1.1; have w2 := v2.1; have w3 := v3.1; have w4 := v4.1; have w5 := v5.1; have w6 := v6.1; have w7 := v7.1.1; have w7b := v7.2.1.1; have w8 := v8.1; have w8b := v8.2.2.2.1
  obtain ⟨hJh, hJhm⟩ := inv_JH hI
  have y2 := v8.2.1; have y3 := v8.2.2.1
  by_cases hv : 0 ≤ h ∧ h < M 43 0
  · have jh := hJh
    obtain ⟨hh0, hh20, ha0, ha9, hH⟩ := jh
    have hHh := hH h.toNat (by omega)
    have hV := v8.2.2.2.2.2.2
    have hcl : ∀ (m : Int) (o : Nat), o < (M 43 0).toNat → (clP (M 86) (M 87) (M 50 49) h.toNat m o ↔ clP (M 44) (M 45) (M 43 1) h.toNat m o) := by
      intro m o ho
      have h1 := hV h.toNat (by omega)
      have h2 := hV o (by omega)
      unfold clP
      rw [h1.1, h2.1, h2.2.2.1, w8b]
    have hst : M 87 h.toNat = M 45 h.toNat := (hV h.toNat (by omega)).2.2.1
    have hfq : ∀ r, freeQ (M 86) (M 87) (M 50 49) h.toNat (M 43 0).toNat r → freeQ (M 44) (M 45) (M 43 1) h.toNat (M 43 0).toNat r := by
      intro r q
      refine ⟨by rw [← hst]; exact q.1, fun o ho hc => q.2.1 o ho ((hcl r o ho).mpr hc), fun m hm hm2 => ?_⟩
      obtain ⟨o, a, b⟩ := q.2.2 m (by omega) hm2
      exact ⟨o, a, (hcl m o a).mp b⟩
    obtain ⟨r, hq, hr4⟩ := freeQ_ex (bo := M 44) (sa := M 45) (ap := M 43 1) (h := h.toNat) (n := (M 43 0).toNat) (fun o ho => (hH o (by omega)).2.2) (by omega) (by omega) (by omega)
    have hq1 := hq.1
    by_cases hf : r ≤ 1439
    · refine Pair_i r M M (fun X d Po k => c_X9_shift (d := d + 9) h hh hJh hr (fun q => absurd hv q) (fun r2 _ q _ => by have e := freeQ_one q.1 hq; subst e; exact k) (fun r2 _ q q2 => by have e := freeQ_one q.1 hq; omega)) (fun X d Po k => c_X10_shift (d := d + 10) h hh hJhm hJom hr (fun q => by exfalso; omega) (fun r2 _ q _ => by rw [w8] at q; have e := freeQ_one (hfq r2 q) hq; subst e; exact k) (fun _ q => ?_)) (by omega) hI
      exfalso
      rw [w8] at q
      obtain ⟨o, a, b⟩ := q r (by omega) (by omega)
      exact hq.2.1 o a ((hcl r o a).mp b)
    · refine Pair_i (-3) M M (fun X d Po k => c_X9_shift (d := d + 9) h hh hJh hr (fun q => absurd hv q) (fun r2 _ q q2 => by have e := freeQ_one q.1 hq; omega) (fun r2 _ q _ => k)) (fun X d Po k => c_X10_shift (d := d + 10) h hh hJhm hJom hr (fun q => by exfalso; omega) (fun r2 _ q q2 => by rw [w8] at q; have e := freeQ_one (hfq r2 q) hq; omega) (fun _ _ => k)) (by decide) hI
  · exact Pair_i (-1) M M (fun X d Po k => c_X9_shift (d := d + 9) h hh hJh hr (fun _ => k) (fun r q _ _ => absurd q hv) (fun r q _ _ => absurd q hv)) (fun X d Po k => c_X10_shift (d := d + 10) h hh hJhm hJom hr (fun _ => k) (fun r q _ _ => by exfalso; omega) (fun q _ => by exfalso; omega)) (by decide) hI
