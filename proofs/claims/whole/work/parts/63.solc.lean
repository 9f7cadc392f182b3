/-! common divisors -/
def cdQ (x y t : Nat) : Prop := x < 9223372036854775808 ∧ y < 9223372036854775808 ∧ (t = 0 ∨ (y ≤ x ∧ x * y * 2 ^ t < 2 ^ 127))
theorem cd_s {x y t : Nat} (h : cdQ x y t) (hy : y ≠ 0) : cdQ y (x % y) (t + 1) := by
  obtain ⟨h1, h2, h3⟩ := h
  have hm : x % y < y := Nat.mod_lt _ (by omega)
  refine ⟨h2, by omega, Or.inr ⟨by omega, ?_⟩⟩
  rcases h3 with e | ⟨h4, h5⟩
  · subst e
    have a : y * (x % y) ≤ 9223372036854775808 * 9223372036854775808 := Nat.mul_le_mul (by omega) (by omega)
    have b : y * (x % y) < 9223372036854775808 * 9223372036854775808 := by
      refine Nat.lt_of_lt_of_le (Nat.mul_lt_mul_of_le_of_lt (Nat.le_of_lt h2) (show x % y < 9223372036854775808 by omega) (by omega)) (Nat.le_refl _)
    have c : (2 : Nat) ^ 127 = 2 * (9223372036854775808 * 9223372036854775808) := by decide
    rw [c]
    show y * (x % y) * 2 ^ 1 < _
    omega
  · have hd := Nat.div_add_mod x y
    have hq : 1 ≤ x / y := (Nat.one_le_div_iff (by omega)).mpr h4
    have hz : y * 1 ≤ y * (x / y) := Nat.mul_le_mul_left y hq
    have h2r : 2 * (x % y) ≤ x := by omega
    refine Nat.lt_of_le_of_lt ?_ h5
    rw [Nat.pow_succ]
    have e1 : y * (x % y) * (2 ^ t * 2) = y * (2 * (x % y)) * 2 ^ t := by grind
    rw [e1, Nat.mul_comm x y]
    exact Nat.mul_le_mul_right _ (Nat.mul_le_mul_left _ h2r)
theorem cd_200 {x y : Nat} (h : cdQ x y 200) : y = 0 := by
  obtain ⟨h1, h2, h3⟩ := h
  rcases h3 with e | ⟨h4, h5⟩
  · omega
  · apply Classical.byContradiction
    intro hy
    have a : 1 * 1 ≤ x * y := Nat.mul_le_mul (by omega) (by omega)
    have b : 1 * 2 ^ 200 ≤ x * y * 2 ^ 200 := Nat.mul_le_mul_right _ a
    have c : (2 : Nat) ^ 127 < 1 * 2 ^ 200 := by decide
    omega
def ptV (up dn what : Int) : Int := if 0 ≤ what ∧ what ≤ 1 then Int.tdiv (if what = 0 then up else dn) ((Nat.gcd (max up (-up)).toNat dn.toNat : Nat) : Int) else -9223372036854775808
theorem gc_r {a b : Nat} (hb : 0 < b) : 0 < Nat.gcd a b ∧ Nat.gcd a b ≤ b := ⟨Nat.gcd_pos_of_pos_right a hb, Nat.gcd_le_right a hb⟩
theorem L_cd9 {X : Nat × (Nat → Int)} {d : Nat} {Po : mm_Po} {M : mm_M} (a b : Int) (g : Nat) (k : Po (some (v_l (g : Int))) Lam M) (x y t : Nat) (ht : t ≤ 200) (hg : Nat.gcd x y = g) (hq : cdQ x y t) : mm_G X d 0 0 mi_X9_commonDivisor Po 9 [(0, v_l a), (2, v_l b), (4, v_l (x : Int)), (6, v_l (y : Int)), (8, v_i (t : Int))] [] Lam M 0 0 := by
  have h1 := hq.1
  have h2 := hq.2.1
  have hmod : Int.tmod (x : Int) (y : Int) = ((x % y : Nat) : Int) := rfl
  have qz := mm_cmp_is (y : Int) 0
  refine mm_iload (mm_dc od_X9_commonDivisor_0 6 rfl) rfl ?_
  refine mm_sipush (mm_dc od_X9_commonDivisor_0 7 rfl) (by decide) ?_
  refine mm_icmp_ge 45 (mm_dc od_X9_commonDivisor_0 8 rfl) (by omega) (by first | omega | assumption) (by first | omega | assumption) (fun c1 => ?_) (fun c1 => ?_)
  · refine mm_lload (mm_dc od_X9_commonDivisor_0 23 rfl) rfl ?_
    refine mm_lret (mm_dc od_X9_commonDivisor_0 24 rfl) rfl ?_
    have hy : y = 0 := by
      first
      | omega
      | (have e : t = 200 := by omega
         subst e
         exact cd_200 hq)
    subst hy
    rw [Nat.gcd_zero_right] at hg
    exact mm_pl (by rw [hg]) k
  · refine mm_lload (mm_dc od_X9_commonDivisor_0 9 rfl) rfl ?_
    refine mm_lconst (mm_dc od_X9_commonDivisor_0 10 rfl) ?_
    refine mm_cst (st' := [v_l 0, v_l (y : Int)]) rfl ?_
    refine mm_lcmp (mm_dc od_X9_commonDivisor_0 11 rfl) (by first | omega | assumption) (by first | omega | assumption) ?_
    refine mm_if_eq 45 (mm_dc od_X9_commonDivisor_0 12 rfl) (by omega) (by first | omega | assumption) (fun c2 => ?_) (fun c2 => ?_)
    · refine mm_lload (mm_dc od_X9_commonDivisor_0 23 rfl) rfl ?_
      refine mm_lret (mm_dc od_X9_commonDivisor_0 24 rfl) rfl ?_
      have hy : y = 0 := by
        first
        | omega
        | (have e : t = 200 := by omega
           subst e
           exact cd_200 hq)
      subst hy
      rw [Nat.gcd_zero_right] at hg
      exact mm_pl (by rw [hg]) k
    · refine mm_lload (mm_dc od_X9_commonDivisor_0 13 rfl) rfl ?_
      refine mm_lload (mm_dc od_X9_commonDivisor_0 14 rfl) rfl ?_
      refine mm_lrem (mm_dc od_X9_commonDivisor_0 15 rfl) (by first | omega | assumption) (by first | omega | assumption) (by first | omega | assumption) ?_
      refine mm_lstore (L' := [(0, v_l a), (2, v_l b), (4, v_l (x : Int)), (6, v_l (y : Int)), (8, v_i (t : Int)), (9, v_l (Int.tmod (x : Int) (y : Int)))]) (mm_dc od_X9_commonDivisor_0 16 rfl) (by decide) rfl ?_
      refine mm_lload (mm_dc od_X9_commonDivisor_0 17 rfl) rfl ?_
      refine mm_lstore (L' := [(0, v_l a), (2, v_l b), (4, v_l (y : Int)), (6, v_l (y : Int)), (8, v_i (t : Int)), (9, v_l (Int.tmod (x : Int) (y : Int)))]) (mm_dc od_X9_commonDivisor_0 18 rfl) (by decide) rfl ?_
      refine mm_lload (mm_dc od_X9_commonDivisor_0 19 rfl) rfl ?_
      refine mm_lstore (L' := [(0, v_l a), (2, v_l b), (4, v_l (y : Int)), (6, v_l (Int.tmod (x : Int) (y : Int))), (8, v_i (t : Int)), (9, v_l (Int.tmod (x : Int) (y : Int)))]) (mm_dc od_X9_commonDivisor_0 20 rfl) (by decide) rfl ?_
      refine mm_iinc (L' := [(0, v_l a), (2, v_l b), (4, v_l (y : Int)), (6, v_l (Int.tmod (x : Int) (y : Int))), (8, v_i ((t : Int) + 1)), (9, v_l (Int.tmod (x : Int) (y : Int)))]) (mm_dc od_X9_commonDivisor_0 21 rfl) rfl (by decide) rfl ?_
      refine mm_goto 9 (mm_dc od_X9_commonDivisor_0 22 rfl) (by omega) ?_
      have hy : y ≠ 0 := by omega
      refine mm_cL (L' := [(0, v_l a), (2, v_l b), (4, v_l (y : Int)), (6, v_l ((x % y : Nat) : Int)), (8, v_i ((t + 1 : Nat) : Int)), (9, v_l ((x % y : Nat) : Int))]) (by rw [hmod]; rfl) ?_
      exact mm_less [0, 1, 2, 3, 4] rfl (L_cd9 a b g k y (x % y) (t + 1) (by omega) (by rw [← hg, Nat.gcd_comm x y, Nat.gcd_rec y x, Nat.gcd_comm]) (cd_s hq hy))
termination_by 200 - t
decreasing_by all_goals (first | omega | (simp_wf; omega))
theorem c_X9_commonDivisor {X : Nat × (Nat → Int)} {d : Nat} {Po : mm_Po} {M : mm_M} (a : Int) (b : Int) (ha : 0 ≤ a ∧ a < 9223372036854775808) (hb : 0 ≤ b ∧ b < 9223372036854775808) (k : Po (some (v_l ((Nat.gcd a.toNat b.toNat : Nat) : Int))) Lam M) : mm_E X d 0 0 mi_X9_commonDivisor [v_l a, v_l b] Po Lam M := by
  show mm_G X d 0 0 mi_X9_commonDivisor Po 0 [(0, v_l a), (2, v_l b)] [] Lam M 0 0
  refine mm_lload_n (mm_dc od_X9_commonDivisor_0 0 rfl) rfl ?_
  refine mm_lstore (L' := [(0, v_l a), (2, v_l b), (4, v_l a)]) (mm_dc od_X9_commonDivisor_0 1 rfl) (by decide) rfl ?_
  refine mm_lload_n (mm_dc od_X9_commonDivisor_0 2 rfl) rfl ?_
  refine mm_lstore (L' := [(0, v_l a), (2, v_l b), (4, v_l a), (6, v_l b)]) (mm_dc od_X9_commonDivisor_0 3 rfl) (by decide) rfl ?_
  refine mm_iconst (mm_dc od_X9_commonDivisor_0 4 rfl) ?_
  refine mm_istore (L' := [(0, v_l a), (2, v_l b), (4, v_l a), (6, v_l b), (8, v_i 0)]) (mm_dc od_X9_commonDivisor_0 5 rfl) (by decide) rfl ?_
  obtain ⟨x, rfl⟩ : ∃ x : Nat, a = x := ⟨a.toNat, by omega⟩
  obtain ⟨y, rfl⟩ : ∃ y : Nat, b = y := ⟨b.toNat, by omega⟩
  exact L_cd9 _ _ _ k x y 0 (by omega) rfl ⟨by omega, by omega, Or.inl rfl⟩
theorem c_X9_partOf {X : Nat × (Nat → Int)} {d : Nat} {Po : mm_Po} {M : mm_M} (up : Int) (dn : Int) (what : Int) (hu : -4611686018427387904 < up ∧ up < 4611686018427387904) (hd : 0 < dn ∧ dn < 4611686018427387904) (hw : mm_r32 what) (k : Po (some (v_l (ptV up dn what))) Lam M) : mm_E X (d + 1) 0 0 mi_X9_partOf [v_l up, v_l dn, v_i what] Po Lam M := by
  show mm_G X (d + 1) 0 0 mi_X9_partOf Po 0 [(0, v_l up), (2, v_l dn), (4, v_i what)] [] Lam M 0 0
  have hg := gc_r (a := (max up (-up)).toNat) (b := dn.toNat) (by omega)
  have qz := mm_cmp_is ((Nat.gcd (max up (-up)).toNat dn.toNat : Nat) : Int) 0
  refine mm_lload_n (mm_dc od_X9_partOf_0 0 rfl) rfl ?_
  refine mm_mabsL (mm_dc od_X9_partOf_0 1 rfl) wd_2_215 wd_2_216 wd_1_14 wd_2_217 (by first | omega | assumption) (Nat.le_of_ble_eq_true rfl) ?_
  refine mm_lload_n (mm_dc od_X9_partOf_0 2 rfl) rfl ?_
  refine mm_callS (mi' := mi_X9_commonDivisor) [v_l (max up (-up)), v_l dn] [] (mm_dc od_X9_partOf_0 3 rfl) rfl wd_2_218 wd_2_219 wd_1_1 wd_2_220 yk_X9_commonDivisor (Nat.le_of_ble_eq_true rfl) rfl (by decide) (c_X9_commonDivisor (max up (-up)) dn (by first | omega | assumption) (by first | omega | assumption) ⟨Nat.le_refl _, ?_⟩)
  refine mm_lstore (L' := [(0, v_l up), (2, v_l dn), (4, v_i what), (5, v_l ((Nat.gcd (max up (-up)).toNat dn.toNat : Nat) : Int))]) (mm_dc od_X9_partOf_0 4 rfl) (by decide) rfl ?_
  refine mm_lload (mm_dc od_X9_partOf_0 5 rfl) rfl ?_
  refine mm_lconst (mm_dc od_X9_partOf_0 6 rfl) ?_
  refine mm_cst (st' := [v_l 0, v_l ((Nat.gcd (max up (-up)).toNat dn.toNat : Nat) : Int)]) rfl ?_
  refine mm_lcmp (mm_dc od_X9_partOf_0 7 rfl) (by first | omega | assumption) (by first | omega | assumption) ?_
  refine mm_if_eq 27 (mm_dc od_X9_partOf_0 8 rfl) (by omega) (by first | omega | assumption) (fun c1 => ?_) (fun c1 => ?_)
  · refine mm_ldcn (z := (-9223372036854775808)) (mm_dc od_X9_partOf_0 14 rfl) wd_2_211 (by decide) ?_
    refine mm_lret (mm_dc od_X9_partOf_0 15 rfl) rfl ?_
    first | (exfalso; omega) | exact mm_pl (by unfold ptV; rw [if_neg (by omega)]) k
  · refine mm_iload (mm_dc od_X9_partOf_0 9 rfl) rfl ?_
    refine mm_iconst (mm_dc od_X9_partOf_0 10 rfl) ?_
    refine mm_iconst (mm_dc od_X9_partOf_0 11 rfl) ?_
    refine mm_callS (mi' := mi_X9_within) [v_i what, v_i 0, v_i 1] [] (mm_dc od_X9_partOf_0 12 rfl) rfl wd_2_80 wd_2_81 wd_1_1 wd_2_82 yk_X9_within (Nat.le_of_ble_eq_true rfl) rfl (by decide) (c_X9_within what 0 1 (by first | omega | assumption) (by first | omega | assumption) (by first | omega | assumption) (fun c2 => ⟨Nat.le_refl _, ?_⟩) (fun c2 => ⟨Nat.le_refl _, ?_⟩))
    · refine mm_if_ne 31 (mm_dc od_X9_partOf_0 13 rfl) (by omega) (by first | omega | assumption) (fun _ => ?_) (fun h => absurd h (by decide))
      refine mm_iload (mm_dc od_X9_partOf_0 16 rfl) rfl ?_
      refine mm_if_ne 40 (mm_dc od_X9_partOf_0 17 rfl) (by omega) (by first | omega | assumption) (fun c3 => ?_) (fun c3 => ?_)
      · refine mm_lload_n (mm_dc od_X9_partOf_0 20 rfl) rfl ?_
        refine mm_lload (mm_dc od_X9_partOf_0 21 rfl) rfl ?_
        refine mm_ldiv (mm_dc od_X9_partOf_0 22 rfl) (by first | omega | assumption) (by first | omega | assumption) (by first | omega | assumption) ?_
        refine mm_lret (mm_dc od_X9_partOf_0 23 rfl) rfl ?_
        exact mm_pl (by unfold ptV; rw [if_pos (show 0 ≤ what ∧ what ≤ 1 by omega), if_neg (show ¬ what = 0 by omega)]) k
      · refine mm_lload_n (mm_dc od_X9_partOf_0 18 rfl) rfl ?_
        refine mm_goto 41 (mm_dc od_X9_partOf_0 19 rfl) (by omega) ?_
        refine mm_lload (mm_dc od_X9_partOf_0 21 rfl) rfl ?_
        refine mm_ldiv (mm_dc od_X9_partOf_0 22 rfl) (by first | omega | assumption) (by first | omega | assumption) (by first | omega | assumption) ?_
        refine mm_lret (mm_dc od_X9_partOf_0 23 rfl) rfl ?_
        exact mm_pl (by unfold ptV; rw [if_pos (show 0 ≤ what ∧ what ≤ 1 by omega), if_pos (show what = 0 by omega)]) k
    · refine mm_if_ne 31 (mm_dc od_X9_partOf_0 13 rfl) (by omega) (by first | omega | assumption) (fun h => absurd h (by decide)) (fun _ => ?_)
      refine mm_ldcn (z := (-9223372036854775808)) (mm_dc od_X9_partOf_0 14 rfl) wd_2_211 (by decide) ?_
      refine mm_lret (mm_dc od_X9_partOf_0 15 rfl) rfl ?_
      first | (exfalso; omega) | exact mm_pl (by unfold ptV; rw [if_neg (by omega)]) k
/-! the misfit -/
def msF (f s w : Nat → Int) (m : Nat) (U : Nat → Int) (dn : Int) (R : Nat) : Int := sumI (fun r => if m.testBit (f r).toNat = true then max (U (f r).toNat - U (s r).toNat - w r * dn) (-(U (f r).toNat - U (s r).toNat - w r * dn)) else 0) R
theorem wd_b {w dn : Int} (hw : -999 ≤ w ∧ w ≤ 999) (hd : 0 < dn ∧ dn ≤ 5618656) : -5613037344 ≤ w * dn ∧ w * dn ≤ 5613037344 := by
  have h1 : ab (w * dn) ≤ 999 * 5618656 := by
    rw [ab_mul]
    exact Int.mul_le_mul (by unfold ab; omega) (by unfold ab; omega) (ab_nn _) (by decide)
  unfold ab at h1
  omega
theorem ms_b {f s w : Nat → Int} {m : Nat} {U : Nat → Int} {dn : Int} (hU : ∀ o, o < 16 → ab (U o) ≤ 2514640730112) (hd : 0 < dn ∧ dn ≤ 5618656) : ∀ R : Nat, (∀ r, r < R → (0 ≤ f r ∧ f r < 16) ∧ (0 ≤ s r ∧ s r < 16) ∧ (-999 ≤ w r ∧ w r ≤ 999)) → 0 ≤ msF f s w m U dn R ∧ msF f s w m U dn R ≤ R * 6000000000000
  | 0, _ => by simp [msF, sumI]
  | R + 1, h => by
    have ih := ms_b (m := m) hU hd R (fun r hr => h r (by omega))
    have h1 := h R (by omega)
    have a := hU (f R).toNat (by omega)
    have b := hU (s R).toNat (by omega)
    have c := wd_b h1.2.2 hd
    unfold ab at a b
    unfold msF at *
    simp only [sumI]
    split <;> omega
theorem L_ms5 {X : Nat × (Nat → Int)} {d : Nat} {Po : mm_Po} {M : mm_M} (m : Nat) (hm : m < 65536) (hJo : JO M) (hJr : JRc M) (hr : R32 M) (hU : ∀ o, o < 16 → ab (M 14 o) ≤ 2514640730112) (hd : 0 < M 10 5 ∧ M 10 5 ≤ 5618656) (k : Po (some (v_l (msF (M 11) (M 12) (M 13) m (M 14) (M 10 5) (M 10 0).toNat))) Lam M) (j : Nat) (hj : (j : Int) ≤ M 10 0) : mm_G X (d + 1) 0 0 mi_X4_misfitAbove Po 5 [(0, v_r 10), (1, v_i (m : Int)), (2, v_l (msF (M 11) (M 12) (M 13) m (M 14) (M 10 5) j)), (4, v_i (j : Int))] [] Lam M 0 0 := by
  have hJo2 := hJo
  obtain ⟨ho0, ho16, hO⟩ := hJo2
  have hJr2 := hJr
  obtain ⟨hr0, hr40, hRr⟩ := hJr2
  have hR1 := hRr j
  have es : msF (M 11) (M 12) (M 13) m (M 14) (M 10 5) (j + 1) = msF (M 11) (M 12) (M 13) m (M 14) (M 10 5) j + (if m.testBit (M 11 j).toNat = true then max (M 14 (M 11 j).toNat - M 14 (M 12 j).toNat - M 13 j * M 10 5) (-(M 14 (M 11 j).toNat - M 14 (M 12 j).toNat - M 13 j * M 10 5)) else 0) := rfl
  have hUa : (j : Int) < M 10 0 → ab (M 14 (M 11 j).toNat) ≤ 2514640730112 := (fun q => hU _ (by omega))
  have hUb : (j : Int) < M 10 0 → ab (M 14 (M 12 j).toNat) ≤ 2514640730112 := (fun q => hU _ (by omega))
  have hwd : (j : Int) < M 10 0 → -5613037344 ≤ M 13 j * M 10 5 ∧ M 13 j * M 10 5 ≤ 5613037344 := (fun q => wd_b (by omega) hd)
  unfold ab at hUa hUb
  refine mm_iload (mm_dc od_X4_misfitAbove_0 4 rfl) rfl ?_
  refine mm_aload_n (mm_dc od_X4_misfitAbove_0 5 rfl) rfl ?_
  refine mm_getI (ci := 4) (k := 0) (mm_dc od_X4_misfitAbove_0 6 rfl) rfl in_X4 (by decide) wd_1_84 rfl rfl ?_
  refine mm_icmp_ge 79 (mm_dc od_X4_misfitAbove_0 7 rfl) (by omega) (by first | omega | assumption | exact hr _ _ rfl | (constructor <;> omega)) (by first | omega | assumption | exact hr _ _ rfl | (constructor <;> omega)) (fun c1 => ?_) (fun c1 => ?_)
  · refine mm_lload_n (mm_dc od_X4_misfitAbove_0 45 rfl) rfl ?_
    refine mm_lret (mm_dc od_X4_misfitAbove_0 46 rfl) rfl ?_
    have e : j = (M 10 0).toNat := by omega
    subst e
    exact k
  · refine mm_iload_n (mm_dc od_X4_misfitAbove_0 8 rfl) rfl ?_
    refine mm_aload_n (mm_dc od_X4_misfitAbove_0 9 rfl) rfl ?_
    refine mm_getR (ci := 4) (k := 1) (mm_dc od_X4_misfitAbove_0 10 rfl) rfl in_X4 (by decide) wd_1_86 rfl rfl ?_
    refine mm_iload (mm_dc od_X4_misfitAbove_0 11 rfl) rfl ?_
    refine mm_iald (mm_dc od_X4_misfitAbove_0 12 rfl) rfl (by first | omega | assumption | exact hr _ _ rfl | (constructor <;> omega)) (by first | omega | assumption | exact hr _ _ rfl | (constructor <;> omega)) (by decide) ?_
    refine mm_cst (st' := [v_i (M 11 j), v_i (m : Int)]) rfl ?_
    refine mm_callN (mi' := mi_X9_has) [v_i (m : Int), v_i (M 11 j)] [] (mm_dc od_X4_misfitAbove_0 13 rfl) rfl (List.mem_of_getElem? (i := 9) rfl) wd_2_171 wd_1_1 wd_2_172 yk_X9_has (Nat.le_of_ble_eq_true rfl) rfl (by decide) (c_X9_has (m : Int) (M 11 j) (by first | omega | assumption | exact hr _ _ rfl | (constructor <;> omega)) (by first | omega | assumption | exact hr _ _ rfl | (constructor <;> omega)) (fun c2 => ⟨Nat.le_refl _, ?_⟩) (fun c2 => ⟨Nat.le_refl _, ?_⟩))
    · simp only [Int.toNat_natCast] at c2
      refine mm_if_eq 73 (mm_dc od_X4_misfitAbove_0 14 rfl) (by omega) (by first | omega | assumption | exact hr _ _ rfl | (constructor <;> omega)) (fun h => absurd h (by decide)) (fun _ => ?_)
      refine mm_lload_n (mm_dc od_X4_misfitAbove_0 15 rfl) rfl ?_
      refine mm_aload_n (mm_dc od_X4_misfitAbove_0 16 rfl) rfl ?_
      refine mm_getR (ci := 4) (k := 4) (mm_dc od_X4_misfitAbove_0 17 rfl) rfl in_X4 (by decide) wd_1_89 rfl rfl ?_
      refine mm_aload_n (mm_dc od_X4_misfitAbove_0 18 rfl) rfl ?_
      refine mm_getR (ci := 4) (k := 1) (mm_dc od_X4_misfitAbove_0 19 rfl) rfl in_X4 (by decide) wd_1_86 rfl rfl ?_
      refine mm_iload (mm_dc od_X4_misfitAbove_0 20 rfl) rfl ?_
      refine mm_iald (mm_dc od_X4_misfitAbove_0 21 rfl) rfl (by first | omega | assumption | exact hr _ _ rfl | (constructor <;> omega)) (by first | omega | assumption | exact hr _ _ rfl | (constructor <;> omega)) (by decide) ?_
      refine mm_cst (st' := [v_i (M 11 j), v_r 14, v_l (msF (M 11) (M 12) (M 13) m (M 14) (M 10 5) j)]) rfl ?_
      refine mm_lald (mm_dc od_X4_misfitAbove_0 22 rfl) rfl (by first | omega | assumption | exact hr _ _ rfl | (constructor <;> omega)) (by first | omega | assumption | exact hr _ _ rfl | (constructor <;> omega)) (by decide) ?_
      refine mm_aload_n (mm_dc od_X4_misfitAbove_0 23 rfl) rfl ?_
      refine mm_getR (ci := 4) (k := 4) (mm_dc od_X4_misfitAbove_0 24 rfl) rfl in_X4 (by decide) wd_1_89 rfl rfl ?_
      refine mm_aload_n (mm_dc od_X4_misfitAbove_0 25 rfl) rfl ?_
      refine mm_getR (ci := 4) (k := 2) (mm_dc od_X4_misfitAbove_0 26 rfl) rfl in_X4 (by decide) wd_1_87 rfl rfl ?_
      refine mm_iload (mm_dc od_X4_misfitAbove_0 27 rfl) rfl ?_
      refine mm_iald (mm_dc od_X4_misfitAbove_0 28 rfl) rfl (by first | omega | assumption | exact hr _ _ rfl | (constructor <;> omega)) (by first | omega | assumption | exact hr _ _ rfl | (constructor <;> omega)) (by decide) ?_
      refine mm_cst (st' := [v_i (M 12 j), v_r 14, v_l (M 14 (Int.toNat (M 11 j))), v_l (msF (M 11) (M 12) (M 13) m (M 14) (M 10 5) j)]) rfl ?_
      refine mm_lald (mm_dc od_X4_misfitAbove_0 29 rfl) rfl (by first | omega | assumption | exact hr _ _ rfl | (constructor <;> omega)) (by first | omega | assumption | exact hr _ _ rfl | (constructor <;> omega)) (by decide) ?_
      refine mm_lsub (mm_dc od_X4_misfitAbove_0 30 rfl) ?_
      refine mm_aload_n (mm_dc od_X4_misfitAbove_0 31 rfl) rfl ?_
      refine mm_getR (ci := 4) (k := 3) (mm_dc od_X4_misfitAbove_0 32 rfl) rfl in_X4 (by decide) wd_1_88 rfl rfl ?_
      refine mm_iload (mm_dc od_X4_misfitAbove_0 33 rfl) rfl ?_
      refine mm_iald (mm_dc od_X4_misfitAbove_0 34 rfl) rfl (by first | omega | assumption | exact hr _ _ rfl | (constructor <;> omega)) (by first | omega | assumption | exact hr _ _ rfl | (constructor <;> omega)) (by decide) ?_
      refine mm_cst (st' := [v_i (M 13 j), v_l ((M 14 (Int.toNat (M 11 j))) - (M 14 (Int.toNat (M 12 j)))), v_l (msF (M 11) (M 12) (M 13) m (M 14) (M 10 5) j)]) rfl ?_
      refine mm_i2l (mm_dc od_X4_misfitAbove_0 35 rfl) (by first | omega | assumption | exact hr _ _ rfl | (constructor <;> omega)) ?_
      refine mm_aload_n (mm_dc od_X4_misfitAbove_0 36 rfl) rfl ?_
      refine mm_getL (ci := 4) (k := 5) (mm_dc od_X4_misfitAbove_0 37 rfl) rfl in_X4 (by decide) wd_1_91 rfl rfl ?_
      refine mm_lmul (mm_dc od_X4_misfitAbove_0 38 rfl) ?_
      refine mm_lsub (mm_dc od_X4_misfitAbove_0 39 rfl) ?_
      refine mm_mabsL (mm_dc od_X4_misfitAbove_0 40 rfl) wd_2_233 wd_2_216 wd_1_14 wd_2_217 (by first | omega | assumption | exact hr _ _ rfl | (constructor <;> omega)) (Nat.le_of_ble_eq_true rfl) ?_
      refine mm_ladd (mm_dc od_X4_misfitAbove_0 41 rfl) ?_
      refine mm_lstore_n (L' := [(0, v_r 10), (1, v_i (m : Int)), (2, v_l ((msF (M 11) (M 12) (M 13) m (M 14) (M 10 5) j) + (max (((M 14 (Int.toNat (M 11 j))) - (M 14 (Int.toNat (M 12 j)))) - ((M 13 j) * (M 10 5))) (-(((M 14 (Int.toNat (M 11 j))) - (M 14 (Int.toNat (M 12 j)))) - ((M 13 j) * (M 10 5))))))), (4, v_i (j : Int))]) (mm_dc od_X4_misfitAbove_0 42 rfl) (by decide) rfl ?_
      refine mm_iinc (L' := [(0, v_r 10), (1, v_i (m : Int)), (2, v_l ((msF (M 11) (M 12) (M 13) m (M 14) (M 10 5) j) + (max (((M 14 (Int.toNat (M 11 j))) - (M 14 (Int.toNat (M 12 j)))) - ((M 13 j) * (M 10 5))) (-(((M 14 (Int.toNat (M 11 j))) - (M 14 (Int.toNat (M 12 j)))) - ((M 13 j) * (M 10 5))))))), (4, v_i ((j : Int) + 1))]) (mm_dc od_X4_misfitAbove_0 43 rfl) rfl (by decide) rfl ?_
      refine mm_goto 5 (mm_dc od_X4_misfitAbove_0 44 rfl) (by omega) ?_
      have hb : m.testBit (M 11 j).toNat = true := by simpa only [Int.toNat_natCast] using c2
      refine mm_cL (L' := [(0, v_r 10), (1, v_i (m : Int)), (2, v_l (msF (M 11) (M 12) (M 13) m (M 14) (M 10 5) (j + 1))), (4, v_i ((j + 1 : Nat) : Int))]) (by rw [es, if_pos hb]; rfl) ?_
      exact L_ms5 m hm hJo hJr hr hU hd k (j + 1) (by omega)
    · simp only [Int.toNat_natCast] at c2
      refine mm_if_eq 73 (mm_dc od_X4_misfitAbove_0 14 rfl) (by omega) (by first | omega | assumption | exact hr _ _ rfl | (constructor <;> omega)) (fun _ => ?_) (fun h => absurd h (by decide))
      refine mm_iinc (L' := [(0, v_r 10), (1, v_i (m : Int)), (2, v_l (msF (M 11) (M 12) (M 13) m (M 14) (M 10 5) j)), (4, v_i ((j : Int) + 1))]) (mm_dc od_X4_misfitAbove_0 43 rfl) rfl (by decide) rfl ?_
      refine mm_goto 5 (mm_dc od_X4_misfitAbove_0 44 rfl) (by omega) ?_
      have hb : ¬ m.testBit (M 11 j).toNat = true := by simpa only [Int.toNat_natCast] using c2
      refine mm_cL (L' := [(0, v_r 10), (1, v_i (m : Int)), (2, v_l (msF (M 11) (M 12) (M 13) m (M 14) (M 10 5) (j + 1))), (4, v_i ((j + 1 : Nat) : Int))]) (by rw [es, if_neg hb, Int.add_zero]; rfl) ?_
      exact L_ms5 m hm hJo hJr hr hU hd k (j + 1) (by omega)
termination_by (M 10 0).toNat - j
decreasing_by all_goals (first | omega | (simp_wf; omega))
theorem c_X4_misfitAbove {X : Nat × (Nat → Int)} {d : Nat} {Po : mm_Po} {M : mm_M} (g : Int) (hg : 0 ≤ g ∧ g < 65536) (hJo : JO M) (hJr : JRc M) (hr : R32 M) (hU : ∀ o, o < 16 → ab (M 14 o) ≤ 2514640730112) (hd : 0 < M 10 5 ∧ M 10 5 ≤ 5618656) (k : Po (some (v_l (msF (M 11) (M 12) (M 13) g.toNat (M 14) (M 10 5) (M 10 0).toNat))) Lam M) : mm_E X (d + 1) 0 0 mi_X4_misfitAbove [v_r 10, v_i g] Po Lam M := by
  show mm_G X (d + 1) 0 0 mi_X4_misfitAbove Po 0 [(0, v_r 10), (1, v_i g)] [] Lam M 0 0
  refine mm_lconst (mm_dc od_X4_misfitAbove_0 0 rfl) ?_
  refine mm_cst (st' := [v_l 0]) rfl ?_
  refine mm_lstore_n (L' := [(0, v_r 10), (1, v_i g), (2, v_l 0)]) (mm_dc od_X4_misfitAbove_0 1 rfl) (by decide) rfl ?_
  refine mm_iconst (mm_dc od_X4_misfitAbove_0 2 rfl) ?_
  refine mm_istore (L' := [(0, v_r 10), (1, v_i g), (2, v_l 0), (4, v_i 0)]) (mm_dc od_X4_misfitAbove_0 3 rfl) (by decide) rfl ?_
  obtain ⟨m, rfl⟩ : ∃ m : Nat, g = m := ⟨g.toNat, by omega⟩
  exact L_ms5 m (by omega) hJo hJr hr hU hd k 0 (by have := hJr.1; omega)
theorem sv_b {M N : mm_M} {o m n : Nat} (hg : grpQ (M 11) (M 12) (M 10 0).toNat o m) (ho : o < 16) (hJr : JRc M) (ho16 : M 1 0 ≤ 16) (hn6 : n ≤ 6) (hn : cntb m = (n : Int) + 1) (hS : SV M m n N) : (0 < N 10 5 ∧ N 10 5 ≤ 5618656) ∧ ∀ x, x < 16 → ab (N 14 x) ≤ 2514640730112 := by
  have hq : ∀ r, r < (M 10 0).toNat → (0 ≤ M 11 r ∧ M 11 r < 16) ∧ (0 ≤ M 12 r ∧ M 12 r < 16) ∧ M 11 r ≠ M 12 r ∧ (-999 ≤ M 13 r ∧ M 13 r ≤ 999) := fun r hr2 => by
    have h := hJr.2.2 r (by omega)
    omega
  obtain ⟨a, hLQ⟩ := mx_LQ (w := M 13) hg ho hn6 (by have := hJr.2.1; omega) hn hq
  obtain ⟨h1, h2, h3⟩ := hS
  have d := dt_5 hLQ (k := n) (Nat.le_refl n)
  refine ⟨?_, fun x hx => ?_⟩
  · rw [h2]; exact ⟨d.1, d.2.1⟩
  · rw [h3 x hx]
    unfold svO
    split
    · exact cc_r hLQ (Nat.le_refl n) (by have := rowF_r (m := m) (x := x) hx hn; omega) (by decide)
    · have z : ab 0 = 0 := rfl
      rw [z]; decide
theorem c_X9_strength {X : Nat × (Nat → Int)} {d : Nat} {Po : mm_Po} {M : mm_M} (o : Int) (what : Int) (ho : mm_r32 o) (hw : mm_r32 what) (hJo : JO M) (hJr : JRc M) (hr : R32 M) (k : ∀ (N : mm_M) (r : Int), ((¬ (0 ≤ o ∧ o < M 1 0) ∧ r = -9223372036854775808 ∧ N = M) ∨ ((0 ≤ o ∧ o < M 1 0) ∧ ∃ m : Nat, grpQ (M 11) (M 12) (M 10 0).toNat o.toNat m ∧ ((7 < cntb m ∧ r = -9223372036854775808 ∧ N = M) ∨ ∃ n : Nat, n ≤ 6 ∧ cntb m = (n : Int) + 1 ∧ SV M m n N ∧ r = ptV (N 14 o.toNat) (N 10 5) what))) → Po (some (v_l r)) Lam N) : mm_E X (d + 4) 0 0 mi_X9_strength [v_r 0, v_i o, v_i what] Po Lam M := by
  show mm_G X (d + 4) 0 0 mi_X9_strength Po 0 [(0, v_r 0), (1, v_i o), (2, v_i what)] [] Lam M 0 0
  have hJo2 := hJo
  obtain ⟨ho0, ho16, hO⟩ := hJo2
  have hJr2 := hJr
  obtain ⟨hr0, hr40, hRr⟩ := hJr2
  refine mm_aload_n (mm_dc od_X9_strength_0 0 rfl) rfl ?_
  refine mm_getR (ci := 9) (k := 0) (mm_dc od_X9_strength_0 1 rfl) rfl in_X9 (by decide) wd_2_45 rfl rfl ?_
  refine mm_iload_n (mm_dc od_X9_strength_0 2 rfl) rfl ?_
  refine mm_callV (b := 1) (mi' := mi_X0_hasOar) [v_i o] [] (mm_dc od_X9_strength_0 3 rfl) rfl wd_2_99 wd_2_100 wd_2_101 wd_1_2 wd_2_102 yk_X0_hasOar rfl rfl rfl (Nat.le_of_ble_eq_true rfl) rfl (by decide) (c_X0_hasOar o (by first | omega | assumption | exact hr _ _ rfl) (by first | omega | assumption | exact hr _ _ rfl) (fun c1 => ⟨Nat.le_refl _, ?_⟩) (fun c1 => ⟨Nat.le_refl _, ?_⟩))
  · refine mm_if_eq 29 (mm_dc od_X9_strength_0 4 rfl) (by omega) (by first | omega | assumption | exact hr _ _ rfl) (fun h => absurd h (by decide)) (fun _ => ?_)
    refine mm_aload_n (mm_dc od_X9_strength_0 5 rfl) rfl ?_
    refine mm_getR (ci := 9) (k := 1) (mm_dc od_X9_strength_0 6 rfl) rfl in_X9 (by decide) wd_2_46 rfl rfl ?_
    refine mm_aload_n (mm_dc od_X9_strength_0 7 rfl) rfl ?_
    refine mm_getR (ci := 9) (k := 1) (mm_dc od_X9_strength_0 8 rfl) rfl in_X9 (by decide) wd_2_46 rfl rfl ?_
    refine mm_iload_n (mm_dc od_X9_strength_0 9 rfl) rfl ?_
    refine mm_callV (b := 10) (mi' := mi_X4_groupOf) [v_i o] [v_r 10] (mm_dc od_X9_strength_0 10 rfl) rfl wd_2_163 wd_2_164 wd_2_165 wd_1_3 wd_2_166 yk_X4_groupOf rfl rfl rfl (Nat.le_of_ble_eq_true rfl) rfl (by decide) (c_X4_groupOf o (by omega) hJo hJr hr (fun r hq2 => ?_))
    obtain ⟨m, em, hgm⟩ := hq2
    subst em
    refine ⟨Nat.le_refl _, ?_⟩
    have hgq : ∃ q, q < 16 ∧ grpQ (M 11) (M 12) (M 10 0).toNat q ((m : Int)).toNat := ⟨_, by omega, hgm⟩
    have hm16 := hgm.1
    refine mm_callV (b := 10) (mi' := mi_X4_solve) [v_i (m : Int)] [] (mm_dc od_X9_strength_0 11 rfl) rfl wd_2_177 wd_2_178 wd_2_179 wd_1_3 wd_2_180 yk_X4_solve rfl rfl rfl (Nat.le_of_ble_eq_true rfl) rfl (by decide) (c_X4_solve (m : Int) (by first | omega | assumption | exact hr _ _ rfl) (by first | omega | assumption | exact hr _ _ rfl) hJr (by first | omega | assumption | exact hr _ _ rfl) (by first | omega | assumption | exact hr _ _ rfl) (fun N4 r3 hq5 => ⟨Nat.le_refl _, ?_⟩))
    have hr01 : r3 = 0 ∨ r3 = 1 := by rcases hq5 with ⟨_, h, _⟩ | ⟨h, _⟩ <;> omega
    rw [Int.toNat_natCast] at hq5
    refine mm_if_ne 33 (mm_dc od_X9_strength_0 12 rfl) (by omega) (by first | omega | assumption | exact hr _ _ rfl) (fun c6 => ?_) (fun c6 => ?_)
    · refine mm_aload_n (mm_dc od_X9_strength_0 15 rfl) rfl ?_
      refine mm_getR (ci := 9) (k := 1) (mm_dc od_X9_strength_0 16 rfl) rfl in_X9 (by decide) wd_2_46 rfl rfl ?_
      refine mm_getR (ci := 4) (k := 4) (mm_dc od_X9_strength_0 17 rfl) rfl in_X4 (by decide) wd_1_90 rfl rfl ?_
      refine mm_iload_n (mm_dc od_X9_strength_0 18 rfl) rfl ?_
      refine mm_lald (mm_dc od_X9_strength_0 19 rfl) rfl (by first | omega | assumption | exact hr _ _ rfl) (by first | omega | assumption | exact hr _ _ rfl) (by decide) ?_
      refine mm_aload_n (mm_dc od_X9_strength_0 20 rfl) rfl ?_
      refine mm_getR (ci := 9) (k := 1) (mm_dc od_X9_strength_0 21 rfl) rfl in_X9 (by decide) wd_2_46 rfl rfl ?_
      refine mm_getL (ci := 4) (k := 5) (mm_dc od_X9_strength_0 22 rfl) rfl in_X4 (by decide) wd_1_92 rfl rfl ?_
      refine mm_iload_n (mm_dc od_X9_strength_0 23 rfl) rfl ?_
      rcases hq5 with ⟨_, e0, _⟩ | ⟨_, n, hn6, hcn, hSV⟩
      · exfalso; omega
      have hb := sv_b hgm (by omega) hJr (by omega) hn6 hcn hSV
      have hrN := hSV.1.1
      have hbo := hb.2 o.toNat (by omega)
      unfold ab at hbo
      refine mm_callS (mi' := mi_X9_partOf) [v_l (N4 14 (Int.toNat o)), v_l (N4 10 5), v_i what] [] (mm_dc od_X9_strength_0 24 rfl) rfl wd_2_212 wd_2_213 wd_1_1 wd_2_214 yk_X9_partOf (Nat.le_of_ble_eq_true rfl) rfl (by decide) (c_X9_partOf (N4 14 (Int.toNat o)) (N4 10 5) what (by omega) (by omega) (by omega) ⟨Nat.le_refl _, ?_⟩)
      refine mm_lret (mm_dc od_X9_strength_0 25 rfl) rfl ?_
      exact k _ _ (Or.inr ⟨by omega, m, hgm, Or.inr ⟨n, hn6, hcn, hSV, rfl⟩⟩)
    · refine mm_ldcn (z := (-9223372036854775808)) (mm_dc od_X9_strength_0 13 rfl) wd_2_211 (by decide) ?_
      refine mm_lret (mm_dc od_X9_strength_0 14 rfl) rfl ?_
      rcases hq5 with ⟨e1, _, e2⟩ | ⟨e1, _⟩
      · subst e2
        exact k _ _ (Or.inr ⟨by omega, m, hgm, Or.inl ⟨e1, rfl, rfl⟩⟩)
      · exfalso; omega
  · refine mm_if_eq 29 (mm_dc od_X9_strength_0 4 rfl) (by omega) (by first | omega | assumption | exact hr _ _ rfl) (fun _ => ?_) (fun h => absurd h (by decide))
    refine mm_ldcn (z := (-9223372036854775808)) (mm_dc od_X9_strength_0 13 rfl) wd_2_211 (by decide) ?_
    refine mm_lret (mm_dc od_X9_strength_0 14 rfl) rfl ?_
    exact k _ _ (Or.inl ⟨by omega, rfl, rfl⟩)
theorem c_X9_between {X : Nat × (Nat → Int)} {d : Nat} {Po : mm_Po} {M : mm_M} (x : Int) (y : Int) (what : Int) (hx : mm_r32 x) (hy : mm_r32 y) (hw : mm_r32 what) (hJo : JO M) (hJr : JRc M) (hr : R32 M) (k : ∀ (N : mm_M) (r : Int), ((¬ ((0 ≤ x ∧ x < M 1 0) ∧ (0 ≤ y ∧ y < M 1 0)) ∧ r = -9223372036854775808 ∧ N = M) ∨ (((0 ≤ x ∧ x < M 1 0) ∧ (0 ≤ y ∧ y < M 1 0)) ∧ ∃ m : Nat, grpQ (M 11) (M 12) (M 10 0).toNat x.toNat m ∧ ((¬ m.testBit y.toNat = true ∧ r = -9223372036854775808 ∧ N = M) ∨ (7 < cntb m ∧ r = -9223372036854775808 ∧ N = M) ∨ ∃ n : Nat, m.testBit y.toNat = true ∧ n ≤ 6 ∧ cntb m = (n : Int) + 1 ∧ SV M m n N ∧ r = ptV (N 14 x.toNat - N 14 y.toNat) (N 10 5) what))) → Po (some (v_l r)) Lam N) : mm_E X (d + 4) 0 0 mi_X9_between [v_r 0, v_i x, v_i y, v_i what] Po Lam M := by
  show mm_G X (d + 4) 0 0 mi_X9_between Po 0 [(0, v_r 0), (1, v_i x), (2, v_i y), (3, v_i what)] [] Lam M 0 0
  have hJo2 := hJo
  obtain ⟨ho0, ho16, hO⟩ := hJo2
  have hJr2 := hJr
  obtain ⟨hr0, hr40, hRr⟩ := hJr2
  refine mm_aload_n (mm_dc od_X9_between_0 0 rfl) rfl ?_
  refine mm_getR (ci := 9) (k := 0) (mm_dc od_X9_between_0 1 rfl) rfl in_X9 (by decide) wd_2_45 rfl rfl ?_
  refine mm_iload_n (mm_dc od_X9_between_0 2 rfl) rfl ?_
  refine mm_callV (b := 1) (mi' := mi_X0_hasOar) [v_i x] [] (mm_dc od_X9_between_0 3 rfl) rfl wd_2_99 wd_2_100 wd_2_101 wd_1_2 wd_2_102 yk_X0_hasOar rfl rfl rfl (Nat.le_of_ble_eq_true rfl) rfl (by decide) (c_X0_hasOar x (by first | omega | assumption | exact hr _ _ rfl) (by first | omega | assumption | exact hr _ _ rfl) (fun c1 => ⟨Nat.le_refl _, ?_⟩) (fun c1 => ⟨Nat.le_refl _, ?_⟩))
  · refine mm_if_eq 22 (mm_dc od_X9_between_0 4 rfl) (by omega) (by first | omega | assumption | exact hr _ _ rfl) (fun h => absurd h (by decide)) (fun _ => ?_)
    refine mm_aload_n (mm_dc od_X9_between_0 5 rfl) rfl ?_
    refine mm_getR (ci := 9) (k := 0) (mm_dc od_X9_between_0 6 rfl) rfl in_X9 (by decide) wd_2_45 rfl rfl ?_
    refine mm_iload_n (mm_dc od_X9_between_0 7 rfl) rfl ?_
    refine mm_callV (b := 1) (mi' := mi_X0_hasOar) [v_i y] [] (mm_dc od_X9_between_0 8 rfl) rfl wd_2_99 wd_2_100 wd_2_101 wd_1_2 wd_2_102 yk_X0_hasOar rfl rfl rfl (Nat.le_of_ble_eq_true rfl) rfl (by decide) (c_X0_hasOar y (by first | omega | assumption | exact hr _ _ rfl) (by first | omega | assumption | exact hr _ _ rfl) (fun c2 => ⟨Nat.le_refl _, ?_⟩) (fun c2 => ⟨Nat.le_refl _, ?_⟩))
    · refine mm_if_ne 26 (mm_dc od_X9_between_0 9 rfl) (by omega) (by first | omega | assumption | exact hr _ _ rfl) (fun _ => ?_) (fun h => absurd h (by decide))
      refine mm_aload_n (mm_dc od_X9_between_0 12 rfl) rfl ?_
      refine mm_getR (ci := 9) (k := 1) (mm_dc od_X9_between_0 13 rfl) rfl in_X9 (by decide) wd_2_46 rfl rfl ?_
      refine mm_iload_n (mm_dc od_X9_between_0 14 rfl) rfl ?_
      refine mm_callV (b := 10) (mi' := mi_X4_groupOf) [v_i x] [] (mm_dc od_X9_between_0 15 rfl) rfl wd_2_163 wd_2_164 wd_2_165 wd_1_3 wd_2_166 yk_X4_groupOf rfl rfl rfl (Nat.le_of_ble_eq_true rfl) rfl (by decide) (c_X4_groupOf x (by omega) hJo hJr hr (fun r hq3 => ?_))
      obtain ⟨m, em, hgm⟩ := hq3
      subst em
      refine ⟨Nat.le_refl _, ?_⟩
      have hgq : ∃ q, q < 16 ∧ grpQ (M 11) (M 12) (M 10 0).toNat q ((m : Int)).toNat := ⟨_, by omega, hgm⟩
      have hm16 := hgm.1
      refine mm_istore (L' := [(0, v_r 0), (1, v_i x), (2, v_i y), (3, v_i what), (4, v_i (m : Int))]) (mm_dc od_X9_between_0 16 rfl) (by decide) rfl ?_
      refine mm_iload (mm_dc od_X9_between_0 17 rfl) rfl ?_
      refine mm_iload_n (mm_dc od_X9_between_0 18 rfl) rfl ?_
      refine mm_callS (mi' := mi_X9_has) [v_i (m : Int), v_i y] [] (mm_dc od_X9_between_0 19 rfl) rfl wd_2_170 wd_2_171 wd_1_1 wd_2_172 yk_X9_has (Nat.le_of_ble_eq_true rfl) rfl (by decide) (c_X9_has (m : Int) y (by first | omega | assumption | exact hr _ _ rfl) (by first | omega | assumption | exact hr _ _ rfl) (fun c4 => ⟨Nat.le_refl _, ?_⟩) (fun c4 => ⟨Nat.le_refl _, ?_⟩))
      · simp only [Int.toNat_natCast] at c4
        refine mm_if_eq 57 (mm_dc od_X9_between_0 20 rfl) (by omega) (by first | omega | assumption | exact hr _ _ rfl) (fun h => absurd h (by decide)) (fun _ => ?_)
        refine mm_aload_n (mm_dc od_X9_between_0 21 rfl) rfl ?_
        refine mm_getR (ci := 9) (k := 1) (mm_dc od_X9_between_0 22 rfl) rfl in_X9 (by decide) wd_2_46 rfl rfl ?_
        refine mm_iload (mm_dc od_X9_between_0 23 rfl) rfl ?_
        refine mm_callV (b := 10) (mi' := mi_X4_solve) [v_i (m : Int)] [] (mm_dc od_X9_between_0 24 rfl) rfl wd_2_177 wd_2_178 wd_2_179 wd_1_3 wd_2_180 yk_X4_solve rfl rfl rfl (Nat.le_of_ble_eq_true rfl) rfl (by decide) (c_X4_solve (m : Int) (by first | omega | assumption | exact hr _ _ rfl) (by first | omega | assumption | exact hr _ _ rfl) hJr (by first | omega | assumption | exact hr _ _ rfl) (by first | omega | assumption | exact hr _ _ rfl) (fun N6 r5 hq7 => ⟨Nat.le_refl _, ?_⟩))
        have hr01 : r5 = 0 ∨ r5 = 1 := by rcases hq7 with ⟨_, h, _⟩ | ⟨h, _⟩ <;> omega
        rw [Int.toNat_natCast] at hq7
        refine mm_if_ne 61 (mm_dc od_X9_between_0 25 rfl) (by omega) (by first | omega | assumption | exact hr _ _ rfl) (fun c8 => ?_) (fun c8 => ?_)
        · refine mm_aload_n (mm_dc od_X9_between_0 28 rfl) rfl ?_
          refine mm_getR (ci := 9) (k := 1) (mm_dc od_X9_between_0 29 rfl) rfl in_X9 (by decide) wd_2_46 rfl rfl ?_
          refine mm_getR (ci := 4) (k := 4) (mm_dc od_X9_between_0 30 rfl) rfl in_X4 (by decide) wd_1_90 rfl rfl ?_
          refine mm_iload_n (mm_dc od_X9_between_0 31 rfl) rfl ?_
          refine mm_lald (mm_dc od_X9_between_0 32 rfl) rfl (by first | omega | assumption | exact hr _ _ rfl) (by first | omega | assumption | exact hr _ _ rfl) (by decide) ?_
          refine mm_aload_n (mm_dc od_X9_between_0 33 rfl) rfl ?_
          refine mm_getR (ci := 9) (k := 1) (mm_dc od_X9_between_0 34 rfl) rfl in_X9 (by decide) wd_2_46 rfl rfl ?_
          refine mm_getR (ci := 4) (k := 4) (mm_dc od_X9_between_0 35 rfl) rfl in_X4 (by decide) wd_1_90 rfl rfl ?_
          refine mm_iload_n (mm_dc od_X9_between_0 36 rfl) rfl ?_
          refine mm_lald (mm_dc od_X9_between_0 37 rfl) rfl (by first | omega | assumption | exact hr _ _ rfl) (by first | omega | assumption | exact hr _ _ rfl) (by decide) ?_
          refine mm_lsub (mm_dc od_X9_between_0 38 rfl) ?_
          refine mm_aload_n (mm_dc od_X9_between_0 39 rfl) rfl ?_
          refine mm_getR (ci := 9) (k := 1) (mm_dc od_X9_between_0 40 rfl) rfl in_X9 (by decide) wd_2_46 rfl rfl ?_
          refine mm_getL (ci := 4) (k := 5) (mm_dc od_X9_between_0 41 rfl) rfl in_X4 (by decide) wd_1_92 rfl rfl ?_
          refine mm_iload_n (mm_dc od_X9_between_0 42 rfl) rfl ?_
          rcases hq7 with ⟨_, e0, _⟩ | ⟨_, n, hn6, hcn, hSV⟩
          · exfalso; omega
          have hb := sv_b hgm (by omega) hJr (by omega) hn6 hcn hSV
          have hrN := hSV.1.1
          have hbx := hb.2 x.toNat (by omega)
          unfold ab at hbx
          have hby := hb.2 y.toNat (by omega)
          unfold ab at hby
          refine mm_callS (mi' := mi_X9_partOf) [v_l ((N6 14 (Int.toNat x)) - (N6 14 (Int.toNat y))), v_l (N6 10 5), v_i what] [] (mm_dc od_X9_between_0 43 rfl) rfl wd_2_212 wd_2_213 wd_1_1 wd_2_214 yk_X9_partOf (Nat.le_of_ble_eq_true rfl) rfl (by decide) (c_X9_partOf ((N6 14 (Int.toNat x)) - (N6 14 (Int.toNat y))) (N6 10 5) what (by omega) (by omega) (by omega) ⟨Nat.le_refl _, ?_⟩)
          refine mm_lret (mm_dc od_X9_between_0 44 rfl) rfl ?_
          exact k _ _ (Or.inr ⟨by omega, m, hgm, Or.inr (Or.inr ⟨n, (by simpa only [Int.toNat_natCast] using c4), hn6, hcn, hSV, rfl⟩)⟩)
        · refine mm_ldcn (z := (-9223372036854775808)) (mm_dc od_X9_between_0 26 rfl) wd_2_211 (by decide) ?_
          refine mm_lret (mm_dc od_X9_between_0 27 rfl) rfl ?_
          rcases hq7 with ⟨e1, _, e2⟩ | ⟨e1, _⟩
          · subst e2
            exact k _ _ (Or.inr ⟨by omega, m, hgm, Or.inr (Or.inl ⟨e1, rfl, rfl⟩)⟩)
          · exfalso; omega
      · simp only [Int.toNat_natCast] at c4
        refine mm_if_eq 57 (mm_dc od_X9_between_0 20 rfl) (by omega) (by first | omega | assumption | exact hr _ _ rfl) (fun _ => ?_) (fun h => absurd h (by decide))
        refine mm_ldcn (z := (-9223372036854775808)) (mm_dc od_X9_between_0 26 rfl) wd_2_211 (by decide) ?_
        refine mm_lret (mm_dc od_X9_between_0 27 rfl) rfl ?_
        exact k _ _ (Or.inr ⟨by omega, m, hgm, Or.inl ⟨by simpa only [Int.toNat_natCast] using c4, rfl, rfl⟩⟩)
    · refine mm_if_ne 26 (mm_dc od_X9_between_0 9 rfl) (by omega) (by first | omega | assumption | exact hr _ _ rfl) (fun h => absurd h (by decide)) (fun _ => ?_)
      refine mm_ldcn (z := (-9223372036854775808)) (mm_dc od_X9_between_0 10 rfl) wd_2_211 (by decide) ?_
      refine mm_lret (mm_dc od_X9_between_0 11 rfl) rfl ?_
      exact k _ _ (Or.inl ⟨by omega, rfl, rfl⟩)
  · refine mm_if_eq 22 (mm_dc od_X9_between_0 4 rfl) (by omega) (by first | omega | assumption | exact hr _ _ rfl) (fun _ => ?_) (fun h => absurd h (by decide))
    refine mm_ldcn (z := (-9223372036854775808)) (mm_dc od_X9_between_0 10 rfl) wd_2_211 (by decide) ?_
    refine mm_lret (mm_dc od_X9_between_0 11 rfl) rfl ?_
    exact k _ _ (Or.inl ⟨by omega, rfl, rfl⟩)
theorem c_X9_misfit {X : Nat × (Nat → Int)} {d : Nat} {Po : mm_Po} {M : mm_M} (o : Int) (what : Int) (ho : mm_r32 o) (hw : mm_r32 what) (hJo : JO M) (hJr : JRc M) (hr : R32 M) (k : ∀ (N : mm_M) (r : Int), ((¬ (0 ≤ o ∧ o < M 1 0) ∧ r = -9223372036854775808 ∧ N = M) ∨ ((0 ≤ o ∧ o < M 1 0) ∧ ∃ m : Nat, grpQ (M 11) (M 12) (M 10 0).toNat o.toNat m ∧ ((7 < cntb m ∧ r = -9223372036854775808 ∧ N = M) ∨ ∃ n : Nat, n ≤ 6 ∧ cntb m = (n : Int) + 1 ∧ SV M m n N ∧ r = ptV (msF (M 11) (M 12) (M 13) m (N 14) (N 10 5) (M 10 0).toNat) (N 10 5) what))) → Po (some (v_l r)) Lam N) : mm_E X (d + 4) 0 0 mi_X9_misfit [v_r 0, v_i o, v_i what] Po Lam M := by
  show mm_G X (d + 4) 0 0 mi_X9_misfit Po 0 [(0, v_r 0), (1, v_i o), (2, v_i what)] [] Lam M 0 0
  have hJo2 := hJo
  obtain ⟨ho0, ho16, hO⟩ := hJo2
  have hJr2 := hJr
  obtain ⟨hr0, hr40, hRr⟩ := hJr2
  refine mm_aload_n (mm_dc od_X9_misfit_0 0 rfl) rfl ?_
  refine mm_getR (ci := 9) (k := 0) (mm_dc od_X9_misfit_0 1 rfl) rfl in_X9 (by decide) wd_2_45 rfl rfl ?_
  refine mm_iload_n (mm_dc od_X9_misfit_0 2 rfl) rfl ?_
  refine mm_callV (b := 1) (mi' := mi_X0_hasOar) [v_i o] [] (mm_dc od_X9_misfit_0 3 rfl) rfl wd_2_99 wd_2_100 wd_2_101 wd_1_2 wd_2_102 yk_X0_hasOar rfl rfl rfl (Nat.le_of_ble_eq_true rfl) rfl (by decide) (c_X0_hasOar o (by first | omega | assumption | exact hr _ _ rfl) (by first | omega | assumption | exact hr _ _ rfl) (fun c1 => ⟨Nat.le_refl _, ?_⟩) (fun c1 => ⟨Nat.le_refl _, ?_⟩))
  · refine mm_if_ne 15 (mm_dc od_X9_misfit_0 4 rfl) (by omega) (by first | omega | assumption | exact hr _ _ rfl) (fun _ => ?_) (fun h => absurd h (by decide))
    refine mm_aload_n (mm_dc od_X9_misfit_0 7 rfl) rfl ?_
    refine mm_getR (ci := 9) (k := 1) (mm_dc od_X9_misfit_0 8 rfl) rfl in_X9 (by decide) wd_2_46 rfl rfl ?_
    refine mm_iload_n (mm_dc od_X9_misfit_0 9 rfl) rfl ?_
    refine mm_callV (b := 10) (mi' := mi_X4_groupOf) [v_i o] [] (mm_dc od_X9_misfit_0 10 rfl) rfl wd_2_163 wd_2_164 wd_2_165 wd_1_3 wd_2_166 yk_X4_groupOf rfl rfl rfl (Nat.le_of_ble_eq_true rfl) rfl (by decide) (c_X4_groupOf o (by omega) hJo hJr hr (fun r hq2 => ?_))
    obtain ⟨m, em, hgm⟩ := hq2
    subst em
    refine ⟨Nat.le_refl _, ?_⟩
    have hgq : ∃ q, q < 16 ∧ grpQ (M 11) (M 12) (M 10 0).toNat q ((m : Int)).toNat := ⟨_, by omega, hgm⟩
    have hm16 := hgm.1
    refine mm_istore_n (L' := [(0, v_r 0), (1, v_i o), (2, v_i what), (3, v_i (m : Int))]) (mm_dc od_X9_misfit_0 11 rfl) (by decide) rfl ?_
    refine mm_aload_n (mm_dc od_X9_misfit_0 12 rfl) rfl ?_
    refine mm_getR (ci := 9) (k := 1) (mm_dc od_X9_misfit_0 13 rfl) rfl in_X9 (by decide) wd_2_46 rfl rfl ?_
    refine mm_iload_n (mm_dc od_X9_misfit_0 14 rfl) rfl ?_
    refine mm_callV (b := 10) (mi' := mi_X4_solve) [v_i (m : Int)] [] (mm_dc od_X9_misfit_0 15 rfl) rfl wd_2_177 wd_2_178 wd_2_179 wd_1_3 wd_2_180 yk_X4_solve rfl rfl rfl (Nat.le_of_ble_eq_true rfl) rfl (by decide) (c_X4_solve (m : Int) (by first | omega | assumption | exact hr _ _ rfl) (by first | omega | assumption | exact hr _ _ rfl) hJr (by first | omega | assumption | exact hr _ _ rfl) (by first | omega | assumption | exact hr _ _ rfl) (fun N4 r3 hq5 => ⟨Nat.le_refl _, ?_⟩))
    have hr01 : r3 = 0 ∨ r3 = 1 := by rcases hq5 with ⟨_, h, _⟩ | ⟨h, _⟩ <;> omega
    rw [Int.toNat_natCast] at hq5
    refine mm_if_ne 39 (mm_dc od_X9_misfit_0 16 rfl) (by omega) (by first | omega | assumption | exact hr _ _ rfl) (fun c6 => ?_) (fun c6 => ?_)
    · refine mm_aload_n (mm_dc od_X9_misfit_0 19 rfl) rfl ?_
      refine mm_getR (ci := 9) (k := 1) (mm_dc od_X9_misfit_0 20 rfl) rfl in_X9 (by decide) wd_2_46 rfl rfl ?_
      refine mm_iload_n (mm_dc od_X9_misfit_0 21 rfl) rfl ?_
      rcases hq5 with ⟨_, e0, _⟩ | ⟨_, n, hn6, hcn, hSV⟩
      · exfalso; omega
      have hb := sv_b hgm (by omega) hJr (by omega) hn6 hcn hSV
      have hrN := hSV.1.1
      have f1 : ∀ i, i ≠ 14 → i ≠ 15 → i ≠ 16 → i ≠ 10 → N4 i = M i := hSV.1.2.1
      have f10 : N4 10 0 = M 10 0 := hSV.1.2.2 0 (by decide)
      have hJoN : JO N4 := by unfold JO; rw [f1 1 (by decide) (by decide) (by decide) (by decide), f1 2 (by decide) (by decide) (by decide) (by decide), f1 3 (by decide) (by decide) (by decide) (by decide), f1 4 (by decide) (by decide) (by decide) (by decide), f1 5 (by decide) (by decide) (by decide) (by decide)]; exact hJo
      have hJrN : JRc N4 := by unfold JRc; rw [f10, f1 11 (by decide) (by decide) (by decide) (by decide), f1 12 (by decide) (by decide) (by decide) (by decide), f1 13 (by decide) (by decide) (by decide) (by decide), f1 1 (by decide) (by decide) (by decide) (by decide)]; exact hJr
      have hms := ms_b (f := N4 11) (s := N4 12) (w := N4 13) (m := m) (U := N4 14) (dn := N4 10 5) hb.2 hb.1 (N4 10 0).toNat (fun r hr2 => by have h := hJrN.2.2 r (by omega); have h2 := hJoN.2.1; omega)
      have h40 := hJrN.2.1
      refine mm_callV (b := 10) (mi' := mi_X4_misfitAbove) [v_i (m : Int)] [] (mm_dc od_X9_misfit_0 22 rfl) rfl wd_2_229 wd_2_230 wd_2_231 wd_1_3 wd_2_232 yk_X4_misfitAbove rfl rfl rfl (Nat.le_of_ble_eq_true rfl) rfl (by decide) (c_X4_misfitAbove (m : Int) (by omega) hJoN hJrN hrN hb.2 hb.1 ⟨Nat.le_refl _, ?_⟩)
      refine mm_aload_n (mm_dc od_X9_misfit_0 23 rfl) rfl ?_
      refine mm_getR (ci := 9) (k := 1) (mm_dc od_X9_misfit_0 24 rfl) rfl in_X9 (by decide) wd_2_46 rfl rfl ?_
      refine mm_getL (ci := 4) (k := 5) (mm_dc od_X9_misfit_0 25 rfl) rfl in_X4 (by decide) wd_1_92 rfl rfl ?_
      refine mm_iload_n (mm_dc od_X9_misfit_0 26 rfl) rfl ?_
      refine mm_callS (mi' := mi_X9_partOf) [v_l (msF (N4 11) (N4 12) (N4 13) ((m : Int)).toNat (N4 14) (N4 10 5) (N4 10 0).toNat), v_l (N4 10 5), v_i what] [] (mm_dc od_X9_misfit_0 27 rfl) rfl wd_2_212 wd_2_213 wd_1_1 wd_2_214 yk_X9_partOf (Nat.le_of_ble_eq_true rfl) rfl (by decide) (c_X9_partOf (msF (N4 11) (N4 12) (N4 13) ((m : Int)).toNat (N4 14) (N4 10 5) (N4 10 0).toNat) (N4 10 5) what (by rw [Int.toNat_natCast]; omega) (by omega) (by omega) ⟨Nat.le_refl _, ?_⟩)
      refine mm_lret (mm_dc od_X9_misfit_0 28 rfl) rfl ?_
      exact k _ _ (Or.inr ⟨by omega, m, hgm, Or.inr ⟨n, hn6, hcn, hSV, by rw [Int.toNat_natCast, f10, f1 11 (by decide) (by decide) (by decide) (by decide), f1 12 (by decide) (by decide) (by decide) (by decide), f1 13 (by decide) (by decide) (by decide) (by decide)]⟩⟩)
    · refine mm_ldcn (z := (-9223372036854775808)) (mm_dc od_X9_misfit_0 17 rfl) wd_2_211 (by decide) ?_
      refine mm_lret (mm_dc od_X9_misfit_0 18 rfl) rfl ?_
      rcases hq5 with ⟨e1, _, e2⟩ | ⟨e1, _⟩
      · subst e2
        exact k _ _ (Or.inr ⟨by omega, m, hgm, Or.inl ⟨e1, rfl, rfl⟩⟩)
      · exfalso; omega
  · refine mm_if_ne 15 (mm_dc od_X9_misfit_0 4 rfl) (by omega) (by first | omega | assumption | exact hr _ _ rfl) (fun h => absurd h (by decide)) (fun _ => ?_)
    refine mm_ldcn (z := (-9223372036854775808)) (mm_dc od_X9_misfit_0 5 rfl) wd_2_211 (by decide) ?_
    refine mm_lret (mm_dc od_X9_misfit_0 6 rfl) rfl ?_
    exact k _ _ (Or.inl ⟨by omega, rfl, rfl⟩)
