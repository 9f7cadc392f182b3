/-! the reference's fractions -/
theorem tm_n {x y : Int} (hx : 0 ≤ x) (hy : 0 ≤ y) : Int.tmod x y = ((x.toNat % y.toNat : Nat) : Int) := by
  obtain ⟨p, rfl⟩ : ∃ p : Nat, x = p := ⟨x.toNat, by omega⟩
  obtain ⟨q, rfl⟩ : ∃ q : Nat, y = q := ⟨y.toNat, by omega⟩
  rfl
theorem L_dv28 {X : Nat × (Nat → Int)} {d : Nat} {Po : mm_Po} {M : mm_M} (a b : Int) (g : Nat) (k : Po (some (v_l (g : Int))) Lam M) (x y : Int) (hx : 0 ≤ x ∧ x < 4611686018427387904) (hy : 0 ≤ y ∧ y < 4611686018427387904) (hg : Nat.gcd x.toNat y.toNat = g) : mm_G X d 0 0 mi_X10_divisor Po 28 [(0, v_l a), (2, v_l b), (4, v_l x), (6, v_l y)] [] Lam M 0 0 := by
  have htm := tm_n hx.1 hy.1
  have qz := mm_cmp_is y 0
  refine mm_lload (mm_dc od_X10_divisor_0 18 rfl) rfl ?_
  refine mm_lconst (mm_dc od_X10_divisor_0 19 rfl) ?_
  refine mm_cst (st' := [v_l 0, v_l y]) rfl ?_
  refine mm_lcmp (mm_dc od_X10_divisor_0 20 rfl) (by first | omega | assumption) (by first | omega | assumption) ?_
  refine mm_if_eq 53 (mm_dc od_X10_divisor_0 21 rfl) (by omega) (by first | omega | assumption) (fun c1 => ?_) (fun c1 => ?_)
  · refine mm_lload (mm_dc od_X10_divisor_0 31 rfl) rfl ?_
    refine mm_lret (mm_dc od_X10_divisor_0 32 rfl) rfl ?_
    have hy0 : y = 0 := by omega
    subst hy0
    have e0 : (0 : Int).toNat = 0 := rfl
    rw [e0, Nat.gcd_zero_right] at hg
    exact mm_pl (by omega) k
  · refine mm_lload (mm_dc od_X10_divisor_0 22 rfl) rfl ?_
    refine mm_lload (mm_dc od_X10_divisor_0 23 rfl) rfl ?_
    refine mm_lrem (mm_dc od_X10_divisor_0 24 rfl) (by first | omega | assumption) (by first | omega | assumption) (by first | omega | assumption) ?_
    refine mm_lstore (L' := [(0, v_l a), (2, v_l b), (4, v_l x), (6, v_l y), (8, v_l (Int.tmod x y))]) (mm_dc od_X10_divisor_0 25 rfl) (by decide) rfl ?_
    refine mm_lload (mm_dc od_X10_divisor_0 26 rfl) rfl ?_
    refine mm_lstore (L' := [(0, v_l a), (2, v_l b), (4, v_l y), (6, v_l y), (8, v_l (Int.tmod x y))]) (mm_dc od_X10_divisor_0 27 rfl) (by decide) rfl ?_
    refine mm_lload (mm_dc od_X10_divisor_0 28 rfl) rfl ?_
    refine mm_lstore (L' := [(0, v_l a), (2, v_l b), (4, v_l y), (6, v_l (Int.tmod x y)), (8, v_l (Int.tmod x y))]) (mm_dc od_X10_divisor_0 29 rfl) (by decide) rfl ?_
    refine mm_goto 28 (mm_dc od_X10_divisor_0 30 rfl) (by omega) ?_
    have hlt : x.toNat % y.toNat < y.toNat := Nat.mod_lt _ (by omega)
    exact mm_less [0, 1, 2, 3] rfl (L_dv28 a b g k y (Int.tmod x y) (by omega) (by rw [htm]; omega) (by rw [htm, Int.toNat_natCast, ← hg, Nat.gcd_comm x.toNat, Nat.gcd_rec y.toNat x.toNat, Nat.gcd_comm]))
termination_by y.toNat
decreasing_by all_goals (rw [htm, Int.toNat_natCast]; exact hlt)
theorem c_X10_divisor {X : Nat × (Nat → Int)} {d : Nat} {Po : mm_Po} {M : mm_M} (a : Int) (b : Int) (ha : -4611686018427387904 < a ∧ a < 4611686018427387904) (hb : -4611686018427387904 < b ∧ b < 4611686018427387904) (k : Po (some (v_l ((Nat.gcd (max a (-a)).toNat (max b (-b)).toNat : Nat) : Int))) Lam M) : mm_E X d 0 0 mi_X10_divisor [v_l a, v_l b] Po Lam M := by
  show mm_G X d 0 0 mi_X10_divisor Po 0 [(0, v_l a), (2, v_l b)] [] Lam M 0 0
  have q1 := mm_cmp_is a 0
  have q2 := mm_cmp_is b 0
  refine mm_lload_n (mm_dc od_X10_divisor_0 0 rfl) rfl ?_
  refine mm_lconst (mm_dc od_X10_divisor_0 1 rfl) ?_
  refine mm_cst (st' := [v_l 0, v_l a]) rfl ?_
  refine mm_lcmp (mm_dc od_X10_divisor_0 2 rfl) (by first | omega | assumption) (by first | omega | assumption) ?_
  refine mm_if_ge 11 (mm_dc od_X10_divisor_0 3 rfl) (by omega) (by first | omega | assumption) (fun c1 => ?_) (fun c1 => ?_)
  · refine mm_lload_n (mm_dc od_X10_divisor_0 7 rfl) rfl ?_
    refine mm_lstore (L' := [(0, v_l a), (2, v_l b), (4, v_l a)]) (mm_dc od_X10_divisor_0 8 rfl) (by decide) rfl ?_
    refine mm_lload_n (mm_dc od_X10_divisor_0 9 rfl) rfl ?_
    refine mm_lconst (mm_dc od_X10_divisor_0 10 rfl) ?_
    refine mm_cst (st' := [v_l 0, v_l b]) rfl ?_
    refine mm_lcmp (mm_dc od_X10_divisor_0 11 rfl) (by first | omega | assumption) (by first | omega | assumption) ?_
    refine mm_if_ge 25 (mm_dc od_X10_divisor_0 12 rfl) (by omega) (by first | omega | assumption) (fun c2 => ?_) (fun c2 => ?_)
    · refine mm_lload_n (mm_dc od_X10_divisor_0 16 rfl) rfl ?_
      refine mm_lstore (L' := [(0, v_l a), (2, v_l b), (4, v_l a), (6, v_l b)]) (mm_dc od_X10_divisor_0 17 rfl) (by decide) rfl ?_
      exact L_dv28 a b _ k _ _ (by omega) (by omega) (by congr 1 <;> congr 1 <;> omega)
    · refine mm_lload_n (mm_dc od_X10_divisor_0 13 rfl) rfl ?_
      refine mm_lneg (mm_dc od_X10_divisor_0 14 rfl) ?_
      refine mm_goto 26 (mm_dc od_X10_divisor_0 15 rfl) (by omega) ?_
      refine mm_lstore (L' := [(0, v_l a), (2, v_l b), (4, v_l a), (6, v_l (-b))]) (mm_dc od_X10_divisor_0 17 rfl) (by decide) rfl ?_
      exact L_dv28 a b _ k _ _ (by omega) (by omega) (by congr 1 <;> congr 1 <;> omega)
  · refine mm_lload_n (mm_dc od_X10_divisor_0 4 rfl) rfl ?_
    refine mm_lneg (mm_dc od_X10_divisor_0 5 rfl) ?_
    refine mm_goto 12 (mm_dc od_X10_divisor_0 6 rfl) (by omega) ?_
    refine mm_lstore (L' := [(0, v_l a), (2, v_l b), (4, v_l (-a))]) (mm_dc od_X10_divisor_0 8 rfl) (by decide) rfl ?_
    refine mm_lload_n (mm_dc od_X10_divisor_0 9 rfl) rfl ?_
    refine mm_lconst (mm_dc od_X10_divisor_0 10 rfl) ?_
    refine mm_cst (st' := [v_l 0, v_l b]) rfl ?_
    refine mm_lcmp (mm_dc od_X10_divisor_0 11 rfl) (by first | omega | assumption) (by first | omega | assumption) ?_
    refine mm_if_ge 25 (mm_dc od_X10_divisor_0 12 rfl) (by omega) (by first | omega | assumption) (fun c3 => ?_) (fun c3 => ?_)
    · refine mm_lload_n (mm_dc od_X10_divisor_0 16 rfl) rfl ?_
      refine mm_lstore (L' := [(0, v_l a), (2, v_l b), (4, v_l (-a)), (6, v_l b)]) (mm_dc od_X10_divisor_0 17 rfl) (by decide) rfl ?_
      exact L_dv28 a b _ k _ _ (by omega) (by omega) (by congr 1 <;> congr 1 <;> omega)
    · refine mm_lload_n (mm_dc od_X10_divisor_0 13 rfl) rfl ?_
      refine mm_lneg (mm_dc od_X10_divisor_0 14 rfl) ?_
      refine mm_goto 26 (mm_dc od_X10_divisor_0 15 rfl) (by omega) ?_
      refine mm_lstore (L' := [(0, v_l a), (2, v_l b), (4, v_l (-a)), (6, v_l (-b))]) (mm_dc od_X10_divisor_0 17 rfl) (by decide) rfl ?_
      exact L_dv28 a b _ k _ _ (by omega) (by omega) (by congr 1 <;> congr 1 <;> omega)
theorem c_X10_part {X : Nat × (Nat → Int)} {d : Nat} {Po : mm_Po} {M : mm_M} (up : Int) (dn : Int) (what : Int) (hu : -4611686018427387904 < up ∧ up < 4611686018427387904) (hd : 0 < dn ∧ dn < 4611686018427387904) (hw : 0 ≤ what ∧ what ≤ 1) (k : Po (some (v_l (ptV up dn what))) Lam M) : mm_E X (d + 1) 0 0 mi_X10_part [v_l up, v_l dn, v_i what] Po Lam M := by
  show mm_G X (d + 1) 0 0 mi_X10_part Po 0 [(0, v_l up), (2, v_l dn), (4, v_i what)] [] Lam M 0 0
  have hg := gc_r (a := (max up (-up)).toNat) (b := (max dn (-dn)).toNat) (by omega)
  have hmd : (max dn (-dn)).toNat = dn.toNat := (by omega)
  refine mm_lload_n (mm_dc od_X10_part_0 0 rfl) rfl ?_
  refine mm_lload_n (mm_dc od_X10_part_0 1 rfl) rfl ?_
  refine mm_callS (mi' := mi_X10_divisor) [v_l up, v_l dn] [] (mm_dc od_X10_part_0 2 rfl) rfl wd_5_128 wd_5_129 wd_1_12 wd_5_130 yk_X10_divisor (Nat.le_of_ble_eq_true rfl) rfl (by decide) (c_X10_divisor up dn (by first | omega | assumption) (by first | omega | assumption) ⟨Nat.le_refl _, ?_⟩)
  refine mm_lstore (L' := [(0, v_l up), (2, v_l dn), (4, v_i what), (5, v_l ((Nat.gcd (max up (-up)).toNat (max dn (-dn)).toNat : Nat) : Int))]) (mm_dc od_X10_part_0 3 rfl) (by decide) rfl ?_
  refine mm_iload (mm_dc od_X10_part_0 4 rfl) rfl ?_
  refine mm_if_ne 19 (mm_dc od_X10_part_0 5 rfl) (by omega) (by first | omega | assumption) (fun c1 => ?_) (fun c1 => ?_)
  · refine mm_lload_n (mm_dc od_X10_part_0 10 rfl) rfl ?_
    refine mm_lload (mm_dc od_X10_part_0 11 rfl) rfl ?_
    refine mm_ldiv (mm_dc od_X10_part_0 12 rfl) (by first | omega | assumption) (by first | omega | assumption) (by first | omega | assumption) ?_
    refine mm_lret (mm_dc od_X10_part_0 13 rfl) rfl ?_
    exact mm_pl (by unfold ptV; rw [hmd, if_pos hw, if_neg (show ¬ what = 0 by omega)]) k
  · refine mm_lload_n (mm_dc od_X10_part_0 6 rfl) rfl ?_
    refine mm_lload (mm_dc od_X10_part_0 7 rfl) rfl ?_
    refine mm_ldiv (mm_dc od_X10_part_0 8 rfl) (by first | omega | assumption) (by first | omega | assumption) (by first | omega | assumption) ?_
    refine mm_goto 23 (mm_dc od_X10_part_0 9 rfl) (by omega) ?_
    refine mm_lret (mm_dc od_X10_part_0 13 rfl) rfl ?_
    exact mm_pl (by unfold ptV; rw [hmd, if_pos hw, if_pos (show what = 0 by omega)]) k
theorem sr_b {M N : mm_M} {m n : Nat} {o : Int} (ho : 0 ≤ o ∧ o < M 50 10) (h16 : M 50 10 ≤ 16) (hg : grpQ (M 61) (M 62) (M 50 16).toNat o.toNat m) (hJ : JRm M) (hn6 : n ≤ 6) (hn : cntb m = (n : Int) + 1) (hS : SR M m n N o) : (0 < N 50 23 ∧ N 50 23 ≤ 5618656) ∧ ∀ x, x < (M 50 10).toNat → ab (N 69 x) ≤ 2514640730112 := by
  obtain ⟨a, hLQ⟩ := mx_LQ (w := M 63) hg (show o.toNat < 16 by omega) hn6 (by have := hJ.2.1; omega) hn (fun r hr2 => by have h := hJ.2.2 r (by omega); omega)
  obtain ⟨h1, h2, h3, h4⟩ := hS
  have d := dt_5 hLQ (k := n) (Nat.le_refl n)
  refine ⟨?_, fun x hx => ?_⟩
  · rw [h2]; exact ⟨d.1, d.2.1⟩
  · rw [h3 x hx]
    unfold svO
    split
    · exact cc_r hLQ (Nat.le_refl n) (by have := rowF_r (m := m) (x := x) (by omega) hn; omega) (by decide)
    · have z : ab 0 = 0 := rfl
      rw [z]; decide
theorem ms_b2 {f s w : Nat → Int} {m : Nat} {U : Nat → Int} {dn : Int} (hd : 0 < dn ∧ dn ≤ 5618656) : ∀ R : Nat, (∀ r, r < R → m.testBit (f r).toNat = true → ab (U (f r).toNat) ≤ 2514640730112 ∧ ab (U (s r).toNat) ≤ 2514640730112 ∧ (-999 ≤ w r ∧ w r ≤ 999)) → 0 ≤ msF f s w m U dn R ∧ msF f s w m U dn R ≤ R * 6000000000000
  | 0, _ => by simp [msF, sumI]
  | R + 1, h => by
    have ih := ms_b2 (m := m) (s := s) hd R (fun r hr => h r (by omega))
    have h1 := h R (by omega)
    unfold msF at *
    simp only [sumI]
    by_cases e : m.testBit (f R).toNat = true
    · have h2 := h1 e
      have c := wd_b h2.2.2 hd
      unfold ab at h2
      rw [if_pos e]
      omega
    · rw [if_neg e]; omega
theorem L_mf35 {X : Nat × (Nat → Int)} {d : Nat} {Po : mm_Po} {M : mm_M} (m : Nat) (o what : Int) (hG : ∀ x, x < 16 → (m.testBit x = true ↔ M 64 x = M 64 o.toNat)) (ho : 0 ≤ o ∧ o < 16) (hw : 0 ≤ what ∧ what ≤ 1) (hJrm : JRm M) (hr : R32 M) (hU : ∀ r, r < (M 50 16).toNat → m.testBit (M 61 r).toNat = true → ab (M 69 (M 61 r).toNat) ≤ 2514640730112 ∧ ab (M 69 (M 62 r).toNat) ≤ 2514640730112 ∧ (-999 ≤ M 63 r ∧ M 63 r ≤ 999)) (hd : 0 < M 50 23 ∧ M 50 23 ≤ 5618656) (k : Po (some (v_l (ptV (msF (M 61) (M 62) (M 63) m (M 69) (M 50 23) (M 50 16).toNat) (M 50 23) what))) Lam M) (j : Nat) (hj : (j : Int) ≤ M 50 16) : mm_G X (d + 4) 0 0 mi_X10_misfit Po 35 [(0, v_r 50), (1, v_i o), (2, v_i what), (3, v_l (msF (M 61) (M 62) (M 63) m (M 69) (M 50 23) j)), (5, v_i (j : Int))] [] Lam M 0 0 := by
  have hJr2 := hJrm
  obtain ⟨hr0, hr40, hRr⟩ := hJr2
  have hR1 := hRr j
  have es : msF (M 61) (M 62) (M 63) m (M 69) (M 50 23) (j + 1) = msF (M 61) (M 62) (M 63) m (M 69) (M 50 23) j + (if m.testBit (M 61 j).toNat = true then max (M 69 (M 61 j).toNat - M 69 (M 62 j).toNat - M 63 j * M 50 23) (-(M 69 (M 61 j).toNat - M 69 (M 62 j).toNat - M 63 j * M 50 23)) else 0) := rfl
  have hUj : (j : Int) < M 50 16 → M 64 (M 61 j).toNat = M 64 o.toNat → ab (M 69 (M 61 j).toNat) ≤ 2514640730112 ∧ ab (M 69 (M 62 j).toNat) ≤ 2514640730112 := (fun q q2 => by
    have h := hU j (by omega) ((hG _ (by omega)).mpr q2)
    exact ⟨h.1, h.2.1⟩)
  unfold ab at hUj
  have hwd : (j : Int) < M 50 16 → -5613037344 ≤ M 63 j * M 50 23 ∧ M 63 j * M 50 23 ≤ 5613037344 := (fun q => wd_b (by omega) hd)
  have qz := mm_cmp_is (M 69 (M 61 j).toNat - M 69 (M 62 j).toNat - M 63 j * M 50 23) 0
  refine mm_iload (mm_dc od_X10_misfit_0 20 rfl) rfl ?_
  refine mm_aload_n (mm_dc od_X10_misfit_0 21 rfl) rfl ?_
  refine mm_getI (ci := 10) (k := 16) (mm_dc od_X10_misfit_0 22 rfl) rfl in_X10 (by decide) wd_4_128 rfl rfl ?_
  refine mm_icmp_ge 133 (mm_dc od_X10_misfit_0 23 rfl) (by omega) (by first | omega | assumption | exact hr _ _ rfl | (constructor <;> omega)) (by first | omega | assumption | exact hr _ _ rfl | (constructor <;> omega)) (fun c1 => ?_) (fun c1 => ?_)
  · refine mm_lload_n (mm_dc od_X10_misfit_1 15 rfl) rfl ?_
    refine mm_aload_n (mm_dc od_X10_misfit_1 16 rfl) rfl ?_
    refine mm_getL (ci := 10) (k := 23) (mm_dc od_X10_misfit_1 17 rfl) rfl in_X10 (by decide) wd_4_135 rfl rfl ?_
    refine mm_iload_n (mm_dc od_X10_misfit_1 18 rfl) rfl ?_
    refine mm_callS (mi' := mi_X10_part) [v_l (msF (M 61) (M 62) (M 63) m (M 69) (M 50 23) j), v_l (M 50 23), v_i what] [] (mm_dc od_X10_misfit_1 19 rfl) rfl wd_5_125 wd_5_126 wd_1_12 wd_5_127 yk_X10_part (Nat.le_of_ble_eq_true rfl) rfl (by decide) (c_X10_part (msF (M 61) (M 62) (M 63) m (M 69) (M 50 23) j) (M 50 23) what (by have := ms_b2 hd j (fun r hr2 => hU r (by omega)); omega) (by omega) hw ⟨Nat.le_refl _, ?_⟩)
    refine mm_lret (mm_dc od_X10_misfit_1 20 rfl) rfl ?_
    have e : j = (M 50 16).toNat := by omega
    subst e
    exact k
  · refine mm_aload_n (mm_dc od_X10_misfit_0 24 rfl) rfl ?_
    refine mm_getR (ci := 10) (k := 15) (mm_dc od_X10_misfit_0 25 rfl) rfl in_X10 (by decide) wd_4_127 rfl rfl ?_
    refine mm_aload_n (mm_dc od_X10_misfit_0 26 rfl) rfl ?_
    refine mm_getR (ci := 10) (k := 12) (mm_dc od_X10_misfit_0 27 rfl) rfl in_X10 (by decide) wd_4_124 rfl rfl ?_
    refine mm_iload (mm_dc od_X10_misfit_0 28 rfl) rfl ?_
    refine mm_iald (mm_dc od_X10_misfit_0 29 rfl) rfl (by first | omega | assumption | exact hr _ _ rfl | (constructor <;> omega)) (by first | omega | assumption | exact hr _ _ rfl | (constructor <;> omega)) (by decide) ?_
    refine mm_cst (st' := [v_i (M 61 j), v_r 64]) rfl ?_
    refine mm_iald (mm_dc od_X10_misfit_0 30 rfl) rfl (by first | omega | assumption | exact hr _ _ rfl | (constructor <;> omega)) (by first | omega | assumption | exact hr _ _ rfl | (constructor <;> omega)) (by decide) ?_
    refine mm_aload_n (mm_dc od_X10_misfit_0 31 rfl) rfl ?_
    refine mm_getR (ci := 10) (k := 15) (mm_dc od_X10_misfit_0 32 rfl) rfl in_X10 (by decide) wd_4_127 rfl rfl ?_
    refine mm_iload_n (mm_dc od_X10_misfit_0 33 rfl) rfl ?_
    refine mm_iald (mm_dc od_X10_misfit_0 34 rfl) rfl (by first | omega | assumption | exact hr _ _ rfl | (constructor <;> omega)) (by first | omega | assumption | exact hr _ _ rfl | (constructor <;> omega)) (by decide) ?_
    refine mm_icmp_eq 68 (mm_dc od_X10_misfit_0 35 rfl) (by omega) (by first | omega | assumption | exact hr _ _ rfl | (constructor <;> omega)) (by first | omega | assumption | exact hr _ _ rfl | (constructor <;> omega)) (fun c2 => ?_) (fun c2 => ?_)
    · refine mm_aload_n (mm_dc od_X10_misfit_0 37 rfl) rfl ?_
      refine mm_getR (ci := 10) (k := 21) (mm_dc od_X10_misfit_0 38 rfl) rfl in_X10 (by decide) wd_4_133 rfl rfl ?_
      refine mm_aload_n (mm_dc od_X10_misfit_0 39 rfl) rfl ?_
      refine mm_getR (ci := 10) (k := 12) (mm_dc od_X10_misfit_0 40 rfl) rfl in_X10 (by decide) wd_4_124 rfl rfl ?_
      refine mm_iload (mm_dc od_X10_misfit_0 41 rfl) rfl ?_
      refine mm_iald (mm_dc od_X10_misfit_0 42 rfl) rfl (by first | omega | assumption | exact hr _ _ rfl | (constructor <;> omega)) (by first | omega | assumption | exact hr _ _ rfl | (constructor <;> omega)) (by decide) ?_
      refine mm_cst (st' := [v_i (M 61 j), v_r 69]) rfl ?_
      refine mm_lald (mm_dc od_X10_misfit_0 43 rfl) rfl (by first | omega | assumption | exact hr _ _ rfl | (constructor <;> omega)) (by first | omega | assumption | exact hr _ _ rfl | (constructor <;> omega)) (by decide) ?_
      refine mm_aload_n (mm_dc od_X10_misfit_0 44 rfl) rfl ?_
      refine mm_getR (ci := 10) (k := 21) (mm_dc od_X10_misfit_0 45 rfl) rfl in_X10 (by decide) wd_4_133 rfl rfl ?_
      refine mm_aload_n (mm_dc od_X10_misfit_0 46 rfl) rfl ?_
      refine mm_getR (ci := 10) (k := 13) (mm_dc od_X10_misfit_0 47 rfl) rfl in_X10 (by decide) wd_4_125 rfl rfl ?_
      refine mm_iload (mm_dc od_X10_misfit_0 48 rfl) rfl ?_
      refine mm_iald (mm_dc od_X10_misfit_0 49 rfl) rfl (by first | omega | assumption | exact hr _ _ rfl | (constructor <;> omega)) (by first | omega | assumption | exact hr _ _ rfl | (constructor <;> omega)) (by decide) ?_
      refine mm_cst (st' := [v_i (M 62 j), v_r 69, v_l (M 69 (Int.toNat (M 61 j)))]) rfl ?_
      refine mm_lald (mm_dc od_X10_misfit_0 50 rfl) rfl (by first | omega | assumption | exact hr _ _ rfl | (constructor <;> omega)) (by first | omega | assumption | exact hr _ _ rfl | (constructor <;> omega)) (by decide) ?_
      refine mm_lsub (mm_dc od_X10_misfit_0 51 rfl) ?_
      refine mm_aload_n (mm_dc od_X10_misfit_0 52 rfl) rfl ?_
      refine mm_getR (ci := 10) (k := 14) (mm_dc od_X10_misfit_0 53 rfl) rfl in_X10 (by decide) wd_4_126 rfl rfl ?_
      refine mm_iload (mm_dc od_X10_misfit_0 54 rfl) rfl ?_
      refine mm_iald (mm_dc od_X10_misfit_0 55 rfl) rfl (by first | omega | assumption | exact hr _ _ rfl | (constructor <;> omega)) (by first | omega | assumption | exact hr _ _ rfl | (constructor <;> omega)) (by decide) ?_
      refine mm_cst (st' := [v_i (M 63 j), v_l ((M 69 (Int.toNat (M 61 j))) - (M 69 (Int.toNat (M 62 j))))]) rfl ?_
      refine mm_i2l (mm_dc od_X10_misfit_0 56 rfl) (by first | omega | assumption | exact hr _ _ rfl | (constructor <;> omega)) ?_
      refine mm_aload_n (mm_dc od_X10_misfit_0 57 rfl) rfl ?_
      refine mm_getL (ci := 10) (k := 23) (mm_dc od_X10_misfit_0 58 rfl) rfl in_X10 (by decide) wd_4_135 rfl rfl ?_
      refine mm_lmul (mm_dc od_X10_misfit_0 59 rfl) ?_
      refine mm_lsub (mm_dc od_X10_misfit_1 0 rfl) ?_
      refine mm_lstore (L' := [(0, v_r 50), (1, v_i o), (2, v_i what), (3, v_l (msF (M 61) (M 62) (M 63) m (M 69) (M 50 23) j)), (5, v_i (j : Int)), (6, v_l (((M 69 (Int.toNat (M 61 j))) - (M 69 (Int.toNat (M 62 j)))) - ((M 63 j) * (M 50 23))))]) (mm_dc od_X10_misfit_1 1 rfl) (by decide) rfl ?_
      refine mm_lload_n (mm_dc od_X10_misfit_1 2 rfl) rfl ?_
      refine mm_lload (mm_dc od_X10_misfit_1 3 rfl) rfl ?_
      refine mm_lconst (mm_dc od_X10_misfit_1 4 rfl) ?_
      refine mm_cst (st' := [v_l 0, v_l (((M 69 (Int.toNat (M 61 j))) - (M 69 (Int.toNat (M 62 j)))) - ((M 63 j) * (M 50 23))), v_l (msF (M 61) (M 62) (M 63) m (M 69) (M 50 23) j)]) rfl ?_
      refine mm_lcmp (mm_dc od_X10_misfit_1 5 rfl) (by first | omega | assumption | exact hr _ _ rfl | (constructor <;> omega)) (by first | omega | assumption | exact hr _ _ rfl | (constructor <;> omega)) ?_
      refine mm_if_ge 123 (mm_dc od_X10_misfit_1 6 rfl) (by omega) (by first | omega | assumption | exact hr _ _ rfl | (constructor <;> omega)) (fun c3 => ?_) (fun c3 => ?_)
      · refine mm_lload (mm_dc od_X10_misfit_1 10 rfl) rfl ?_
        refine mm_ladd (mm_dc od_X10_misfit_1 11 rfl) ?_
        refine mm_lstore_n (L' := [(0, v_r 50), (1, v_i o), (2, v_i what), (3, v_l ((msF (M 61) (M 62) (M 63) m (M 69) (M 50 23) j) + (((M 69 (Int.toNat (M 61 j))) - (M 69 (Int.toNat (M 62 j)))) - ((M 63 j) * (M 50 23))))), (5, v_i (j : Int)), (6, v_l (((M 69 (Int.toNat (M 61 j))) - (M 69 (Int.toNat (M 62 j)))) - ((M 63 j) * (M 50 23))))]) (mm_dc od_X10_misfit_1 12 rfl) (by decide) rfl ?_
        refine mm_iinc (L' := [(0, v_r 50), (1, v_i o), (2, v_i what), (3, v_l ((msF (M 61) (M 62) (M 63) m (M 69) (M 50 23) j) + (((M 69 (Int.toNat (M 61 j))) - (M 69 (Int.toNat (M 62 j)))) - ((M 63 j) * (M 50 23))))), (5, v_i ((j : Int) + 1)), (6, v_l (((M 69 (Int.toNat (M 61 j))) - (M 69 (Int.toNat (M 62 j)))) - ((M 63 j) * (M 50 23))))]) (mm_dc od_X10_misfit_1 13 rfl) rfl (by decide) rfl ?_
        refine mm_goto 35 (mm_dc od_X10_misfit_1 14 rfl) (by omega) ?_
        have hb : m.testBit (M 61 j).toNat = true := by rw [hG _ (by omega)]; assumption
        have hmx : max (M 69 (M 61 j).toNat - M 69 (M 62 j).toNat - M 63 j * M 50 23) (-(M 69 (M 61 j).toNat - M 69 (M 62 j).toNat - M 63 j * M 50 23)) = M 69 (M 61 j).toNat - M 69 (M 62 j).toNat - M 63 j * M 50 23 := by omega
        exact mm_less [0, 1, 2, 3, 4] rfl (mm_cL (L' := [(0, v_r 50), (1, v_i o), (2, v_i what), (3, v_l (msF (M 61) (M 62) (M 63) m (M 69) (M 50 23) (j + 1))), (5, v_i ((j + 1 : Nat) : Int))]) (by rw [es, if_pos hb, hmx]; rfl) (L_mf35 m o what hG ho hw hJrm hr hU hd k (j + 1) (by omega)))
      · refine mm_lload (mm_dc od_X10_misfit_1 7 rfl) rfl ?_
        refine mm_lneg (mm_dc od_X10_misfit_1 8 rfl) ?_
        refine mm_goto 125 (mm_dc od_X10_misfit_1 9 rfl) (by omega) ?_
        refine mm_ladd (mm_dc od_X10_misfit_1 11 rfl) ?_
        refine mm_lstore_n (L' := [(0, v_r 50), (1, v_i o), (2, v_i what), (3, v_l ((msF (M 61) (M 62) (M 63) m (M 69) (M 50 23) j) + (-(((M 69 (Int.toNat (M 61 j))) - (M 69 (Int.toNat (M 62 j)))) - ((M 63 j) * (M 50 23)))))), (5, v_i (j : Int)), (6, v_l (((M 69 (Int.toNat (M 61 j))) - (M 69 (Int.toNat (M 62 j)))) - ((M 63 j) * (M 50 23))))]) (mm_dc od_X10_misfit_1 12 rfl) (by decide) rfl ?_
        refine mm_iinc (L' := [(0, v_r 50), (1, v_i o), (2, v_i what), (3, v_l ((msF (M 61) (M 62) (M 63) m (M 69) (M 50 23) j) + (-(((M 69 (Int.toNat (M 61 j))) - (M 69 (Int.toNat (M 62 j)))) - ((M 63 j) * (M 50 23)))))), (5, v_i ((j : Int) + 1)), (6, v_l (((M 69 (Int.toNat (M 61 j))) - (M 69 (Int.toNat (M 62 j)))) - ((M 63 j) * (M 50 23))))]) (mm_dc od_X10_misfit_1 13 rfl) rfl (by decide) rfl ?_
        refine mm_goto 35 (mm_dc od_X10_misfit_1 14 rfl) (by omega) ?_
        have hb : m.testBit (M 61 j).toNat = true := by rw [hG _ (by omega)]; assumption
        have hmx : max (M 69 (M 61 j).toNat - M 69 (M 62 j).toNat - M 63 j * M 50 23) (-(M 69 (M 61 j).toNat - M 69 (M 62 j).toNat - M 63 j * M 50 23)) = -(M 69 (M 61 j).toNat - M 69 (M 62 j).toNat - M 63 j * M 50 23) := by omega
        exact mm_less [0, 1, 2, 3, 4] rfl (mm_cL (L' := [(0, v_r 50), (1, v_i o), (2, v_i what), (3, v_l (msF (M 61) (M 62) (M 63) m (M 69) (M 50 23) (j + 1))), (5, v_i ((j + 1 : Nat) : Int))]) (by rw [es, if_pos hb, hmx]; rfl) (L_mf35 m o what hG ho hw hJrm hr hU hd k (j + 1) (by omega)))
    · refine mm_goto 127 (mm_dc od_X10_misfit_0 36 rfl) (by omega) ?_
      refine mm_iinc (L' := [(0, v_r 50), (1, v_i o), (2, v_i what), (3, v_l (msF (M 61) (M 62) (M 63) m (M 69) (M 50 23) j)), (5, v_i ((j : Int) + 1))]) (mm_dc od_X10_misfit_1 13 rfl) rfl (by decide) rfl ?_
      refine mm_goto 35 (mm_dc od_X10_misfit_1 14 rfl) (by omega) ?_
      have hb : ¬ m.testBit (M 61 j).toNat = true := by rw [hG _ (by omega)]; assumption
      refine mm_cL (L' := [(0, v_r 50), (1, v_i o), (2, v_i what), (3, v_l (msF (M 61) (M 62) (M 63) m (M 69) (M 50 23) (j + 1))), (5, v_i ((j + 1 : Nat) : Int))]) (by rw [es, if_neg hb, Int.add_zero]; rfl) ?_
      exact L_mf35 m o what hG ho hw hJrm hr hU hd k (j + 1) (by omega)
termination_by (M 50 16).toNat - j
decreasing_by all_goals (first | omega | (simp_wf; omega))
theorem c_X10_strength {X : Nat × (Nat → Int)} {d : Nat} {Po : mm_Po} {M : mm_M} (o : Int) (what : Int) (ho : mm_r32 o) (hw : mm_r32 what) (gm : Nat) (hgm : 0 ≤ o ∧ o < M 50 10 → grpQ (M 61) (M 62) (M 50 16).toNat o.toNat gm) (hzm : 0 ≤ o ∧ o < M 50 10 → ∀ x, (M 50 10).toNat ≤ x → gm.testBit x = false) (hJom : JOm M) (hJrm : JRm M) (hr : R32 M) (k : ∀ (N : mm_M) (r : Int), ((¬ (0 ≤ o ∧ o < M 50 10) ∧ r = -9223372036854775808 ∧ N = M) ∨ ((0 ≤ o ∧ o < M 50 10) ∧ ((¬ (0 ≤ what ∧ what ≤ 1) ∧ r = -9223372036854775808 ∧ N = M) ∨ ((0 ≤ what ∧ what ≤ 1) ∧ ((7 < cntb gm ∧ r = -9223372036854775808 ∧ frR M N) ∨ ∃ n : Nat, n ≤ 6 ∧ cntb gm = (n : Int) + 1 ∧ SR M gm n N o ∧ r = ptV (N 69 o.toNat) (N 50 23) what))))) → Po (some (v_l r)) Lam N) : mm_E X (d + 4) 0 0 mi_X10_strength [v_r 50, v_i o, v_i what] Po Lam M := by
  show mm_G X (d + 4) 0 0 mi_X10_strength Po 0 [(0, v_r 50), (1, v_i o), (2, v_i what)] [] Lam M 0 0
  have hJom2 := hJom
  obtain ⟨ho0, ho16, hO⟩ := hJom2
  refine mm_aload_n (mm_dc od_X10_strength_0 0 rfl) rfl ?_
  refine mm_iload_n (mm_dc od_X10_strength_0 1 rfl) rfl ?_
  refine mm_callV (b := 50) (mi' := mi_X10_isOar) [v_i o] [] (mm_dc od_X10_strength_0 2 rfl) rfl wd_5_51 wd_5_53 wd_p_21 wd_1_12 wd_5_54 yk_X10_isOar rfl rfl rfl (Nat.le_of_ble_eq_true rfl) rfl (by decide) (c_X10_isOar o (by first | omega | assumption | exact hr _ _ rfl) (by first | omega | assumption | exact hr _ _ rfl) (fun c1 => ⟨Nat.le_refl _, ?_⟩) (fun c1 => ⟨Nat.le_refl _, ?_⟩))
  · refine mm_if_eq 26 (mm_dc od_X10_strength_0 3 rfl) (by omega) (by first | omega | assumption | exact hr _ _ rfl) (fun h => absurd h (by decide)) (fun _ => ?_)
    refine mm_iload_n (mm_dc od_X10_strength_0 4 rfl) rfl ?_
    refine mm_i2l (mm_dc od_X10_strength_0 5 rfl) (by first | omega | assumption | exact hr _ _ rfl) ?_
    refine mm_lconst (mm_dc od_X10_strength_0 6 rfl) ?_
    refine mm_cst (st' := [v_l 0, v_l what]) rfl ?_
    refine mm_lconst (mm_dc od_X10_strength_0 7 rfl) ?_
    refine mm_cst (st' := [v_l 1, v_l 0, v_l what]) rfl ?_
    refine mm_callS (mi' := mi_X10_isIn) [v_l what, v_l 0, v_l 1] [] (mm_dc od_X10_strength_0 8 rfl) rfl wd_5_37 wd_5_38 wd_1_12 wd_5_39 yk_X10_isIn (Nat.le_of_ble_eq_true rfl) rfl (by decide) (c_X10_isIn what 0 1 (by first | omega | assumption | exact hr _ _ rfl) (by first | omega | assumption | exact hr _ _ rfl) (by first | omega | assumption | exact hr _ _ rfl) (fun c2 => ⟨Nat.le_refl _, ?_⟩) (fun c2 => ⟨Nat.le_refl _, ?_⟩))
    · refine mm_if_eq 26 (mm_dc od_X10_strength_0 9 rfl) (by omega) (by first | omega | assumption | exact hr _ _ rfl) (fun h => absurd h (by decide)) (fun _ => ?_)
      refine mm_aload_n (mm_dc od_X10_strength_0 10 rfl) rfl ?_
      refine mm_iload_n (mm_dc od_X10_strength_0 11 rfl) rfl ?_
      refine mm_callV (b := 50) (mi' := mi_X10_solves) [v_i o] [] (mm_dc od_X10_strength_0 12 rfl) rfl wd_5_109 wd_5_111 wd_p_28 wd_1_12 wd_5_112 yk_X10_solves rfl rfl rfl (Nat.le_of_ble_eq_true rfl) rfl (by decide) (L_slv gm o (by omega) hJom hJrm (hgm (by omega)) (hzm (by omega)) hr (fun N hfN h7 => ⟨Nat.le_refl _, ?_⟩) (fun N n hn6 hcn hSR => ⟨Nat.le_refl _, ?_⟩))
      · have hrM := hr
        have hr := hfN.1
        refine mm_if_ne 30 (mm_dc od_X10_strength_0 13 rfl) (by omega) (by first | omega | assumption | exact hr _ _ rfl) (fun h => absurd h (by decide)) (fun _ => ?_)
        refine mm_ldcn (z := (-9223372036854775808)) (mm_dc od_X10_strength_0 14 rfl) wd_5_124 (by decide) ?_
        refine mm_lret (mm_dc od_X10_strength_0 15 rfl) rfl ?_
        exact k _ _ (Or.inr ⟨by omega, Or.inr ⟨by omega, Or.inl ⟨h7, rfl, hfN⟩⟩⟩)
      · have hrM := hr
        have hr := hSR.1.1
        have hb := sr_b (by omega) (by omega) (hgm (by omega)) hJrm hn6 hcn hSR
        refine mm_if_ne 30 (mm_dc od_X10_strength_0 13 rfl) (by omega) (by first | omega | assumption | exact hr _ _ rfl) (fun _ => ?_) (fun h => absurd h (by decide))
        refine mm_aload_n (mm_dc od_X10_strength_0 16 rfl) rfl ?_
        refine mm_getR (ci := 10) (k := 21) (mm_dc od_X10_strength_0 17 rfl) rfl in_X10 (by decide) wd_4_133 rfl rfl ?_
        refine mm_iload_n (mm_dc od_X10_strength_0 18 rfl) rfl ?_
        refine mm_lald (mm_dc od_X10_strength_0 19 rfl) rfl (by first | omega | assumption | exact hr _ _ rfl) (by first | omega | assumption | exact hr _ _ rfl) (by decide) ?_
        refine mm_aload_n (mm_dc od_X10_strength_0 20 rfl) rfl ?_
        refine mm_getL (ci := 10) (k := 23) (mm_dc od_X10_strength_0 21 rfl) rfl in_X10 (by decide) wd_4_135 rfl rfl ?_
        refine mm_iload_n (mm_dc od_X10_strength_0 22 rfl) rfl ?_
        have hbo := hb.2 o.toNat (by omega)
        unfold ab at hbo
        refine mm_callS (mi' := mi_X10_part) [v_l (N 69 (Int.toNat o)), v_l (N 50 23), v_i what] [] (mm_dc od_X10_strength_0 23 rfl) rfl wd_5_125 wd_5_126 wd_1_12 wd_5_127 yk_X10_part (Nat.le_of_ble_eq_true rfl) rfl (by decide) (c_X10_part (N 69 (Int.toNat o)) (N 50 23) what (by omega) (by omega) (by omega) ⟨Nat.le_refl _, ?_⟩)
        refine mm_lret (mm_dc od_X10_strength_0 24 rfl) rfl ?_
        exact k _ _ (Or.inr ⟨by omega, Or.inr ⟨by omega, Or.inr ⟨n, hn6, hcn, hSR, rfl⟩⟩⟩)
    · refine mm_if_eq 26 (mm_dc od_X10_strength_0 9 rfl) (by omega) (by first | omega | assumption | exact hr _ _ rfl) (fun _ => ?_) (fun h => absurd h (by decide))
      refine mm_ldcn (z := (-9223372036854775808)) (mm_dc od_X10_strength_0 14 rfl) wd_5_124 (by decide) ?_
      refine mm_lret (mm_dc od_X10_strength_0 15 rfl) rfl ?_
      first | exact k _ _ (Or.inl ⟨by omega, rfl, rfl⟩) | exact k _ _ (Or.inr ⟨by omega, Or.inl ⟨by omega, rfl, rfl⟩⟩)
  · refine mm_if_eq 26 (mm_dc od_X10_strength_0 3 rfl) (by omega) (by first | omega | assumption | exact hr _ _ rfl) (fun _ => ?_) (fun h => absurd h (by decide))
    refine mm_ldcn (z := (-9223372036854775808)) (mm_dc od_X10_strength_0 14 rfl) wd_5_124 (by decide) ?_
    refine mm_lret (mm_dc od_X10_strength_0 15 rfl) rfl ?_
    first | exact k _ _ (Or.inl ⟨by omega, rfl, rfl⟩) | exact k _ _ (Or.inr ⟨by omega, Or.inl ⟨by omega, rfl, rfl⟩⟩)
theorem c_X10_between {X : Nat × (Nat → Int)} {d : Nat} {Po : mm_Po} {M : mm_M} (x : Int) (y : Int) (what : Int) (hx : mm_r32 x) (hy : mm_r32 y) (hw : mm_r32 what) (gm : Nat) (hgm : (0 ≤ x ∧ x < M 50 10) ∧ (0 ≤ y ∧ y < M 50 10) → grpQ (M 61) (M 62) (M 50 16).toNat x.toNat gm) (hzm : (0 ≤ x ∧ x < M 50 10) ∧ (0 ≤ y ∧ y < M 50 10) → ∀ x, (M 50 10).toNat ≤ x → gm.testBit x = false) (hJom : JOm M) (hJrm : JRm M) (hr : R32 M) (k : ∀ (N : mm_M) (r : Int), ((¬ ((0 ≤ x ∧ x < M 50 10) ∧ (0 ≤ y ∧ y < M 50 10)) ∧ r = -9223372036854775808 ∧ N = M) ∨ (((0 ≤ x ∧ x < M 50 10) ∧ (0 ≤ y ∧ y < M 50 10)) ∧ ((¬ (0 ≤ what ∧ what ≤ 1) ∧ r = -9223372036854775808 ∧ N = M) ∨ ((0 ≤ what ∧ what ≤ 1) ∧ ((7 < cntb gm ∧ r = -9223372036854775808 ∧ frR M N) ∨ (¬ gm.testBit y.toNat = true ∧ r = -9223372036854775808 ∧ frR M N) ∨ ∃ n : Nat, gm.testBit y.toNat = true ∧ n ≤ 6 ∧ cntb gm = (n : Int) + 1 ∧ SR M gm n N x ∧ r = ptV (N 69 x.toNat - N 69 y.toNat) (N 50 23) what))))) → Po (some (v_l r)) Lam N) : mm_E X (d + 4) 0 0 mi_X10_between [v_r 50, v_i x, v_i y, v_i what] Po Lam M := by
  show mm_G X (d + 4) 0 0 mi_X10_between Po 0 [(0, v_r 50), (1, v_i x), (2, v_i y), (3, v_i what)] [] Lam M 0 0
  have hJom2 := hJom
  obtain ⟨ho0, ho16, hO⟩ := hJom2
  refine mm_aload_n (mm_dc od_X10_between_0 0 rfl) rfl ?_
  refine mm_iload_n (mm_dc od_X10_between_0 1 rfl) rfl ?_
  refine mm_callV (b := 50) (mi' := mi_X10_isOar) [v_i x] [] (mm_dc od_X10_between_0 2 rfl) rfl wd_5_51 wd_5_53 wd_p_21 wd_1_12 wd_5_54 yk_X10_isOar rfl rfl rfl (Nat.le_of_ble_eq_true rfl) rfl (by decide) (c_X10_isOar x (by first | omega | assumption | exact hr _ _ rfl) (by first | omega | assumption | exact hr _ _ rfl) (fun c1 => ⟨Nat.le_refl _, ?_⟩) (fun c1 => ⟨Nat.le_refl _, ?_⟩))
  · refine mm_if_eq 49 (mm_dc od_X10_between_0 3 rfl) (by omega) (by first | omega | assumption | exact hr _ _ rfl) (fun h => absurd h (by decide)) (fun _ => ?_)
    refine mm_aload_n (mm_dc od_X10_between_0 4 rfl) rfl ?_
    refine mm_iload_n (mm_dc od_X10_between_0 5 rfl) rfl ?_
    refine mm_callV (b := 50) (mi' := mi_X10_isOar) [v_i y] [] (mm_dc od_X10_between_0 6 rfl) rfl wd_5_51 wd_5_53 wd_p_21 wd_1_12 wd_5_54 yk_X10_isOar rfl rfl rfl (Nat.le_of_ble_eq_true rfl) rfl (by decide) (c_X10_isOar y (by first | omega | assumption | exact hr _ _ rfl) (by first | omega | assumption | exact hr _ _ rfl) (fun c2 => ⟨Nat.le_refl _, ?_⟩) (fun c2 => ⟨Nat.le_refl _, ?_⟩))
    · refine mm_if_eq 49 (mm_dc od_X10_between_0 7 rfl) (by omega) (by first | omega | assumption | exact hr _ _ rfl) (fun h => absurd h (by decide)) (fun _ => ?_)
      refine mm_iload_n (mm_dc od_X10_between_0 8 rfl) rfl ?_
      refine mm_i2l (mm_dc od_X10_between_0 9 rfl) (by first | omega | assumption | exact hr _ _ rfl) ?_
      refine mm_lconst (mm_dc od_X10_between_0 10 rfl) ?_
      refine mm_cst (st' := [v_l 0, v_l what]) rfl ?_
      refine mm_lconst (mm_dc od_X10_between_0 11 rfl) ?_
      refine mm_cst (st' := [v_l 1, v_l 0, v_l what]) rfl ?_
      refine mm_callS (mi' := mi_X10_isIn) [v_l what, v_l 0, v_l 1] [] (mm_dc od_X10_between_0 12 rfl) rfl wd_5_37 wd_5_38 wd_1_12 wd_5_39 yk_X10_isIn (Nat.le_of_ble_eq_true rfl) rfl (by decide) (c_X10_isIn what 0 1 (by first | omega | assumption | exact hr _ _ rfl) (by first | omega | assumption | exact hr _ _ rfl) (by first | omega | assumption | exact hr _ _ rfl) (fun c3 => ⟨Nat.le_refl _, ?_⟩) (fun c3 => ⟨Nat.le_refl _, ?_⟩))
      · refine mm_if_eq 49 (mm_dc od_X10_between_0 13 rfl) (by omega) (by first | omega | assumption | exact hr _ _ rfl) (fun h => absurd h (by decide)) (fun _ => ?_)
        refine mm_aload_n (mm_dc od_X10_between_0 14 rfl) rfl ?_
        refine mm_iload_n (mm_dc od_X10_between_0 15 rfl) rfl ?_
        refine mm_callV (b := 50) (mi' := mi_X10_solves) [v_i x] [] (mm_dc od_X10_between_0 16 rfl) rfl wd_5_109 wd_5_111 wd_p_28 wd_1_12 wd_5_112 yk_X10_solves rfl rfl rfl (Nat.le_of_ble_eq_true rfl) rfl (by decide) (L_slv gm x (by omega) hJom hJrm (hgm (by omega)) (hzm (by omega)) hr (fun N hfN h7 => ⟨Nat.le_refl _, ?_⟩) (fun N n hn6 hcn hSR => ⟨Nat.le_refl _, ?_⟩))
        · have hrM := hr
          have hr := hfN.1
          refine mm_if_eq 49 (mm_dc od_X10_between_0 17 rfl) (by omega) (by first | omega | assumption | exact hr _ _ rfl) (fun _ => ?_) (fun h => absurd h (by decide))
          refine mm_ldcn (z := (-9223372036854775808)) (mm_dc od_X10_between_0 27 rfl) wd_5_124 (by decide) ?_
          refine mm_lret (mm_dc od_X10_between_0 28 rfl) rfl ?_
          first | exact k _ _ (Or.inr ⟨by omega, Or.inr ⟨by omega, Or.inl ⟨h7, rfl, hfN⟩⟩⟩) | exact k _ _ (Or.inr ⟨by omega, Or.inr ⟨by omega, Or.inr (Or.inl ⟨by rw [hSR.2.2.2 _ (by omega)]; omega, rfl, hSR.1⟩)⟩⟩)
        · have hrM := hr
          have hr := hSR.1.1
          have hb := sr_b (by omega) (by omega) (hgm (by omega)) hJrm hn6 hcn hSR
          refine mm_if_eq 49 (mm_dc od_X10_between_0 17 rfl) (by omega) (by first | omega | assumption | exact hr _ _ rfl) (fun h => absurd h (by decide)) (fun _ => ?_)
          refine mm_aload_n (mm_dc od_X10_between_0 18 rfl) rfl ?_
          refine mm_getR (ci := 10) (k := 15) (mm_dc od_X10_between_0 19 rfl) rfl in_X10 (by decide) wd_4_127 rfl rfl ?_
          refine mm_iload_n (mm_dc od_X10_between_0 20 rfl) rfl ?_
          refine mm_iald (mm_dc od_X10_between_0 21 rfl) rfl (by first | omega | assumption | exact hr _ _ rfl) (by first | omega | assumption | exact hr _ _ rfl) (by decide) ?_
          refine mm_aload_n (mm_dc od_X10_between_0 22 rfl) rfl ?_
          refine mm_getR (ci := 10) (k := 15) (mm_dc od_X10_between_0 23 rfl) rfl in_X10 (by decide) wd_4_127 rfl rfl ?_
          refine mm_iload_n (mm_dc od_X10_between_0 24 rfl) rfl ?_
          refine mm_iald (mm_dc od_X10_between_0 25 rfl) rfl (by first | omega | assumption | exact hr _ _ rfl) (by first | omega | assumption | exact hr _ _ rfl) (by decide) ?_
          refine mm_icmp_eq 53 (mm_dc od_X10_between_0 26 rfl) (by omega) (by first | omega | assumption | exact hr _ _ rfl) (by first | omega | assumption | exact hr _ _ rfl) (fun c4 => ?_) (fun c4 => ?_)
          · refine mm_aload_n (mm_dc od_X10_between_0 29 rfl) rfl ?_
            refine mm_getR (ci := 10) (k := 21) (mm_dc od_X10_between_0 30 rfl) rfl in_X10 (by decide) wd_4_133 rfl rfl ?_
            refine mm_iload_n (mm_dc od_X10_between_0 31 rfl) rfl ?_
            refine mm_lald (mm_dc od_X10_between_0 32 rfl) rfl (by first | omega | assumption | exact hr _ _ rfl) (by first | omega | assumption | exact hr _ _ rfl) (by decide) ?_
            refine mm_aload_n (mm_dc od_X10_between_0 33 rfl) rfl ?_
            refine mm_getR (ci := 10) (k := 21) (mm_dc od_X10_between_0 34 rfl) rfl in_X10 (by decide) wd_4_133 rfl rfl ?_
            refine mm_iload_n (mm_dc od_X10_between_0 35 rfl) rfl ?_
            refine mm_lald (mm_dc od_X10_between_0 36 rfl) rfl (by first | omega | assumption | exact hr _ _ rfl) (by first | omega | assumption | exact hr _ _ rfl) (by decide) ?_
            refine mm_lsub (mm_dc od_X10_between_0 37 rfl) ?_
            refine mm_aload_n (mm_dc od_X10_between_0 38 rfl) rfl ?_
            refine mm_getL (ci := 10) (k := 23) (mm_dc od_X10_between_0 39 rfl) rfl in_X10 (by decide) wd_4_135 rfl rfl ?_
            refine mm_iload_n (mm_dc od_X10_between_0 40 rfl) rfl ?_
            have hbx := hb.2 x.toNat (by omega)
            unfold ab at hbx
            have hby := hb.2 y.toNat (by omega)
            unfold ab at hby
            refine mm_callS (mi' := mi_X10_part) [v_l ((N 69 (Int.toNat x)) - (N 69 (Int.toNat y))), v_l (N 50 23), v_i what] [] (mm_dc od_X10_between_0 41 rfl) rfl wd_5_125 wd_5_126 wd_1_12 wd_5_127 yk_X10_part (Nat.le_of_ble_eq_true rfl) rfl (by decide) (c_X10_part ((N 69 (Int.toNat x)) - (N 69 (Int.toNat y))) (N 50 23) what (by omega) (by omega) (by omega) ⟨Nat.le_refl _, ?_⟩)
            refine mm_lret (mm_dc od_X10_between_0 42 rfl) rfl ?_
            exact k _ _ (Or.inr ⟨by omega, Or.inr ⟨by omega, Or.inr (Or.inr ⟨n, by rw [hSR.2.2.2 _ (by omega)]; omega, hn6, hcn, hSR, rfl⟩)⟩⟩)
          · refine mm_ldcn (z := (-9223372036854775808)) (mm_dc od_X10_between_0 27 rfl) wd_5_124 (by decide) ?_
            refine mm_lret (mm_dc od_X10_between_0 28 rfl) rfl ?_
            first | exact k _ _ (Or.inr ⟨by omega, Or.inr ⟨by omega, Or.inl ⟨h7, rfl, hfN⟩⟩⟩) | exact k _ _ (Or.inr ⟨by omega, Or.inr ⟨by omega, Or.inr (Or.inl ⟨by rw [hSR.2.2.2 _ (by omega)]; omega, rfl, hSR.1⟩)⟩⟩)
      · refine mm_if_eq 49 (mm_dc od_X10_between_0 13 rfl) (by omega) (by first | omega | assumption | exact hr _ _ rfl) (fun _ => ?_) (fun h => absurd h (by decide))
        refine mm_ldcn (z := (-9223372036854775808)) (mm_dc od_X10_between_0 27 rfl) wd_5_124 (by decide) ?_
        refine mm_lret (mm_dc od_X10_between_0 28 rfl) rfl ?_
        first | exact k _ _ (Or.inl ⟨by omega, rfl, rfl⟩) | exact k _ _ (Or.inr ⟨by omega, Or.inl ⟨by omega, rfl, rfl⟩⟩)
    · refine mm_if_eq 49 (mm_dc od_X10_between_0 7 rfl) (by omega) (by first | omega | assumption | exact hr _ _ rfl) (fun _ => ?_) (fun h => absurd h (by decide))
      refine mm_ldcn (z := (-9223372036854775808)) (mm_dc od_X10_between_0 27 rfl) wd_5_124 (by decide) ?_
      refine mm_lret (mm_dc od_X10_between_0 28 rfl) rfl ?_
      first | exact k _ _ (Or.inl ⟨by omega, rfl, rfl⟩) | exact k _ _ (Or.inr ⟨by omega, Or.inl ⟨by omega, rfl, rfl⟩⟩)
  · refine mm_if_eq 49 (mm_dc od_X10_between_0 3 rfl) (by omega) (by first | omega | assumption | exact hr _ _ rfl) (fun _ => ?_) (fun h => absurd h (by decide))
    refine mm_ldcn (z := (-9223372036854775808)) (mm_dc od_X10_between_0 27 rfl) wd_5_124 (by decide) ?_
    refine mm_lret (mm_dc od_X10_between_0 28 rfl) rfl ?_
    first | exact k _ _ (Or.inl ⟨by omega, rfl, rfl⟩) | exact k _ _ (Or.inr ⟨by omega, Or.inl ⟨by omega, rfl, rfl⟩⟩)
theorem c_X10_misfit {X : Nat × (Nat → Int)} {d : Nat} {Po : mm_Po} {M : mm_M} (o : Int) (what : Int) (ho : mm_r32 o) (hw : mm_r32 what) (gm : Nat) (hgm : 0 ≤ o ∧ o < M 50 10 → grpQ (M 61) (M 62) (M 50 16).toNat o.toNat gm) (hzm : 0 ≤ o ∧ o < M 50 10 → ∀ x, (M 50 10).toNat ≤ x → gm.testBit x = false) (hJom : JOm M) (hJrm : JRm M) (hr : R32 M) (k : ∀ (N : mm_M) (r : Int), ((¬ (0 ≤ o ∧ o < M 50 10) ∧ r = -9223372036854775808 ∧ N = M) ∨ ((0 ≤ o ∧ o < M 50 10) ∧ ((¬ (0 ≤ what ∧ what ≤ 1) ∧ r = -9223372036854775808 ∧ N = M) ∨ ((0 ≤ what ∧ what ≤ 1) ∧ ((7 < cntb gm ∧ r = -9223372036854775808 ∧ frR M N) ∨ ∃ n : Nat, n ≤ 6 ∧ cntb gm = (n : Int) + 1 ∧ SR M gm n N o ∧ r = ptV (msF (M 61) (M 62) (M 63) gm (N 69) (N 50 23) (M 50 16).toNat) (N 50 23) what))))) → Po (some (v_l r)) Lam N) : mm_E X (d + 4) 0 0 mi_X10_misfit [v_r 50, v_i o, v_i what] Po Lam M := by
  show mm_G X (d + 4) 0 0 mi_X10_misfit Po 0 [(0, v_r 50), (1, v_i o), (2, v_i what)] [] Lam M 0 0
  have hJom2 := hJom
  obtain ⟨ho0, ho16, hO⟩ := hJom2
  refine mm_aload_n (mm_dc od_X10_misfit_0 0 rfl) rfl ?_
  refine mm_iload_n (mm_dc od_X10_misfit_0 1 rfl) rfl ?_
  refine mm_callV (b := 50) (mi' := mi_X10_isOar) [v_i o] [] (mm_dc od_X10_misfit_0 2 rfl) rfl wd_5_51 wd_5_53 wd_p_21 wd_1_12 wd_5_54 yk_X10_isOar rfl rfl rfl (Nat.le_of_ble_eq_true rfl) rfl (by decide) (c_X10_isOar o (by first | omega | assumption | exact hr _ _ rfl) (by first | omega | assumption | exact hr _ _ rfl) (fun c1 => ⟨Nat.le_refl _, ?_⟩) (fun c1 => ⟨Nat.le_refl _, ?_⟩))
  · refine mm_if_eq 26 (mm_dc od_X10_misfit_0 3 rfl) (by omega) (by first | omega | assumption | exact hr _ _ rfl) (fun h => absurd h (by decide)) (fun _ => ?_)
    refine mm_iload_n (mm_dc od_X10_misfit_0 4 rfl) rfl ?_
    refine mm_i2l (mm_dc od_X10_misfit_0 5 rfl) (by first | omega | assumption | exact hr _ _ rfl) ?_
    refine mm_lconst (mm_dc od_X10_misfit_0 6 rfl) ?_
    refine mm_cst (st' := [v_l 0, v_l what]) rfl ?_
    refine mm_lconst (mm_dc od_X10_misfit_0 7 rfl) ?_
    refine mm_cst (st' := [v_l 1, v_l 0, v_l what]) rfl ?_
    refine mm_callS (mi' := mi_X10_isIn) [v_l what, v_l 0, v_l 1] [] (mm_dc od_X10_misfit_0 8 rfl) rfl wd_5_37 wd_5_38 wd_1_12 wd_5_39 yk_X10_isIn (Nat.le_of_ble_eq_true rfl) rfl (by decide) (c_X10_isIn what 0 1 (by first | omega | assumption | exact hr _ _ rfl) (by first | omega | assumption | exact hr _ _ rfl) (by first | omega | assumption | exact hr _ _ rfl) (fun c2 => ⟨Nat.le_refl _, ?_⟩) (fun c2 => ⟨Nat.le_refl _, ?_⟩))
    · refine mm_if_eq 26 (mm_dc od_X10_misfit_0 9 rfl) (by omega) (by first | omega | assumption | exact hr _ _ rfl) (fun h => absurd h (by decide)) (fun _ => ?_)
      refine mm_aload_n (mm_dc od_X10_misfit_0 10 rfl) rfl ?_
      refine mm_iload_n (mm_dc od_X10_misfit_0 11 rfl) rfl ?_
      refine mm_callV (b := 50) (mi' := mi_X10_solves) [v_i o] [] (mm_dc od_X10_misfit_0 12 rfl) rfl wd_5_109 wd_5_111 wd_p_28 wd_1_12 wd_5_112 yk_X10_solves rfl rfl rfl (Nat.le_of_ble_eq_true rfl) rfl (by decide) (L_slv gm o (by omega) hJom hJrm (hgm (by omega)) (hzm (by omega)) hr (fun N hfN h7 => ⟨Nat.le_refl _, ?_⟩) (fun N n hn6 hcn hSR => ⟨Nat.le_refl _, ?_⟩))
      · have hrM := hr
        have hr := hfN.1
        refine mm_if_ne 30 (mm_dc od_X10_misfit_0 13 rfl) (by omega) (by first | omega | assumption | exact hr _ _ rfl) (fun h => absurd h (by decide)) (fun _ => ?_)
        refine mm_ldcn (z := (-9223372036854775808)) (mm_dc od_X10_misfit_0 14 rfl) wd_5_124 (by decide) ?_
        refine mm_lret (mm_dc od_X10_misfit_0 15 rfl) rfl ?_
        exact k _ _ (Or.inr ⟨by omega, Or.inr ⟨by omega, Or.inl ⟨h7, rfl, hfN⟩⟩⟩)
      · have hrM := hr
        have hr := hSR.1.1
        have hb := sr_b (by omega) (by omega) (hgm (by omega)) hJrm hn6 hcn hSR
        refine mm_if_ne 30 (mm_dc od_X10_misfit_0 13 rfl) (by omega) (by first | omega | assumption | exact hr _ _ rfl) (fun _ => ?_) (fun h => absurd h (by decide))
        refine mm_lconst (mm_dc od_X10_misfit_0 16 rfl) ?_
        refine mm_cst (st' := [v_l 0]) rfl ?_
        refine mm_lstore_n (L' := [(0, v_r 50), (1, v_i o), (2, v_i what), (3, v_l 0)]) (mm_dc od_X10_misfit_0 17 rfl) (by decide) rfl ?_
        refine mm_iconst (mm_dc od_X10_misfit_0 18 rfl) ?_
        refine mm_istore (L' := [(0, v_r 50), (1, v_i o), (2, v_i what), (3, v_l 0), (5, v_i 0)]) (mm_dc od_X10_misfit_0 19 rfl) (by decide) rfl ?_
        have hin : ∀ x, gm.testBit x = true → x < (M 50 10).toNat := by
          intro x hx
          apply Classical.byContradiction
          intro q
          have := hzm (by omega) x (by omega)
          rw [hx] at this; cases this
        have f16 : N 50 16 = M 50 16 := hSR.1.2.2 16 (by decide) (by decide)
        have f61 : N 61 = M 61 := hSR.1.2.1 61 (by decide) (by decide)
        have f62 : N 62 = M 62 := hSR.1.2.1 62 (by decide) (by decide)
        have f63 : N 63 = M 63 := hSR.1.2.1 63 (by decide) (by decide)
        refine L_mf35 gm o what hSR.2.2.2 (by omega) (by omega) (JRm_frR hSR.1 hJrm) hr (fun r hr2 hbt => ?_) hb.1 (k _ _ (Or.inr ⟨by omega, Or.inr ⟨by omega, Or.inr ⟨n, hn6, hcn, hSR, ?_⟩⟩⟩)) 0 (by have := hJrm.1; omega)
        · rw [f61] at hbt
          rw [f61, f62, f63]
          have hbt2 := ((hgm (by omega)).2.2.1 r (by omega)).mp hbt
          have h := hJrm.2.2 r (by omega)
          exact ⟨hb.2 _ (hin _ hbt), hb.2 _ (hin _ hbt2), h.2.2.2⟩
        · rw [f16, f61, f62, f63]
    · refine mm_if_eq 26 (mm_dc od_X10_misfit_0 9 rfl) (by omega) (by first | omega | assumption | exact hr _ _ rfl) (fun _ => ?_) (fun h => absurd h (by decide))
      refine mm_ldcn (z := (-9223372036854775808)) (mm_dc od_X10_misfit_0 14 rfl) wd_5_124 (by decide) ?_
      refine mm_lret (mm_dc od_X10_misfit_0 15 rfl) rfl ?_
      first | exact k _ _ (Or.inl ⟨by omega, rfl, rfl⟩) | exact k _ _ (Or.inr ⟨by omega, Or.inl ⟨by omega, rfl, rfl⟩⟩)
  · refine mm_if_eq 26 (mm_dc od_X10_misfit_0 3 rfl) (by omega) (by first | omega | assumption | exact hr _ _ rfl) (fun _ => ?_) (fun h => absurd h (by decide))
    refine mm_ldcn (z := (-9223372036854775808)) (mm_dc od_X10_misfit_0 14 rfl) wd_5_124 (by decide) ?_
    refine mm_lret (mm_dc od_X10_misfit_0 15 rfl) rfl ?_
    first | exact k _ _ (Or.inl ⟨by omega, rfl, rfl⟩) | exact k _ _ (Or.inr ⟨by omega, Or.inl ⟨by omega, rfl, rfl⟩⟩)
