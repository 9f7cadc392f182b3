theorem fx_and_31 (z : Int) : 0 ≤ fx_and z 31 ∧ fx_and z 31 ≤ 31 := by
  obtain ⟨j, hj, e⟩ := pk_andE (Int32.ofInt z) (m := Int32.ofInt 31) 5 (by decide)
  unfold fx_and
  rw [e, nI_toInt (by omega)]
  omega
theorem fx_lor_r (x y : Int) : mm_r64 (fx_lor x y) := by
  unfold fx_lor
  have h1 := Int64.le_toInt (Int64.ofInt x ||| Int64.ofInt y)
  have h2 := Int64.toInt_lt (Int64.ofInt x ||| Int64.ofInt y)
  omega
def LPo : mm_Po := fun r _ _ => r = some (v_i 1)
theorem law_0 {X : Nat × (Nat → Int)} {M : mm_M} (hx : ∀ i, mm_r32 (X.2 i)) (hX : X.1 ≤ 2560) (hI : inv M) (j : Nat) (hj : (j : Int) ≤ X.1 - 5) (K : ∀ N, inv N → mm_G X 20 600000 7302250 mi_L_law LPo 1178 [(0, v_r 1012), (1, v_r 0), (2, v_r 50), (3, v_i (j : Int))] [] Lam N 91 11006) : mm_G X 20 600000 7302250 mi_L_law LPo 172 [(0, v_r 1012), (1, v_r 0), (2, v_r 50), (3, v_i (j : Int))] [] Lam M 91 11006 := by
  refine mm_aload_n (mm_dc od_L_law_0 22 rfl) rfl ?_
  refine mm_aload_n (mm_dc od_L_law_0 23 rfl) rfl ?_
  refine mm_iload_n (mm_dc od_L_law_0 24 rfl) rfl ?_
  refine mm_iconst (mm_dc od_L_law_0 25 rfl) ?_
  refine mm_iadd (mm_dc od_L_law_0 26 rfl) ?_
  refine mm_aldX (mm_dc od_L_law_0 27 rfl) (by first | assumption | omega | exact hx _) (by first | assumption | omega | exact hx _) (by first | assumption | omega | exact hx _) ?_
  refine mm_aload_n (mm_dc od_L_law_0 28 rfl) rfl ?_
  refine mm_iload_n (mm_dc od_L_law_0 29 rfl) rfl ?_
  refine mm_iconst (mm_dc od_L_law_0 30 rfl) ?_
  refine mm_iadd (mm_dc od_L_law_0 31 rfl) ?_
  refine mm_aldX (mm_dc od_L_law_0 32 rfl) (by first | assumption | omega | exact hx _) (by first | assumption | omega | exact hx _) (by first | assumption | omega | exact hx _) ?_
  obtain ⟨PX, hx1, hm0⟩ := (pair_oar hI (X.2 (Int.toNat ((j : Int) + 1))) (X.2 (Int.toNat ((j : Int) + 2))) (hx _) (hx _)).to2
  refine mm_callV (b := 0) (mi' := mi_X9_oar) [v_i (X.2 (Int.toNat ((j : Int) + 1))), v_i (X.2 (Int.toNat ((j : Int) + 2)))] [] (mm_dc od_L_law_0 33 rfl) rfl wd_2_76 wd_2_77 wd_2_78 wd_1_1 wd_2_79 yk_X9_oar rfl rfl rfl (Nat.le_of_ble_eq_true rfl) rfl (by decide) (hx1 X 7 _ (fun a MX hPX => ⟨Nat.le_refl _, ?_⟩))
  obtain ⟨ha, hal, hm1⟩ := hm0 a MX hPX
  have ha2 := ha rfl
  refine mm_aload_n (mm_dc od_L_law_0 34 rfl) rfl ?_
  refine mm_aload_n (mm_dc od_L_law_0 35 rfl) rfl ?_
  refine mm_iload_n (mm_dc od_L_law_0 36 rfl) rfl ?_
  refine mm_iconst (mm_dc od_L_law_0 37 rfl) ?_
  refine mm_iadd (mm_dc od_L_law_0 38 rfl) ?_
  refine mm_aldX (mm_dc od_L_law_0 39 rfl) (by first | assumption | omega | exact hx _) (by first | assumption | omega | exact hx _) (by first | assumption | omega | exact hx _) ?_
  refine mm_aload_n (mm_dc od_L_law_0 40 rfl) rfl ?_
  refine mm_iload_n (mm_dc od_L_law_0 41 rfl) rfl ?_
  refine mm_iconst (mm_dc od_L_law_0 42 rfl) ?_
  refine mm_iadd (mm_dc od_L_law_0 43 rfl) ?_
  refine mm_aldX (mm_dc od_L_law_0 44 rfl) (by first | assumption | omega | exact hx _) (by first | assumption | omega | exact hx _) (by first | assumption | omega | exact hx _) ?_
  refine mm_callV (b := 50) (mi' := mi_X10_oar) [v_i (X.2 (Int.toNat ((j : Int) + 1))), v_i (X.2 (Int.toNat ((j : Int) + 2)))] [v_i a] (mm_dc od_L_law_0 45 rfl) rfl wd_5_32 wd_5_33 wd_5_34 wd_1_12 wd_5_35 yk_X10_oar rfl rfl rfl (Nat.le_of_ble_eq_true rfl) rfl (by decide) (hm1 X 7 _ (fun MM hI2 => ⟨Nat.le_refl _, ?_⟩))
  refine mm_icmp_eq 1178 (mm_dc od_L_law_0 46 rfl) (by omega) (by first | assumption | omega | exact hx _) (by first | assumption | omega | exact hx _) (fun c1 => ?_) (fun c1 => ?_)
  · exact K MM hI2
  · refine mm_iconst (mm_dc od_L_law_0 47 rfl) ?_
    refine mm_zret .boolean (mm_dc od_L_law_0 48 rfl) rfl rfl ?_
    first | exact absurd (rfl : a = a) (by assumption) | (have q := mm_cmp_is a a; omega)
theorem law_1 {X : Nat × (Nat → Int)} {M : mm_M} (hx : ∀ i, mm_r32 (X.2 i)) (hX : X.1 ≤ 2560) (hI : inv M) (j : Nat) (hj : (j : Int) ≤ X.1 - 5) (K : ∀ N, inv N → mm_G X 20 600000 7302250 mi_L_law LPo 1178 [(0, v_r 1012), (1, v_r 0), (2, v_r 50), (3, v_i (j : Int))] [] Lam N 91 11006) : mm_G X 20 600000 7302250 mi_L_law LPo 205 [(0, v_r 1012), (1, v_r 0), (2, v_r 50), (3, v_i (j : Int))] [] Lam M 91 11006 := by
  refine mm_aload_n (mm_dc od_L_law_0 49 rfl) rfl ?_
  refine mm_aload_n (mm_dc od_L_law_0 50 rfl) rfl ?_
  refine mm_iload_n (mm_dc od_L_law_0 51 rfl) rfl ?_
  refine mm_iconst (mm_dc od_L_law_0 52 rfl) ?_
  refine mm_iadd (mm_dc od_L_law_0 53 rfl) ?_
  refine mm_aldX (mm_dc od_L_law_0 54 rfl) (by first | assumption | omega | exact hx _) (by first | assumption | omega | exact hx _) (by first | assumption | omega | exact hx _) ?_
  refine mm_aload_n (mm_dc od_L_law_0 55 rfl) rfl ?_
  refine mm_iload_n (mm_dc od_L_law_0 56 rfl) rfl ?_
  refine mm_iconst (mm_dc od_L_law_0 57 rfl) ?_
  refine mm_iadd (mm_dc od_L_law_0 58 rfl) ?_
  refine mm_aldX (mm_dc od_L_law_0 59 rfl) (by first | assumption | omega | exact hx _) (by first | assumption | omega | exact hx _) (by first | assumption | omega | exact hx _) ?_
  refine mm_aload_n (mm_dc od_L_law_1 0 rfl) rfl ?_
  refine mm_iload_n (mm_dc od_L_law_1 1 rfl) rfl ?_
  refine mm_iconst (mm_dc od_L_law_1 2 rfl) ?_
  refine mm_iadd (mm_dc od_L_law_1 3 rfl) ?_
  refine mm_aldX (mm_dc od_L_law_1 4 rfl) (by first | assumption | omega | exact hx _) (by first | assumption | omega | exact hx _) (by first | assumption | omega | exact hx _) ?_
  refine mm_aload_n (mm_dc od_L_law_1 5 rfl) rfl ?_
  refine mm_iload_n (mm_dc od_L_law_1 6 rfl) rfl ?_
  refine mm_iconst (mm_dc od_L_law_1 7 rfl) ?_
  refine mm_iadd (mm_dc od_L_law_1 8 rfl) ?_
  refine mm_aldX (mm_dc od_L_law_1 9 rfl) (by first | assumption | omega | exact hx _) (by first | assumption | omega | exact hx _) (by first | assumption | omega | exact hx _) ?_
  obtain ⟨PX, hx1, hm0⟩ := (pair_boat hI (X.2 (Int.toNat ((j : Int) + 1))) (X.2 (Int.toNat ((j : Int) + 2))) (X.2 (Int.toNat ((j : Int) + 3))) (X.2 (Int.toNat ((j : Int) + 4))) (hx _) (hx _) (hx _) (hx _)).to2
  refine mm_callV (b := 0) (mi' := mi_X9_boat) [v_i (X.2 (Int.toNat ((j : Int) + 1))), v_i (X.2 (Int.toNat ((j : Int) + 2))), v_i (X.2 (Int.toNat ((j : Int) + 3))), v_i (X.2 (Int.toNat ((j : Int) + 4)))] [] (mm_dc od_L_law_1 10 rfl) rfl wd_2_87 wd_2_88 wd_2_89 wd_1_1 wd_2_90 yk_X9_boat rfl rfl rfl (Nat.le_of_ble_eq_true rfl) rfl (by decide) (hx1 X 7 _ (fun a MX hPX => ⟨Nat.le_refl _, ?_⟩))
  obtain ⟨ha, hal, hm1⟩ := hm0 a MX hPX
  have ha2 := ha rfl
  refine mm_aload_n (mm_dc od_L_law_1 11 rfl) rfl ?_
  refine mm_aload_n (mm_dc od_L_law_1 12 rfl) rfl ?_
  refine mm_iload_n (mm_dc od_L_law_1 13 rfl) rfl ?_
  refine mm_iconst (mm_dc od_L_law_1 14 rfl) ?_
  refine mm_iadd (mm_dc od_L_law_1 15 rfl) ?_
  refine mm_aldX (mm_dc od_L_law_1 16 rfl) (by first | assumption | omega | exact hx _) (by first | assumption | omega | exact hx _) (by first | assumption | omega | exact hx _) ?_
  refine mm_aload_n (mm_dc od_L_law_1 17 rfl) rfl ?_
  refine mm_iload_n (mm_dc od_L_law_1 18 rfl) rfl ?_
  refine mm_iconst (mm_dc od_L_law_1 19 rfl) ?_
  refine mm_iadd (mm_dc od_L_law_1 20 rfl) ?_
  refine mm_aldX (mm_dc od_L_law_1 21 rfl) (by first | assumption | omega | exact hx _) (by first | assumption | omega | exact hx _) (by first | assumption | omega | exact hx _) ?_
  refine mm_aload_n (mm_dc od_L_law_1 22 rfl) rfl ?_
  refine mm_iload_n (mm_dc od_L_law_1 23 rfl) rfl ?_
  refine mm_iconst (mm_dc od_L_law_1 24 rfl) ?_
  refine mm_iadd (mm_dc od_L_law_1 25 rfl) ?_
  refine mm_aldX (mm_dc od_L_law_1 26 rfl) (by first | assumption | omega | exact hx _) (by first | assumption | omega | exact hx _) (by first | assumption | omega | exact hx _) ?_
  refine mm_aload_n (mm_dc od_L_law_1 27 rfl) rfl ?_
  refine mm_iload_n (mm_dc od_L_law_1 28 rfl) rfl ?_
  refine mm_iconst (mm_dc od_L_law_1 29 rfl) ?_
  refine mm_iadd (mm_dc od_L_law_1 30 rfl) ?_
  refine mm_aldX (mm_dc od_L_law_1 31 rfl) (by first | assumption | omega | exact hx _) (by first | assumption | omega | exact hx _) (by first | assumption | omega | exact hx _) ?_
  refine mm_callV (b := 50) (mi' := mi_X10_boat) [v_i (X.2 (Int.toNat ((j : Int) + 1))), v_i (X.2 (Int.toNat ((j : Int) + 2))), v_i (X.2 (Int.toNat ((j : Int) + 3))), v_i (X.2 (Int.toNat ((j : Int) + 4)))] [v_i a] (mm_dc od_L_law_1 32 rfl) rfl wd_5_42 wd_5_43 wd_5_44 wd_1_12 wd_5_45 yk_X10_boat rfl rfl rfl (Nat.le_of_ble_eq_true rfl) rfl (by decide) (hm1 X 7 _ (fun MM hI2 => ⟨Nat.le_refl _, ?_⟩))
  refine mm_icmp_eq 1178 (mm_dc od_L_law_1 33 rfl) (by omega) (by first | assumption | omega | exact hx _) (by first | assumption | omega | exact hx _) (fun c1 => ?_) (fun c1 => ?_)
  · exact K MM hI2
  · refine mm_iconst (mm_dc od_L_law_1 34 rfl) ?_
    refine mm_zret .boolean (mm_dc od_L_law_1 35 rfl) rfl rfl ?_
    first | exact absurd (rfl : a = a) (by assumption) | (have q := mm_cmp_is a a; omega)
theorem law_2 {X : Nat × (Nat → Int)} {M : mm_M} (hx : ∀ i, mm_r32 (X.2 i)) (hX : X.1 ≤ 2560) (hI : inv M) (j : Nat) (hj : (j : Int) ≤ X.1 - 5) (K : ∀ N, inv N → mm_G X 20 600000 7302250 mi_L_law LPo 1178 [(0, v_r 1012), (1, v_r 0), (2, v_r 50), (3, v_i (j : Int))] [] Lam N 91 11006) : mm_G X 20 600000 7302250 mi_L_law LPo 258 [(0, v_r 1012), (1, v_r 0), (2, v_r 50), (3, v_i (j : Int))] [] Lam M 91 11006 := by
  refine mm_aload_n (mm_dc od_L_law_1 36 rfl) rfl ?_
  refine mm_aload_n (mm_dc od_L_law_1 37 rfl) rfl ?_
  refine mm_iload_n (mm_dc od_L_law_1 38 rfl) rfl ?_
  refine mm_iconst (mm_dc od_L_law_1 39 rfl) ?_
  refine mm_iadd (mm_dc od_L_law_1 40 rfl) ?_
  refine mm_aldX (mm_dc od_L_law_1 41 rfl) (by first | assumption | omega | exact hx _) (by first | assumption | omega | exact hx _) (by first | assumption | omega | exact hx _) ?_
  refine mm_aload_n (mm_dc od_L_law_1 42 rfl) rfl ?_
  refine mm_iload_n (mm_dc od_L_law_1 43 rfl) rfl ?_
  refine mm_iconst (mm_dc od_L_law_1 44 rfl) ?_
  refine mm_iadd (mm_dc od_L_law_1 45 rfl) ?_
  refine mm_aldX (mm_dc od_L_law_1 46 rfl) (by first | assumption | omega | exact hx _) (by first | assumption | omega | exact hx _) (by first | assumption | omega | exact hx _) ?_
  obtain ⟨PX, hx1, hm0⟩ := (pair_ill hI (X.2 (Int.toNat ((j : Int) + 1))) (X.2 (Int.toNat ((j : Int) + 2))) (hx _) (hx _)).to2
  refine mm_callV (b := 0) (mi' := mi_X9_ill) [v_i (X.2 (Int.toNat ((j : Int) + 1))), v_i (X.2 (Int.toNat ((j : Int) + 2)))] [] (mm_dc od_L_law_1 47 rfl) rfl wd_2_95 wd_2_96 wd_2_97 wd_1_1 wd_2_98 yk_X9_ill rfl rfl rfl (Nat.le_of_ble_eq_true rfl) rfl (by decide) (hx1 X 7 _ (fun a MX hPX => ⟨Nat.le_refl _, ?_⟩))
  obtain ⟨ha, hal, hm1⟩ := hm0 a MX hPX
  have ha2 := ha rfl
  refine mm_aload_n (mm_dc od_L_law_1 48 rfl) rfl ?_
  refine mm_aload_n (mm_dc od_L_law_1 49 rfl) rfl ?_
  refine mm_iload_n (mm_dc od_L_law_1 50 rfl) rfl ?_
  refine mm_iconst (mm_dc od_L_law_1 51 rfl) ?_
  refine mm_iadd (mm_dc od_L_law_1 52 rfl) ?_
  refine mm_aldX (mm_dc od_L_law_1 53 rfl) (by first | assumption | omega | exact hx _) (by first | assumption | omega | exact hx _) (by first | assumption | omega | exact hx _) ?_
  refine mm_aload_n (mm_dc od_L_law_1 54 rfl) rfl ?_
  refine mm_iload_n (mm_dc od_L_law_1 55 rfl) rfl ?_
  refine mm_iconst (mm_dc od_L_law_1 56 rfl) ?_
  refine mm_iadd (mm_dc od_L_law_1 57 rfl) ?_
  refine mm_aldX (mm_dc od_L_law_1 58 rfl) (by first | assumption | omega | exact hx _) (by first | assumption | omega | exact hx _) (by first | assumption | omega | exact hx _) ?_
  refine mm_callV (b := 50) (mi' := mi_X10_ill) [v_i (X.2 (Int.toNat ((j : Int) + 1))), v_i (X.2 (Int.toNat ((j : Int) + 2)))] [v_i a] (mm_dc od_L_law_1 59 rfl) rfl wd_5_47 wd_5_48 wd_5_49 wd_1_12 wd_5_50 yk_X10_ill rfl rfl rfl (Nat.le_of_ble_eq_true rfl) rfl (by decide) (hm1 X 7 _ (fun MM hI2 => ⟨Nat.le_refl _, ?_⟩))
  refine mm_icmp_eq 1178 (mm_dc od_L_law_2 0 rfl) (by omega) (by first | assumption | omega | exact hx _) (by first | assumption | omega | exact hx _) (fun c1 => ?_) (fun c1 => ?_)
  · exact K MM hI2
  · refine mm_iconst (mm_dc od_L_law_2 1 rfl) ?_
    refine mm_zret .boolean (mm_dc od_L_law_2 2 rfl) rfl rfl ?_
    first | exact absurd (rfl : a = a) (by assumption) | (have q := mm_cmp_is a a; omega)
theorem law_3 {X : Nat × (Nat → Int)} {M : mm_M} (hx : ∀ i, mm_r32 (X.2 i)) (hX : X.1 ≤ 2560) (hI : inv M) (j : Nat) (hj : (j : Int) ≤ X.1 - 5) (K : ∀ N, inv N → mm_G X 20 600000 7302250 mi_L_law LPo 1178 [(0, v_r 1012), (1, v_r 0), (2, v_r 50), (3, v_i (j : Int))] [] Lam N 91 11006) : mm_G X 20 600000 7302250 mi_L_law LPo 291 [(0, v_r 1012), (1, v_r 0), (2, v_r 50), (3, v_i (j : Int))] [] Lam M 91 11006 := by
  refine mm_aload_n (mm_dc od_L_law_2 3 rfl) rfl ?_
  refine mm_aload_n (mm_dc od_L_law_2 4 rfl) rfl ?_
  refine mm_iload_n (mm_dc od_L_law_2 5 rfl) rfl ?_
  refine mm_iconst (mm_dc od_L_law_2 6 rfl) ?_
  refine mm_iadd (mm_dc od_L_law_2 7 rfl) ?_
  refine mm_aldX (mm_dc od_L_law_2 8 rfl) (by first | assumption | omega | exact hx _) (by first | assumption | omega | exact hx _) (by first | assumption | omega | exact hx _) ?_
  refine mm_aload_n (mm_dc od_L_law_2 9 rfl) rfl ?_
  refine mm_iload_n (mm_dc od_L_law_2 10 rfl) rfl ?_
  refine mm_iconst (mm_dc od_L_law_2 11 rfl) ?_
  refine mm_iadd (mm_dc od_L_law_2 12 rfl) ?_
  refine mm_aldX (mm_dc od_L_law_2 13 rfl) (by first | assumption | omega | exact hx _) (by first | assumption | omega | exact hx _) (by first | assumption | omega | exact hx _) ?_
  refine mm_aload_n (mm_dc od_L_law_2 14 rfl) rfl ?_
  refine mm_iload_n (mm_dc od_L_law_2 15 rfl) rfl ?_
  refine mm_iconst (mm_dc od_L_law_2 16 rfl) ?_
  refine mm_iadd (mm_dc od_L_law_2 17 rfl) ?_
  refine mm_aldX (mm_dc od_L_law_2 18 rfl) (by first | assumption | omega | exact hx _) (by first | assumption | omega | exact hx _) (by first | assumption | omega | exact hx _) ?_
  obtain ⟨PX, hx1, hm0⟩ := (pair_sit hI (X.2 (Int.toNat ((j : Int) + 1))) (X.2 (Int.toNat ((j : Int) + 2))) (X.2 (Int.toNat ((j : Int) + 3))) (hx _) (hx _) (hx _)).to2
  refine mm_callV (b := 0) (mi' := mi_X9_sit) [v_i (X.2 (Int.toNat ((j : Int) + 1))), v_i (X.2 (Int.toNat ((j : Int) + 2))), v_i (X.2 (Int.toNat ((j : Int) + 3)))] [] (mm_dc od_L_law_2 19 rfl) rfl wd_2_103 wd_2_104 wd_2_105 wd_1_1 wd_2_106 yk_X9_sit rfl rfl rfl (Nat.le_of_ble_eq_true rfl) rfl (by decide) (hx1 X 7 _ (fun a MX hPX => ⟨Nat.le_refl _, ?_⟩))
  obtain ⟨ha, hal, hm1⟩ := hm0 a MX hPX
  have ha2 := ha rfl
  refine mm_aload_n (mm_dc od_L_law_2 20 rfl) rfl ?_
  refine mm_aload_n (mm_dc od_L_law_2 21 rfl) rfl ?_
  refine mm_iload_n (mm_dc od_L_law_2 22 rfl) rfl ?_
  refine mm_iconst (mm_dc od_L_law_2 23 rfl) ?_
  refine mm_iadd (mm_dc od_L_law_2 24 rfl) ?_
  refine mm_aldX (mm_dc od_L_law_2 25 rfl) (by first | assumption | omega | exact hx _) (by first | assumption | omega | exact hx _) (by first | assumption | omega | exact hx _) ?_
  refine mm_aload_n (mm_dc od_L_law_2 26 rfl) rfl ?_
  refine mm_iload_n (mm_dc od_L_law_2 27 rfl) rfl ?_
  refine mm_iconst (mm_dc od_L_law_2 28 rfl) ?_
  refine mm_iadd (mm_dc od_L_law_2 29 rfl) ?_
  refine mm_aldX (mm_dc od_L_law_2 30 rfl) (by first | assumption | omega | exact hx _) (by first | assumption | omega | exact hx _) (by first | assumption | omega | exact hx _) ?_
  refine mm_aload_n (mm_dc od_L_law_2 31 rfl) rfl ?_
  refine mm_iload_n (mm_dc od_L_law_2 32 rfl) rfl ?_
  refine mm_iconst (mm_dc od_L_law_2 33 rfl) ?_
  refine mm_iadd (mm_dc od_L_law_2 34 rfl) ?_
  refine mm_aldX (mm_dc od_L_law_2 35 rfl) (by first | assumption | omega | exact hx _) (by first | assumption | omega | exact hx _) (by first | assumption | omega | exact hx _) ?_
  refine mm_callV (b := 50) (mi' := mi_X10_sit) [v_i (X.2 (Int.toNat ((j : Int) + 1))), v_i (X.2 (Int.toNat ((j : Int) + 2))), v_i (X.2 (Int.toNat ((j : Int) + 3)))] [v_i a] (mm_dc od_L_law_2 36 rfl) rfl wd_5_55 wd_5_56 wd_5_57 wd_1_12 wd_5_58 yk_X10_sit rfl rfl rfl (Nat.le_of_ble_eq_true rfl) rfl (by decide) (hm1 X 7 _ (fun MM hI2 => ⟨Nat.le_refl _, ?_⟩))
  refine mm_icmp_eq 1178 (mm_dc od_L_law_2 37 rfl) (by omega) (by first | assumption | omega | exact hx _) (by first | assumption | omega | exact hx _) (fun c1 => ?_) (fun c1 => ?_)
  · exact K MM hI2
  · refine mm_iconst (mm_dc od_L_law_2 38 rfl) ?_
    refine mm_zret .boolean (mm_dc od_L_law_2 39 rfl) rfl rfl ?_
    first | exact absurd (rfl : a = a) (by assumption) | (have q := mm_cmp_is a a; omega)
theorem law_4 {X : Nat × (Nat → Int)} {M : mm_M} (hx : ∀ i, mm_r32 (X.2 i)) (hX : X.1 ≤ 2560) (hI : inv M) (j : Nat) (hj : (j : Int) ≤ X.1 - 5) (K : ∀ N, inv N → mm_G X 20 600000 7302250 mi_L_law LPo 1178 [(0, v_r 1012), (1, v_r 0), (2, v_r 50), (3, v_i (j : Int))] [] Lam N 91 11006) : mm_G X 20 600000 7302250 mi_L_law LPo 334 [(0, v_r 1012), (1, v_r 0), (2, v_r 50), (3, v_i (j : Int))] [] Lam M 91 11006 := by
  refine mm_aload_n (mm_dc od_L_law_2 40 rfl) rfl ?_
  refine mm_aload_n (mm_dc od_L_law_2 41 rfl) rfl ?_
  refine mm_iload_n (mm_dc od_L_law_2 42 rfl) rfl ?_
  refine mm_iconst (mm_dc od_L_law_2 43 rfl) ?_
  refine mm_iadd (mm_dc od_L_law_2 44 rfl) ?_
  refine mm_aldX (mm_dc od_L_law_2 45 rfl) (by first | assumption | omega | exact hx _) (by first | assumption | omega | exact hx _) (by first | assumption | omega | exact hx _) ?_
  refine mm_aload_n (mm_dc od_L_law_2 46 rfl) rfl ?_
  refine mm_iload_n (mm_dc od_L_law_2 47 rfl) rfl ?_
  refine mm_iconst (mm_dc od_L_law_2 48 rfl) ?_
  refine mm_iadd (mm_dc od_L_law_2 49 rfl) ?_
  refine mm_aldX (mm_dc od_L_law_2 50 rfl) (by first | assumption | omega | exact hx _) (by first | assumption | omega | exact hx _) (by first | assumption | omega | exact hx _) ?_
  obtain ⟨PX, hx1, hm0⟩ := (pair_seat hI (X.2 (Int.toNat ((j : Int) + 1))) (X.2 (Int.toNat ((j : Int) + 2))) (hx _) (hx _)).to2
  refine mm_callV (b := 0) (mi' := mi_X9_seat) [v_i (X.2 (Int.toNat ((j : Int) + 1))), v_i (X.2 (Int.toNat ((j : Int) + 2)))] [] (mm_dc od_L_law_2 51 rfl) rfl wd_2_138 wd_2_139 wd_2_140 wd_1_1 wd_2_141 yk_X9_seat rfl rfl rfl (Nat.le_of_ble_eq_true rfl) rfl (by decide) (hx1 X 7 _ (fun a MX hPX => ⟨Nat.le_refl _, ?_⟩))
  obtain ⟨ha, hal, hm1⟩ := hm0 a MX hPX
  have ha2 := ha rfl
  refine mm_aload_n (mm_dc od_L_law_2 52 rfl) rfl ?_
  refine mm_aload_n (mm_dc od_L_law_2 53 rfl) rfl ?_
  refine mm_iload_n (mm_dc od_L_law_2 54 rfl) rfl ?_
  refine mm_iconst (mm_dc od_L_law_2 55 rfl) ?_
  refine mm_iadd (mm_dc od_L_law_2 56 rfl) ?_
  refine mm_aldX (mm_dc od_L_law_2 57 rfl) (by first | assumption | omega | exact hx _) (by first | assumption | omega | exact hx _) (by first | assumption | omega | exact hx _) ?_
  refine mm_aload_n (mm_dc od_L_law_2 58 rfl) rfl ?_
  refine mm_iload_n (mm_dc od_L_law_2 59 rfl) rfl ?_
  refine mm_iconst (mm_dc od_L_law_3 0 rfl) ?_
  refine mm_iadd (mm_dc od_L_law_3 1 rfl) ?_
  refine mm_aldX (mm_dc od_L_law_3 2 rfl) (by first | assumption | omega | exact hx _) (by first | assumption | omega | exact hx _) (by first | assumption | omega | exact hx _) ?_
  refine mm_callV (b := 50) (mi' := mi_X10_seat) [v_i (X.2 (Int.toNat ((j : Int) + 1))), v_i (X.2 (Int.toNat ((j : Int) + 2)))] [v_i a] (mm_dc od_L_law_3 3 rfl) rfl wd_5_79 wd_5_80 wd_5_81 wd_1_12 wd_5_82 yk_X10_seat rfl rfl rfl (Nat.le_of_ble_eq_true rfl) rfl (by decide) (hm1 X 7 _ (fun MM hI2 => ⟨Nat.le_refl _, ?_⟩))
  refine mm_icmp_eq 1178 (mm_dc od_L_law_3 4 rfl) (by omega) (by first | assumption | omega | exact hx _) (by first | assumption | omega | exact hx _) (fun c1 => ?_) (fun c1 => ?_)
  · exact K MM hI2
  · refine mm_iconst (mm_dc od_L_law_3 5 rfl) ?_
    refine mm_zret .boolean (mm_dc od_L_law_3 6 rfl) rfl rfl ?_
    first | exact absurd (rfl : a = a) (by assumption) | (have q := mm_cmp_is a a; omega)
theorem law_5 {X : Nat × (Nat → Int)} {M : mm_M} (hx : ∀ i, mm_r32 (X.2 i)) (hX : X.1 ≤ 2560) (hI : inv M) (j : Nat) (hj : (j : Int) ≤ X.1 - 5) (K : ∀ N, inv N → mm_G X 20 600000 7302250 mi_L_law LPo 1178 [(0, v_r 1012), (1, v_r 0), (2, v_r 50), (3, v_i (j : Int))] [] Lam N 91 11006) : mm_G X 20 600000 7302250 mi_L_law LPo 367 [(0, v_r 1012), (1, v_r 0), (2, v_r 50), (3, v_i (j : Int))] [] Lam M 91 11006 := by
  refine mm_aload_n (mm_dc od_L_law_3 7 rfl) rfl ?_
  refine mm_aload_n (mm_dc od_L_law_3 8 rfl) rfl ?_
  refine mm_iload_n (mm_dc od_L_law_3 9 rfl) rfl ?_
  refine mm_iconst (mm_dc od_L_law_3 10 rfl) ?_
  refine mm_iadd (mm_dc od_L_law_3 11 rfl) ?_
  refine mm_aldX (mm_dc od_L_law_3 12 rfl) (by first | assumption | omega | exact hx _) (by first | assumption | omega | exact hx _) (by first | assumption | omega | exact hx _) ?_
  refine mm_aload_n (mm_dc od_L_law_3 13 rfl) rfl ?_
  refine mm_iload_n (mm_dc od_L_law_3 14 rfl) rfl ?_
  refine mm_iconst (mm_dc od_L_law_3 15 rfl) ?_
  refine mm_iadd (mm_dc od_L_law_3 16 rfl) ?_
  refine mm_aldX (mm_dc od_L_law_3 17 rfl) (by first | assumption | omega | exact hx _) (by first | assumption | omega | exact hx _) (by first | assumption | omega | exact hx _) ?_
  obtain ⟨PX, hx1, hm0⟩ := (pair_about hI (X.2 (Int.toNat ((j : Int) + 1))) (X.2 (Int.toNat ((j : Int) + 2))) (hx _) (hx _)).to2
  refine mm_callV (b := 0) (mi' := mi_X9_about) [v_i (X.2 (Int.toNat ((j : Int) + 1))), v_i (X.2 (Int.toNat ((j : Int) + 2)))] [] (mm_dc od_L_law_3 18 rfl) rfl wd_2_143 wd_2_144 wd_2_145 wd_1_1 wd_2_146 yk_X9_about rfl rfl rfl (Nat.le_of_ble_eq_true rfl) rfl (by decide) (hx1 X 7 _ (fun a MX hPX => ⟨Nat.le_refl _, ?_⟩))
  obtain ⟨ha, hal, hm1⟩ := hm0 a MX hPX
  have ha2 := ha rfl
  refine mm_aload_n (mm_dc od_L_law_3 19 rfl) rfl ?_
  refine mm_aload_n (mm_dc od_L_law_3 20 rfl) rfl ?_
  refine mm_iload_n (mm_dc od_L_law_3 21 rfl) rfl ?_
  refine mm_iconst (mm_dc od_L_law_3 22 rfl) ?_
  refine mm_iadd (mm_dc od_L_law_3 23 rfl) ?_
  refine mm_aldX (mm_dc od_L_law_3 24 rfl) (by first | assumption | omega | exact hx _) (by first | assumption | omega | exact hx _) (by first | assumption | omega | exact hx _) ?_
  refine mm_aload_n (mm_dc od_L_law_3 25 rfl) rfl ?_
  refine mm_iload_n (mm_dc od_L_law_3 26 rfl) rfl ?_
  refine mm_iconst (mm_dc od_L_law_3 27 rfl) ?_
  refine mm_iadd (mm_dc od_L_law_3 28 rfl) ?_
  refine mm_aldX (mm_dc od_L_law_3 29 rfl) (by first | assumption | omega | exact hx _) (by first | assumption | omega | exact hx _) (by first | assumption | omega | exact hx _) ?_
  refine mm_callV (b := 50) (mi' := mi_X10_about) [v_i (X.2 (Int.toNat ((j : Int) + 1))), v_i (X.2 (Int.toNat ((j : Int) + 2)))] [v_i a] (mm_dc od_L_law_3 30 rfl) rfl wd_5_83 wd_5_84 wd_5_85 wd_1_12 wd_5_86 yk_X10_about rfl rfl rfl (Nat.le_of_ble_eq_true rfl) rfl (by decide) (hm1 X 7 _ (fun MM hI2 => ⟨Nat.le_refl _, ?_⟩))
  refine mm_icmp_eq 1178 (mm_dc od_L_law_3 31 rfl) (by omega) (by first | assumption | omega | exact hx _) (by first | assumption | omega | exact hx _) (fun c1 => ?_) (fun c1 => ?_)
  · exact K MM hI2
  · refine mm_iconst (mm_dc od_L_law_3 32 rfl) ?_
    refine mm_zret .boolean (mm_dc od_L_law_3 33 rfl) rfl rfl ?_
    first | exact absurd (rfl : a = a) (by assumption) | (have q := mm_cmp_is a a; omega)
theorem law_6 {X : Nat × (Nat → Int)} {M : mm_M} (hx : ∀ i, mm_r32 (X.2 i)) (hX : X.1 ≤ 2560) (hI : inv M) (j : Nat) (hj : (j : Int) ≤ X.1 - 5) (K : ∀ N, inv N → mm_G X 20 600000 7302250 mi_L_law LPo 1178 [(0, v_r 1012), (1, v_r 0), (2, v_r 50), (3, v_i (j : Int))] [] Lam N 91 11006) : mm_G X 20 600000 7302250 mi_L_law LPo 400 [(0, v_r 1012), (1, v_r 0), (2, v_r 50), (3, v_i (j : Int))] [] Lam M 91 11006 := by
  refine mm_aload_n (mm_dc od_L_law_3 34 rfl) rfl ?_
  refine mm_aload_n (mm_dc od_L_law_3 35 rfl) rfl ?_
  refine mm_iload_n (mm_dc od_L_law_3 36 rfl) rfl ?_
  refine mm_iconst (mm_dc od_L_law_3 37 rfl) ?_
  refine mm_iadd (mm_dc od_L_law_3 38 rfl) ?_
  refine mm_aldX (mm_dc od_L_law_3 39 rfl) (by first | assumption | omega | exact hx _) (by first | assumption | omega | exact hx _) (by first | assumption | omega | exact hx _) ?_
  refine mm_aload_n (mm_dc od_L_law_3 40 rfl) rfl ?_
  refine mm_iload_n (mm_dc od_L_law_3 41 rfl) rfl ?_
  refine mm_iconst (mm_dc od_L_law_3 42 rfl) ?_
  refine mm_iadd (mm_dc od_L_law_3 43 rfl) ?_
  refine mm_aldX (mm_dc od_L_law_3 44 rfl) (by first | assumption | omega | exact hx _) (by first | assumption | omega | exact hx _) (by first | assumption | omega | exact hx _) ?_
  refine mm_aload_n (mm_dc od_L_law_3 45 rfl) rfl ?_
  refine mm_iload_n (mm_dc od_L_law_3 46 rfl) rfl ?_
  refine mm_iconst (mm_dc od_L_law_3 47 rfl) ?_
  refine mm_iadd (mm_dc od_L_law_3 48 rfl) ?_
  refine mm_aldX (mm_dc od_L_law_3 49 rfl) (by first | assumption | omega | exact hx _) (by first | assumption | omega | exact hx _) (by first | assumption | omega | exact hx _) ?_
  obtain ⟨PX, hx1, hm0⟩ := (pair_race hI (X.2 (Int.toNat ((j : Int) + 1))) (X.2 (Int.toNat ((j : Int) + 2))) (X.2 (Int.toNat ((j : Int) + 3))) (hx _) (hx _) (hx _)).to2
  refine mm_callV (b := 0) (mi' := mi_X9_race) [v_i (X.2 (Int.toNat ((j : Int) + 1))), v_i (X.2 (Int.toNat ((j : Int) + 2))), v_i (X.2 (Int.toNat ((j : Int) + 3)))] [] (mm_dc od_L_law_3 50 rfl) rfl wd_2_147 wd_2_148 wd_2_149 wd_1_1 wd_2_150 yk_X9_race rfl rfl rfl (Nat.le_of_ble_eq_true rfl) rfl (by decide) (hx1 X 7 _ (fun a MX hPX => ⟨Nat.le_refl _, ?_⟩))
  obtain ⟨ha, hal, hm1⟩ := hm0 a MX hPX
  have ha2 := ha rfl
  refine mm_aload_n (mm_dc od_L_law_3 51 rfl) rfl ?_
  refine mm_aload_n (mm_dc od_L_law_3 52 rfl) rfl ?_
  refine mm_iload_n (mm_dc od_L_law_3 53 rfl) rfl ?_
  refine mm_iconst (mm_dc od_L_law_3 54 rfl) ?_
  refine mm_iadd (mm_dc od_L_law_3 55 rfl) ?_
  refine mm_aldX (mm_dc od_L_law_3 56 rfl) (by first | assumption | omega | exact hx _) (by first | assumption | omega | exact hx _) (by first | assumption | omega | exact hx _) ?_
  refine mm_aload_n (mm_dc od_L_law_3 57 rfl) rfl ?_
  refine mm_iload_n (mm_dc od_L_law_3 58 rfl) rfl ?_
  refine mm_iconst (mm_dc od_L_law_3 59 rfl) ?_
  refine mm_iadd (mm_dc od_L_law_4 0 rfl) ?_
  refine mm_aldX (mm_dc od_L_law_4 1 rfl) (by first | assumption | omega | exact hx _) (by first | assumption | omega | exact hx _) (by first | assumption | omega | exact hx _) ?_
  refine mm_aload_n (mm_dc od_L_law_4 2 rfl) rfl ?_
  refine mm_iload_n (mm_dc od_L_law_4 3 rfl) rfl ?_
  refine mm_iconst (mm_dc od_L_law_4 4 rfl) ?_
  refine mm_iadd (mm_dc od_L_law_4 5 rfl) ?_
  refine mm_aldX (mm_dc od_L_law_4 6 rfl) (by first | assumption | omega | exact hx _) (by first | assumption | omega | exact hx _) (by first | assumption | omega | exact hx _) ?_
  refine mm_callV (b := 50) (mi' := mi_X10_race) [v_i (X.2 (Int.toNat ((j : Int) + 1))), v_i (X.2 (Int.toNat ((j : Int) + 2))), v_i (X.2 (Int.toNat ((j : Int) + 3)))] [v_i a] (mm_dc od_L_law_4 7 rfl) rfl wd_5_87 wd_5_88 wd_5_89 wd_1_12 wd_5_90 yk_X10_race rfl rfl rfl (Nat.le_of_ble_eq_true rfl) rfl (by decide) (hm1 X 7 _ (fun MM hI2 => ⟨Nat.le_refl _, ?_⟩))
  refine mm_icmp_eq 1178 (mm_dc od_L_law_4 8 rfl) (by omega) (by first | assumption | omega | exact hx _) (by first | assumption | omega | exact hx _) (fun c1 => ?_) (fun c1 => ?_)
  · exact K MM hI2
  · refine mm_iconst (mm_dc od_L_law_4 9 rfl) ?_
    refine mm_zret .boolean (mm_dc od_L_law_4 10 rfl) rfl rfl ?_
    first | exact absurd (rfl : a = a) (by assumption) | (have q := mm_cmp_is a a; omega)
theorem law_7 {X : Nat × (Nat → Int)} {M : mm_M} (hx : ∀ i, mm_r32 (X.2 i)) (hX : X.1 ≤ 2560) (hI : inv M) (j : Nat) (hj : (j : Int) ≤ X.1 - 5) (K : ∀ N, inv N → mm_G X 20 600000 7302250 mi_L_law LPo 1178 [(0, v_r 1012), (1, v_r 0), (2, v_r 50), (3, v_i (j : Int))] [] Lam N 91 11006) : mm_G X 20 600000 7302250 mi_L_law LPo 443 [(0, v_r 1012), (1, v_r 0), (2, v_r 50), (3, v_i (j : Int))] [] Lam M 91 11006 := by
  refine mm_aload_n (mm_dc od_L_law_4 11 rfl) rfl ?_
  obtain ⟨PX, hx1, hm0⟩ := (pair_unrace hI  ).to2
  refine mm_callV (b := 0) (mi' := mi_X9_unrace) [] [] (mm_dc od_L_law_4 12 rfl) rfl wd_2_155 wd_2_156 wd_2_157 wd_1_1 wd_2_158 yk_X9_unrace rfl rfl rfl (Nat.le_of_ble_eq_true rfl) rfl (by decide) (hx1 X 7 _ (fun a MX hPX => ⟨Nat.le_refl _, ?_⟩))
  obtain ⟨ha, hal, hm1⟩ := hm0 a MX hPX
  have ha2 := ha rfl
  refine mm_aload_n (mm_dc od_L_law_4 13 rfl) rfl ?_
  refine mm_callV (b := 50) (mi' := mi_X10_unrace) [] [v_i a] (mm_dc od_L_law_4 14 rfl) rfl wd_5_93 wd_5_94 wd_5_95 wd_1_12 wd_5_96 yk_X10_unrace rfl rfl rfl (Nat.le_of_ble_eq_true rfl) rfl (by decide) (hm1 X 7 _ (fun MM hI2 => ⟨Nat.le_refl _, ?_⟩))
  refine mm_icmp_eq 1178 (mm_dc od_L_law_4 15 rfl) (by omega) (by first | assumption | omega | exact hx _) (by first | assumption | omega | exact hx _) (fun c1 => ?_) (fun c1 => ?_)
  · exact K MM hI2
  · refine mm_iconst (mm_dc od_L_law_4 16 rfl) ?_
    refine mm_zret .boolean (mm_dc od_L_law_4 17 rfl) rfl rfl ?_
    first | exact absurd (rfl : a = a) (by assumption) | (have q := mm_cmp_is a a; omega)
theorem law_8 {X : Nat × (Nat → Int)} {M : mm_M} (hx : ∀ i, mm_r32 (X.2 i)) (hX : X.1 ≤ 2560) (hI : inv M) (j : Nat) (hj : (j : Int) ≤ X.1 - 5) (K : ∀ N, inv N → mm_G X 20 600000 7302250 mi_L_law LPo 1178 [(0, v_r 1012), (1, v_r 0), (2, v_r 50), (3, v_i (j : Int))] [] Lam N 91 11006) : mm_G X 20 600000 7302250 mi_L_law LPo 456 [(0, v_r 1012), (1, v_r 0), (2, v_r 50), (3, v_i (j : Int))] [] Lam M 91 11006 := by
  refine mm_aload_n (mm_dc od_L_law_4 18 rfl) rfl ?_
  refine mm_aload_n (mm_dc od_L_law_4 19 rfl) rfl ?_
  refine mm_iload_n (mm_dc od_L_law_4 20 rfl) rfl ?_
  refine mm_iconst (mm_dc od_L_law_4 21 rfl) ?_
  refine mm_iadd (mm_dc od_L_law_4 22 rfl) ?_
  refine mm_aldX (mm_dc od_L_law_4 23 rfl) (by first | assumption | omega | exact hx _) (by first | assumption | omega | exact hx _) (by first | assumption | omega | exact hx _) ?_
  obtain ⟨PX, hx1, hm0⟩ := pair_group hI (X.2 (Int.toNat ((j : Int) + 1))) (hx _)
  refine mm_callV (b := 0) (mi' := mi_X9_group) [v_i (X.2 (Int.toNat ((j : Int) + 1)))] [] (mm_dc od_L_law_4 24 rfl) rfl wd_2_159 wd_2_160 wd_2_161 wd_1_1 wd_2_162 yk_X9_group rfl rfl rfl (Nat.le_of_ble_eq_true rfl) rfl (by decide) (hx1 X 7 _ (fun a MX hPX => ⟨Nat.le_refl _, ?_⟩))
  obtain ⟨ha, hal, hm1⟩ := hm0 a MX hPX
  have ha2 := ha rfl
  refine mm_aload_n (mm_dc od_L_law_4 25 rfl) rfl ?_
  refine mm_aload_n (mm_dc od_L_law_4 26 rfl) rfl ?_
  refine mm_iload_n (mm_dc od_L_law_4 27 rfl) rfl ?_
  refine mm_iconst (mm_dc od_L_law_4 28 rfl) ?_
  refine mm_iadd (mm_dc od_L_law_4 29 rfl) ?_
  refine mm_aldX (mm_dc od_L_law_4 30 rfl) (by first | assumption | omega | exact hx _) (by first | assumption | omega | exact hx _) (by first | assumption | omega | exact hx _) ?_
  refine mm_callV (b := 50) (mi' := mi_X10_group) [v_i (X.2 (Int.toNat ((j : Int) + 1)))] [v_i a] (mm_dc od_L_law_4 31 rfl) rfl wd_5_97 wd_5_98 wd_5_99 wd_1_12 wd_5_100 yk_X10_group rfl rfl rfl (Nat.le_of_ble_eq_true rfl) rfl (by decide) (hm1 X 7 _ (fun MM hI2 => ⟨Nat.le_refl _, ?_⟩))
  refine mm_icmp_eq 1178 (mm_dc od_L_law_4 32 rfl) (by omega) (by first | assumption | omega | exact hx _) (by first | assumption | omega | exact hx _) (fun c1 => ?_) (fun c1 => ?_)
  · exact K MM hI2
  · refine mm_iconst (mm_dc od_L_law_4 33 rfl) ?_
    refine mm_zret .boolean (mm_dc od_L_law_4 34 rfl) rfl rfl ?_
    first | exact absurd (rfl : a = a) (by assumption) | (have q := mm_cmp_is a a; omega)
theorem law_9 {X : Nat × (Nat → Int)} {M : mm_M} (hx : ∀ i, mm_r32 (X.2 i)) (hX : X.1 ≤ 2560) (hI : inv M) (j : Nat) (hj : (j : Int) ≤ X.1 - 5) (K : ∀ N, inv N → mm_G X 20 600000 7302250 mi_L_law LPo 1178 [(0, v_r 1012), (1, v_r 0), (2, v_r 50), (3, v_i (j : Int))] [] Lam N 91 11006) : mm_G X 20 600000 7302250 mi_L_law LPo 479 [(0, v_r 1012), (1, v_r 0), (2, v_r 50), (3, v_i (j : Int))] [] Lam M 91 11006 := by
  refine mm_aload_n (mm_dc od_L_law_4 35 rfl) rfl ?_
  refine mm_aload_n (mm_dc od_L_law_4 36 rfl) rfl ?_
  refine mm_iload_n (mm_dc od_L_law_4 37 rfl) rfl ?_
  refine mm_iconst (mm_dc od_L_law_4 38 rfl) ?_
  refine mm_iadd (mm_dc od_L_law_4 39 rfl) ?_
  refine mm_aldX (mm_dc od_L_law_4 40 rfl) (by first | assumption | omega | exact hx _) (by first | assumption | omega | exact hx _) (by first | assumption | omega | exact hx _) ?_
  refine mm_aload_n (mm_dc od_L_law_4 41 rfl) rfl ?_
  refine mm_iload_n (mm_dc od_L_law_4 42 rfl) rfl ?_
  refine mm_iconst (mm_dc od_L_law_4 43 rfl) ?_
  refine mm_iadd (mm_dc od_L_law_4 44 rfl) ?_
  refine mm_aldX (mm_dc od_L_law_4 45 rfl) (by first | assumption | omega | exact hx _) (by first | assumption | omega | exact hx _) (by first | assumption | omega | exact hx _) ?_
  obtain ⟨PX, hx1, hm0⟩ := pair_strength hI (X.2 (Int.toNat ((j : Int) + 1))) (X.2 (Int.toNat ((j : Int) + 2))) (hx _) (hx _)
  refine mm_callV (b := 0) (mi' := mi_X9_strength) [v_i (X.2 (Int.toNat ((j : Int) + 1))), v_i (X.2 (Int.toNat ((j : Int) + 2)))] [] (mm_dc od_L_law_4 46 rfl) rfl wd_2_173 wd_2_174 wd_2_175 wd_1_1 wd_2_176 yk_X9_strength rfl rfl rfl (Nat.le_of_ble_eq_true rfl) rfl (by decide) (hx1 X 7 _ (fun a MX hPX => ⟨Nat.le_refl _, ?_⟩))
  obtain ⟨ha, hal, hm1⟩ := hm0 a MX hPX
  have ha2 := hal rfl
  refine mm_aload_n (mm_dc od_L_law_4 47 rfl) rfl ?_
  refine mm_aload_n (mm_dc od_L_law_4 48 rfl) rfl ?_
  refine mm_iload_n (mm_dc od_L_law_4 49 rfl) rfl ?_
  refine mm_iconst (mm_dc od_L_law_4 50 rfl) ?_
  refine mm_iadd (mm_dc od_L_law_4 51 rfl) ?_
  refine mm_aldX (mm_dc od_L_law_4 52 rfl) (by first | assumption | omega | exact hx _) (by first | assumption | omega | exact hx _) (by first | assumption | omega | exact hx _) ?_
  refine mm_aload_n (mm_dc od_L_law_4 53 rfl) rfl ?_
  refine mm_iload_n (mm_dc od_L_law_4 54 rfl) rfl ?_
  refine mm_iconst (mm_dc od_L_law_4 55 rfl) ?_
  refine mm_iadd (mm_dc od_L_law_4 56 rfl) ?_
  refine mm_aldX (mm_dc od_L_law_4 57 rfl) (by first | assumption | omega | exact hx _) (by first | assumption | omega | exact hx _) (by first | assumption | omega | exact hx _) ?_
  refine mm_callV (b := 50) (mi' := mi_X10_strength) [v_i (X.2 (Int.toNat ((j : Int) + 1))), v_i (X.2 (Int.toNat ((j : Int) + 2)))] [v_l a] (mm_dc od_L_law_4 58 rfl) rfl wd_5_105 wd_5_106 wd_5_107 wd_1_12 wd_5_108 yk_X10_strength rfl rfl rfl (Nat.le_of_ble_eq_true rfl) rfl (by decide) (hm1 X 7 _ (fun MM hI2 => ⟨Nat.le_refl _, ?_⟩))
  refine mm_lcmp (mm_dc od_L_law_4 59 rfl) (by first | assumption | omega | exact hx _) (by first | assumption | omega | exact hx _) ?_
  have qc := mm_cmp_is a a
  refine mm_if_eq 1178 (mm_dc od_L_law_5 0 rfl) (by omega) (by first | assumption | omega | exact hx _) (fun c1 => ?_) (fun c1 => ?_)
  · exact K MM hI2
  · refine mm_iconst (mm_dc od_L_law_5 1 rfl) ?_
    refine mm_zret .boolean (mm_dc od_L_law_5 2 rfl) rfl rfl ?_
    first | exact absurd (rfl : a = a) (by assumption) | (have q := mm_cmp_is a a; omega)
theorem law_10 {X : Nat × (Nat → Int)} {M : mm_M} (hx : ∀ i, mm_r32 (X.2 i)) (hX : X.1 ≤ 2560) (hI : inv M) (j : Nat) (hj : (j : Int) ≤ X.1 - 5) (K : ∀ N, inv N → mm_G X 20 600000 7302250 mi_L_law LPo 1178 [(0, v_r 1012), (1, v_r 0), (2, v_r 50), (3, v_i (j : Int))] [] Lam N 91 11006) : mm_G X 20 600000 7302250 mi_L_law LPo 513 [(0, v_r 1012), (1, v_r 0), (2, v_r 50), (3, v_i (j : Int))] [] Lam M 91 11006 := by
  refine mm_aload_n (mm_dc od_L_law_5 3 rfl) rfl ?_
  refine mm_aload_n (mm_dc od_L_law_5 4 rfl) rfl ?_
  refine mm_iload_n (mm_dc od_L_law_5 5 rfl) rfl ?_
  refine mm_iconst (mm_dc od_L_law_5 6 rfl) ?_
  refine mm_iadd (mm_dc od_L_law_5 7 rfl) ?_
  refine mm_aldX (mm_dc od_L_law_5 8 rfl) (by first | assumption | omega | exact hx _) (by first | assumption | omega | exact hx _) (by first | assumption | omega | exact hx _) ?_
  refine mm_aload_n (mm_dc od_L_law_5 9 rfl) rfl ?_
  refine mm_iload_n (mm_dc od_L_law_5 10 rfl) rfl ?_
  refine mm_iconst (mm_dc od_L_law_5 11 rfl) ?_
  refine mm_iadd (mm_dc od_L_law_5 12 rfl) ?_
  refine mm_aldX (mm_dc od_L_law_5 13 rfl) (by first | assumption | omega | exact hx _) (by first | assumption | omega | exact hx _) (by first | assumption | omega | exact hx _) ?_
  refine mm_aload_n (mm_dc od_L_law_5 14 rfl) rfl ?_
  refine mm_iload_n (mm_dc od_L_law_5 15 rfl) rfl ?_
  refine mm_iconst (mm_dc od_L_law_5 16 rfl) ?_
  refine mm_iadd (mm_dc od_L_law_5 17 rfl) ?_
  refine mm_aldX (mm_dc od_L_law_5 18 rfl) (by first | assumption | omega | exact hx _) (by first | assumption | omega | exact hx _) (by first | assumption | omega | exact hx _) ?_
  obtain ⟨PX, hx1, hm0⟩ := pair_between hI (X.2 (Int.toNat ((j : Int) + 1))) (X.2 (Int.toNat ((j : Int) + 2))) (X.2 (Int.toNat ((j : Int) + 3))) (hx _) (hx _) (hx _)
  refine mm_callV (b := 0) (mi' := mi_X9_between) [v_i (X.2 (Int.toNat ((j : Int) + 1))), v_i (X.2 (Int.toNat ((j : Int) + 2))), v_i (X.2 (Int.toNat ((j : Int) + 3)))] [] (mm_dc od_L_law_5 19 rfl) rfl wd_2_221 wd_2_222 wd_2_223 wd_1_1 wd_2_224 yk_X9_between rfl rfl rfl (Nat.le_of_ble_eq_true rfl) rfl (by decide) (hx1 X 7 _ (fun a MX hPX => ⟨Nat.le_refl _, ?_⟩))
  obtain ⟨ha, hal, hm1⟩ := hm0 a MX hPX
  have ha2 := hal rfl
  refine mm_aload_n (mm_dc od_L_law_5 20 rfl) rfl ?_
  refine mm_aload_n (mm_dc od_L_law_5 21 rfl) rfl ?_
  refine mm_iload_n (mm_dc od_L_law_5 22 rfl) rfl ?_
  refine mm_iconst (mm_dc od_L_law_5 23 rfl) ?_
  refine mm_iadd (mm_dc od_L_law_5 24 rfl) ?_
  refine mm_aldX (mm_dc od_L_law_5 25 rfl) (by first | assumption | omega | exact hx _) (by first | assumption | omega | exact hx _) (by first | assumption | omega | exact hx _) ?_
  refine mm_aload_n (mm_dc od_L_law_5 26 rfl) rfl ?_
  refine mm_iload_n (mm_dc od_L_law_5 27 rfl) rfl ?_
  refine mm_iconst (mm_dc od_L_law_5 28 rfl) ?_
  refine mm_iadd (mm_dc od_L_law_5 29 rfl) ?_
  refine mm_aldX (mm_dc od_L_law_5 30 rfl) (by first | assumption | omega | exact hx _) (by first | assumption | omega | exact hx _) (by first | assumption | omega | exact hx _) ?_
  refine mm_aload_n (mm_dc od_L_law_5 31 rfl) rfl ?_
  refine mm_iload_n (mm_dc od_L_law_5 32 rfl) rfl ?_
  refine mm_iconst (mm_dc od_L_law_5 33 rfl) ?_
  refine mm_iadd (mm_dc od_L_law_5 34 rfl) ?_
  refine mm_aldX (mm_dc od_L_law_5 35 rfl) (by first | assumption | omega | exact hx _) (by first | assumption | omega | exact hx _) (by first | assumption | omega | exact hx _) ?_
  refine mm_callV (b := 50) (mi' := mi_X10_between) [v_i (X.2 (Int.toNat ((j : Int) + 1))), v_i (X.2 (Int.toNat ((j : Int) + 2))), v_i (X.2 (Int.toNat ((j : Int) + 3)))] [v_l a] (mm_dc od_L_law_5 36 rfl) rfl wd_5_131 wd_5_132 wd_5_133 wd_1_12 wd_5_134 yk_X10_between rfl rfl rfl (Nat.le_of_ble_eq_true rfl) rfl (by decide) (hm1 X 7 _ (fun MM hI2 => ⟨Nat.le_refl _, ?_⟩))
  refine mm_lcmp (mm_dc od_L_law_5 37 rfl) (by first | assumption | omega | exact hx _) (by first | assumption | omega | exact hx _) ?_
  have qc := mm_cmp_is a a
  refine mm_if_eq 1178 (mm_dc od_L_law_5 38 rfl) (by omega) (by first | assumption | omega | exact hx _) (fun c1 => ?_) (fun c1 => ?_)
  · exact K MM hI2
  · refine mm_iconst (mm_dc od_L_law_5 39 rfl) ?_
    refine mm_zret .boolean (mm_dc od_L_law_5 40 rfl) rfl rfl ?_
    first | exact absurd (rfl : a = a) (by assumption) | (have q := mm_cmp_is a a; omega)
theorem law_11 {X : Nat × (Nat → Int)} {M : mm_M} (hx : ∀ i, mm_r32 (X.2 i)) (hX : X.1 ≤ 2560) (hI : inv M) (j : Nat) (hj : (j : Int) ≤ X.1 - 5) (K : ∀ N, inv N → mm_G X 20 600000 7302250 mi_L_law LPo 1178 [(0, v_r 1012), (1, v_r 0), (2, v_r 50), (3, v_i (j : Int))] [] Lam N 91 11006) : mm_G X 20 600000 7302250 mi_L_law LPo 557 [(0, v_r 1012), (1, v_r 0), (2, v_r 50), (3, v_i (j : Int))] [] Lam M 91 11006 := by
  refine mm_aload_n (mm_dc od_L_law_5 41 rfl) rfl ?_
  refine mm_aload_n (mm_dc od_L_law_5 42 rfl) rfl ?_
  refine mm_iload_n (mm_dc od_L_law_5 43 rfl) rfl ?_
  refine mm_iconst (mm_dc od_L_law_5 44 rfl) ?_
  refine mm_iadd (mm_dc od_L_law_5 45 rfl) ?_
  refine mm_aldX (mm_dc od_L_law_5 46 rfl) (by first | assumption | omega | exact hx _) (by first | assumption | omega | exact hx _) (by first | assumption | omega | exact hx _) ?_
  refine mm_aload_n (mm_dc od_L_law_5 47 rfl) rfl ?_
  refine mm_iload_n (mm_dc od_L_law_5 48 rfl) rfl ?_
  refine mm_iconst (mm_dc od_L_law_5 49 rfl) ?_
  refine mm_iadd (mm_dc od_L_law_5 50 rfl) ?_
  refine mm_aldX (mm_dc od_L_law_5 51 rfl) (by first | assumption | omega | exact hx _) (by first | assumption | omega | exact hx _) (by first | assumption | omega | exact hx _) ?_
  obtain ⟨PX, hx1, hm0⟩ := pair_misfit hI (X.2 (Int.toNat ((j : Int) + 1))) (X.2 (Int.toNat ((j : Int) + 2))) (hx _) (hx _)
  refine mm_callV (b := 0) (mi' := mi_X9_misfit) [v_i (X.2 (Int.toNat ((j : Int) + 1))), v_i (X.2 (Int.toNat ((j : Int) + 2)))] [] (mm_dc od_L_law_5 52 rfl) rfl wd_2_225 wd_2_226 wd_2_227 wd_1_1 wd_2_228 yk_X9_misfit rfl rfl rfl (Nat.le_of_ble_eq_true rfl) rfl (by decide) (hx1 X 7 _ (fun a MX hPX => ⟨Nat.le_refl _, ?_⟩))
  obtain ⟨ha, hal, hm1⟩ := hm0 a MX hPX
  have ha2 := hal rfl
  refine mm_aload_n (mm_dc od_L_law_5 53 rfl) rfl ?_
  refine mm_aload_n (mm_dc od_L_law_5 54 rfl) rfl ?_
  refine mm_iload_n (mm_dc od_L_law_5 55 rfl) rfl ?_
  refine mm_iconst (mm_dc od_L_law_5 56 rfl) ?_
  refine mm_iadd (mm_dc od_L_law_5 57 rfl) ?_
  refine mm_aldX (mm_dc od_L_law_5 58 rfl) (by first | assumption | omega | exact hx _) (by first | assumption | omega | exact hx _) (by first | assumption | omega | exact hx _) ?_
  refine mm_aload_n (mm_dc od_L_law_5 59 rfl) rfl ?_
  refine mm_iload_n (mm_dc od_L_law_6 0 rfl) rfl ?_
  refine mm_iconst (mm_dc od_L_law_6 1 rfl) ?_
  refine mm_iadd (mm_dc od_L_law_6 2 rfl) ?_
  refine mm_aldX (mm_dc od_L_law_6 3 rfl) (by first | assumption | omega | exact hx _) (by first | assumption | omega | exact hx _) (by first | assumption | omega | exact hx _) ?_
  refine mm_callV (b := 50) (mi' := mi_X10_misfit) [v_i (X.2 (Int.toNat ((j : Int) + 1))), v_i (X.2 (Int.toNat ((j : Int) + 2)))] [v_l a] (mm_dc od_L_law_6 4 rfl) rfl wd_5_135 wd_5_136 wd_5_137 wd_1_12 wd_5_138 yk_X10_misfit rfl rfl rfl (Nat.le_of_ble_eq_true rfl) rfl (by decide) (hm1 X 7 _ (fun MM hI2 => ⟨Nat.le_refl _, ?_⟩))
  refine mm_lcmp (mm_dc od_L_law_6 5 rfl) (by first | assumption | omega | exact hx _) (by first | assumption | omega | exact hx _) ?_
  have qc := mm_cmp_is a a
  refine mm_if_eq 1178 (mm_dc od_L_law_6 6 rfl) (by omega) (by first | assumption | omega | exact hx _) (fun c1 => ?_) (fun c1 => ?_)
  · exact K MM hI2
  · refine mm_iconst (mm_dc od_L_law_6 7 rfl) ?_
    refine mm_zret .boolean (mm_dc od_L_law_6 8 rfl) rfl rfl ?_
    first | exact absurd (rfl : a = a) (by assumption) | (have q := mm_cmp_is a a; omega)
theorem law_12 {X : Nat × (Nat → Int)} {M : mm_M} (hx : ∀ i, mm_r32 (X.2 i)) (hX : X.1 ≤ 2560) (hI : inv M) (j : Nat) (hj : (j : Int) ≤ X.1 - 5) (K : ∀ N, inv N → mm_G X 20 600000 7302250 mi_L_law LPo 1178 [(0, v_r 1012), (1, v_r 0), (2, v_r 50), (3, v_i (j : Int))] [] Lam N 91 11006) : mm_G X 20 600000 7302250 mi_L_law LPo 591 [(0, v_r 1012), (1, v_r 0), (2, v_r 50), (3, v_i (j : Int))] [] Lam M 91 11006 := by
  refine mm_aload_n (mm_dc od_L_law_6 9 rfl) rfl ?_
  refine mm_aload_n (mm_dc od_L_law_6 10 rfl) rfl ?_
  refine mm_iload_n (mm_dc od_L_law_6 11 rfl) rfl ?_
  refine mm_iconst (mm_dc od_L_law_6 12 rfl) ?_
  refine mm_iadd (mm_dc od_L_law_6 13 rfl) ?_
  refine mm_aldX (mm_dc od_L_law_6 14 rfl) (by first | assumption | omega | exact hx _) (by first | assumption | omega | exact hx _) (by first | assumption | omega | exact hx _) ?_
  refine mm_aload_n (mm_dc od_L_law_6 15 rfl) rfl ?_
  refine mm_iload_n (mm_dc od_L_law_6 16 rfl) rfl ?_
  refine mm_iconst (mm_dc od_L_law_6 17 rfl) ?_
  refine mm_iadd (mm_dc od_L_law_6 18 rfl) ?_
  refine mm_aldX (mm_dc od_L_law_6 19 rfl) (by first | assumption | omega | exact hx _) (by first | assumption | omega | exact hx _) (by first | assumption | omega | exact hx _) ?_
  obtain ⟨PX, hx1, hm0⟩ := (pair_sure hI (X.2 (Int.toNat ((j : Int) + 1))) (X.2 (Int.toNat ((j : Int) + 2))) (hx _) (hx _)).to2
  refine mm_callV (b := 0) (mi' := mi_X9_sure) [v_i (X.2 (Int.toNat ((j : Int) + 1))), v_i (X.2 (Int.toNat ((j : Int) + 2)))] [] (mm_dc od_L_law_6 20 rfl) rfl wd_2_234 wd_2_235 wd_2_236 wd_1_1 wd_2_237 yk_X9_sure rfl rfl rfl (Nat.le_of_ble_eq_true rfl) rfl (by decide) (hx1 X 7 _ (fun a MX hPX => ⟨Nat.le_refl _, ?_⟩))
  obtain ⟨ha, hal, hm1⟩ := hm0 a MX hPX
  have ha2 := ha rfl
  refine mm_aload_n (mm_dc od_L_law_6 21 rfl) rfl ?_
  refine mm_aload_n (mm_dc od_L_law_6 22 rfl) rfl ?_
  refine mm_iload_n (mm_dc od_L_law_6 23 rfl) rfl ?_
  refine mm_iconst (mm_dc od_L_law_6 24 rfl) ?_
  refine mm_iadd (mm_dc od_L_law_6 25 rfl) ?_
  refine mm_aldX (mm_dc od_L_law_6 26 rfl) (by first | assumption | omega | exact hx _) (by first | assumption | omega | exact hx _) (by first | assumption | omega | exact hx _) ?_
  refine mm_aload_n (mm_dc od_L_law_6 27 rfl) rfl ?_
  refine mm_iload_n (mm_dc od_L_law_6 28 rfl) rfl ?_
  refine mm_iconst (mm_dc od_L_law_6 29 rfl) ?_
  refine mm_iadd (mm_dc od_L_law_6 30 rfl) ?_
  refine mm_aldX (mm_dc od_L_law_6 31 rfl) (by first | assumption | omega | exact hx _) (by first | assumption | omega | exact hx _) (by first | assumption | omega | exact hx _) ?_
  refine mm_callV (b := 50) (mi' := mi_X10_sure) [v_i (X.2 (Int.toNat ((j : Int) + 1))), v_i (X.2 (Int.toNat ((j : Int) + 2)))] [v_i a] (mm_dc od_L_law_6 32 rfl) rfl wd_5_139 wd_5_140 wd_5_141 wd_1_12 wd_5_142 yk_X10_sure rfl rfl rfl (Nat.le_of_ble_eq_true rfl) rfl (by decide) (hm1 X 7 _ (fun MM hI2 => ⟨Nat.le_refl _, ?_⟩))
  refine mm_icmp_eq 1178 (mm_dc od_L_law_6 33 rfl) (by omega) (by first | assumption | omega | exact hx _) (by first | assumption | omega | exact hx _) (fun c1 => ?_) (fun c1 => ?_)
  · exact K MM hI2
  · refine mm_iconst (mm_dc od_L_law_6 34 rfl) ?_
    refine mm_zret .boolean (mm_dc od_L_law_6 35 rfl) rfl rfl ?_
    first | exact absurd (rfl : a = a) (by assumption) | (have q := mm_cmp_is a a; omega)
theorem law_13 {X : Nat × (Nat → Int)} {M : mm_M} (hx : ∀ i, mm_r32 (X.2 i)) (hX : X.1 ≤ 2560) (hI : inv M) (j : Nat) (hj : (j : Int) ≤ X.1 - 5) (K : ∀ N, inv N → mm_G X 20 600000 7302250 mi_L_law LPo 1178 [(0, v_r 1012), (1, v_r 0), (2, v_r 50), (3, v_i (j : Int))] [] Lam N 91 11006) : mm_G X 20 600000 7302250 mi_L_law LPo 624 [(0, v_r 1012), (1, v_r 0), (2, v_r 50), (3, v_i (j : Int))] [] Lam M 91 11006 := by
  refine mm_aload_n (mm_dc od_L_law_6 36 rfl) rfl ?_
  refine mm_aload_n (mm_dc od_L_law_6 37 rfl) rfl ?_
  refine mm_iload_n (mm_dc od_L_law_6 38 rfl) rfl ?_
  refine mm_iconst (mm_dc od_L_law_6 39 rfl) ?_
  refine mm_iadd (mm_dc od_L_law_6 40 rfl) ?_
  refine mm_aldX (mm_dc od_L_law_6 41 rfl) (by first | assumption | omega | exact hx _) (by first | assumption | omega | exact hx _) (by first | assumption | omega | exact hx _) ?_
  refine mm_aload_n (mm_dc od_L_law_6 42 rfl) rfl ?_
  refine mm_iload_n (mm_dc od_L_law_6 43 rfl) rfl ?_
  refine mm_iconst (mm_dc od_L_law_6 44 rfl) ?_
  refine mm_iadd (mm_dc od_L_law_6 45 rfl) ?_
  refine mm_aldX (mm_dc od_L_law_6 46 rfl) (by first | assumption | omega | exact hx _) (by first | assumption | omega | exact hx _) (by first | assumption | omega | exact hx _) ?_
  refine mm_aload_n (mm_dc od_L_law_6 47 rfl) rfl ?_
  refine mm_iload_n (mm_dc od_L_law_6 48 rfl) rfl ?_
  refine mm_iconst (mm_dc od_L_law_6 49 rfl) ?_
  refine mm_iadd (mm_dc od_L_law_6 50 rfl) ?_
  refine mm_aldX (mm_dc od_L_law_6 51 rfl) (by first | assumption | omega | exact hx _) (by first | assumption | omega | exact hx _) (by first | assumption | omega | exact hx _) ?_
  obtain ⟨PX, hx1, hm0⟩ := pair_crew hI (X.2 (Int.toNat ((j : Int) + 1))) (X.2 (Int.toNat ((j : Int) + 2))) (X.2 (Int.toNat ((j : Int) + 3))) (hx _) (hx _) (hx _)
  refine mm_callV (b := 0) (mi' := mi_X9_crew) [v_i (X.2 (Int.toNat ((j : Int) + 1))), v_i (X.2 (Int.toNat ((j : Int) + 2))), v_i (X.2 (Int.toNat ((j : Int) + 3)))] [] (mm_dc od_L_law_6 52 rfl) rfl wd_3_6 wd_3_7 wd_3_8 wd_1_1 wd_3_9 yk_X9_crew rfl rfl rfl (Nat.le_of_ble_eq_true rfl) rfl (by decide) (hx1 X 7 _ (fun a MX hPX => ⟨Nat.le_refl _, ?_⟩))
  obtain ⟨ha, hal, hm1⟩ := hm0 a MX hPX
  have ha2 := ha rfl
  refine mm_aload_n (mm_dc od_L_law_6 53 rfl) rfl ?_
  refine mm_aload_n (mm_dc od_L_law_6 54 rfl) rfl ?_
  refine mm_iload_n (mm_dc od_L_law_6 55 rfl) rfl ?_
  refine mm_iconst (mm_dc od_L_law_6 56 rfl) ?_
  refine mm_iadd (mm_dc od_L_law_6 57 rfl) ?_
  refine mm_aldX (mm_dc od_L_law_6 58 rfl) (by first | assumption | omega | exact hx _) (by first | assumption | omega | exact hx _) (by first | assumption | omega | exact hx _) ?_
  refine mm_aload_n (mm_dc od_L_law_6 59 rfl) rfl ?_
  refine mm_iload_n (mm_dc od_L_law_7 0 rfl) rfl ?_
  refine mm_iconst (mm_dc od_L_law_7 1 rfl) ?_
  refine mm_iadd (mm_dc od_L_law_7 2 rfl) ?_
  refine mm_aldX (mm_dc od_L_law_7 3 rfl) (by first | assumption | omega | exact hx _) (by first | assumption | omega | exact hx _) (by first | assumption | omega | exact hx _) ?_
  refine mm_aload_n (mm_dc od_L_law_7 4 rfl) rfl ?_
  refine mm_iload_n (mm_dc od_L_law_7 5 rfl) rfl ?_
  refine mm_iconst (mm_dc od_L_law_7 6 rfl) ?_
  refine mm_iadd (mm_dc od_L_law_7 7 rfl) ?_
  refine mm_aldX (mm_dc od_L_law_7 8 rfl) (by first | assumption | omega | exact hx _) (by first | assumption | omega | exact hx _) (by first | assumption | omega | exact hx _) ?_
  refine mm_callV (b := 50) (mi' := mi_X10_crew) [v_i (X.2 (Int.toNat ((j : Int) + 1))), v_i (X.2 (Int.toNat ((j : Int) + 2))), v_i (X.2 (Int.toNat ((j : Int) + 3)))] [v_i a] (mm_dc od_L_law_7 9 rfl) rfl wd_5_143 wd_5_144 wd_5_145 wd_1_12 wd_5_146 yk_X10_crew rfl rfl rfl (Nat.le_of_ble_eq_true rfl) rfl (by decide) (hm1 X 7 _ (fun MM hI2 => ⟨Nat.le_refl _, ?_⟩))
  refine mm_icmp_eq 1178 (mm_dc od_L_law_7 10 rfl) (by omega) (by first | assumption | omega | exact hx _) (by first | assumption | omega | exact hx _) (fun c1 => ?_) (fun c1 => ?_)
  · exact K MM hI2
  · refine mm_iconst (mm_dc od_L_law_7 11 rfl) ?_
    refine mm_zret .boolean (mm_dc od_L_law_7 12 rfl) rfl rfl ?_
    first | exact absurd (rfl : a = a) (by assumption) | (have q := mm_cmp_is a a; omega)
theorem law_14 {X : Nat × (Nat → Int)} {M : mm_M} (hx : ∀ i, mm_r32 (X.2 i)) (hX : X.1 ≤ 2560) (hI : inv M) (j : Nat) (hj : (j : Int) ≤ X.1 - 5) (K : ∀ N, inv N → mm_G X 20 600000 7302250 mi_L_law LPo 1178 [(0, v_r 1012), (1, v_r 0), (2, v_r 50), (3, v_i (j : Int))] [] Lam N 91 11006) : mm_G X 20 600000 7302250 mi_L_law LPo 667 [(0, v_r 1012), (1, v_r 0), (2, v_r 50), (3, v_i (j : Int))] [] Lam M 91 11006 := by
  refine mm_aload_n (mm_dc od_L_law_7 13 rfl) rfl ?_
  refine mm_aload_n (mm_dc od_L_law_7 14 rfl) rfl ?_
  refine mm_iload_n (mm_dc od_L_law_7 15 rfl) rfl ?_
  refine mm_iconst (mm_dc od_L_law_7 16 rfl) ?_
  refine mm_iadd (mm_dc od_L_law_7 17 rfl) ?_
  refine mm_aldX (mm_dc od_L_law_7 18 rfl) (by first | assumption | omega | exact hx _) (by first | assumption | omega | exact hx _) (by first | assumption | omega | exact hx _) ?_
  refine mm_aload_n (mm_dc od_L_law_7 19 rfl) rfl ?_
  refine mm_iload_n (mm_dc od_L_law_7 20 rfl) rfl ?_
  refine mm_iconst (mm_dc od_L_law_7 21 rfl) ?_
  refine mm_iadd (mm_dc od_L_law_7 22 rfl) ?_
  refine mm_aldX (mm_dc od_L_law_7 23 rfl) (by first | assumption | omega | exact hx _) (by first | assumption | omega | exact hx _) (by first | assumption | omega | exact hx _) ?_
  refine mm_aload_n (mm_dc od_L_law_7 24 rfl) rfl ?_
  refine mm_iload_n (mm_dc od_L_law_7 25 rfl) rfl ?_
  refine mm_iconst (mm_dc od_L_law_7 26 rfl) ?_
  refine mm_iadd (mm_dc od_L_law_7 27 rfl) ?_
  refine mm_aldX (mm_dc od_L_law_7 28 rfl) (by first | assumption | omega | exact hx _) (by first | assumption | omega | exact hx _) (by first | assumption | omega | exact hx _) ?_
  obtain ⟨PX, hx1, hm0⟩ := (pair_water hI (X.2 (Int.toNat ((j : Int) + 1))) (X.2 (Int.toNat ((j : Int) + 2))) (X.2 (Int.toNat ((j : Int) + 3))) (hx _) (hx _) (hx _)).to2
  refine mm_callV (b := 0) (mi' := mi_X9_water) [v_i (X.2 (Int.toNat ((j : Int) + 1))), v_i (X.2 (Int.toNat ((j : Int) + 2))), v_i (X.2 (Int.toNat ((j : Int) + 3)))] [] (mm_dc od_L_law_7 29 rfl) rfl wd_3_63 wd_3_64 wd_3_65 wd_1_1 wd_3_66 yk_X9_water rfl rfl rfl (Nat.le_of_ble_eq_true rfl) rfl (by decide) (hx1 X 7 _ (fun a MX hPX => ⟨Nat.le_refl _, ?_⟩))
  obtain ⟨ha, hal, hm1⟩ := hm0 a MX hPX
  have ha2 := ha rfl
  refine mm_aload_n (mm_dc od_L_law_7 30 rfl) rfl ?_
  refine mm_aload_n (mm_dc od_L_law_7 31 rfl) rfl ?_
  refine mm_iload_n (mm_dc od_L_law_7 32 rfl) rfl ?_
  refine mm_iconst (mm_dc od_L_law_7 33 rfl) ?_
  refine mm_iadd (mm_dc od_L_law_7 34 rfl) ?_
  refine mm_aldX (mm_dc od_L_law_7 35 rfl) (by first | assumption | omega | exact hx _) (by first | assumption | omega | exact hx _) (by first | assumption | omega | exact hx _) ?_
  refine mm_aload_n (mm_dc od_L_law_7 36 rfl) rfl ?_
  refine mm_iload_n (mm_dc od_L_law_7 37 rfl) rfl ?_
  refine mm_iconst (mm_dc od_L_law_7 38 rfl) ?_
  refine mm_iadd (mm_dc od_L_law_7 39 rfl) ?_
  refine mm_aldX (mm_dc od_L_law_7 40 rfl) (by first | assumption | omega | exact hx _) (by first | assumption | omega | exact hx _) (by first | assumption | omega | exact hx _) ?_
  refine mm_aload_n (mm_dc od_L_law_7 41 rfl) rfl ?_
  refine mm_iload_n (mm_dc od_L_law_7 42 rfl) rfl ?_
  refine mm_iconst (mm_dc od_L_law_7 43 rfl) ?_
  refine mm_iadd (mm_dc od_L_law_7 44 rfl) ?_
  refine mm_aldX (mm_dc od_L_law_7 45 rfl) (by first | assumption | omega | exact hx _) (by first | assumption | omega | exact hx _) (by first | assumption | omega | exact hx _) ?_
  refine mm_callV (b := 50) (mi' := mi_X10_water) [v_i (X.2 (Int.toNat ((j : Int) + 1))), v_i (X.2 (Int.toNat ((j : Int) + 2))), v_i (X.2 (Int.toNat ((j : Int) + 3)))] [v_i a] (mm_dc od_L_law_7 46 rfl) rfl wd_5_169 wd_5_170 wd_5_171 wd_1_12 wd_5_172 yk_X10_water rfl rfl rfl (Nat.le_of_ble_eq_true rfl) rfl (by decide) (hm1 X 7 _ (fun MM hI2 => ⟨Nat.le_refl _, ?_⟩))
  refine mm_icmp_eq 1178 (mm_dc od_L_law_7 47 rfl) (by omega) (by first | assumption | omega | exact hx _) (by first | assumption | omega | exact hx _) (fun c1 => ?_) (fun c1 => ?_)
  · exact K MM hI2
  · refine mm_iconst (mm_dc od_L_law_7 48 rfl) ?_
    refine mm_zret .boolean (mm_dc od_L_law_7 49 rfl) rfl rfl ?_
    first | exact absurd (rfl : a = a) (by assumption) | (have q := mm_cmp_is a a; omega)
theorem law_15 {X : Nat × (Nat → Int)} {M : mm_M} (hx : ∀ i, mm_r32 (X.2 i)) (hX : X.1 ≤ 2560) (hI : inv M) (j : Nat) (hj : (j : Int) ≤ X.1 - 5) (K : ∀ N, inv N → mm_G X 20 600000 7302250 mi_L_law LPo 1178 [(0, v_r 1012), (1, v_r 0), (2, v_r 50), (3, v_i (j : Int))] [] Lam N 91 11006) : mm_G X 20 600000 7302250 mi_L_law LPo 710 [(0, v_r 1012), (1, v_r 0), (2, v_r 50), (3, v_i (j : Int))] [] Lam M 91 11006 := by
  refine mm_aload_n (mm_dc od_L_law_7 50 rfl) rfl ?_
  refine mm_aload_n (mm_dc od_L_law_7 51 rfl) rfl ?_
  refine mm_iload_n (mm_dc od_L_law_7 52 rfl) rfl ?_
  refine mm_iconst (mm_dc od_L_law_7 53 rfl) ?_
  refine mm_iadd (mm_dc od_L_law_7 54 rfl) ?_
  refine mm_aldX (mm_dc od_L_law_7 55 rfl) (by first | assumption | omega | exact hx _) (by first | assumption | omega | exact hx _) (by first | assumption | omega | exact hx _) ?_
  refine mm_i2l (mm_dc od_L_law_7 56 rfl) (by first | assumption | omega | exact hx _) ?_
  refine mm_bipush (mm_dc od_L_law_7 57 rfl) (by decide) ?_
  refine mm_lshl (mm_dc od_L_law_7 58 rfl) ?_
  refine mm_aload_n (mm_dc od_L_law_7 59 rfl) rfl ?_
  refine mm_iload_n (mm_dc od_L_law_8 0 rfl) rfl ?_
  refine mm_iconst (mm_dc od_L_law_8 1 rfl) ?_
  refine mm_iadd (mm_dc od_L_law_8 2 rfl) ?_
  refine mm_aldX (mm_dc od_L_law_8 3 rfl) (by first | assumption | omega | exact hx _) (by first | assumption | omega | exact hx _) (by first | assumption | omega | exact hx _) ?_
  refine mm_i2l (mm_dc od_L_law_8 4 rfl) (by first | assumption | omega | exact hx _) ?_
  refine mm_ldc2 (z := 4294967295) (mm_dc od_L_law_8 5 rfl) wd_6_70 ?_
  refine mm_land (mm_dc od_L_law_8 6 rfl) ?_
  refine mm_lor (mm_dc od_L_law_8 7 rfl) ?_
  refine mm_aload_n (mm_dc od_L_law_8 8 rfl) rfl ?_
  refine mm_iload_n (mm_dc od_L_law_8 9 rfl) rfl ?_
  refine mm_iconst (mm_dc od_L_law_8 10 rfl) ?_
  refine mm_iadd (mm_dc od_L_law_8 11 rfl) ?_
  refine mm_aldX (mm_dc od_L_law_8 12 rfl) (by first | assumption | omega | exact hx _) (by first | assumption | omega | exact hx _) (by first | assumption | omega | exact hx _) ?_
  obtain ⟨PX, hx1, hm0⟩ := (pair_feed hI (fx_lor (fx_lshl (X.2 (Int.toNat ((j : Int) + 1))) 32) (fx_land (X.2 (Int.toNat ((j : Int) + 2))) 4294967295)) (X.2 (Int.toNat ((j : Int) + 3))) (fx_lor_r _ _) (hx _)).to2
  refine mm_callV (b := 0) (mi' := mi_X9_feed) [v_l (fx_lor (fx_lshl (X.2 (Int.toNat ((j : Int) + 1))) 32) (fx_land (X.2 (Int.toNat ((j : Int) + 2))) 4294967295)), v_i (X.2 (Int.toNat ((j : Int) + 3)))] [] (mm_dc od_L_law_8 13 rfl) rfl wd_3_67 wd_3_68 wd_3_69 wd_1_1 wd_3_70 yk_X9_feed rfl rfl rfl (Nat.le_of_ble_eq_true rfl) rfl (by decide) (hx1 X 7 _ (fun a MX hPX => ⟨Nat.le_refl _, ?_⟩))
  obtain ⟨ha, hal, hm1⟩ := hm0 a MX hPX
  have ha2 := ha rfl
  refine mm_aload_n (mm_dc od_L_law_8 14 rfl) rfl ?_
  refine mm_aload_n (mm_dc od_L_law_8 15 rfl) rfl ?_
  refine mm_iload_n (mm_dc od_L_law_8 16 rfl) rfl ?_
  refine mm_iconst (mm_dc od_L_law_8 17 rfl) ?_
  refine mm_iadd (mm_dc od_L_law_8 18 rfl) ?_
  refine mm_aldX (mm_dc od_L_law_8 19 rfl) (by first | assumption | omega | exact hx _) (by first | assumption | omega | exact hx _) (by first | assumption | omega | exact hx _) ?_
  refine mm_i2l (mm_dc od_L_law_8 20 rfl) (by first | assumption | omega | exact hx _) ?_
  refine mm_bipush (mm_dc od_L_law_8 21 rfl) (by decide) ?_
  refine mm_lshl (mm_dc od_L_law_8 22 rfl) ?_
  refine mm_aload_n (mm_dc od_L_law_8 23 rfl) rfl ?_
  refine mm_iload_n (mm_dc od_L_law_8 24 rfl) rfl ?_
  refine mm_iconst (mm_dc od_L_law_8 25 rfl) ?_
  refine mm_iadd (mm_dc od_L_law_8 26 rfl) ?_
  refine mm_aldX (mm_dc od_L_law_8 27 rfl) (by first | assumption | omega | exact hx _) (by first | assumption | omega | exact hx _) (by first | assumption | omega | exact hx _) ?_
  refine mm_i2l (mm_dc od_L_law_8 28 rfl) (by first | assumption | omega | exact hx _) ?_
  refine mm_ldc2 (z := 4294967295) (mm_dc od_L_law_8 29 rfl) wd_6_70 ?_
  refine mm_land (mm_dc od_L_law_8 30 rfl) ?_
  refine mm_lor (mm_dc od_L_law_8 31 rfl) ?_
  refine mm_aload_n (mm_dc od_L_law_8 32 rfl) rfl ?_
  refine mm_iload_n (mm_dc od_L_law_8 33 rfl) rfl ?_
  refine mm_iconst (mm_dc od_L_law_8 34 rfl) ?_
  refine mm_iadd (mm_dc od_L_law_8 35 rfl) ?_
  refine mm_aldX (mm_dc od_L_law_8 36 rfl) (by first | assumption | omega | exact hx _) (by first | assumption | omega | exact hx _) (by first | assumption | omega | exact hx _) ?_
  refine mm_callV (b := 50) (mi' := mi_X10_feed) [v_l (fx_lor (fx_lshl (X.2 (Int.toNat ((j : Int) + 1))) 32) (fx_land (X.2 (Int.toNat ((j : Int) + 2))) 4294967295)), v_i (X.2 (Int.toNat ((j : Int) + 3)))] [v_i a] (mm_dc od_L_law_8 37 rfl) rfl wd_5_176 wd_5_177 wd_5_178 wd_1_12 wd_5_179 yk_X10_feed rfl rfl rfl (Nat.le_of_ble_eq_true rfl) rfl (by decide) (hm1 X 7 _ (fun MM hI2 => ⟨Nat.le_refl _, ?_⟩))
  refine mm_icmp_eq 1178 (mm_dc od_L_law_8 38 rfl) (by omega) (by first | assumption | omega | exact hx _) (by first | assumption | omega | exact hx _) (fun c1 => ?_) (fun c1 => ?_)
  · exact K MM hI2
  · refine mm_iconst (mm_dc od_L_law_8 39 rfl) ?_
    refine mm_zret .boolean (mm_dc od_L_law_8 40 rfl) rfl rfl ?_
    first | exact absurd (rfl : a = a) (by assumption) | (have q := mm_cmp_is a a; omega)
theorem law_16 {X : Nat × (Nat → Int)} {M : mm_M} (hx : ∀ i, mm_r32 (X.2 i)) (hX : X.1 ≤ 2560) (hI : inv M) (j : Nat) (hj : (j : Int) ≤ X.1 - 5) (K : ∀ N, inv N → mm_G X 20 600000 7302250 mi_L_law LPo 1178 [(0, v_r 1012), (1, v_r 0), (2, v_r 50), (3, v_i (j : Int))] [] Lam N 91 11006) : mm_G X 20 600000 7302250 mi_L_law LPo 773 [(0, v_r 1012), (1, v_r 0), (2, v_r 50), (3, v_i (j : Int))] [] Lam M 91 11006 := by
  refine mm_aload_n (mm_dc od_L_law_8 41 rfl) rfl ?_
  obtain ⟨PX, hx1, hm0⟩ := pair_rule hI  
  refine mm_callV (b := 0) (mi' := mi_X9_rule) [] [] (mm_dc od_L_law_8 42 rfl) rfl wd_3_76 wd_3_77 wd_3_78 wd_1_1 wd_3_79 yk_X9_rule rfl rfl rfl (Nat.le_of_ble_eq_true rfl) rfl (by decide) (hx1 X 7 _ (fun a MX hPX => ⟨Nat.le_refl _, ?_⟩))
  obtain ⟨ha, hal, hm1⟩ := hm0 a MX hPX
  have ha2 := ha rfl
  refine mm_aload_n (mm_dc od_L_law_8 43 rfl) rfl ?_
  refine mm_callV (b := 50) (mi' := mi_X10_rule) [] [v_i a] (mm_dc od_L_law_8 44 rfl) rfl wd_5_182 wd_5_183 wd_5_184 wd_1_12 wd_5_185 yk_X10_rule rfl rfl rfl (Nat.le_of_ble_eq_true rfl) rfl (by decide) (hm1 X 7 _ (fun MM hI2 => ⟨Nat.le_refl _, ?_⟩))
  refine mm_icmp_eq 1178 (mm_dc od_L_law_8 45 rfl) (by omega) (by first | assumption | omega | exact hx _) (by first | assumption | omega | exact hx _) (fun c1 => ?_) (fun c1 => ?_)
  · exact K MM hI2
  · refine mm_iconst (mm_dc od_L_law_8 46 rfl) ?_
    refine mm_zret .boolean (mm_dc od_L_law_8 47 rfl) rfl rfl ?_
    first | exact absurd (rfl : a = a) (by assumption) | (have q := mm_cmp_is a a; omega)
theorem law_17 {X : Nat × (Nat → Int)} {M : mm_M} (hx : ∀ i, mm_r32 (X.2 i)) (hX : X.1 ≤ 2560) (hI : inv M) (j : Nat) (hj : (j : Int) ≤ X.1 - 5) (K : ∀ N, inv N → mm_G X 20 600000 7302250 mi_L_law LPo 1178 [(0, v_r 1012), (1, v_r 0), (2, v_r 50), (3, v_i (j : Int))] [] Lam N 91 11006) : mm_G X 20 600000 7302250 mi_L_law LPo 786 [(0, v_r 1012), (1, v_r 0), (2, v_r 50), (3, v_i (j : Int))] [] Lam M 91 11006 := by
  refine mm_aload_n (mm_dc od_L_law_8 48 rfl) rfl ?_
  refine mm_aload_n (mm_dc od_L_law_8 49 rfl) rfl ?_
  refine mm_iload_n (mm_dc od_L_law_8 50 rfl) rfl ?_
  refine mm_iconst (mm_dc od_L_law_8 51 rfl) ?_
  refine mm_iadd (mm_dc od_L_law_8 52 rfl) ?_
  refine mm_aldX (mm_dc od_L_law_8 53 rfl) (by first | assumption | omega | exact hx _) (by first | assumption | omega | exact hx _) (by first | assumption | omega | exact hx _) ?_
  refine mm_aload_n (mm_dc od_L_law_8 54 rfl) rfl ?_
  refine mm_iload_n (mm_dc od_L_law_8 55 rfl) rfl ?_
  refine mm_iconst (mm_dc od_L_law_8 56 rfl) ?_
  refine mm_iadd (mm_dc od_L_law_8 57 rfl) ?_
  refine mm_aldX (mm_dc od_L_law_8 58 rfl) (by first | assumption | omega | exact hx _) (by first | assumption | omega | exact hx _) (by first | assumption | omega | exact hx _) ?_
  obtain ⟨PX, hx1, hm0⟩ := pair_ruled hI (X.2 (Int.toNat ((j : Int) + 1))) (X.2 (Int.toNat ((j : Int) + 2))) (hx _) (hx _)
  refine mm_callV (b := 0) (mi' := mi_X9_ruled) [v_i (X.2 (Int.toNat ((j : Int) + 1))), v_i (X.2 (Int.toNat ((j : Int) + 2)))] [] (mm_dc od_L_law_8 59 rfl) rfl wd_3_175 wd_3_176 wd_3_177 wd_1_1 wd_3_178 yk_X9_ruled rfl rfl rfl (Nat.le_of_ble_eq_true rfl) rfl (by decide) (hx1 X 7 _ (fun a MX hPX => ⟨Nat.le_refl _, ?_⟩))
  obtain ⟨ha, hal, hm1⟩ := hm0 a MX hPX
  have ha2 := ha rfl
  refine mm_aload_n (mm_dc od_L_law_9 0 rfl) rfl ?_
  refine mm_aload_n (mm_dc od_L_law_9 1 rfl) rfl ?_
  refine mm_iload_n (mm_dc od_L_law_9 2 rfl) rfl ?_
  refine mm_iconst (mm_dc od_L_law_9 3 rfl) ?_
  refine mm_iadd (mm_dc od_L_law_9 4 rfl) ?_
  refine mm_aldX (mm_dc od_L_law_9 5 rfl) (by first | assumption | omega | exact hx _) (by first | assumption | omega | exact hx _) (by first | assumption | omega | exact hx _) ?_
  refine mm_aload_n (mm_dc od_L_law_9 6 rfl) rfl ?_
  refine mm_iload_n (mm_dc od_L_law_9 7 rfl) rfl ?_
  refine mm_iconst (mm_dc od_L_law_9 8 rfl) ?_
  refine mm_iadd (mm_dc od_L_law_9 9 rfl) ?_
  refine mm_aldX (mm_dc od_L_law_9 10 rfl) (by first | assumption | omega | exact hx _) (by first | assumption | omega | exact hx _) (by first | assumption | omega | exact hx _) ?_
  refine mm_callV (b := 50) (mi' := mi_X10_ruled) [v_i (X.2 (Int.toNat ((j : Int) + 1))), v_i (X.2 (Int.toNat ((j : Int) + 2)))] [v_i a] (mm_dc od_L_law_9 11 rfl) rfl wd_5_224 wd_5_225 wd_5_226 wd_1_12 wd_5_227 yk_X10_ruled rfl rfl rfl (Nat.le_of_ble_eq_true rfl) rfl (by decide) (hm1 X 7 _ (fun MM hI2 => ⟨Nat.le_refl _, ?_⟩))
  refine mm_icmp_eq 1178 (mm_dc od_L_law_9 12 rfl) (by omega) (by first | assumption | omega | exact hx _) (by first | assumption | omega | exact hx _) (fun c1 => ?_) (fun c1 => ?_)
  · exact K MM hI2
  · refine mm_iconst (mm_dc od_L_law_9 13 rfl) ?_
    refine mm_zret .boolean (mm_dc od_L_law_9 14 rfl) rfl rfl ?_
    first | exact absurd (rfl : a = a) (by assumption) | (have q := mm_cmp_is a a; omega)
theorem law_18 {X : Nat × (Nat → Int)} {M : mm_M} (hx : ∀ i, mm_r32 (X.2 i)) (hX : X.1 ≤ 2560) (hI : inv M) (j : Nat) (hj : (j : Int) ≤ X.1 - 5) (K : ∀ N, inv N → mm_G X 20 600000 7302250 mi_L_law LPo 1178 [(0, v_r 1012), (1, v_r 0), (2, v_r 50), (3, v_i (j : Int))] [] Lam N 91 11006) : mm_G X 20 600000 7302250 mi_L_law LPo 819 [(0, v_r 1012), (1, v_r 0), (2, v_r 50), (3, v_i (j : Int))] [] Lam M 91 11006 := by
  refine mm_aload_n (mm_dc od_L_law_9 15 rfl) rfl ?_
  refine mm_aload_n (mm_dc od_L_law_9 16 rfl) rfl ?_
  refine mm_iload_n (mm_dc od_L_law_9 17 rfl) rfl ?_
  refine mm_iconst (mm_dc od_L_law_9 18 rfl) ?_
  refine mm_iadd (mm_dc od_L_law_9 19 rfl) ?_
  refine mm_aldX (mm_dc od_L_law_9 20 rfl) (by first | assumption | omega | exact hx _) (by first | assumption | omega | exact hx _) (by first | assumption | omega | exact hx _) ?_
  refine mm_aload_n (mm_dc od_L_law_9 21 rfl) rfl ?_
  refine mm_iload_n (mm_dc od_L_law_9 22 rfl) rfl ?_
  refine mm_iconst (mm_dc od_L_law_9 23 rfl) ?_
  refine mm_iadd (mm_dc od_L_law_9 24 rfl) ?_
  refine mm_aldX (mm_dc od_L_law_9 25 rfl) (by first | assumption | omega | exact hx _) (by first | assumption | omega | exact hx _) (by first | assumption | omega | exact hx _) ?_
  obtain ⟨PX, hx1, hm0⟩ := pair_may hI (X.2 (Int.toNat ((j : Int) + 1))) (X.2 (Int.toNat ((j : Int) + 2))) (hx _) (hx _)
  refine mm_callV (b := 0) (mi' := mi_X9_may) [v_i (X.2 (Int.toNat ((j : Int) + 1))), v_i (X.2 (Int.toNat ((j : Int) + 2)))] [] (mm_dc od_L_law_9 26 rfl) rfl wd_3_201 wd_3_202 wd_3_203 wd_1_1 wd_3_204 yk_X9_may rfl rfl rfl (Nat.le_of_ble_eq_true rfl) rfl (by decide) (hx1 X 7 _ (fun a MX hPX => ⟨Nat.le_refl _, ?_⟩))
  obtain ⟨ha, hal, hm1⟩ := hm0 a MX hPX
  have ha2 := ha rfl
  refine mm_aload_n (mm_dc od_L_law_9 27 rfl) rfl ?_
  refine mm_aload_n (mm_dc od_L_law_9 28 rfl) rfl ?_
  refine mm_iload_n (mm_dc od_L_law_9 29 rfl) rfl ?_
  refine mm_iconst (mm_dc od_L_law_9 30 rfl) ?_
  refine mm_iadd (mm_dc od_L_law_9 31 rfl) ?_
  refine mm_aldX (mm_dc od_L_law_9 32 rfl) (by first | assumption | omega | exact hx _) (by first | assumption | omega | exact hx _) (by first | assumption | omega | exact hx _) ?_
  refine mm_aload_n (mm_dc od_L_law_9 33 rfl) rfl ?_
  refine mm_iload_n (mm_dc od_L_law_9 34 rfl) rfl ?_
  refine mm_iconst (mm_dc od_L_law_9 35 rfl) ?_
  refine mm_iadd (mm_dc od_L_law_9 36 rfl) ?_
  refine mm_aldX (mm_dc od_L_law_9 37 rfl) (by first | assumption | omega | exact hx _) (by first | assumption | omega | exact hx _) (by first | assumption | omega | exact hx _) ?_
  refine mm_callV (b := 50) (mi' := mi_X10_may) [v_i (X.2 (Int.toNat ((j : Int) + 1))), v_i (X.2 (Int.toNat ((j : Int) + 2)))] [v_i a] (mm_dc od_L_law_9 38 rfl) rfl wd_6_0 wd_6_1 wd_6_2 wd_1_12 wd_6_3 yk_X10_may rfl rfl rfl (Nat.le_of_ble_eq_true rfl) rfl (by decide) (hm1 X 7 _ (fun MM hI2 => ⟨Nat.le_refl _, ?_⟩))
  refine mm_icmp_eq 1178 (mm_dc od_L_law_9 39 rfl) (by omega) (by first | assumption | omega | exact hx _) (by first | assumption | omega | exact hx _) (fun c1 => ?_) (fun c1 => ?_)
  · exact K MM hI2
  · refine mm_iconst (mm_dc od_L_law_9 40 rfl) ?_
    refine mm_zret .boolean (mm_dc od_L_law_9 41 rfl) rfl rfl ?_
    first | exact absurd (rfl : a = a) (by assumption) | (have q := mm_cmp_is a a; omega)
theorem law_19 {X : Nat × (Nat → Int)} {M : mm_M} (hx : ∀ i, mm_r32 (X.2 i)) (hX : X.1 ≤ 2560) (hI : inv M) (j : Nat) (hj : (j : Int) ≤ X.1 - 5) (K : ∀ N, inv N → mm_G X 20 600000 7302250 mi_L_law LPo 1178 [(0, v_r 1012), (1, v_r 0), (2, v_r 50), (3, v_i (j : Int))] [] Lam N 91 11006) : mm_G X 20 600000 7302250 mi_L_law LPo 852 [(0, v_r 1012), (1, v_r 0), (2, v_r 50), (3, v_i (j : Int))] [] Lam M 91 11006 := by
  refine mm_aload_n (mm_dc od_L_law_9 42 rfl) rfl ?_
  refine mm_aload_n (mm_dc od_L_law_9 43 rfl) rfl ?_
  refine mm_iload_n (mm_dc od_L_law_9 44 rfl) rfl ?_
  refine mm_iconst (mm_dc od_L_law_9 45 rfl) ?_
  refine mm_iadd (mm_dc od_L_law_9 46 rfl) ?_
  refine mm_aldX (mm_dc od_L_law_9 47 rfl) (by first | assumption | omega | exact hx _) (by first | assumption | omega | exact hx _) (by first | assumption | omega | exact hx _) ?_
  obtain ⟨PX, hx1, hm0⟩ := (pair_day hI (X.2 (Int.toNat ((j : Int) + 1))) (hx _)).to2
  refine mm_callV (b := 0) (mi' := mi_X9_day) [v_i (X.2 (Int.toNat ((j : Int) + 1)))] [] (mm_dc od_L_law_9 48 rfl) rfl wd_3_236 wd_3_237 wd_3_238 wd_1_1 wd_3_239 yk_X9_day rfl rfl rfl (Nat.le_of_ble_eq_true rfl) rfl (by decide) (hx1 X 7 _ (fun a MX hPX => ⟨Nat.le_refl _, ?_⟩))
  obtain ⟨ha, hal, hm1⟩ := hm0 a MX hPX
  have ha2 := ha rfl
  refine mm_aload_n (mm_dc od_L_law_9 49 rfl) rfl ?_
  refine mm_aload_n (mm_dc od_L_law_9 50 rfl) rfl ?_
  refine mm_iload_n (mm_dc od_L_law_9 51 rfl) rfl ?_
  refine mm_iconst (mm_dc od_L_law_9 52 rfl) ?_
  refine mm_iadd (mm_dc od_L_law_9 53 rfl) ?_
  refine mm_aldX (mm_dc od_L_law_9 54 rfl) (by first | assumption | omega | exact hx _) (by first | assumption | omega | exact hx _) (by first | assumption | omega | exact hx _) ?_
  refine mm_callV (b := 50) (mi' := mi_X10_day) [v_i (X.2 (Int.toNat ((j : Int) + 1)))] [v_i a] (mm_dc od_L_law_9 55 rfl) rfl wd_6_8 wd_6_9 wd_6_10 wd_1_12 wd_6_11 yk_X10_day rfl rfl rfl (Nat.le_of_ble_eq_true rfl) rfl (by decide) (hm1 X 7 _ (fun MM hI2 => ⟨Nat.le_refl _, ?_⟩))
  refine mm_icmp_eq 1178 (mm_dc od_L_law_9 56 rfl) (by omega) (by first | assumption | omega | exact hx _) (by first | assumption | omega | exact hx _) (fun c1 => ?_) (fun c1 => ?_)
  · exact K MM hI2
  · refine mm_iconst (mm_dc od_L_law_9 57 rfl) ?_
    refine mm_zret .boolean (mm_dc od_L_law_9 58 rfl) rfl rfl ?_
    first | exact absurd (rfl : a = a) (by assumption) | (have q := mm_cmp_is a a; omega)
theorem law_20 {X : Nat × (Nat → Int)} {M : mm_M} (hx : ∀ i, mm_r32 (X.2 i)) (hX : X.1 ≤ 2560) (hI : inv M) (j : Nat) (hj : (j : Int) ≤ X.1 - 5) (K : ∀ N, inv N → mm_G X 20 600000 7302250 mi_L_law LPo 1178 [(0, v_r 1012), (1, v_r 0), (2, v_r 50), (3, v_i (j : Int))] [] Lam N 91 11006) : mm_G X 20 600000 7302250 mi_L_law LPo 875 [(0, v_r 1012), (1, v_r 0), (2, v_r 50), (3, v_i (j : Int))] [] Lam M 91 11006 := by
  refine mm_aload_n (mm_dc od_L_law_9 59 rfl) rfl ?_
  refine mm_aload_n (mm_dc od_L_law_10 0 rfl) rfl ?_
  refine mm_iload_n (mm_dc od_L_law_10 1 rfl) rfl ?_
  refine mm_iconst (mm_dc od_L_law_10 2 rfl) ?_
  refine mm_iadd (mm_dc od_L_law_10 3 rfl) ?_
  refine mm_aldX (mm_dc od_L_law_10 4 rfl) (by first | assumption | omega | exact hx _) (by first | assumption | omega | exact hx _) (by first | assumption | omega | exact hx _) ?_
  refine mm_aload_n (mm_dc od_L_law_10 5 rfl) rfl ?_
  refine mm_iload_n (mm_dc od_L_law_10 6 rfl) rfl ?_
  refine mm_iconst (mm_dc od_L_law_10 7 rfl) ?_
  refine mm_iadd (mm_dc od_L_law_10 8 rfl) ?_
  refine mm_aldX (mm_dc od_L_law_10 9 rfl) (by first | assumption | omega | exact hx _) (by first | assumption | omega | exact hx _) (by first | assumption | omega | exact hx _) ?_
  obtain ⟨PX, hx1, hm0⟩ := pair_out hI (X.2 (Int.toNat ((j : Int) + 1))) (X.2 (Int.toNat ((j : Int) + 2))) (hx _) (hx _)
  refine mm_callV (b := 0) (mi' := mi_X9_out) [v_i (X.2 (Int.toNat ((j : Int) + 1))), v_i (X.2 (Int.toNat ((j : Int) + 2)))] [] (mm_dc od_L_law_10 10 rfl) rfl wd_4_0 wd_4_1 wd_4_2 wd_1_1 wd_4_3 yk_X9_out rfl rfl rfl (Nat.le_of_ble_eq_true rfl) rfl (by decide) (hx1 X 7 _ (fun a MX hPX => ⟨Nat.le_refl _, ?_⟩))
  obtain ⟨ha, hal, hm1⟩ := hm0 a MX hPX
  have ha2 := ha rfl
  refine mm_aload_n (mm_dc od_L_law_10 11 rfl) rfl ?_
  refine mm_aload_n (mm_dc od_L_law_10 12 rfl) rfl ?_
  refine mm_iload_n (mm_dc od_L_law_10 13 rfl) rfl ?_
  refine mm_iconst (mm_dc od_L_law_10 14 rfl) ?_
  refine mm_iadd (mm_dc od_L_law_10 15 rfl) ?_
  refine mm_aldX (mm_dc od_L_law_10 16 rfl) (by first | assumption | omega | exact hx _) (by first | assumption | omega | exact hx _) (by first | assumption | omega | exact hx _) ?_
  refine mm_aload_n (mm_dc od_L_law_10 17 rfl) rfl ?_
  refine mm_iload_n (mm_dc od_L_law_10 18 rfl) rfl ?_
  refine mm_iconst (mm_dc od_L_law_10 19 rfl) ?_
  refine mm_iadd (mm_dc od_L_law_10 20 rfl) ?_
  refine mm_aldX (mm_dc od_L_law_10 21 rfl) (by first | assumption | omega | exact hx _) (by first | assumption | omega | exact hx _) (by first | assumption | omega | exact hx _) ?_
  refine mm_callV (b := 50) (mi' := mi_X10_out) [v_i (X.2 (Int.toNat ((j : Int) + 1))), v_i (X.2 (Int.toNat ((j : Int) + 2)))] [v_i a] (mm_dc od_L_law_10 22 rfl) rfl wd_6_12 wd_6_13 wd_6_14 wd_1_12 wd_6_15 yk_X10_out rfl rfl rfl (Nat.le_of_ble_eq_true rfl) rfl (by decide) (hm1 X 7 _ (fun MM hI2 => ⟨Nat.le_refl _, ?_⟩))
  refine mm_icmp_eq 1178 (mm_dc od_L_law_10 23 rfl) (by omega) (by first | assumption | omega | exact hx _) (by first | assumption | omega | exact hx _) (fun c1 => ?_) (fun c1 => ?_)
  · exact K MM hI2
  · refine mm_iconst (mm_dc od_L_law_10 24 rfl) ?_
    refine mm_zret .boolean (mm_dc od_L_law_10 25 rfl) rfl rfl ?_
    first | exact absurd (rfl : a = a) (by assumption) | (have q := mm_cmp_is a a; omega)
theorem law_21 {X : Nat × (Nat → Int)} {M : mm_M} (hx : ∀ i, mm_r32 (X.2 i)) (hX : X.1 ≤ 2560) (hI : inv M) (j : Nat) (hj : (j : Int) ≤ X.1 - 5) (K : ∀ N, inv N → mm_G X 20 600000 7302250 mi_L_law LPo 1178 [(0, v_r 1012), (1, v_r 0), (2, v_r 50), (3, v_i (j : Int))] [] Lam N 91 11006) : mm_G X 20 600000 7302250 mi_L_law LPo 908 [(0, v_r 1012), (1, v_r 0), (2, v_r 50), (3, v_i (j : Int))] [] Lam M 91 11006 := by
  refine mm_aload_n (mm_dc od_L_law_10 26 rfl) rfl ?_
  refine mm_aload_n (mm_dc od_L_law_10 27 rfl) rfl ?_
  refine mm_iload_n (mm_dc od_L_law_10 28 rfl) rfl ?_
  refine mm_iconst (mm_dc od_L_law_10 29 rfl) ?_
  refine mm_iadd (mm_dc od_L_law_10 30 rfl) ?_
  refine mm_aldX (mm_dc od_L_law_10 31 rfl) (by first | assumption | omega | exact hx _) (by first | assumption | omega | exact hx _) (by first | assumption | omega | exact hx _) ?_
  refine mm_aload_n (mm_dc od_L_law_10 32 rfl) rfl ?_
  refine mm_iload_n (mm_dc od_L_law_10 33 rfl) rfl ?_
  refine mm_iconst (mm_dc od_L_law_10 34 rfl) ?_
  refine mm_iadd (mm_dc od_L_law_10 35 rfl) ?_
  refine mm_aldX (mm_dc od_L_law_10 36 rfl) (by first | assumption | omega | exact hx _) (by first | assumption | omega | exact hx _) (by first | assumption | omega | exact hx _) ?_
  obtain ⟨PX, hx1, hm0⟩ := (pair_look hI (X.2 (Int.toNat ((j : Int) + 1))) (X.2 (Int.toNat ((j : Int) + 2))) (hx _) (hx _)).to2
  refine mm_callV (b := 0) (mi' := mi_X9_look) [v_i (X.2 (Int.toNat ((j : Int) + 1))), v_i (X.2 (Int.toNat ((j : Int) + 2)))] [] (mm_dc od_L_law_10 37 rfl) rfl wd_4_9 wd_4_10 wd_4_11 wd_1_1 wd_4_12 yk_X9_look rfl rfl rfl (Nat.le_of_ble_eq_true rfl) rfl (by decide) (hx1 X 7 _ (fun a MX hPX => ⟨Nat.le_refl _, ?_⟩))
  obtain ⟨ha, hal, hm1⟩ := hm0 a MX hPX
  have ha2 := ha rfl
  refine mm_aload_n (mm_dc od_L_law_10 38 rfl) rfl ?_
  refine mm_aload_n (mm_dc od_L_law_10 39 rfl) rfl ?_
  refine mm_iload_n (mm_dc od_L_law_10 40 rfl) rfl ?_
  refine mm_iconst (mm_dc od_L_law_10 41 rfl) ?_
  refine mm_iadd (mm_dc od_L_law_10 42 rfl) ?_
  refine mm_aldX (mm_dc od_L_law_10 43 rfl) (by first | assumption | omega | exact hx _) (by first | assumption | omega | exact hx _) (by first | assumption | omega | exact hx _) ?_
  refine mm_aload_n (mm_dc od_L_law_10 44 rfl) rfl ?_
  refine mm_iload_n (mm_dc od_L_law_10 45 rfl) rfl ?_
  refine mm_iconst (mm_dc od_L_law_10 46 rfl) ?_
  refine mm_iadd (mm_dc od_L_law_10 47 rfl) ?_
  refine mm_aldX (mm_dc od_L_law_10 48 rfl) (by first | assumption | omega | exact hx _) (by first | assumption | omega | exact hx _) (by first | assumption | omega | exact hx _) ?_
  refine mm_callV (b := 50) (mi' := mi_X10_look) [v_i (X.2 (Int.toNat ((j : Int) + 1))), v_i (X.2 (Int.toNat ((j : Int) + 2)))] [v_i a] (mm_dc od_L_law_10 49 rfl) rfl wd_6_20 wd_6_21 wd_6_22 wd_1_12 wd_6_23 yk_X10_look rfl rfl rfl (Nat.le_of_ble_eq_true rfl) rfl (by decide) (hm1 X 7 _ (fun MM hI2 => ⟨Nat.le_refl _, ?_⟩))
  refine mm_icmp_eq 1178 (mm_dc od_L_law_10 50 rfl) (by omega) (by first | assumption | omega | exact hx _) (by first | assumption | omega | exact hx _) (fun c1 => ?_) (fun c1 => ?_)
  · exact K MM hI2
  · refine mm_iconst (mm_dc od_L_law_10 51 rfl) ?_
    refine mm_zret .boolean (mm_dc od_L_law_10 52 rfl) rfl rfl ?_
    first | exact absurd (rfl : a = a) (by assumption) | (have q := mm_cmp_is a a; omega)
theorem law_22 {X : Nat × (Nat → Int)} {M : mm_M} (hx : ∀ i, mm_r32 (X.2 i)) (hX : X.1 ≤ 2560) (hI : inv M) (j : Nat) (hj : (j : Int) ≤ X.1 - 5) (K : ∀ N, inv N → mm_G X 20 600000 7302250 mi_L_law LPo 1178 [(0, v_r 1012), (1, v_r 0), (2, v_r 50), (3, v_i (j : Int))] [] Lam N 91 11006) : mm_G X 20 600000 7302250 mi_L_law LPo 941 [(0, v_r 1012), (1, v_r 0), (2, v_r 50), (3, v_i (j : Int))] [] Lam M 91 11006 := by
  refine mm_aload_n (mm_dc od_L_law_10 53 rfl) rfl ?_
  refine mm_aload_n (mm_dc od_L_law_10 54 rfl) rfl ?_
  refine mm_iload_n (mm_dc od_L_law_10 55 rfl) rfl ?_
  refine mm_iconst (mm_dc od_L_law_10 56 rfl) ?_
  refine mm_iadd (mm_dc od_L_law_10 57 rfl) ?_
  refine mm_aldX (mm_dc od_L_law_10 58 rfl) (by first | assumption | omega | exact hx _) (by first | assumption | omega | exact hx _) (by first | assumption | omega | exact hx _) ?_
  refine mm_aload_n (mm_dc od_L_law_10 59 rfl) rfl ?_
  refine mm_iload_n (mm_dc od_L_law_11 0 rfl) rfl ?_
  refine mm_iconst (mm_dc od_L_law_11 1 rfl) ?_
  refine mm_iadd (mm_dc od_L_law_11 2 rfl) ?_
  refine mm_aldX (mm_dc od_L_law_11 3 rfl) (by first | assumption | omega | exact hx _) (by first | assumption | omega | exact hx _) (by first | assumption | omega | exact hx _) ?_
  obtain ⟨PX, hx1, hm0⟩ := (pair_broke hI (X.2 (Int.toNat ((j : Int) + 1))) (X.2 (Int.toNat ((j : Int) + 2))) (hx _) (hx _)).to2
  refine mm_callV (b := 0) (mi' := mi_X9_broke) [v_i (X.2 (Int.toNat ((j : Int) + 1))), v_i (X.2 (Int.toNat ((j : Int) + 2)))] [] (mm_dc od_L_law_11 4 rfl) rfl wd_4_17 wd_4_18 wd_4_19 wd_1_1 wd_4_20 yk_X9_broke rfl rfl rfl (Nat.le_of_ble_eq_true rfl) rfl (by decide) (hx1 X 7 _ (fun a MX hPX => ⟨Nat.le_refl _, ?_⟩))
  obtain ⟨ha, hal, hm1⟩ := hm0 a MX hPX
  have ha2 := ha rfl
  refine mm_aload_n (mm_dc od_L_law_11 5 rfl) rfl ?_
  refine mm_aload_n (mm_dc od_L_law_11 6 rfl) rfl ?_
  refine mm_iload_n (mm_dc od_L_law_11 7 rfl) rfl ?_
  refine mm_iconst (mm_dc od_L_law_11 8 rfl) ?_
  refine mm_iadd (mm_dc od_L_law_11 9 rfl) ?_
  refine mm_aldX (mm_dc od_L_law_11 10 rfl) (by first | assumption | omega | exact hx _) (by first | assumption | omega | exact hx _) (by first | assumption | omega | exact hx _) ?_
  refine mm_aload_n (mm_dc od_L_law_11 11 rfl) rfl ?_
  refine mm_iload_n (mm_dc od_L_law_11 12 rfl) rfl ?_
  refine mm_iconst (mm_dc od_L_law_11 13 rfl) ?_
  refine mm_iadd (mm_dc od_L_law_11 14 rfl) ?_
  refine mm_aldX (mm_dc od_L_law_11 15 rfl) (by first | assumption | omega | exact hx _) (by first | assumption | omega | exact hx _) (by first | assumption | omega | exact hx _) ?_
  refine mm_callV (b := 50) (mi' := mi_X10_broke) [v_i (X.2 (Int.toNat ((j : Int) + 1))), v_i (X.2 (Int.toNat ((j : Int) + 2)))] [v_i a] (mm_dc od_L_law_11 16 rfl) rfl wd_6_24 wd_6_25 wd_6_26 wd_1_12 wd_6_27 yk_X10_broke rfl rfl rfl (Nat.le_of_ble_eq_true rfl) rfl (by decide) (hm1 X 7 _ (fun MM hI2 => ⟨Nat.le_refl _, ?_⟩))
  refine mm_icmp_eq 1178 (mm_dc od_L_law_11 17 rfl) (by omega) (by first | assumption | omega | exact hx _) (by first | assumption | omega | exact hx _) (fun c1 => ?_) (fun c1 => ?_)
  · exact K MM hI2
  · refine mm_iconst (mm_dc od_L_law_11 18 rfl) ?_
    refine mm_zret .boolean (mm_dc od_L_law_11 19 rfl) rfl rfl ?_
    first | exact absurd (rfl : a = a) (by assumption) | (have q := mm_cmp_is a a; omega)
theorem law_23 {X : Nat × (Nat → Int)} {M : mm_M} (hx : ∀ i, mm_r32 (X.2 i)) (hX : X.1 ≤ 2560) (hI : inv M) (j : Nat) (hj : (j : Int) ≤ X.1 - 5) (K : ∀ N, inv N → mm_G X 20 600000 7302250 mi_L_law LPo 1178 [(0, v_r 1012), (1, v_r 0), (2, v_r 50), (3, v_i (j : Int))] [] Lam N 91 11006) : mm_G X 20 600000 7302250 mi_L_law LPo 974 [(0, v_r 1012), (1, v_r 0), (2, v_r 50), (3, v_i (j : Int))] [] Lam M 91 11006 := by
  refine mm_aload_n (mm_dc od_L_law_11 20 rfl) rfl ?_
  refine mm_aload_n (mm_dc od_L_law_11 21 rfl) rfl ?_
  refine mm_iload_n (mm_dc od_L_law_11 22 rfl) rfl ?_
  refine mm_iconst (mm_dc od_L_law_11 23 rfl) ?_
  refine mm_iadd (mm_dc od_L_law_11 24 rfl) ?_
  refine mm_aldX (mm_dc od_L_law_11 25 rfl) (by first | assumption | omega | exact hx _) (by first | assumption | omega | exact hx _) (by first | assumption | omega | exact hx _) ?_
  refine mm_aload_n (mm_dc od_L_law_11 26 rfl) rfl ?_
  refine mm_iload_n (mm_dc od_L_law_11 27 rfl) rfl ?_
  refine mm_iconst (mm_dc od_L_law_11 28 rfl) ?_
  refine mm_iadd (mm_dc od_L_law_11 29 rfl) ?_
  refine mm_aldX (mm_dc od_L_law_11 30 rfl) (by first | assumption | omega | exact hx _) (by first | assumption | omega | exact hx _) (by first | assumption | omega | exact hx _) ?_
  obtain ⟨PX, hx1, hm0⟩ := (pair_outing hI (X.2 (Int.toNat ((j : Int) + 1))) (X.2 (Int.toNat ((j : Int) + 2))) (hx _) (hx _)).to2
  refine mm_callV (b := 0) (mi' := mi_X9_outing) [v_i (X.2 (Int.toNat ((j : Int) + 1))), v_i (X.2 (Int.toNat ((j : Int) + 2)))] [] (mm_dc od_L_law_11 31 rfl) rfl wd_4_37 wd_4_38 wd_4_39 wd_1_1 wd_4_40 yk_X9_outing rfl rfl rfl (Nat.le_of_ble_eq_true rfl) rfl (by decide) (hx1 X 7 _ (fun a MX hPX => ⟨Nat.le_refl _, ?_⟩))
  obtain ⟨ha, hal, hm1⟩ := hm0 a MX hPX
  have ha2 := ha rfl
  refine mm_aload_n (mm_dc od_L_law_11 32 rfl) rfl ?_
  refine mm_aload_n (mm_dc od_L_law_11 33 rfl) rfl ?_
  refine mm_iload_n (mm_dc od_L_law_11 34 rfl) rfl ?_
  refine mm_iconst (mm_dc od_L_law_11 35 rfl) ?_
  refine mm_iadd (mm_dc od_L_law_11 36 rfl) ?_
  refine mm_aldX (mm_dc od_L_law_11 37 rfl) (by first | assumption | omega | exact hx _) (by first | assumption | omega | exact hx _) (by first | assumption | omega | exact hx _) ?_
  refine mm_aload_n (mm_dc od_L_law_11 38 rfl) rfl ?_
  refine mm_iload_n (mm_dc od_L_law_11 39 rfl) rfl ?_
  refine mm_iconst (mm_dc od_L_law_11 40 rfl) ?_
  refine mm_iadd (mm_dc od_L_law_11 41 rfl) ?_
  refine mm_aldX (mm_dc od_L_law_11 42 rfl) (by first | assumption | omega | exact hx _) (by first | assumption | omega | exact hx _) (by first | assumption | omega | exact hx _) ?_
  refine mm_callV (b := 50) (mi' := mi_X10_outing) [v_i (X.2 (Int.toNat ((j : Int) + 1))), v_i (X.2 (Int.toNat ((j : Int) + 2)))] [v_i a] (mm_dc od_L_law_11 43 rfl) rfl wd_6_29 wd_6_30 wd_6_31 wd_1_12 wd_6_32 yk_X10_outing rfl rfl rfl (Nat.le_of_ble_eq_true rfl) rfl (by decide) (hm1 X 7 _ (fun MM hI2 => ⟨Nat.le_refl _, ?_⟩))
  refine mm_icmp_eq 1178 (mm_dc od_L_law_11 44 rfl) (by omega) (by first | assumption | omega | exact hx _) (by first | assumption | omega | exact hx _) (fun c1 => ?_) (fun c1 => ?_)
  · exact K MM hI2
  · refine mm_iconst (mm_dc od_L_law_11 45 rfl) ?_
    refine mm_zret .boolean (mm_dc od_L_law_11 46 rfl) rfl rfl ?_
    first | exact absurd (rfl : a = a) (by assumption) | (have q := mm_cmp_is a a; omega)
theorem law_24 {X : Nat × (Nat → Int)} {M : mm_M} (hx : ∀ i, mm_r32 (X.2 i)) (hX : X.1 ≤ 2560) (hI : inv M) (j : Nat) (hj : (j : Int) ≤ X.1 - 5) (K : ∀ N, inv N → mm_G X 20 600000 7302250 mi_L_law LPo 1178 [(0, v_r 1012), (1, v_r 0), (2, v_r 50), (3, v_i (j : Int))] [] Lam N 91 11006) : mm_G X 20 600000 7302250 mi_L_law LPo 1007 [(0, v_r 1012), (1, v_r 0), (2, v_r 50), (3, v_i (j : Int))] [] Lam M 91 11006 := by
  refine mm_aload_n (mm_dc od_L_law_11 47 rfl) rfl ?_
  refine mm_aload_n (mm_dc od_L_law_11 48 rfl) rfl ?_
  refine mm_iload_n (mm_dc od_L_law_11 49 rfl) rfl ?_
  refine mm_iconst (mm_dc od_L_law_11 50 rfl) ?_
  refine mm_iadd (mm_dc od_L_law_11 51 rfl) ?_
  refine mm_aldX (mm_dc od_L_law_11 52 rfl) (by first | assumption | omega | exact hx _) (by first | assumption | omega | exact hx _) (by first | assumption | omega | exact hx _) ?_
  refine mm_aload_n (mm_dc od_L_law_11 53 rfl) rfl ?_
  refine mm_iload_n (mm_dc od_L_law_11 54 rfl) rfl ?_
  refine mm_iconst (mm_dc od_L_law_11 55 rfl) ?_
  refine mm_iadd (mm_dc od_L_law_11 56 rfl) ?_
  refine mm_aldX (mm_dc od_L_law_11 57 rfl) (by first | assumption | omega | exact hx _) (by first | assumption | omega | exact hx _) (by first | assumption | omega | exact hx _) ?_
  obtain ⟨PX, hx1, hm0⟩ := (pair_heat hI (X.2 (Int.toNat ((j : Int) + 1))) (X.2 (Int.toNat ((j : Int) + 2))) (hx _) (hx _)).to2
  refine mm_callV (b := 0) (mi' := mi_X9_heat) [v_i (X.2 (Int.toNat ((j : Int) + 1))), v_i (X.2 (Int.toNat ((j : Int) + 2)))] [] (mm_dc od_L_law_11 58 rfl) rfl wd_4_41 wd_4_42 wd_4_43 wd_1_1 wd_4_44 yk_X9_heat rfl rfl rfl (Nat.le_of_ble_eq_true rfl) rfl (by decide) (hx1 X 7 _ (fun a MX hPX => ⟨Nat.le_refl _, ?_⟩))
  obtain ⟨ha, hal, hm1⟩ := hm0 a MX hPX
  have ha2 := ha rfl
  refine mm_aload_n (mm_dc od_L_law_11 59 rfl) rfl ?_
  refine mm_aload_n (mm_dc od_L_law_12 0 rfl) rfl ?_
  refine mm_iload_n (mm_dc od_L_law_12 1 rfl) rfl ?_
  refine mm_iconst (mm_dc od_L_law_12 2 rfl) ?_
  refine mm_iadd (mm_dc od_L_law_12 3 rfl) ?_
  refine mm_aldX (mm_dc od_L_law_12 4 rfl) (by first | assumption | omega | exact hx _) (by first | assumption | omega | exact hx _) (by first | assumption | omega | exact hx _) ?_
  refine mm_aload_n (mm_dc od_L_law_12 5 rfl) rfl ?_
  refine mm_iload_n (mm_dc od_L_law_12 6 rfl) rfl ?_
  refine mm_iconst (mm_dc od_L_law_12 7 rfl) ?_
  refine mm_iadd (mm_dc od_L_law_12 8 rfl) ?_
  refine mm_aldX (mm_dc od_L_law_12 9 rfl) (by first | assumption | omega | exact hx _) (by first | assumption | omega | exact hx _) (by first | assumption | omega | exact hx _) ?_
  refine mm_callV (b := 50) (mi' := mi_X10_heat) [v_i (X.2 (Int.toNat ((j : Int) + 1))), v_i (X.2 (Int.toNat ((j : Int) + 2)))] [v_i a] (mm_dc od_L_law_12 10 rfl) rfl wd_6_33 wd_6_34 wd_6_35 wd_1_12 wd_6_36 yk_X10_heat rfl rfl rfl (Nat.le_of_ble_eq_true rfl) rfl (by decide) (hm1 X 7 _ (fun MM hI2 => ⟨Nat.le_refl _, ?_⟩))
  refine mm_icmp_eq 1178 (mm_dc od_L_law_12 11 rfl) (by omega) (by first | assumption | omega | exact hx _) (by first | assumption | omega | exact hx _) (fun c1 => ?_) (fun c1 => ?_)
  · exact K MM hI2
  · refine mm_iconst (mm_dc od_L_law_12 12 rfl) ?_
    refine mm_zret .boolean (mm_dc od_L_law_12 13 rfl) rfl rfl ?_
    first | exact absurd (rfl : a = a) (by assumption) | (have q := mm_cmp_is a a; omega)
theorem law_25 {X : Nat × (Nat → Int)} {M : mm_M} (hx : ∀ i, mm_r32 (X.2 i)) (hX : X.1 ≤ 2560) (hI : inv M) (j : Nat) (hj : (j : Int) ≤ X.1 - 5) (K : ∀ N, inv N → mm_G X 20 600000 7302250 mi_L_law LPo 1178 [(0, v_r 1012), (1, v_r 0), (2, v_r 50), (3, v_i (j : Int))] [] Lam N 91 11006) : mm_G X 20 600000 7302250 mi_L_law LPo 1040 [(0, v_r 1012), (1, v_r 0), (2, v_r 50), (3, v_i (j : Int))] [] Lam M 91 11006 := by
  refine mm_aload_n (mm_dc od_L_law_12 14 rfl) rfl ?_
  refine mm_aload_n (mm_dc od_L_law_12 15 rfl) rfl ?_
  refine mm_iload_n (mm_dc od_L_law_12 16 rfl) rfl ?_
  refine mm_iconst (mm_dc od_L_law_12 17 rfl) ?_
  refine mm_iadd (mm_dc od_L_law_12 18 rfl) ?_
  refine mm_aldX (mm_dc od_L_law_12 19 rfl) (by first | assumption | omega | exact hx _) (by first | assumption | omega | exact hx _) (by first | assumption | omega | exact hx _) ?_
  obtain ⟨PX, hx1, hm0⟩ := (pair_near hI (X.2 (Int.toNat ((j : Int) + 1))) (hx _)).to2
  refine mm_callV (b := 0) (mi' := mi_X9_near) [v_i (X.2 (Int.toNat ((j : Int) + 1)))] [] (mm_dc od_L_law_12 20 rfl) rfl wd_4_49 wd_4_50 wd_4_51 wd_1_1 wd_4_52 yk_X9_near rfl rfl rfl (Nat.le_of_ble_eq_true rfl) rfl (by decide) (hx1 X 7 _ (fun a MX hPX => ⟨Nat.le_refl _, ?_⟩))
  obtain ⟨ha, hal, hm1⟩ := hm0 a MX hPX
  have ha2 := ha rfl
  refine mm_aload_n (mm_dc od_L_law_12 21 rfl) rfl ?_
  refine mm_aload_n (mm_dc od_L_law_12 22 rfl) rfl ?_
  refine mm_iload_n (mm_dc od_L_law_12 23 rfl) rfl ?_
  refine mm_iconst (mm_dc od_L_law_12 24 rfl) ?_
  refine mm_iadd (mm_dc od_L_law_12 25 rfl) ?_
  refine mm_aldX (mm_dc od_L_law_12 26 rfl) (by first | assumption | omega | exact hx _) (by first | assumption | omega | exact hx _) (by first | assumption | omega | exact hx _) ?_
  refine mm_callV (b := 50) (mi' := mi_X10_near) [v_i (X.2 (Int.toNat ((j : Int) + 1)))] [v_i a] (mm_dc od_L_law_12 27 rfl) rfl wd_6_38 wd_6_39 wd_6_40 wd_1_12 wd_6_41 yk_X10_near rfl rfl rfl (Nat.le_of_ble_eq_true rfl) rfl (by decide) (hm1 X 7 _ (fun MM hI2 => ⟨Nat.le_refl _, ?_⟩))
  refine mm_icmp_eq 1178 (mm_dc od_L_law_12 28 rfl) (by omega) (by first | assumption | omega | exact hx _) (by first | assumption | omega | exact hx _) (fun c1 => ?_) (fun c1 => ?_)
  · exact K MM hI2
  · refine mm_iconst (mm_dc od_L_law_12 29 rfl) ?_
    refine mm_zret .boolean (mm_dc od_L_law_12 30 rfl) rfl rfl ?_
    first | exact absurd (rfl : a = a) (by assumption) | (have q := mm_cmp_is a a; omega)
theorem law_26 {X : Nat × (Nat → Int)} {M : mm_M} (hx : ∀ i, mm_r32 (X.2 i)) (hX : X.1 ≤ 2560) (hI : inv M) (j : Nat) (hj : (j : Int) ≤ X.1 - 5) (K : ∀ N, inv N → mm_G X 20 600000 7302250 mi_L_law LPo 1178 [(0, v_r 1012), (1, v_r 0), (2, v_r 50), (3, v_i (j : Int))] [] Lam N 91 11006) : mm_G X 20 600000 7302250 mi_L_law LPo 1063 [(0, v_r 1012), (1, v_r 0), (2, v_r 50), (3, v_i (j : Int))] [] Lam M 91 11006 := by
  refine mm_aload_n (mm_dc od_L_law_12 31 rfl) rfl ?_
  obtain ⟨PX, hx1, hm0⟩ := (pair_clashes hI  ).to2
  refine mm_callV (b := 0) (mi' := mi_X9_clashes) [] [] (mm_dc od_L_law_12 32 rfl) rfl wd_4_53 wd_4_54 wd_4_55 wd_1_1 wd_4_56 yk_X9_clashes rfl rfl rfl (Nat.le_of_ble_eq_true rfl) rfl (by decide) (hx1 X 7 _ (fun a MX hPX => ⟨Nat.le_refl _, ?_⟩))
  obtain ⟨ha, hal, hm1⟩ := hm0 a MX hPX
  have ha2 := ha rfl
  refine mm_aload_n (mm_dc od_L_law_12 33 rfl) rfl ?_
  refine mm_callV (b := 50) (mi' := mi_X10_clashes) [] [v_i a] (mm_dc od_L_law_12 34 rfl) rfl wd_6_42 wd_6_43 wd_6_44 wd_1_12 wd_6_45 yk_X10_clashes rfl rfl rfl (Nat.le_of_ble_eq_true rfl) rfl (by decide) (hm1 X 7 _ (fun MM hI2 => ⟨Nat.le_refl _, ?_⟩))
  refine mm_icmp_eq 1178 (mm_dc od_L_law_12 35 rfl) (by omega) (by first | assumption | omega | exact hx _) (by first | assumption | omega | exact hx _) (fun c1 => ?_) (fun c1 => ?_)
  · exact K MM hI2
  · refine mm_iconst (mm_dc od_L_law_12 36 rfl) ?_
    refine mm_zret .boolean (mm_dc od_L_law_12 37 rfl) rfl rfl ?_
    first | exact absurd (rfl : a = a) (by assumption) | (have q := mm_cmp_is a a; omega)
theorem law_27 {X : Nat × (Nat → Int)} {M : mm_M} (hx : ∀ i, mm_r32 (X.2 i)) (hX : X.1 ≤ 2560) (hI : inv M) (j : Nat) (hj : (j : Int) ≤ X.1 - 5) (K : ∀ N, inv N → mm_G X 20 600000 7302250 mi_L_law LPo 1178 [(0, v_r 1012), (1, v_r 0), (2, v_r 50), (3, v_i (j : Int))] [] Lam N 91 11006) : mm_G X 20 600000 7302250 mi_L_law LPo 1076 [(0, v_r 1012), (1, v_r 0), (2, v_r 50), (3, v_i (j : Int))] [] Lam M 91 11006 := by
  refine mm_aload_n (mm_dc od_L_law_12 38 rfl) rfl ?_
  refine mm_aload_n (mm_dc od_L_law_12 39 rfl) rfl ?_
  refine mm_iload_n (mm_dc od_L_law_12 40 rfl) rfl ?_
  refine mm_iconst (mm_dc od_L_law_12 41 rfl) ?_
  refine mm_iadd (mm_dc od_L_law_12 42 rfl) ?_
  refine mm_aldX (mm_dc od_L_law_12 43 rfl) (by first | assumption | omega | exact hx _) (by first | assumption | omega | exact hx _) (by first | assumption | omega | exact hx _) ?_
  obtain ⟨PX, hx1, hm0⟩ := (pair_shift hI (X.2 (Int.toNat ((j : Int) + 1))) (hx _)).to2
  refine mm_callV (b := 0) (mi' := mi_X9_shift) [v_i (X.2 (Int.toNat ((j : Int) + 1)))] [] (mm_dc od_L_law_12 44 rfl) rfl wd_4_68 wd_4_69 wd_4_70 wd_1_1 wd_4_71 yk_X9_shift rfl rfl rfl (Nat.le_of_ble_eq_true rfl) rfl (by decide) (hx1 X 7 _ (fun a MX hPX => ⟨Nat.le_refl _, ?_⟩))
  obtain ⟨ha, hal, hm1⟩ := hm0 a MX hPX
  have ha2 := ha rfl
  refine mm_aload_n (mm_dc od_L_law_12 45 rfl) rfl ?_
  refine mm_aload_n (mm_dc od_L_law_12 46 rfl) rfl ?_
  refine mm_iload_n (mm_dc od_L_law_12 47 rfl) rfl ?_
  refine mm_iconst (mm_dc od_L_law_12 48 rfl) ?_
  refine mm_iadd (mm_dc od_L_law_12 49 rfl) ?_
  refine mm_aldX (mm_dc od_L_law_12 50 rfl) (by first | assumption | omega | exact hx _) (by first | assumption | omega | exact hx _) (by first | assumption | omega | exact hx _) ?_
  refine mm_callV (b := 50) (mi' := mi_X10_shift) [v_i (X.2 (Int.toNat ((j : Int) + 1)))] [v_i a] (mm_dc od_L_law_12 51 rfl) rfl wd_6_50 wd_6_51 wd_6_52 wd_1_12 wd_6_53 yk_X10_shift rfl rfl rfl (Nat.le_of_ble_eq_true rfl) rfl (by decide) (hm1 X 7 _ (fun MM hI2 => ⟨Nat.le_refl _, ?_⟩))
  refine mm_icmp_eq 1178 (mm_dc od_L_law_12 52 rfl) (by omega) (by first | assumption | omega | exact hx _) (by first | assumption | omega | exact hx _) (fun c1 => ?_) (fun c1 => ?_)
  · exact K MM hI2
  · refine mm_iconst (mm_dc od_L_law_12 53 rfl) ?_
    refine mm_zret .boolean (mm_dc od_L_law_12 54 rfl) rfl rfl ?_
    first | exact absurd (rfl : a = a) (by assumption) | (have q := mm_cmp_is a a; omega)
theorem law_28 {X : Nat × (Nat → Int)} {M : mm_M} (hx : ∀ i, mm_r32 (X.2 i)) (hX : X.1 ≤ 2560) (hI : inv M) (j : Nat) (hj : (j : Int) ≤ X.1 - 5) (K : ∀ N, inv N → mm_G X 20 600000 7302250 mi_L_law LPo 1178 [(0, v_r 1012), (1, v_r 0), (2, v_r 50), (3, v_i (j : Int))] [] Lam N 91 11006) : mm_G X 20 600000 7302250 mi_L_law LPo 1099 [(0, v_r 1012), (1, v_r 0), (2, v_r 50), (3, v_i (j : Int))] [] Lam M 91 11006 := by
  refine mm_aload_n (mm_dc od_L_law_12 55 rfl) rfl ?_
  refine mm_aload_n (mm_dc od_L_law_12 56 rfl) rfl ?_
  refine mm_iload_n (mm_dc od_L_law_12 57 rfl) rfl ?_
  refine mm_iconst (mm_dc od_L_law_12 58 rfl) ?_
  refine mm_iadd (mm_dc od_L_law_12 59 rfl) ?_
  refine mm_aldX (mm_dc od_L_law_13 0 rfl) (by first | assumption | omega | exact hx _) (by first | assumption | omega | exact hx _) (by first | assumption | omega | exact hx _) ?_
  refine mm_aload_n (mm_dc od_L_law_13 1 rfl) rfl ?_
  refine mm_iload_n (mm_dc od_L_law_13 2 rfl) rfl ?_
  refine mm_iconst (mm_dc od_L_law_13 3 rfl) ?_
  refine mm_iadd (mm_dc od_L_law_13 4 rfl) ?_
  refine mm_aldX (mm_dc od_L_law_13 5 rfl) (by first | assumption | omega | exact hx _) (by first | assumption | omega | exact hx _) (by first | assumption | omega | exact hx _) ?_
  obtain ⟨PX, hx1, hm0⟩ := pair_trailer hI (X.2 (Int.toNat ((j : Int) + 1))) (X.2 (Int.toNat ((j : Int) + 2))) (hx _) (hx _)
  refine mm_callV (b := 0) (mi' := mi_X9_trailer) [v_i (X.2 (Int.toNat ((j : Int) + 1))), v_i (X.2 (Int.toNat ((j : Int) + 2)))] [] (mm_dc od_L_law_13 6 rfl) rfl wd_4_80 wd_4_81 wd_4_82 wd_1_1 wd_4_83 yk_X9_trailer rfl rfl rfl (Nat.le_of_ble_eq_true rfl) rfl (by decide) (hx1 X 7 _ (fun a MX hPX => ⟨Nat.le_refl _, ?_⟩))
  obtain ⟨ha, hal, hm1⟩ := hm0 a MX hPX
  have ha2 := ha rfl
  refine mm_aload_n (mm_dc od_L_law_13 7 rfl) rfl ?_
  refine mm_aload_n (mm_dc od_L_law_13 8 rfl) rfl ?_
  refine mm_iload_n (mm_dc od_L_law_13 9 rfl) rfl ?_
  refine mm_iconst (mm_dc od_L_law_13 10 rfl) ?_
  refine mm_iadd (mm_dc od_L_law_13 11 rfl) ?_
  refine mm_aldX (mm_dc od_L_law_13 12 rfl) (by first | assumption | omega | exact hx _) (by first | assumption | omega | exact hx _) (by first | assumption | omega | exact hx _) ?_
  refine mm_aload_n (mm_dc od_L_law_13 13 rfl) rfl ?_
  refine mm_iload_n (mm_dc od_L_law_13 14 rfl) rfl ?_
  refine mm_iconst (mm_dc od_L_law_13 15 rfl) ?_
  refine mm_iadd (mm_dc od_L_law_13 16 rfl) ?_
  refine mm_aldX (mm_dc od_L_law_13 17 rfl) (by first | assumption | omega | exact hx _) (by first | assumption | omega | exact hx _) (by first | assumption | omega | exact hx _) ?_
  refine mm_callV (b := 50) (mi' := mi_X10_trailer) [v_i (X.2 (Int.toNat ((j : Int) + 1))), v_i (X.2 (Int.toNat ((j : Int) + 2)))] [v_i a] (mm_dc od_L_law_13 18 rfl) rfl wd_6_54 wd_6_55 wd_6_56 wd_1_12 wd_6_57 yk_X10_trailer rfl rfl rfl (Nat.le_of_ble_eq_true rfl) rfl (by decide) (hm1 X 7 _ (fun MM hI2 => ⟨Nat.le_refl _, ?_⟩))
  refine mm_icmp_eq 1178 (mm_dc od_L_law_13 19 rfl) (by omega) (by first | assumption | omega | exact hx _) (by first | assumption | omega | exact hx _) (fun c1 => ?_) (fun c1 => ?_)
  · exact K MM hI2
  · refine mm_iconst (mm_dc od_L_law_13 20 rfl) ?_
    refine mm_zret .boolean (mm_dc od_L_law_13 21 rfl) rfl rfl ?_
    first | exact absurd (rfl : a = a) (by assumption) | (have q := mm_cmp_is a a; omega)
theorem law_29 {X : Nat × (Nat → Int)} {M : mm_M} (hx : ∀ i, mm_r32 (X.2 i)) (hX : X.1 ≤ 2560) (hI : inv M) (j : Nat) (hj : (j : Int) ≤ X.1 - 5) (K : ∀ N, inv N → mm_G X 20 600000 7302250 mi_L_law LPo 1178 [(0, v_r 1012), (1, v_r 0), (2, v_r 50), (3, v_i (j : Int))] [] Lam N 91 11006) : mm_G X 20 600000 7302250 mi_L_law LPo 1132 [(0, v_r 1012), (1, v_r 0), (2, v_r 50), (3, v_i (j : Int))] [] Lam M 91 11006 := by
  refine mm_aload_n (mm_dc od_L_law_13 22 rfl) rfl ?_
  refine mm_aload_n (mm_dc od_L_law_13 23 rfl) rfl ?_
  refine mm_iload_n (mm_dc od_L_law_13 24 rfl) rfl ?_
  refine mm_iconst (mm_dc od_L_law_13 25 rfl) ?_
  refine mm_iadd (mm_dc od_L_law_13 26 rfl) ?_
  refine mm_aldX (mm_dc od_L_law_13 27 rfl) (by first | assumption | omega | exact hx _) (by first | assumption | omega | exact hx _) (by first | assumption | omega | exact hx _) ?_
  obtain ⟨PX, hx1, hm0⟩ := (pair_rack hI (X.2 (Int.toNat ((j : Int) + 1))) (hx _)).to2
  refine mm_callV (b := 0) (mi' := mi_X9_rack) [v_i (X.2 (Int.toNat ((j : Int) + 1)))] [] (mm_dc od_L_law_13 28 rfl) rfl wd_4_98 wd_4_99 wd_4_100 wd_1_1 wd_4_101 yk_X9_rack rfl rfl rfl (Nat.le_of_ble_eq_true rfl) rfl (by decide) (hx1 X 7 _ (fun a MX hPX => ⟨Nat.le_refl _, ?_⟩))
  obtain ⟨ha, hal, hm1⟩ := hm0 a MX hPX
  have ha2 := ha rfl
  refine mm_aload_n (mm_dc od_L_law_13 29 rfl) rfl ?_
  refine mm_aload_n (mm_dc od_L_law_13 30 rfl) rfl ?_
  refine mm_iload_n (mm_dc od_L_law_13 31 rfl) rfl ?_
  refine mm_iconst (mm_dc od_L_law_13 32 rfl) ?_
  refine mm_iadd (mm_dc od_L_law_13 33 rfl) ?_
  refine mm_aldX (mm_dc od_L_law_13 34 rfl) (by first | assumption | omega | exact hx _) (by first | assumption | omega | exact hx _) (by first | assumption | omega | exact hx _) ?_
  refine mm_callV (b := 50) (mi' := mi_X10_rack) [v_i (X.2 (Int.toNat ((j : Int) + 1)))] [v_i a] (mm_dc od_L_law_13 35 rfl) rfl wd_6_62 wd_6_63 wd_6_64 wd_1_12 wd_6_65 yk_X10_rack rfl rfl rfl (Nat.le_of_ble_eq_true rfl) rfl (by decide) (hm1 X 7 _ (fun MM hI2 => ⟨Nat.le_refl _, ?_⟩))
  refine mm_icmp_eq 1178 (mm_dc od_L_law_13 36 rfl) (by omega) (by first | assumption | omega | exact hx _) (by first | assumption | omega | exact hx _) (fun c1 => ?_) (fun c1 => ?_)
  · exact K MM hI2
  · refine mm_iconst (mm_dc od_L_law_13 37 rfl) ?_
    refine mm_zret .boolean (mm_dc od_L_law_13 38 rfl) rfl rfl ?_
    first | exact absurd (rfl : a = a) (by assumption) | (have q := mm_cmp_is a a; omega)
theorem law_30 {X : Nat × (Nat → Int)} {M : mm_M} (hx : ∀ i, mm_r32 (X.2 i)) (hX : X.1 ≤ 2560) (hI : inv M) (j : Nat) (hj : (j : Int) ≤ X.1 - 5) (K : ∀ N, inv N → mm_G X 20 600000 7302250 mi_L_law LPo 1178 [(0, v_r 1012), (1, v_r 0), (2, v_r 50), (3, v_i (j : Int))] [] Lam N 91 11006) : mm_G X 20 600000 7302250 mi_L_law LPo 1155 [(0, v_r 1012), (1, v_r 0), (2, v_r 50), (3, v_i (j : Int))] [] Lam M 91 11006 := by
  refine mm_aload_n (mm_dc od_L_law_13 39 rfl) rfl ?_
  refine mm_aload_n (mm_dc od_L_law_13 40 rfl) rfl ?_
  refine mm_iload_n (mm_dc od_L_law_13 41 rfl) rfl ?_
  refine mm_iconst (mm_dc od_L_law_13 42 rfl) ?_
  refine mm_iadd (mm_dc od_L_law_13 43 rfl) ?_
  refine mm_aldX (mm_dc od_L_law_13 44 rfl) (by first | assumption | omega | exact hx _) (by first | assumption | omega | exact hx _) (by first | assumption | omega | exact hx _) ?_
  obtain ⟨PX, hx1, hm0⟩ := (pair_count hI (X.2 (Int.toNat ((j : Int) + 1))) (hx _)).to2
  refine mm_callV (b := 0) (mi' := mi_X9_count) [v_i (X.2 (Int.toNat ((j : Int) + 1)))] [] (mm_dc od_L_law_13 45 rfl) rfl wd_4_102 wd_4_103 wd_4_104 wd_1_1 wd_4_105 yk_X9_count rfl rfl rfl (Nat.le_of_ble_eq_true rfl) rfl (by decide) (hx1 X 7 _ (fun a MX hPX => ⟨Nat.le_refl _, ?_⟩))
  obtain ⟨ha, hal, hm1⟩ := hm0 a MX hPX
  have ha2 := ha rfl
  refine mm_aload_n (mm_dc od_L_law_13 46 rfl) rfl ?_
  refine mm_aload_n (mm_dc od_L_law_13 47 rfl) rfl ?_
  refine mm_iload_n (mm_dc od_L_law_13 48 rfl) rfl ?_
  refine mm_iconst (mm_dc od_L_law_13 49 rfl) ?_
  refine mm_iadd (mm_dc od_L_law_13 50 rfl) ?_
  refine mm_aldX (mm_dc od_L_law_13 51 rfl) (by first | assumption | omega | exact hx _) (by first | assumption | omega | exact hx _) (by first | assumption | omega | exact hx _) ?_
  refine mm_callV (b := 50) (mi' := mi_X10_count) [v_i (X.2 (Int.toNat ((j : Int) + 1)))] [v_i a] (mm_dc od_L_law_13 52 rfl) rfl wd_6_66 wd_6_67 wd_6_68 wd_1_12 wd_6_69 yk_X10_count rfl rfl rfl (Nat.le_of_ble_eq_true rfl) rfl (by decide) (hm1 X 7 _ (fun MM hI2 => ⟨Nat.le_refl _, ?_⟩))
  refine mm_icmp_eq 1178 (mm_dc od_L_law_13 53 rfl) (by omega) (by first | assumption | omega | exact hx _) (by first | assumption | omega | exact hx _) (fun c1 => ?_) (fun c1 => ?_)
  · exact K MM hI2
  · refine mm_iconst (mm_dc od_L_law_13 54 rfl) ?_
    refine mm_zret .boolean (mm_dc od_L_law_13 55 rfl) rfl rfl ?_
    first | exact absurd (rfl : a = a) (by assumption) | (have q := mm_cmp_is a a; omega)
theorem law_loop {X : Nat × (Nat → Int)} (hx : ∀ i, mm_r32 (X.2 i)) (hX : X.1 ≤ 2560) : ∀ (n j : Nat) (M : mm_M), inv M → X.1 ≤ j + n → j ≤ 2600 → mm_G X 20 600000 7302250 mi_L_law LPo 18 [(0, v_r 1012), (1, v_r 0), (2, v_r 50), (3, v_i (j : Int))] [] Lam M 91 11006 := by
  intro n
  induction n with
  | zero =>
    intro j M hI hn hj
    refine mm_iload_n (mm_dc od_L_law_0 10 rfl) rfl ?_
    refine mm_aload_n (mm_dc od_L_law_0 11 rfl) rfl ?_
    refine mm_alenX (mm_dc od_L_law_0 12 rfl) ?_
    refine mm_iconst (mm_dc od_L_law_0 13 rfl) ?_
    refine mm_isub (mm_dc od_L_law_0 14 rfl) ?_
    refine mm_icmp_gt 1184 (mm_dc od_L_law_0 15 rfl) (by omega) (by omega) (by omega) (fun c => ?_) (fun c => ?_)
    · refine mm_iconst (mm_dc od_L_law_13 58 rfl) ?_
      exact mm_zret .boolean (mm_dc od_L_law_13 59 rfl) rfl rfl rfl
    · omega
  | succ n ih =>
    intro j M hI hn hj
    refine mm_iload_n (mm_dc od_L_law_0 10 rfl) rfl ?_
    refine mm_aload_n (mm_dc od_L_law_0 11 rfl) rfl ?_
    refine mm_alenX (mm_dc od_L_law_0 12 rfl) ?_
    refine mm_iconst (mm_dc od_L_law_0 13 rfl) ?_
    refine mm_isub (mm_dc od_L_law_0 14 rfl) ?_
    refine mm_icmp_gt 1184 (mm_dc od_L_law_0 15 rfl) (by omega) (by omega) (by omega) (fun c => ?_) (fun c => ?_)
    · refine mm_iconst (mm_dc od_L_law_13 58 rfl) ?_
      exact mm_zret .boolean (mm_dc od_L_law_13 59 rfl) rfl rfl rfl
    · have K : ∀ N, inv N → mm_G X 20 600000 7302250 mi_L_law LPo 1178 [(0, v_r 1012), (1, v_r 0), (2, v_r 50), (3, v_i (j : Int))] [] Lam N 91 11006 := by
        intro N hN
        refine mm_iinc (L' := [(0, v_r 1012), (1, v_r 0), (2, v_r 50), (3, v_i ((j : Int) + 5))]) (mm_dc od_L_law_13 56 rfl) rfl (by decide) rfl ?_
        refine mm_goto 18 (mm_dc od_L_law_13 57 rfl) (by omega) ?_
        exact ih (j + 5) N hN (by omega) (by omega)
      refine mm_aload_n (mm_dc od_L_law_0 16 rfl) rfl ?_
      refine mm_iload_n (mm_dc od_L_law_0 17 rfl) rfl ?_
      refine mm_aldX (mm_dc od_L_law_0 18 rfl) (by omega) (by omega) (by omega) ?_
      refine mm_bipush (mm_dc od_L_law_0 19 rfl) (by decide) ?_
      refine mm_iand (mm_dc od_L_law_0 20 rfl) ?_
      have hz := fx_and_31 (X.2 (Int.toNat (j : Int)))
      refine mm_topi (fun z ez => ?_)
      rw [← ez] at hz
      have hc : (z < 0 ∨ 30 < z) ∨ z = 0 ∨ z = 1 ∨ z = 2 ∨ z = 3 ∨ z = 4 ∨ z = 5 ∨ z = 6 ∨ z = 7 ∨ z = 8 ∨ z = 9 ∨ z = 10 ∨ z = 11 ∨ z = 12 ∨ z = 13 ∨ z = 14 ∨ z = 15 ∨ z = 16 ∨ z = 17 ∨ z = 18 ∨ z = 19 ∨ z = 20 ∨ z = 21 ∨ z = 22 ∨ z = 23 ∨ z = 24 ∨ z = 25 ∨ z = 26 ∨ z = 27 ∨ z = 28 ∨ z = 29 ∨ z = 30 := by omega
      rcases hc with hc | hc | hc | hc | hc | hc | hc | hc | hc | hc | hc | hc | hc | hc | hc | hc | hc | hc | hc | hc | hc | hc | hc | hc | hc | hc | hc | hc | hc | hc | hc | hc
      · exact mm_tabOut 1178 (mm_dc od_L_law_0 21 rfl) (by omega) hc (by omega) (K M hI)
      · exact mm_tabIn (off := 140) 172 (mm_dc od_L_law_0 21 rfl) (by omega) (by omega) (by omega) (by rw [hc]; rfl) (by omega) (law_0 hx hX hI j (by omega) K)
      · exact mm_tabIn (off := 173) 205 (mm_dc od_L_law_0 21 rfl) (by omega) (by omega) (by omega) (by rw [hc]; rfl) (by omega) (law_1 hx hX hI j (by omega) K)
      · exact mm_tabIn (off := 226) 258 (mm_dc od_L_law_0 21 rfl) (by omega) (by omega) (by omega) (by rw [hc]; rfl) (by omega) (law_2 hx hX hI j (by omega) K)
      · exact mm_tabIn (off := 259) 291 (mm_dc od_L_law_0 21 rfl) (by omega) (by omega) (by omega) (by rw [hc]; rfl) (by omega) (law_3 hx hX hI j (by omega) K)
      · exact mm_tabIn (off := 302) 334 (mm_dc od_L_law_0 21 rfl) (by omega) (by omega) (by omega) (by rw [hc]; rfl) (by omega) (law_4 hx hX hI j (by omega) K)
      · exact mm_tabIn (off := 335) 367 (mm_dc od_L_law_0 21 rfl) (by omega) (by omega) (by omega) (by rw [hc]; rfl) (by omega) (law_5 hx hX hI j (by omega) K)
      · exact mm_tabIn (off := 368) 400 (mm_dc od_L_law_0 21 rfl) (by omega) (by omega) (by omega) (by rw [hc]; rfl) (by omega) (law_6 hx hX hI j (by omega) K)
      · exact mm_tabIn (off := 411) 443 (mm_dc od_L_law_0 21 rfl) (by omega) (by omega) (by omega) (by rw [hc]; rfl) (by omega) (law_7 hx hX hI j (by omega) K)
      · exact mm_tabIn (off := 424) 456 (mm_dc od_L_law_0 21 rfl) (by omega) (by omega) (by omega) (by rw [hc]; rfl) (by omega) (law_8 hx hX hI j (by omega) K)
      · exact mm_tabIn (off := 447) 479 (mm_dc od_L_law_0 21 rfl) (by omega) (by omega) (by omega) (by rw [hc]; rfl) (by omega) (law_9 hx hX hI j (by omega) K)
      · exact mm_tabIn (off := 481) 513 (mm_dc od_L_law_0 21 rfl) (by omega) (by omega) (by omega) (by rw [hc]; rfl) (by omega) (law_10 hx hX hI j (by omega) K)
      · exact mm_tabIn (off := 525) 557 (mm_dc od_L_law_0 21 rfl) (by omega) (by omega) (by omega) (by rw [hc]; rfl) (by omega) (law_11 hx hX hI j (by omega) K)
      · exact mm_tabIn (off := 559) 591 (mm_dc od_L_law_0 21 rfl) (by omega) (by omega) (by omega) (by rw [hc]; rfl) (by omega) (law_12 hx hX hI j (by omega) K)
      · exact mm_tabIn (off := 592) 624 (mm_dc od_L_law_0 21 rfl) (by omega) (by omega) (by omega) (by rw [hc]; rfl) (by omega) (law_13 hx hX hI j (by omega) K)
      · exact mm_tabIn (off := 635) 667 (mm_dc od_L_law_0 21 rfl) (by omega) (by omega) (by omega) (by rw [hc]; rfl) (by omega) (law_14 hx hX hI j (by omega) K)
      · exact mm_tabIn (off := 678) 710 (mm_dc od_L_law_0 21 rfl) (by omega) (by omega) (by omega) (by rw [hc]; rfl) (by omega) (law_15 hx hX hI j (by omega) K)
      · exact mm_tabIn (off := 741) 773 (mm_dc od_L_law_0 21 rfl) (by omega) (by omega) (by omega) (by rw [hc]; rfl) (by omega) (law_16 hx hX hI j (by omega) K)
      · exact mm_tabIn (off := 754) 786 (mm_dc od_L_law_0 21 rfl) (by omega) (by omega) (by omega) (by rw [hc]; rfl) (by omega) (law_17 hx hX hI j (by omega) K)
      · exact mm_tabIn (off := 787) 819 (mm_dc od_L_law_0 21 rfl) (by omega) (by omega) (by omega) (by rw [hc]; rfl) (by omega) (law_18 hx hX hI j (by omega) K)
      · exact mm_tabIn (off := 820) 852 (mm_dc od_L_law_0 21 rfl) (by omega) (by omega) (by omega) (by rw [hc]; rfl) (by omega) (law_19 hx hX hI j (by omega) K)
      · exact mm_tabIn (off := 843) 875 (mm_dc od_L_law_0 21 rfl) (by omega) (by omega) (by omega) (by rw [hc]; rfl) (by omega) (law_20 hx hX hI j (by omega) K)
      · exact mm_tabIn (off := 876) 908 (mm_dc od_L_law_0 21 rfl) (by omega) (by omega) (by omega) (by rw [hc]; rfl) (by omega) (law_21 hx hX hI j (by omega) K)
      · exact mm_tabIn (off := 909) 941 (mm_dc od_L_law_0 21 rfl) (by omega) (by omega) (by omega) (by rw [hc]; rfl) (by omega) (law_22 hx hX hI j (by omega) K)
      · exact mm_tabIn (off := 942) 974 (mm_dc od_L_law_0 21 rfl) (by omega) (by omega) (by omega) (by rw [hc]; rfl) (by omega) (law_23 hx hX hI j (by omega) K)
      · exact mm_tabIn (off := 975) 1007 (mm_dc od_L_law_0 21 rfl) (by omega) (by omega) (by omega) (by rw [hc]; rfl) (by omega) (law_24 hx hX hI j (by omega) K)
      · exact mm_tabIn (off := 1008) 1040 (mm_dc od_L_law_0 21 rfl) (by omega) (by omega) (by omega) (by rw [hc]; rfl) (by omega) (law_25 hx hX hI j (by omega) K)
      · exact mm_tabIn (off := 1031) 1063 (mm_dc od_L_law_0 21 rfl) (by omega) (by omega) (by omega) (by rw [hc]; rfl) (by omega) (law_26 hx hX hI j (by omega) K)
      · exact mm_tabIn (off := 1044) 1076 (mm_dc od_L_law_0 21 rfl) (by omega) (by omega) (by omega) (by rw [hc]; rfl) (by omega) (law_27 hx hX hI j (by omega) K)
      · exact mm_tabIn (off := 1067) 1099 (mm_dc od_L_law_0 21 rfl) (by omega) (by omega) (by omega) (by rw [hc]; rfl) (by omega) (law_28 hx hX hI j (by omega) K)
      · exact mm_tabIn (off := 1100) 1132 (mm_dc od_L_law_0 21 rfl) (by omega) (by omega) (by omega) (by rw [hc]; rfl) (by omega) (law_29 hx hX hI j (by omega) K)
      · exact mm_tabIn (off := 1123) 1155 (mm_dc od_L_law_0 21 rfl) (by omega) (by omega) (by omega) (by rw [hc]; rfl) (by omega) (law_30 hx hX hI j (by omega) K)

theorem R32_0 : R32 mm_M0 := fun _ _ _ => by show mm_r32 0; decide
set_option maxRecDepth 4000 in
theorem inv_start : inv mem_9 := by
  have h1 : R32 mem_1 := R32_up (R32_up R32_0 (by decide)) (by decide)
  have h2 : R32 mem_2 := R32_up (R32_up h1 (by decide)) (by decide)
  have h3 : R32 mem_3 := R32_up (R32_up h2 (by decide)) (by decide)
  have h4 : R32 mem_4 := R32_up h3 (by decide)
  have h5 : R32 mem_5 := R32_up (R32_up h4 (by decide)) (by decide)
  have h6 : R32 mem_6 := R32_up (R32_up h5 (by decide)) (by decide)
  have h7 : R32 mem_7 := R32_fill (R32_up h6 (by decide)) (by decide)
  have h8 : R32 mem_8 := R32_up h7 (by decide)
  have h9 : R32 mem_9 := R32_up (R32_up (R32_up (R32_up (R32_up (R32_up (R32_up (R32_up (R32_up h8 (by decide)) (by decide)) (by decide)) (by decide)) (by decide)) (by decide)) (by decide)) (by decide)) (by decide)
  refine ⟨h9, ⟨by decide, by decide, fun o ho => absurd ho (by show ¬ ((o : Int) < 0); omega)⟩, ⟨by decide, by decide, fun o ho => absurd ho (by show ¬ ((o : Int) < 0); omega)⟩, ⟨by decide, by decide, fun o ho => absurd ho (by show ¬ ((o : Int) < 0); omega)⟩, ⟨by decide, by decide, fun o ho => absurd ho (by show ¬ ((o : Int) < 0); omega)⟩, ⟨by decide, by decide, fun o ho => absurd ho (by show ¬ ((o : Int) < 0); omega)⟩, ⟨fun o ho => absurd ho (by show ¬ ((o : Int) < 0); omega), fun o q ho => absurd ho (by show ¬ ((o : Int) < 0); omega)⟩, ⟨rfl, fun o ho => absurd ho (by show ¬ ((o : Int) < 0); omega), fun o _ _ => ⟨rfl, rfl⟩⟩, ⟨rfl, fun o ho => absurd ho (by show ¬ ((o : Int) < 0); omega)⟩, ⟨rfl, fun o ho => absurd ho (by show ¬ ((o : Int) < 0); omega)⟩, ⟨rfl, by decide, by decide, fun i _ => ⟨rfl, rfl, (show (0 : Int) ≤ 0 by decide), (show (0 : Int) ≤ 200 by decide), (show (0 : Int) ≤ 0 by decide), (show (0 : Int) ≤ 12 by decide)⟩⟩, ⟨rfl, by decide, by decide, fun o ho => absurd ho (by show ¬ ((o : Int) < 0); omega)⟩, ⟨rfl, by decide, by decide, fun o ho => absurd ho (by show ¬ ((o : Int) < 0); omega)⟩, ⟨⟨rfl, by decide, by decide, fun o ho => absurd ho (by show ¬ ((o : Int) < 0); omega)⟩, ⟨rfl, by decide, by decide, fun o ho => absurd ho (by show ¬ ((o : Int) < 0); omega)⟩, fun b hb => ⟨Or.inl rfl, fun f hf => ?_⟩⟩, ⟨rfl, by decide, by decide, rfl, by decide, by decide, fun o ho => absurd ho (by show ¬ ((o : Int) < 0); omega)⟩, fun b hb => ?_⟩
  · have hf2 : lastP (fun i => mem_9 40 i = b) f 0 := hf
    refine ⟨fun h => absurd h (by show ¬ (0 : Int) = 1; decide), fun h => ?_⟩
    rcases hf2 with ⟨e, _⟩ | ⟨a, a2, _⟩
    · exact absurd e h.1
    · omega
  · rcases (show b = 0 ∨ b = 1 ∨ b = 2 ∨ b = 3 ∨ b = 4 ∨ b = 5 ∨ b = 6 ∨ b = 7 by omega) with rfl | rfl | rfl | rfl | rfl | rfl | rfl | rfl <;> rfl

theorem law_all {X : Nat × (Nat → Int)} (hx : ∀ i, mm_r32 (X.2 i)) (hX : X.1 ≤ 2560) : mm_G X 20 600000 7302250 mi_L_law LPo 0 [(0, v_r 1012)] [] [] mm_M0 0 0 := by
  refine mm_newo (ci := 9) (q := 0) (La' := la_0) (mm_dc od_L_law_0 0 rfl) rfl in_X9 tyX9_ok wd_1_20 wd_1_21 wd_1_1 rfl rfl (by decide) rfl (by decide) rfl rfl (fun _ => rfl) rfl ?_
  refine mm_dup_r (mm_dc od_L_law_0 1 rfl) ?_
  refine mm_callI (b := 0) (mi' := mi_X9_init) [] [v_r 0] (mm_dc od_L_law_0 2 rfl) rfl wd_1_22 wd_1_23 wd_1_1 wd_1_24 rfl rfl yk_X9_init (Nat.le_of_ble_eq_true rfl) rfl (by decide) (c_X9_init (d := 17) ⟨by decide, ?_⟩)
  refine mm_astore_n (L' := [(0, v_r 1012), (1, v_r 0)]) (mm_dc od_L_law_0 3 rfl) (by decide) rfl ?_
  refine mm_newo (ci := 10) (q := 50) (La' := la_99) (mm_dc od_L_law_0 4 rfl) rfl in_X10 tyX10_ok wd_4_106 wd_4_107 wd_1_12 rfl rfl (by decide) rfl (by decide) rfl rfl (fun _ => rfl) rfl ?_
  refine mm_dup_r (mm_dc od_L_law_0 5 rfl) ?_
  refine mm_callI (b := 50) (mi' := mi_X10_init) [] [v_r 50] (mm_dc od_L_law_0 6 rfl) rfl wd_4_108 wd_4_109 wd_1_12 wd_4_110 rfl rfl yk_X10_init (Nat.le_of_ble_eq_true rfl) rfl (by decide) (c_X10_init (d := 19) ⟨by decide, ?_⟩)
  refine mm_astore_n (L' := [(0, v_r 1012), (1, v_r 0), (2, v_r 50)]) (mm_dc od_L_law_0 7 rfl) (by decide) rfl ?_
  refine mm_iconst (mm_dc od_L_law_0 8 rfl) ?_
  refine mm_istore_n (L' := [(0, v_r 1012), (1, v_r 0), (2, v_r 50), (3, v_i 0)]) (mm_dc od_L_law_0 9 rfl) (by decide) rfl ?_
  exact law_loop hx hX X.1 0 mem_9 inv_start (by omega) (by omega)
