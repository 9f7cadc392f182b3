/-! texts -/
def tx (i j : Nat) : Int := (mm_str.getD i (0, "", [])).2.2.getD j 0
theorem gd_map (l : List Int) (j : Nat) : (l.map Int32.ofInt).getD j 0 = Int32.ofInt (l.getD j 0) := by
  rw [List.getD_eq_getElem?_getD, List.getD_eq_getElem?_getD, List.getElem?_map]
  cases l[j]? <;> rfl

theorem tx_b0 (j : Nat) : (mm_sbyt.getD 0 []).getD ((j : Int)).toNat 0 = Int32.ofInt (tx 0 j) := gd_map _ j
theorem tx_a0 : ∀ j : Nat, j < 9 → fx_and (tx 0 j) 255 = tx 0 j ∧ ((Int32.ofInt (tx 0 j)).toUInt32 % 65536).toInt32 = Int32.ofInt (tx 0 j) ∧ (Int32.ofInt (tx 0 j)).toUInt32.toUInt16.toUInt32.toInt32 = Int32.ofInt (tx 0 j) ∧ 0 ≤ tx 0 j ∧ tx 0 j < 128 := by decide +kernel
theorem tx_b1 (j : Nat) : (mm_sbyt.getD 1 []).getD ((j : Int)).toNat 0 = Int32.ofInt (tx 1 j) := gd_map _ j
theorem tx_a1 : ∀ j : Nat, j < 29 → fx_and (tx 1 j) 255 = tx 1 j ∧ ((Int32.ofInt (tx 1 j)).toUInt32 % 65536).toInt32 = Int32.ofInt (tx 1 j) ∧ (Int32.ofInt (tx 1 j)).toUInt32.toUInt16.toUInt32.toInt32 = Int32.ofInt (tx 1 j) ∧ 0 ≤ tx 1 j ∧ tx 1 j < 128 := by decide +kernel
theorem tx_b2 (j : Nat) : (mm_sbyt.getD 2 []).getD ((j : Int)).toNat 0 = Int32.ofInt (tx 2 j) := gd_map _ j
theorem tx_a2 : ∀ j : Nat, j < 4 → fx_and (tx 2 j) 255 = tx 2 j ∧ ((Int32.ofInt (tx 2 j)).toUInt32 % 65536).toInt32 = Int32.ofInt (tx 2 j) ∧ (Int32.ofInt (tx 2 j)).toUInt32.toUInt16.toUInt32.toInt32 = Int32.ofInt (tx 2 j) ∧ 0 ≤ tx 2 j ∧ tx 2 j < 128 := by decide +kernel
theorem tx_b3 (j : Nat) : (mm_sbyt.getD 3 []).getD ((j : Int)).toNat 0 = Int32.ofInt (tx 3 j) := gd_map _ j
theorem tx_a3 : ∀ j : Nat, j < 37 → fx_and (tx 3 j) 255 = tx 3 j ∧ ((Int32.ofInt (tx 3 j)).toUInt32 % 65536).toInt32 = Int32.ofInt (tx 3 j) ∧ (Int32.ofInt (tx 3 j)).toUInt32.toUInt16.toUInt32.toInt32 = Int32.ofInt (tx 3 j) ∧ 0 ≤ tx 3 j ∧ tx 3 j < 128 := by decide +kernel
theorem tx_b4 (j : Nat) : (mm_sbyt.getD 4 []).getD ((j : Int)).toNat 0 = Int32.ofInt (tx 4 j) := gd_map _ j
theorem tx_a4 : ∀ j : Nat, j < 5 → fx_and (tx 4 j) 255 = tx 4 j ∧ ((Int32.ofInt (tx 4 j)).toUInt32 % 65536).toInt32 = Int32.ofInt (tx 4 j) ∧ (Int32.ofInt (tx 4 j)).toUInt32.toUInt16.toUInt32.toInt32 = Int32.ofInt (tx 4 j) ∧ 0 ≤ tx 4 j ∧ tx 4 j < 128 := by decide +kernel
theorem c_ckN {X : Nat × (Nat → Int)} {d : Nat} {Po : mm_Po} {M : mm_M} (i n : Int) (h : 0 ≤ i ∧ i < n) (hn : mm_r32 n) (k : Po (some (v_i i)) Lam M) : mm_G X d 0 0 mi_J3_checkIndex_8e157 Po 0 [(0, v_i i), (1, v_i n), (2, v_n)] [] Lam M 0 0 := by
  refine mm_iload_n (mm_dc od_J3_checkIndex_8e157_0 0 rfl) rfl ?_
  refine mm_if_lt 9 (mm_dc od_J3_checkIndex_8e157_0 1 rfl) (by omega) (by first | omega | assumption) (fun c1 => ?_) (fun c1 => ?_)
  · exfalso; omega
  · refine mm_iload_n (mm_dc od_J3_checkIndex_8e157_0 2 rfl) rfl ?_
    refine mm_iload_n (mm_dc od_J3_checkIndex_8e157_0 3 rfl) rfl ?_
    refine mm_icmp_lt 16 (mm_dc od_J3_checkIndex_8e157_0 4 rfl) (by omega) (by first | omega | assumption) (by first | omega | assumption) (fun c2 => ?_) (fun c2 => ?_)
    · refine mm_iload_n (mm_dc od_J3_checkIndex_8e157_0 10 rfl) rfl ?_
      refine mm_iret (mm_dc od_J3_checkIndex_8e157_0 11 rfl) rfl ?_
      exact k
    · exfalso; omega
theorem c_ckR {X : Nat × (Nat → Int)} {d : Nat} {Po : mm_Po} {M : mm_M} (i n : Int) (h : 0 ≤ i ∧ i < n) (hn : mm_r32 n) (k : Po (some (v_i i)) Lam M) : mm_G X d 0 0 mi_J3_checkIndex_8e157 Po 0 [(0, v_i i), (1, v_i n), (2, v_r 1013)] [] Lam M 0 0 := by
  refine mm_iload_n (mm_dc od_J3_checkIndex_8e157_0 0 rfl) rfl ?_
  refine mm_if_lt 9 (mm_dc od_J3_checkIndex_8e157_0 1 rfl) (by omega) (by first | omega | assumption) (fun c1 => ?_) (fun c1 => ?_)
  · exfalso; omega
  · refine mm_iload_n (mm_dc od_J3_checkIndex_8e157_0 2 rfl) rfl ?_
    refine mm_iload_n (mm_dc od_J3_checkIndex_8e157_0 3 rfl) rfl ?_
    refine mm_icmp_lt 16 (mm_dc od_J3_checkIndex_8e157_0 4 rfl) (by omega) (by first | omega | assumption) (by first | omega | assumption) (fun c2 => ?_) (fun c2 => ?_)
    · refine mm_iload_n (mm_dc od_J3_checkIndex_8e157_0 10 rfl) rfl ?_
      refine mm_iret (mm_dc od_J3_checkIndex_8e157_0 11 rfl) rfl ?_
      exact k
    · exfalso; omega
theorem c_ck0 {X : Nat × (Nat → Int)} {d : Nat} {Po : mm_Po} {M : mm_M} (i n : Int) (h : 0 ≤ i ∧ i < n) (hn : mm_r32 n) (k : Po none Lam M) : mm_G X (d + 1) 0 0 mi_J0_checkIndex_df160 Po 0 [(0, v_i i), (1, v_i n)] [] Lam M 0 0 := by
  refine mm_iload_n (mm_dc od_J0_checkIndex_df160_0 0 rfl) rfl ?_
  refine mm_iload_n (mm_dc od_J0_checkIndex_df160_0 1 rfl) rfl ?_
  refine mm_getS3 (mm_dc od_J0_checkIndex_df160_0 2 rfl) wd_3_113 ?_ ?_
  · refine mm_callS (mi' := mi_J3_checkIndex_8e157) [v_i i, v_i n, v_n] [] (mm_dc od_J0_checkIndex_df160_0 3 rfl) rfl wd_3_115 wd_3_116 wd_1_18 wd_3_117 yk_J3_checkIndex_8e157 (Nat.le_of_ble_eq_true rfl) rfl (by decide) (c_ckN i n h hn ⟨Nat.le_refl _, ?_⟩)
    refine mm_pop_i (mm_dc od_J0_checkIndex_df160_0 4 rfl) ?_
    refine mm_ret (mm_dc od_J0_checkIndex_df160_0 5 rfl) rfl ?_
    exact k
  · refine mm_callS (mi' := mi_J3_checkIndex_8e157) [v_i i, v_i n, v_r 1013] [] (mm_dc od_J0_checkIndex_df160_0 3 rfl) rfl wd_3_115 wd_3_116 wd_1_18 wd_3_117 yk_J3_checkIndex_8e157 (Nat.le_of_ble_eq_true rfl) rfl (by decide) (c_ckR i n h hn ⟨Nat.le_refl _, ?_⟩)
    refine mm_pop_i (mm_dc od_J0_checkIndex_df160_0 4 rfl) ?_
    refine mm_ret (mm_dc od_J0_checkIndex_df160_0 5 rfl) rfl ?_
    exact k
theorem c_coder0 {X : Nat × (Nat → Int)} {d : Nat} {Po : mm_Po} {M : mm_M} (k : Po (some (v_i 0)) Lam M) : mm_G X d 0 0 mi_J0_coder_7d493 Po 0 [(0, v_r 1002)] [] Lam M 0 0 := by
  refine mm_getS2 (mm_dc od_J0_coder_7d493_0 0 rfl) wd_3_97 ?_
  refine mm_if_eq 13 (mm_dc od_J0_coder_7d493_0 1 rfl) (by omega) (by first | assumption | omega | exact hr _ _ rfl | exact mm_ti _ | exact mm_r3264 (hr _ _ rfl)) (fun h => absurd h (by decide)) (fun _ => ?_)
  refine mm_aload_n (mm_dc od_J0_coder_7d493_0 2 rfl) rfl ?_
  refine mm_getC (i := 0) (by decide) (mm_dc od_J0_coder_7d493_0 3 rfl) wd_6_72 ?_
  refine mm_goto 14 (mm_dc od_J0_coder_7d493_0 4 rfl) (by omega) ?_
  refine mm_zret .byte (mm_dc od_J0_coder_7d493_0 6 rfl) rfl rfl ?_
  exact k
theorem c_isLat0 {X : Nat × (Nat → Int)} {d : Nat} {Po : mm_Po} {M : mm_M} (k : Po (some (v_i 1)) Lam M) : mm_G X d 0 0 mi_J0_isLatin1_aae02 Po 0 [(0, v_r 1002)] [] Lam M 0 0 := by
  refine mm_getS2 (mm_dc od_J0_isLatin1_aae02_0 0 rfl) wd_3_97 ?_
  refine mm_if_eq 17 (mm_dc od_J0_isLatin1_aae02_0 1 rfl) (by omega) (by first | assumption | omega | exact hr _ _ rfl | exact mm_ti _ | exact mm_r3264 (hr _ _ rfl)) (fun h => absurd h (by decide)) (fun _ => ?_)
  refine mm_aload_n (mm_dc od_J0_isLatin1_aae02_0 2 rfl) rfl ?_
  refine mm_getC (i := 0) (by decide) (mm_dc od_J0_isLatin1_aae02_0 3 rfl) wd_6_72 ?_
  refine mm_if_ne 17 (mm_dc od_J0_isLatin1_aae02_0 4 rfl) (by omega) (by first | assumption | omega | exact hr _ _ rfl | exact mm_ti _ | exact mm_r3264 (hr _ _ rfl)) (fun h => absurd h (by decide)) (fun _ => ?_)
  refine mm_iconst (mm_dc od_J0_isLatin1_aae02_0 5 rfl) ?_
  refine mm_goto 18 (mm_dc od_J0_isLatin1_aae02_0 6 rfl) (by omega) ?_
  refine mm_zret .boolean (mm_dc od_J0_isLatin1_aae02_0 8 rfl) rfl rfl ?_
  exact k
theorem c_len0 {X : Nat × (Nat → Int)} {d : Nat} {Po : mm_Po} {M : mm_M} (k : Po (some (v_i 9)) Lam M) : mm_G X (d + 1) 0 0 mi_J0_length_8abf5 Po 0 [(0, v_r 1002)] [] Lam M 0 0 := by
  refine mm_aload_n (mm_dc od_J0_length_8abf5_0 0 rfl) rfl ?_
  refine mm_getV (i := 0) (by decide) (mm_dc od_J0_length_8abf5_0 1 rfl) wd_6_71 ?_
  refine mm_alenB (i := 0) rfl (mm_dc od_J0_length_8abf5_0 2 rfl) ?_
  refine mm_aload_n (mm_dc od_J0_length_8abf5_0 3 rfl) rfl ?_
  refine mm_callT (i := 0) (mi' := mi_J0_coder_7d493) [] [v_i 9] (mm_dc od_J0_length_8abf5_0 4 rfl) rfl wd_3_93 wd_3_94 wd_3_95 wd_1_16 wd_3_96 yk_J0_coder_7d493 (by decide) rfl (Nat.le_of_ble_eq_true rfl) rfl (by decide) (c_coder0 ⟨Nat.le_refl _, ?_⟩)
  refine mm_ishr (mm_dc od_J0_length_8abf5_0 5 rfl) ?_
  refine mm_iret (mm_dc od_J0_length_8abf5_0 6 rfl) rfl ?_
  exact mm_pi (by decide) k
theorem c_lch0 {X : Nat × (Nat → Int)} {d : Nat} {Po : mm_Po} {M : mm_M} (j : Nat) (hj : j < 9) (k : Po (some (v_i (tx 0 j))) Lam M) : mm_G X (d + 2) 0 0 mi_J1_charAt_3b067 Po 0 [(0, v_r 1007), (1, v_i (j : Int))] [] Lam M 0 0 := by
  refine mm_iload_n (mm_dc od_J1_charAt_3b067_0 0 rfl) rfl ?_
  refine mm_aload_n (mm_dc od_J1_charAt_3b067_0 1 rfl) rfl ?_
  refine mm_alenB (i := 0) rfl (mm_dc od_J1_charAt_3b067_0 2 rfl) ?_
  refine mm_callS (mi' := mi_J0_checkIndex_df160) [v_i (j : Int), v_i 9] [] (mm_dc od_J1_charAt_3b067_0 3 rfl) rfl wd_3_110 wd_3_111 wd_1_16 wd_3_112 yk_J0_checkIndex_df160 (Nat.le_of_ble_eq_true rfl) rfl (by decide) (c_ck0 (j : Int) 9 (by omega) (by decide) ⟨Nat.le_refl _, ?_⟩)
  refine mm_aload_n (mm_dc od_J1_charAt_3b067_0 4 rfl) rfl ?_
  refine mm_iload_n (mm_dc od_J1_charAt_3b067_0 5 rfl) rfl ?_
  refine mm_bald (i := 0) (n := 9) (v := tx 0 j) rfl (by omega) (by omega) (by decide) (tx_b0 j) (mm_dc od_J1_charAt_3b067_0 6 rfl) ?_
  refine mm_sipush (mm_dc od_J1_charAt_3b067_0 7 rfl) (by decide) ?_
  refine mm_iand (mm_dc od_J1_charAt_3b067_0 8 rfl) ?_
  refine mm_cst (st' := [v_i (tx 0 j)]) (by rw [(tx_a0 j hj).1]; rfl) ?_
  refine mm_i2c (mm_dc od_J1_charAt_3b067_0 9 rfl) (tx_a0 j hj).2.1 ?_
  refine mm_zret .char (mm_dc od_J1_charAt_3b067_0 10 rfl) rfl (congrArg Value.int (tx_a0 j hj).2.2.1) ?_
  exact k
theorem c_chr0 {X : Nat × (Nat → Int)} {d : Nat} {Po : mm_Po} {M : mm_M} (j : Nat) (hj : j < 9) (k : Po (some (v_i (tx 0 j))) Lam M) : mm_G X (d + 3) 0 0 mi_J0_charAt_5068e Po 0 [(0, v_r 1002), (1, v_i (j : Int))] [] Lam M 0 0 := by
  refine mm_aload_n (mm_dc od_J0_charAt_5068e_0 0 rfl) rfl ?_
  refine mm_callT (i := 0) (mi' := mi_J0_isLatin1_aae02) [] [] (mm_dc od_J0_charAt_5068e_0 1 rfl) rfl wd_3_103 wd_3_104 wd_3_105 wd_1_16 wd_3_106 yk_J0_isLatin1_aae02 (by decide) rfl (Nat.le_of_ble_eq_true rfl) rfl (by decide) (c_isLat0 ⟨Nat.le_refl _, ?_⟩)
  refine mm_if_eq 16 (mm_dc od_J0_charAt_5068e_0 2 rfl) (by omega) (by first | assumption | omega | exact hr _ _ rfl | exact mm_ti _ | exact mm_r3264 (hr _ _ rfl)) (fun h => absurd h (by decide)) (fun _ => ?_)
  refine mm_aload_n (mm_dc od_J0_charAt_5068e_0 3 rfl) rfl ?_
  refine mm_getV (i := 0) (by decide) (mm_dc od_J0_charAt_5068e_0 4 rfl) wd_6_71 ?_
  refine mm_iload_n (mm_dc od_J0_charAt_5068e_0 5 rfl) rfl ?_
  refine mm_callS (mi' := mi_J1_charAt_3b067) [v_r 1007, v_i (j : Int)] [] (mm_dc od_J0_charAt_5068e_0 6 rfl) rfl wd_3_107 wd_3_108 wd_1_17 wd_3_109 yk_J1_charAt_3b067 (Nat.le_of_ble_eq_true rfl) rfl (by decide) (c_lch0 j hj ⟨Nat.le_refl _, ?_⟩)
  refine mm_zret .char (mm_dc od_J0_charAt_5068e_0 7 rfl) rfl (congrArg Value.int (tx_a0 j hj).2.2.1) ?_
  exact k
theorem c_coder1 {X : Nat × (Nat → Int)} {d : Nat} {Po : mm_Po} {M : mm_M} (k : Po (some (v_i 0)) Lam M) : mm_G X d 0 0 mi_J0_coder_7d493 Po 0 [(0, v_r 1003)] [] Lam M 0 0 := by
  refine mm_getS2 (mm_dc od_J0_coder_7d493_0 0 rfl) wd_3_97 ?_
  refine mm_if_eq 13 (mm_dc od_J0_coder_7d493_0 1 rfl) (by omega) (by first | assumption | omega | exact hr _ _ rfl | exact mm_ti _ | exact mm_r3264 (hr _ _ rfl)) (fun h => absurd h (by decide)) (fun _ => ?_)
  refine mm_aload_n (mm_dc od_J0_coder_7d493_0 2 rfl) rfl ?_
  refine mm_getC (i := 1) (by decide) (mm_dc od_J0_coder_7d493_0 3 rfl) wd_6_72 ?_
  refine mm_goto 14 (mm_dc od_J0_coder_7d493_0 4 rfl) (by omega) ?_
  refine mm_zret .byte (mm_dc od_J0_coder_7d493_0 6 rfl) rfl rfl ?_
  exact k
theorem c_isLat1 {X : Nat × (Nat → Int)} {d : Nat} {Po : mm_Po} {M : mm_M} (k : Po (some (v_i 1)) Lam M) : mm_G X d 0 0 mi_J0_isLatin1_aae02 Po 0 [(0, v_r 1003)] [] Lam M 0 0 := by
  refine mm_getS2 (mm_dc od_J0_isLatin1_aae02_0 0 rfl) wd_3_97 ?_
  refine mm_if_eq 17 (mm_dc od_J0_isLatin1_aae02_0 1 rfl) (by omega) (by first | assumption | omega | exact hr _ _ rfl | exact mm_ti _ | exact mm_r3264 (hr _ _ rfl)) (fun h => absurd h (by decide)) (fun _ => ?_)
  refine mm_aload_n (mm_dc od_J0_isLatin1_aae02_0 2 rfl) rfl ?_
  refine mm_getC (i := 1) (by decide) (mm_dc od_J0_isLatin1_aae02_0 3 rfl) wd_6_72 ?_
  refine mm_if_ne 17 (mm_dc od_J0_isLatin1_aae02_0 4 rfl) (by omega) (by first | assumption | omega | exact hr _ _ rfl | exact mm_ti _ | exact mm_r3264 (hr _ _ rfl)) (fun h => absurd h (by decide)) (fun _ => ?_)
  refine mm_iconst (mm_dc od_J0_isLatin1_aae02_0 5 rfl) ?_
  refine mm_goto 18 (mm_dc od_J0_isLatin1_aae02_0 6 rfl) (by omega) ?_
  refine mm_zret .boolean (mm_dc od_J0_isLatin1_aae02_0 8 rfl) rfl rfl ?_
  exact k
theorem c_len1 {X : Nat × (Nat → Int)} {d : Nat} {Po : mm_Po} {M : mm_M} (k : Po (some (v_i 29)) Lam M) : mm_G X (d + 1) 0 0 mi_J0_length_8abf5 Po 0 [(0, v_r 1003)] [] Lam M 0 0 := by
  refine mm_aload_n (mm_dc od_J0_length_8abf5_0 0 rfl) rfl ?_
  refine mm_getV (i := 1) (by decide) (mm_dc od_J0_length_8abf5_0 1 rfl) wd_6_71 ?_
  refine mm_alenB (i := 1) rfl (mm_dc od_J0_length_8abf5_0 2 rfl) ?_
  refine mm_aload_n (mm_dc od_J0_length_8abf5_0 3 rfl) rfl ?_
  refine mm_callT (i := 1) (mi' := mi_J0_coder_7d493) [] [v_i 29] (mm_dc od_J0_length_8abf5_0 4 rfl) rfl wd_3_93 wd_3_94 wd_3_95 wd_1_16 wd_3_96 yk_J0_coder_7d493 (by decide) rfl (Nat.le_of_ble_eq_true rfl) rfl (by decide) (c_coder1 ⟨Nat.le_refl _, ?_⟩)
  refine mm_ishr (mm_dc od_J0_length_8abf5_0 5 rfl) ?_
  refine mm_iret (mm_dc od_J0_length_8abf5_0 6 rfl) rfl ?_
  exact mm_pi (by decide) k
theorem c_lch1 {X : Nat × (Nat → Int)} {d : Nat} {Po : mm_Po} {M : mm_M} (j : Nat) (hj : j < 29) (k : Po (some (v_i (tx 1 j))) Lam M) : mm_G X (d + 2) 0 0 mi_J1_charAt_3b067 Po 0 [(0, v_r 1008), (1, v_i (j : Int))] [] Lam M 0 0 := by
  refine mm_iload_n (mm_dc od_J1_charAt_3b067_0 0 rfl) rfl ?_
  refine mm_aload_n (mm_dc od_J1_charAt_3b067_0 1 rfl) rfl ?_
  refine mm_alenB (i := 1) rfl (mm_dc od_J1_charAt_3b067_0 2 rfl) ?_
  refine mm_callS (mi' := mi_J0_checkIndex_df160) [v_i (j : Int), v_i 29] [] (mm_dc od_J1_charAt_3b067_0 3 rfl) rfl wd_3_110 wd_3_111 wd_1_16 wd_3_112 yk_J0_checkIndex_df160 (Nat.le_of_ble_eq_true rfl) rfl (by decide) (c_ck0 (j : Int) 29 (by omega) (by decide) ⟨Nat.le_refl _, ?_⟩)
  refine mm_aload_n (mm_dc od_J1_charAt_3b067_0 4 rfl) rfl ?_
  refine mm_iload_n (mm_dc od_J1_charAt_3b067_0 5 rfl) rfl ?_
  refine mm_bald (i := 1) (n := 29) (v := tx 1 j) rfl (by omega) (by omega) (by decide) (tx_b1 j) (mm_dc od_J1_charAt_3b067_0 6 rfl) ?_
  refine mm_sipush (mm_dc od_J1_charAt_3b067_0 7 rfl) (by decide) ?_
  refine mm_iand (mm_dc od_J1_charAt_3b067_0 8 rfl) ?_
  refine mm_cst (st' := [v_i (tx 1 j)]) (by rw [(tx_a1 j hj).1]; rfl) ?_
  refine mm_i2c (mm_dc od_J1_charAt_3b067_0 9 rfl) (tx_a1 j hj).2.1 ?_
  refine mm_zret .char (mm_dc od_J1_charAt_3b067_0 10 rfl) rfl (congrArg Value.int (tx_a1 j hj).2.2.1) ?_
  exact k
theorem c_chr1 {X : Nat × (Nat → Int)} {d : Nat} {Po : mm_Po} {M : mm_M} (j : Nat) (hj : j < 29) (k : Po (some (v_i (tx 1 j))) Lam M) : mm_G X (d + 3) 0 0 mi_J0_charAt_5068e Po 0 [(0, v_r 1003), (1, v_i (j : Int))] [] Lam M 0 0 := by
  refine mm_aload_n (mm_dc od_J0_charAt_5068e_0 0 rfl) rfl ?_
  refine mm_callT (i := 1) (mi' := mi_J0_isLatin1_aae02) [] [] (mm_dc od_J0_charAt_5068e_0 1 rfl) rfl wd_3_103 wd_3_104 wd_3_105 wd_1_16 wd_3_106 yk_J0_isLatin1_aae02 (by decide) rfl (Nat.le_of_ble_eq_true rfl) rfl (by decide) (c_isLat1 ⟨Nat.le_refl _, ?_⟩)
  refine mm_if_eq 16 (mm_dc od_J0_charAt_5068e_0 2 rfl) (by omega) (by first | assumption | omega | exact hr _ _ rfl | exact mm_ti _ | exact mm_r3264 (hr _ _ rfl)) (fun h => absurd h (by decide)) (fun _ => ?_)
  refine mm_aload_n (mm_dc od_J0_charAt_5068e_0 3 rfl) rfl ?_
  refine mm_getV (i := 1) (by decide) (mm_dc od_J0_charAt_5068e_0 4 rfl) wd_6_71 ?_
  refine mm_iload_n (mm_dc od_J0_charAt_5068e_0 5 rfl) rfl ?_
  refine mm_callS (mi' := mi_J1_charAt_3b067) [v_r 1008, v_i (j : Int)] [] (mm_dc od_J0_charAt_5068e_0 6 rfl) rfl wd_3_107 wd_3_108 wd_1_17 wd_3_109 yk_J1_charAt_3b067 (Nat.le_of_ble_eq_true rfl) rfl (by decide) (c_lch1 j hj ⟨Nat.le_refl _, ?_⟩)
  refine mm_zret .char (mm_dc od_J0_charAt_5068e_0 7 rfl) rfl (congrArg Value.int (tx_a1 j hj).2.2.1) ?_
  exact k
theorem c_coder2 {X : Nat × (Nat → Int)} {d : Nat} {Po : mm_Po} {M : mm_M} (k : Po (some (v_i 0)) Lam M) : mm_G X d 0 0 mi_J0_coder_7d493 Po 0 [(0, v_r 1004)] [] Lam M 0 0 := by
  refine mm_getS2 (mm_dc od_J0_coder_7d493_0 0 rfl) wd_3_97 ?_
  refine mm_if_eq 13 (mm_dc od_J0_coder_7d493_0 1 rfl) (by omega) (by first | assumption | omega | exact hr _ _ rfl | exact mm_ti _ | exact mm_r3264 (hr _ _ rfl)) (fun h => absurd h (by decide)) (fun _ => ?_)
  refine mm_aload_n (mm_dc od_J0_coder_7d493_0 2 rfl) rfl ?_
  refine mm_getC (i := 2) (by decide) (mm_dc od_J0_coder_7d493_0 3 rfl) wd_6_72 ?_
  refine mm_goto 14 (mm_dc od_J0_coder_7d493_0 4 rfl) (by omega) ?_
  refine mm_zret .byte (mm_dc od_J0_coder_7d493_0 6 rfl) rfl rfl ?_
  exact k
theorem c_isLat2 {X : Nat × (Nat → Int)} {d : Nat} {Po : mm_Po} {M : mm_M} (k : Po (some (v_i 1)) Lam M) : mm_G X d 0 0 mi_J0_isLatin1_aae02 Po 0 [(0, v_r 1004)] [] Lam M 0 0 := by
  refine mm_getS2 (mm_dc od_J0_isLatin1_aae02_0 0 rfl) wd_3_97 ?_
  refine mm_if_eq 17 (mm_dc od_J0_isLatin1_aae02_0 1 rfl) (by omega) (by first | assumption | omega | exact hr _ _ rfl | exact mm_ti _ | exact mm_r3264 (hr _ _ rfl)) (fun h => absurd h (by decide)) (fun _ => ?_)
  refine mm_aload_n (mm_dc od_J0_isLatin1_aae02_0 2 rfl) rfl ?_
  refine mm_getC (i := 2) (by decide) (mm_dc od_J0_isLatin1_aae02_0 3 rfl) wd_6_72 ?_
  refine mm_if_ne 17 (mm_dc od_J0_isLatin1_aae02_0 4 rfl) (by omega) (by first | assumption | omega | exact hr _ _ rfl | exact mm_ti _ | exact mm_r3264 (hr _ _ rfl)) (fun h => absurd h (by decide)) (fun _ => ?_)
  refine mm_iconst (mm_dc od_J0_isLatin1_aae02_0 5 rfl) ?_
  refine mm_goto 18 (mm_dc od_J0_isLatin1_aae02_0 6 rfl) (by omega) ?_
  refine mm_zret .boolean (mm_dc od_J0_isLatin1_aae02_0 8 rfl) rfl rfl ?_
  exact k
theorem c_len2 {X : Nat × (Nat → Int)} {d : Nat} {Po : mm_Po} {M : mm_M} (k : Po (some (v_i 4)) Lam M) : mm_G X (d + 1) 0 0 mi_J0_length_8abf5 Po 0 [(0, v_r 1004)] [] Lam M 0 0 := by
  refine mm_aload_n (mm_dc od_J0_length_8abf5_0 0 rfl) rfl ?_
  refine mm_getV (i := 2) (by decide) (mm_dc od_J0_length_8abf5_0 1 rfl) wd_6_71 ?_
  refine mm_alenB (i := 2) rfl (mm_dc od_J0_length_8abf5_0 2 rfl) ?_
  refine mm_aload_n (mm_dc od_J0_length_8abf5_0 3 rfl) rfl ?_
  refine mm_callT (i := 2) (mi' := mi_J0_coder_7d493) [] [v_i 4] (mm_dc od_J0_length_8abf5_0 4 rfl) rfl wd_3_93 wd_3_94 wd_3_95 wd_1_16 wd_3_96 yk_J0_coder_7d493 (by decide) rfl (Nat.le_of_ble_eq_true rfl) rfl (by decide) (c_coder2 ⟨Nat.le_refl _, ?_⟩)
  refine mm_ishr (mm_dc od_J0_length_8abf5_0 5 rfl) ?_
  refine mm_iret (mm_dc od_J0_length_8abf5_0 6 rfl) rfl ?_
  exact mm_pi (by decide) k
theorem c_lch2 {X : Nat × (Nat → Int)} {d : Nat} {Po : mm_Po} {M : mm_M} (j : Nat) (hj : j < 4) (k : Po (some (v_i (tx 2 j))) Lam M) : mm_G X (d + 2) 0 0 mi_J1_charAt_3b067 Po 0 [(0, v_r 1009), (1, v_i (j : Int))] [] Lam M 0 0 := by
  refine mm_iload_n (mm_dc od_J1_charAt_3b067_0 0 rfl) rfl ?_
  refine mm_aload_n (mm_dc od_J1_charAt_3b067_0 1 rfl) rfl ?_
  refine mm_alenB (i := 2) rfl (mm_dc od_J1_charAt_3b067_0 2 rfl) ?_
  refine mm_callS (mi' := mi_J0_checkIndex_df160) [v_i (j : Int), v_i 4] [] (mm_dc od_J1_charAt_3b067_0 3 rfl) rfl wd_3_110 wd_3_111 wd_1_16 wd_3_112 yk_J0_checkIndex_df160 (Nat.le_of_ble_eq_true rfl) rfl (by decide) (c_ck0 (j : Int) 4 (by omega) (by decide) ⟨Nat.le_refl _, ?_⟩)
  refine mm_aload_n (mm_dc od_J1_charAt_3b067_0 4 rfl) rfl ?_
  refine mm_iload_n (mm_dc od_J1_charAt_3b067_0 5 rfl) rfl ?_
  refine mm_bald (i := 2) (n := 4) (v := tx 2 j) rfl (by omega) (by omega) (by decide) (tx_b2 j) (mm_dc od_J1_charAt_3b067_0 6 rfl) ?_
  refine mm_sipush (mm_dc od_J1_charAt_3b067_0 7 rfl) (by decide) ?_
  refine mm_iand (mm_dc od_J1_charAt_3b067_0 8 rfl) ?_
  refine mm_cst (st' := [v_i (tx 2 j)]) (by rw [(tx_a2 j hj).1]; rfl) ?_
  refine mm_i2c (mm_dc od_J1_charAt_3b067_0 9 rfl) (tx_a2 j hj).2.1 ?_
  refine mm_zret .char (mm_dc od_J1_charAt_3b067_0 10 rfl) rfl (congrArg Value.int (tx_a2 j hj).2.2.1) ?_
  exact k
theorem c_chr2 {X : Nat × (Nat → Int)} {d : Nat} {Po : mm_Po} {M : mm_M} (j : Nat) (hj : j < 4) (k : Po (some (v_i (tx 2 j))) Lam M) : mm_G X (d + 3) 0 0 mi_J0_charAt_5068e Po 0 [(0, v_r 1004), (1, v_i (j : Int))] [] Lam M 0 0 := by
  refine mm_aload_n (mm_dc od_J0_charAt_5068e_0 0 rfl) rfl ?_
  refine mm_callT (i := 2) (mi' := mi_J0_isLatin1_aae02) [] [] (mm_dc od_J0_charAt_5068e_0 1 rfl) rfl wd_3_103 wd_3_104 wd_3_105 wd_1_16 wd_3_106 yk_J0_isLatin1_aae02 (by decide) rfl (Nat.le_of_ble_eq_true rfl) rfl (by decide) (c_isLat2 ⟨Nat.le_refl _, ?_⟩)
  refine mm_if_eq 16 (mm_dc od_J0_charAt_5068e_0 2 rfl) (by omega) (by first | assumption | omega | exact hr _ _ rfl | exact mm_ti _ | exact mm_r3264 (hr _ _ rfl)) (fun h => absurd h (by decide)) (fun _ => ?_)
  refine mm_aload_n (mm_dc od_J0_charAt_5068e_0 3 rfl) rfl ?_
  refine mm_getV (i := 2) (by decide) (mm_dc od_J0_charAt_5068e_0 4 rfl) wd_6_71 ?_
  refine mm_iload_n (mm_dc od_J0_charAt_5068e_0 5 rfl) rfl ?_
  refine mm_callS (mi' := mi_J1_charAt_3b067) [v_r 1009, v_i (j : Int)] [] (mm_dc od_J0_charAt_5068e_0 6 rfl) rfl wd_3_107 wd_3_108 wd_1_17 wd_3_109 yk_J1_charAt_3b067 (Nat.le_of_ble_eq_true rfl) rfl (by decide) (c_lch2 j hj ⟨Nat.le_refl _, ?_⟩)
  refine mm_zret .char (mm_dc od_J0_charAt_5068e_0 7 rfl) rfl (congrArg Value.int (tx_a2 j hj).2.2.1) ?_
  exact k
theorem c_coder3 {X : Nat × (Nat → Int)} {d : Nat} {Po : mm_Po} {M : mm_M} (k : Po (some (v_i 0)) Lam M) : mm_G X d 0 0 mi_J0_coder_7d493 Po 0 [(0, v_r 1005)] [] Lam M 0 0 := by
  refine mm_getS2 (mm_dc od_J0_coder_7d493_0 0 rfl) wd_3_97 ?_
  refine mm_if_eq 13 (mm_dc od_J0_coder_7d493_0 1 rfl) (by omega) (by first | assumption | omega | exact hr _ _ rfl | exact mm_ti _ | exact mm_r3264 (hr _ _ rfl)) (fun h => absurd h (by decide)) (fun _ => ?_)
  refine mm_aload_n (mm_dc od_J0_coder_7d493_0 2 rfl) rfl ?_
  refine mm_getC (i := 3) (by decide) (mm_dc od_J0_coder_7d493_0 3 rfl) wd_6_72 ?_
  refine mm_goto 14 (mm_dc od_J0_coder_7d493_0 4 rfl) (by omega) ?_
  refine mm_zret .byte (mm_dc od_J0_coder_7d493_0 6 rfl) rfl rfl ?_
  exact k
theorem c_isLat3 {X : Nat × (Nat → Int)} {d : Nat} {Po : mm_Po} {M : mm_M} (k : Po (some (v_i 1)) Lam M) : mm_G X d 0 0 mi_J0_isLatin1_aae02 Po 0 [(0, v_r 1005)] [] Lam M 0 0 := by
  refine mm_getS2 (mm_dc od_J0_isLatin1_aae02_0 0 rfl) wd_3_97 ?_
  refine mm_if_eq 17 (mm_dc od_J0_isLatin1_aae02_0 1 rfl) (by omega) (by first | assumption | omega | exact hr _ _ rfl | exact mm_ti _ | exact mm_r3264 (hr _ _ rfl)) (fun h => absurd h (by decide)) (fun _ => ?_)
  refine mm_aload_n (mm_dc od_J0_isLatin1_aae02_0 2 rfl) rfl ?_
  refine mm_getC (i := 3) (by decide) (mm_dc od_J0_isLatin1_aae02_0 3 rfl) wd_6_72 ?_
  refine mm_if_ne 17 (mm_dc od_J0_isLatin1_aae02_0 4 rfl) (by omega) (by first | assumption | omega | exact hr _ _ rfl | exact mm_ti _ | exact mm_r3264 (hr _ _ rfl)) (fun h => absurd h (by decide)) (fun _ => ?_)
  refine mm_iconst (mm_dc od_J0_isLatin1_aae02_0 5 rfl) ?_
  refine mm_goto 18 (mm_dc od_J0_isLatin1_aae02_0 6 rfl) (by omega) ?_
  refine mm_zret .boolean (mm_dc od_J0_isLatin1_aae02_0 8 rfl) rfl rfl ?_
  exact k
theorem c_len3 {X : Nat × (Nat → Int)} {d : Nat} {Po : mm_Po} {M : mm_M} (k : Po (some (v_i 37)) Lam M) : mm_G X (d + 1) 0 0 mi_J0_length_8abf5 Po 0 [(0, v_r 1005)] [] Lam M 0 0 := by
  refine mm_aload_n (mm_dc od_J0_length_8abf5_0 0 rfl) rfl ?_
  refine mm_getV (i := 3) (by decide) (mm_dc od_J0_length_8abf5_0 1 rfl) wd_6_71 ?_
  refine mm_alenB (i := 3) rfl (mm_dc od_J0_length_8abf5_0 2 rfl) ?_
  refine mm_aload_n (mm_dc od_J0_length_8abf5_0 3 rfl) rfl ?_
  refine mm_callT (i := 3) (mi' := mi_J0_coder_7d493) [] [v_i 37] (mm_dc od_J0_length_8abf5_0 4 rfl) rfl wd_3_93 wd_3_94 wd_3_95 wd_1_16 wd_3_96 yk_J0_coder_7d493 (by decide) rfl (Nat.le_of_ble_eq_true rfl) rfl (by decide) (c_coder3 ⟨Nat.le_refl _, ?_⟩)
  refine mm_ishr (mm_dc od_J0_length_8abf5_0 5 rfl) ?_
  refine mm_iret (mm_dc od_J0_length_8abf5_0 6 rfl) rfl ?_
  exact mm_pi (by decide) k
theorem c_lch3 {X : Nat × (Nat → Int)} {d : Nat} {Po : mm_Po} {M : mm_M} (j : Nat) (hj : j < 37) (k : Po (some (v_i (tx 3 j))) Lam M) : mm_G X (d + 2) 0 0 mi_J1_charAt_3b067 Po 0 [(0, v_r 1010), (1, v_i (j : Int))] [] Lam M 0 0 := by
  refine mm_iload_n (mm_dc od_J1_charAt_3b067_0 0 rfl) rfl ?_
  refine mm_aload_n (mm_dc od_J1_charAt_3b067_0 1 rfl) rfl ?_
  refine mm_alenB (i := 3) rfl (mm_dc od_J1_charAt_3b067_0 2 rfl) ?_
  refine mm_callS (mi' := mi_J0_checkIndex_df160) [v_i (j : Int), v_i 37] [] (mm_dc od_J1_charAt_3b067_0 3 rfl) rfl wd_3_110 wd_3_111 wd_1_16 wd_3_112 yk_J0_checkIndex_df160 (Nat.le_of_ble_eq_true rfl) rfl (by decide) (c_ck0 (j : Int) 37 (by omega) (by decide) ⟨Nat.le_refl _, ?_⟩)
  refine mm_aload_n (mm_dc od_J1_charAt_3b067_0 4 rfl) rfl ?_
  refine mm_iload_n (mm_dc od_J1_charAt_3b067_0 5 rfl) rfl ?_
  refine mm_bald (i := 3) (n := 37) (v := tx 3 j) rfl (by omega) (by omega) (by decide) (tx_b3 j) (mm_dc od_J1_charAt_3b067_0 6 rfl) ?_
  refine mm_sipush (mm_dc od_J1_charAt_3b067_0 7 rfl) (by decide) ?_
  refine mm_iand (mm_dc od_J1_charAt_3b067_0 8 rfl) ?_
  refine mm_cst (st' := [v_i (tx 3 j)]) (by rw [(tx_a3 j hj).1]; rfl) ?_
  refine mm_i2c (mm_dc od_J1_charAt_3b067_0 9 rfl) (tx_a3 j hj).2.1 ?_
  refine mm_zret .char (mm_dc od_J1_charAt_3b067_0 10 rfl) rfl (congrArg Value.int (tx_a3 j hj).2.2.1) ?_
  exact k
theorem c_chr3 {X : Nat × (Nat → Int)} {d : Nat} {Po : mm_Po} {M : mm_M} (j : Nat) (hj : j < 37) (k : Po (some (v_i (tx 3 j))) Lam M) : mm_G X (d + 3) 0 0 mi_J0_charAt_5068e Po 0 [(0, v_r 1005), (1, v_i (j : Int))] [] Lam M 0 0 := by
  refine mm_aload_n (mm_dc od_J0_charAt_5068e_0 0 rfl) rfl ?_
  refine mm_callT (i := 3) (mi' := mi_J0_isLatin1_aae02) [] [] (mm_dc od_J0_charAt_5068e_0 1 rfl) rfl wd_3_103 wd_3_104 wd_3_105 wd_1_16 wd_3_106 yk_J0_isLatin1_aae02 (by decide) rfl (Nat.le_of_ble_eq_true rfl) rfl (by decide) (c_isLat3 ⟨Nat.le_refl _, ?_⟩)
  refine mm_if_eq 16 (mm_dc od_J0_charAt_5068e_0 2 rfl) (by omega) (by first | assumption | omega | exact hr _ _ rfl | exact mm_ti _ | exact mm_r3264 (hr _ _ rfl)) (fun h => absurd h (by decide)) (fun _ => ?_)
  refine mm_aload_n (mm_dc od_J0_charAt_5068e_0 3 rfl) rfl ?_
  refine mm_getV (i := 3) (by decide) (mm_dc od_J0_charAt_5068e_0 4 rfl) wd_6_71 ?_
  refine mm_iload_n (mm_dc od_J0_charAt_5068e_0 5 rfl) rfl ?_
  refine mm_callS (mi' := mi_J1_charAt_3b067) [v_r 1010, v_i (j : Int)] [] (mm_dc od_J0_charAt_5068e_0 6 rfl) rfl wd_3_107 wd_3_108 wd_1_17 wd_3_109 yk_J1_charAt_3b067 (Nat.le_of_ble_eq_true rfl) rfl (by decide) (c_lch3 j hj ⟨Nat.le_refl _, ?_⟩)
  refine mm_zret .char (mm_dc od_J0_charAt_5068e_0 7 rfl) rfl (congrArg Value.int (tx_a3 j hj).2.2.1) ?_
  exact k
theorem c_coder4 {X : Nat × (Nat → Int)} {d : Nat} {Po : mm_Po} {M : mm_M} (k : Po (some (v_i 0)) Lam M) : mm_G X d 0 0 mi_J0_coder_7d493 Po 0 [(0, v_r 1006)] [] Lam M 0 0 := by
  refine mm_getS2 (mm_dc od_J0_coder_7d493_0 0 rfl) wd_3_97 ?_
  refine mm_if_eq 13 (mm_dc od_J0_coder_7d493_0 1 rfl) (by omega) (by first | assumption | omega | exact hr _ _ rfl | exact mm_ti _ | exact mm_r3264 (hr _ _ rfl)) (fun h => absurd h (by decide)) (fun _ => ?_)
  refine mm_aload_n (mm_dc od_J0_coder_7d493_0 2 rfl) rfl ?_
  refine mm_getC (i := 4) (by decide) (mm_dc od_J0_coder_7d493_0 3 rfl) wd_6_72 ?_
  refine mm_goto 14 (mm_dc od_J0_coder_7d493_0 4 rfl) (by omega) ?_
  refine mm_zret .byte (mm_dc od_J0_coder_7d493_0 6 rfl) rfl rfl ?_
  exact k
theorem c_isLat4 {X : Nat × (Nat → Int)} {d : Nat} {Po : mm_Po} {M : mm_M} (k : Po (some (v_i 1)) Lam M) : mm_G X d 0 0 mi_J0_isLatin1_aae02 Po 0 [(0, v_r 1006)] [] Lam M 0 0 := by
  refine mm_getS2 (mm_dc od_J0_isLatin1_aae02_0 0 rfl) wd_3_97 ?_
  refine mm_if_eq 17 (mm_dc od_J0_isLatin1_aae02_0 1 rfl) (by omega) (by first | assumption | omega | exact hr _ _ rfl | exact mm_ti _ | exact mm_r3264 (hr _ _ rfl)) (fun h => absurd h (by decide)) (fun _ => ?_)
  refine mm_aload_n (mm_dc od_J0_isLatin1_aae02_0 2 rfl) rfl ?_
  refine mm_getC (i := 4) (by decide) (mm_dc od_J0_isLatin1_aae02_0 3 rfl) wd_6_72 ?_
  refine mm_if_ne 17 (mm_dc od_J0_isLatin1_aae02_0 4 rfl) (by omega) (by first | assumption | omega | exact hr _ _ rfl | exact mm_ti _ | exact mm_r3264 (hr _ _ rfl)) (fun h => absurd h (by decide)) (fun _ => ?_)
  refine mm_iconst (mm_dc od_J0_isLatin1_aae02_0 5 rfl) ?_
  refine mm_goto 18 (mm_dc od_J0_isLatin1_aae02_0 6 rfl) (by omega) ?_
  refine mm_zret .boolean (mm_dc od_J0_isLatin1_aae02_0 8 rfl) rfl rfl ?_
  exact k
theorem c_len4 {X : Nat × (Nat → Int)} {d : Nat} {Po : mm_Po} {M : mm_M} (k : Po (some (v_i 5)) Lam M) : mm_G X (d + 1) 0 0 mi_J0_length_8abf5 Po 0 [(0, v_r 1006)] [] Lam M 0 0 := by
  refine mm_aload_n (mm_dc od_J0_length_8abf5_0 0 rfl) rfl ?_
  refine mm_getV (i := 4) (by decide) (mm_dc od_J0_length_8abf5_0 1 rfl) wd_6_71 ?_
  refine mm_alenB (i := 4) rfl (mm_dc od_J0_length_8abf5_0 2 rfl) ?_
  refine mm_aload_n (mm_dc od_J0_length_8abf5_0 3 rfl) rfl ?_
  refine mm_callT (i := 4) (mi' := mi_J0_coder_7d493) [] [v_i 5] (mm_dc od_J0_length_8abf5_0 4 rfl) rfl wd_3_93 wd_3_94 wd_3_95 wd_1_16 wd_3_96 yk_J0_coder_7d493 (by decide) rfl (Nat.le_of_ble_eq_true rfl) rfl (by decide) (c_coder4 ⟨Nat.le_refl _, ?_⟩)
  refine mm_ishr (mm_dc od_J0_length_8abf5_0 5 rfl) ?_
  refine mm_iret (mm_dc od_J0_length_8abf5_0 6 rfl) rfl ?_
  exact mm_pi (by decide) k
theorem c_lch4 {X : Nat × (Nat → Int)} {d : Nat} {Po : mm_Po} {M : mm_M} (j : Nat) (hj : j < 5) (k : Po (some (v_i (tx 4 j))) Lam M) : mm_G X (d + 2) 0 0 mi_J1_charAt_3b067 Po 0 [(0, v_r 1011), (1, v_i (j : Int))] [] Lam M 0 0 := by
  refine mm_iload_n (mm_dc od_J1_charAt_3b067_0 0 rfl) rfl ?_
  refine mm_aload_n (mm_dc od_J1_charAt_3b067_0 1 rfl) rfl ?_
  refine mm_alenB (i := 4) rfl (mm_dc od_J1_charAt_3b067_0 2 rfl) ?_
  refine mm_callS (mi' := mi_J0_checkIndex_df160) [v_i (j : Int), v_i 5] [] (mm_dc od_J1_charAt_3b067_0 3 rfl) rfl wd_3_110 wd_3_111 wd_1_16 wd_3_112 yk_J0_checkIndex_df160 (Nat.le_of_ble_eq_true rfl) rfl (by decide) (c_ck0 (j : Int) 5 (by omega) (by decide) ⟨Nat.le_refl _, ?_⟩)
  refine mm_aload_n (mm_dc od_J1_charAt_3b067_0 4 rfl) rfl ?_
  refine mm_iload_n (mm_dc od_J1_charAt_3b067_0 5 rfl) rfl ?_
  refine mm_bald (i := 4) (n := 5) (v := tx 4 j) rfl (by omega) (by omega) (by decide) (tx_b4 j) (mm_dc od_J1_charAt_3b067_0 6 rfl) ?_
  refine mm_sipush (mm_dc od_J1_charAt_3b067_0 7 rfl) (by decide) ?_
  refine mm_iand (mm_dc od_J1_charAt_3b067_0 8 rfl) ?_
  refine mm_cst (st' := [v_i (tx 4 j)]) (by rw [(tx_a4 j hj).1]; rfl) ?_
  refine mm_i2c (mm_dc od_J1_charAt_3b067_0 9 rfl) (tx_a4 j hj).2.1 ?_
  refine mm_zret .char (mm_dc od_J1_charAt_3b067_0 10 rfl) rfl (congrArg Value.int (tx_a4 j hj).2.2.1) ?_
  exact k
theorem c_chr4 {X : Nat × (Nat → Int)} {d : Nat} {Po : mm_Po} {M : mm_M} (j : Nat) (hj : j < 5) (k : Po (some (v_i (tx 4 j))) Lam M) : mm_G X (d + 3) 0 0 mi_J0_charAt_5068e Po 0 [(0, v_r 1006), (1, v_i (j : Int))] [] Lam M 0 0 := by
  refine mm_aload_n (mm_dc od_J0_charAt_5068e_0 0 rfl) rfl ?_
  refine mm_callT (i := 4) (mi' := mi_J0_isLatin1_aae02) [] [] (mm_dc od_J0_charAt_5068e_0 1 rfl) rfl wd_3_103 wd_3_104 wd_3_105 wd_1_16 wd_3_106 yk_J0_isLatin1_aae02 (by decide) rfl (Nat.le_of_ble_eq_true rfl) rfl (by decide) (c_isLat4 ⟨Nat.le_refl _, ?_⟩)
  refine mm_if_eq 16 (mm_dc od_J0_charAt_5068e_0 2 rfl) (by omega) (by first | assumption | omega | exact hr _ _ rfl | exact mm_ti _ | exact mm_r3264 (hr _ _ rfl)) (fun h => absurd h (by decide)) (fun _ => ?_)
  refine mm_aload_n (mm_dc od_J0_charAt_5068e_0 3 rfl) rfl ?_
  refine mm_getV (i := 4) (by decide) (mm_dc od_J0_charAt_5068e_0 4 rfl) wd_6_71 ?_
  refine mm_iload_n (mm_dc od_J0_charAt_5068e_0 5 rfl) rfl ?_
  refine mm_callS (mi' := mi_J1_charAt_3b067) [v_r 1011, v_i (j : Int)] [] (mm_dc od_J0_charAt_5068e_0 6 rfl) rfl wd_3_107 wd_3_108 wd_1_17 wd_3_109 yk_J1_charAt_3b067 (Nat.le_of_ble_eq_true rfl) rfl (by decide) (c_lch4 j hj ⟨Nat.le_refl _, ?_⟩)
  refine mm_zret .char (mm_dc od_J0_charAt_5068e_0 7 rfl) rfl (congrArg Value.int (tx_a4 j hj).2.2.1) ?_
  exact k
