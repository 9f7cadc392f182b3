theorem c_X0_init {X : Nat × (Nat → Int)} {d : Nat} {Po : mm_Po} (k : Po none la_17 mem_1) : mm_E X (d) 8 96 mi_X0_init [v_r 1] Po la_1 mm_M0 := by
  show mm_G X (d) 8 96 mi_X0_init Po 0 [(0, v_r 1)] [] la_1 mm_M0 0 0
  refine mm_aload_n (mm_dc od_X0_init_0 0 rfl) rfl ?_
  refine mm_oinit (mm_dc od_X0_init_0 1 rfl) wd_1_33 wd_1_26 wd_1_27 (by decide) ?_
  refine mm_aload_n (mm_dc od_X0_init_0 2 rfl) rfl ?_
  refine mm_iconst (mm_dc od_X0_init_0 3 rfl) ?_
  refine mm_putI (ci := 0) (k := 0) (mm_dc od_X0_init_0 4 rfl) rfl in_X0 tyX0_ok nmX0 (by decide) wd_1_34 rfl rfl rfl rfl ?_
  refine mm_aload_n (mm_dc od_X0_init_0 5 rfl) rfl ?_
  refine mm_bipush (mm_dc od_X0_init_0 6 rfl) (by decide) ?_
  refine mm_newb (n := 16) (q := 2) (La' := la_2) (mm_dc od_X0_init_0 7 rfl) wd_1_77 rfl (by decide) (by decide) (by decide) rfl (by decide) rfl rfl (fun _ => rfl) rfl ?_
  refine mm_putR (La' := la_3) (ci := 0) (k := 1) (mm_dc od_X0_init_0 8 rfl) rfl in_X0 tyX0_ok nmX0 (by decide) wd_1_37 rfl rfl rfl (fun _ => rfl) (fun _ => rfl) rfl (by decide) rfl ?_
  refine mm_aload_n (mm_dc od_X0_init_0 9 rfl) rfl ?_
  refine mm_bipush (mm_dc od_X0_init_0 10 rfl) (by decide) ?_
  refine mm_newb (n := 16) (q := 3) (La' := la_4) (mm_dc od_X0_init_0 11 rfl) wd_1_77 rfl (by decide) (by decide) (by decide) rfl (by decide) rfl rfl (fun _ => rfl) rfl ?_
  refine mm_putR (La' := la_5) (ci := 0) (k := 2) (mm_dc od_X0_init_0 12 rfl) rfl in_X0 tyX0_ok nmX0 (by decide) wd_1_39 rfl rfl rfl (fun _ => rfl) (fun _ => rfl) rfl (by decide) rfl ?_
  refine mm_aload_n (mm_dc od_X0_init_0 13 rfl) rfl ?_
  refine mm_bipush (mm_dc od_X0_init_0 14 rfl) (by decide) ?_
  refine mm_newb (n := 16) (q := 4) (La' := la_6) (mm_dc od_X0_init_0 15 rfl) wd_1_77 rfl (by decide) (by decide) (by decide) rfl (by decide) rfl rfl (fun _ => rfl) rfl ?_
  refine mm_putR (La' := la_7) (ci := 0) (k := 3) (mm_dc od_X0_init_0 16 rfl) rfl in_X0 tyX0_ok nmX0 (by decide) wd_1_41 rfl rfl rfl (fun _ => rfl) (fun _ => rfl) rfl (by decide) rfl ?_
  refine mm_aload_n (mm_dc od_X0_init_0 17 rfl) rfl ?_
  refine mm_bipush (mm_dc od_X0_init_0 18 rfl) (by decide) ?_
  refine mm_newb (n := 16) (q := 5) (La' := la_8) (mm_dc od_X0_init_0 19 rfl) wd_1_77 rfl (by decide) (by decide) (by decide) rfl (by decide) rfl rfl (fun _ => rfl) rfl ?_
  refine mm_putR (La' := la_9) (ci := 0) (k := 4) (mm_dc od_X0_init_0 20 rfl) rfl in_X0 tyX0_ok nmX0 (by decide) wd_1_43 rfl rfl rfl (fun _ => rfl) (fun _ => rfl) rfl (by decide) rfl ?_
  refine mm_aload_n (mm_dc od_X0_init_0 21 rfl) rfl ?_
  refine mm_iconst (mm_dc od_X0_init_0 22 rfl) ?_
  refine mm_putI (ci := 0) (k := 5) (mm_dc od_X0_init_0 23 rfl) rfl in_X0 tyX0_ok nmX0 (by decide) wd_1_46 rfl rfl rfl rfl ?_
  refine mm_aload_n (mm_dc od_X0_init_0 24 rfl) rfl ?_
  refine mm_bipush (mm_dc od_X0_init_0 25 rfl) (by decide) ?_
  refine mm_newb (n := 8) (q := 6) (La' := la_10) (mm_dc od_X0_init_0 26 rfl) wd_1_77 rfl (by decide) (by decide) (by decide) rfl (by decide) rfl rfl (fun _ => rfl) rfl ?_
  refine mm_putR (La' := la_11) (ci := 0) (k := 6) (mm_dc od_X0_init_0 27 rfl) rfl in_X0 tyX0_ok nmX0 (by decide) wd_1_48 rfl rfl rfl (fun _ => rfl) (fun _ => rfl) rfl (by decide) rfl ?_
  refine mm_aload_n (mm_dc od_X0_init_0 28 rfl) rfl ?_
  refine mm_bipush (mm_dc od_X0_init_0 29 rfl) (by decide) ?_
  refine mm_newb (n := 8) (q := 7) (La' := la_12) (mm_dc od_X0_init_0 30 rfl) wd_1_77 rfl (by decide) (by decide) (by decide) rfl (by decide) rfl rfl (fun _ => rfl) rfl ?_
  refine mm_putR (La' := la_13) (ci := 0) (k := 7) (mm_dc od_X0_init_0 31 rfl) rfl in_X0 tyX0_ok nmX0 (by decide) wd_1_50 rfl rfl rfl (fun _ => rfl) (fun _ => rfl) rfl (by decide) rfl ?_
  refine mm_aload_n (mm_dc od_X0_init_0 32 rfl) rfl ?_
  refine mm_bipush (mm_dc od_X0_init_0 33 rfl) (by decide) ?_
  refine mm_newb (n := 8) (q := 8) (La' := la_14) (mm_dc od_X0_init_0 34 rfl) wd_1_77 rfl (by decide) (by decide) (by decide) rfl (by decide) rfl rfl (fun _ => rfl) rfl ?_
  refine mm_putR (La' := la_15) (ci := 0) (k := 8) (mm_dc od_X0_init_0 35 rfl) rfl in_X0 tyX0_ok nmX0 (by decide) wd_1_52 rfl rfl rfl (fun _ => rfl) (fun _ => rfl) rfl (by decide) rfl ?_
  refine mm_aload_n (mm_dc od_X0_init_0 36 rfl) rfl ?_
  refine mm_bipush (mm_dc od_X0_init_0 37 rfl) (by decide) ?_
  refine mm_newb (n := 8) (q := 9) (La' := la_16) (mm_dc od_X0_init_0 38 rfl) wd_1_77 rfl (by decide) (by decide) (by decide) rfl (by decide) rfl rfl (fun _ => rfl) rfl ?_
  refine mm_putR (La' := la_17) (ci := 0) (k := 9) (mm_dc od_X0_init_0 39 rfl) rfl in_X0 tyX0_ok nmX0 (by decide) wd_1_54 rfl rfl rfl (fun _ => rfl) (fun _ => rfl) rfl (by decide) rfl ?_
  refine mm_ret (mm_dc od_X0_init_0 40 rfl) rfl ?_
  exact k
theorem c_X4_init {X : Nat × (Nat → Int)} {d : Nat} {Po : mm_Po} (k : Po none la_31 mem_2) : mm_E X (d) 6 194 mi_X4_init [v_r 10] Po la_19 mem_1 := by
  show mm_G X (d) 6 194 mi_X4_init Po 0 [(0, v_r 10)] [] la_19 mem_1 0 0
  refine mm_aload_n (mm_dc od_X4_init_0 0 rfl) rfl ?_
  refine mm_oinit (mm_dc od_X4_init_0 1 rfl) wd_1_83 wd_1_26 wd_1_27 (by decide) ?_
  refine mm_aload_n (mm_dc od_X4_init_0 2 rfl) rfl ?_
  refine mm_iconst (mm_dc od_X4_init_0 3 rfl) ?_
  refine mm_putI (ci := 4) (k := 0) (mm_dc od_X4_init_0 4 rfl) rfl in_X4 tyX4_ok nmX4 (by decide) wd_1_84 rfl rfl rfl rfl ?_
  refine mm_aload_n (mm_dc od_X4_init_0 5 rfl) rfl ?_
  refine mm_bipush (mm_dc od_X4_init_0 6 rfl) (by decide) ?_
  refine mm_newb (n := 40) (q := 11) (La' := la_20) (mm_dc od_X4_init_0 7 rfl) wd_1_77 rfl (by decide) (by decide) (by decide) rfl (by decide) rfl rfl (fun _ => rfl) rfl ?_
  refine mm_putR (La' := la_21) (ci := 4) (k := 1) (mm_dc od_X4_init_0 8 rfl) rfl in_X4 tyX4_ok nmX4 (by decide) wd_1_86 rfl rfl rfl (fun _ => rfl) (fun _ => rfl) rfl (by decide) rfl ?_
  refine mm_aload_n (mm_dc od_X4_init_0 9 rfl) rfl ?_
  refine mm_bipush (mm_dc od_X4_init_0 10 rfl) (by decide) ?_
  refine mm_newb (n := 40) (q := 12) (La' := la_22) (mm_dc od_X4_init_0 11 rfl) wd_1_77 rfl (by decide) (by decide) (by decide) rfl (by decide) rfl rfl (fun _ => rfl) rfl ?_
  refine mm_putR (La' := la_23) (ci := 4) (k := 2) (mm_dc od_X4_init_0 12 rfl) rfl in_X4 tyX4_ok nmX4 (by decide) wd_1_87 rfl rfl rfl (fun _ => rfl) (fun _ => rfl) rfl (by decide) rfl ?_
  refine mm_aload_n (mm_dc od_X4_init_0 13 rfl) rfl ?_
  refine mm_bipush (mm_dc od_X4_init_0 14 rfl) (by decide) ?_
  refine mm_newb (n := 40) (q := 13) (La' := la_24) (mm_dc od_X4_init_0 15 rfl) wd_1_77 rfl (by decide) (by decide) (by decide) rfl (by decide) rfl rfl (fun _ => rfl) rfl ?_
  refine mm_putR (La' := la_25) (ci := 4) (k := 3) (mm_dc od_X4_init_0 16 rfl) rfl in_X4 tyX4_ok nmX4 (by decide) wd_1_88 rfl rfl rfl (fun _ => rfl) (fun _ => rfl) rfl (by decide) rfl ?_
  refine mm_aload_n (mm_dc od_X4_init_0 17 rfl) rfl ?_
  refine mm_bipush (mm_dc od_X4_init_0 18 rfl) (by decide) ?_
  refine mm_newb (n := 16) (q := 14) (La' := la_26) (mm_dc od_X4_init_0 19 rfl) wd_1_112 rfl (by decide) (by decide) (by decide) rfl (by decide) rfl rfl (fun _ => rfl) rfl ?_
  refine mm_putR (La' := la_27) (ci := 4) (k := 4) (mm_dc od_X4_init_0 20 rfl) rfl in_X4 tyX4_ok nmX4 (by decide) wd_1_89 rfl rfl rfl (fun _ => rfl) (fun _ => rfl) rfl (by decide) rfl ?_
  refine mm_aload_n (mm_dc od_X4_init_0 21 rfl) rfl ?_
  refine mm_lconst (mm_dc od_X4_init_0 22 rfl) ?_
  refine mm_putL (ci := 4) (k := 5) (mm_dc od_X4_init_0 23 rfl) rfl in_X4 tyX4_ok nmX4 (by decide) wd_1_91 rfl rfl rfl rfl ?_
  refine mm_aload_n (mm_dc od_X4_init_0 24 rfl) rfl ?_
  refine mm_bipush (mm_dc od_X4_init_0 25 rfl) (by decide) ?_
  refine mm_newb (n := 16) (q := 15) (La' := la_28) (mm_dc od_X4_init_0 26 rfl) wd_1_77 rfl (by decide) (by decide) (by decide) rfl (by decide) rfl rfl (fun _ => rfl) rfl ?_
  refine mm_putR (La' := la_29) (ci := 4) (k := 6) (mm_dc od_X4_init_0 27 rfl) rfl in_X4 tyX4_ok nmX4 (by decide) wd_1_93 rfl rfl rfl (fun _ => rfl) (fun _ => rfl) rfl (by decide) rfl ?_
  refine mm_aload_n (mm_dc od_X4_init_0 28 rfl) rfl ?_
  refine mm_bipush (mm_dc od_X4_init_0 29 rfl) (by decide) ?_
  refine mm_newb (n := 42) (q := 16) (La' := la_30) (mm_dc od_X4_init_0 30 rfl) wd_1_112 rfl (by decide) (by decide) (by decide) rfl (by decide) rfl rfl (fun _ => rfl) rfl ?_
  refine mm_putR (La' := la_31) (ci := 4) (k := 7) (mm_dc od_X4_init_0 31 rfl) rfl in_X4 tyX4_ok nmX4 (by decide) wd_1_94 rfl rfl rfl (fun _ => rfl) (fun _ => rfl) rfl (by decide) rfl ?_
  refine mm_ret (mm_dc od_X4_init_0 32 rfl) rfl ?_
  exact k
theorem c_X1_init {X : Nat × (Nat → Int)} {d : Nat} {Po : mm_Po} (k : Po none la_39 mem_2) : mm_E X (d) 3 4376 mi_X1_init [v_r 17] Po la_33 mem_2 := by
  show mm_G X (d) 3 4376 mi_X1_init Po 0 [(0, v_r 17)] [] la_33 mem_2 0 0
  refine mm_aload_n (mm_dc od_X1_init_0 0 rfl) rfl ?_
  refine mm_oinit (mm_dc od_X1_init_0 1 rfl) wd_1_118 wd_1_26 wd_1_27 (by decide) ?_
  refine mm_aload_n (mm_dc od_X1_init_0 2 rfl) rfl ?_
  refine mm_sipush (mm_dc od_X1_init_0 3 rfl) (by decide) ?_
  refine mm_newb (n := 4352) (q := 18) (La' := la_34) (mm_dc od_X1_init_0 4 rfl) wd_1_77 rfl (by decide) (by decide) (by decide) rfl (by decide) rfl rfl (fun _ => rfl) rfl ?_
  refine mm_putR (La' := la_35) (ci := 1) (k := 0) (mm_dc od_X1_init_0 5 rfl) rfl in_X1 tyX1_ok nmX1 (by decide) wd_1_119 rfl rfl rfl (fun _ => rfl) (fun _ => rfl) rfl (by decide) rfl ?_
  refine mm_aload_n (mm_dc od_X1_init_0 6 rfl) rfl ?_
  refine mm_bipush (mm_dc od_X1_init_0 7 rfl) (by decide) ?_
  refine mm_newb (n := 8) (q := 19) (La' := la_36) (mm_dc od_X1_init_0 8 rfl) wd_1_77 rfl (by decide) (by decide) (by decide) rfl (by decide) rfl rfl (fun _ => rfl) rfl ?_
  refine mm_putR (La' := la_37) (ci := 1) (k := 1) (mm_dc od_X1_init_0 9 rfl) rfl in_X1 tyX1_ok nmX1 (by decide) wd_1_120 rfl rfl rfl (fun _ => rfl) (fun _ => rfl) rfl (by decide) rfl ?_
  refine mm_aload_n (mm_dc od_X1_init_0 10 rfl) rfl ?_
  refine mm_bipush (mm_dc od_X1_init_0 11 rfl) (by decide) ?_
  refine mm_newb (n := 16) (q := 20) (La' := la_38) (mm_dc od_X1_init_0 12 rfl) wd_1_77 rfl (by decide) (by decide) (by decide) rfl (by decide) rfl rfl (fun _ => rfl) rfl ?_
  refine mm_putR (La' := la_39) (ci := 1) (k := 2) (mm_dc od_X1_init_0 13 rfl) rfl in_X1 tyX1_ok nmX1 (by decide) wd_1_121 rfl rfl rfl (fun _ => rfl) (fun _ => rfl) rfl (by decide) rfl ?_
  refine mm_ret (mm_dc od_X1_init_0 14 rfl) rfl ?_
  exact k
theorem c_X6_init {X : Nat × (Nat → Int)} {d : Nat} {Po : mm_Po} (k : Po none la_45 mem_2) : mm_E X (d) 2 60 mi_X6_init [v_r 21] Po la_41 mem_2 := by
  show mm_G X (d) 2 60 mi_X6_init Po 0 [(0, v_r 21)] [] la_41 mem_2 0 0
  refine mm_aload_n (mm_dc od_X6_init_0 0 rfl) rfl ?_
  refine mm_oinit (mm_dc od_X6_init_0 1 rfl) wd_1_134 wd_1_26 wd_1_27 (by decide) ?_
  refine mm_aload_n (mm_dc od_X6_init_0 2 rfl) rfl ?_
  refine mm_bipush (mm_dc od_X6_init_0 3 rfl) (by decide) ?_
  refine mm_newb (n := 30) (q := 22) (La' := la_42) (mm_dc od_X6_init_0 4 rfl) wd_1_77 rfl (by decide) (by decide) (by decide) rfl (by decide) rfl rfl (fun _ => rfl) rfl ?_
  refine mm_putR (La' := la_43) (ci := 6) (k := 0) (mm_dc od_X6_init_0 5 rfl) rfl in_X6 tyX6_ok nmX6 (by decide) wd_1_135 rfl rfl rfl (fun _ => rfl) (fun _ => rfl) rfl (by decide) rfl ?_
  refine mm_aload_n (mm_dc od_X6_init_0 6 rfl) rfl ?_
  refine mm_bipush (mm_dc od_X6_init_0 7 rfl) (by decide) ?_
  refine mm_newb (n := 30) (q := 23) (La' := la_44) (mm_dc od_X6_init_0 8 rfl) wd_1_77 rfl (by decide) (by decide) (by decide) rfl (by decide) rfl rfl (fun _ => rfl) rfl ?_
  refine mm_putR (La' := la_45) (ci := 6) (k := 1) (mm_dc od_X6_init_0 9 rfl) rfl in_X6 tyX6_ok nmX6 (by decide) wd_1_137 rfl rfl rfl (fun _ => rfl) (fun _ => rfl) rfl (by decide) rfl ?_
  refine mm_ret (mm_dc od_X6_init_0 10 rfl) rfl ?_
  exact k
theorem c_X8_init {X : Nat × (Nat → Int)} {d : Nat} {Po : mm_Po} (k : Po none la_49 mem_3) : mm_E X (d) 1 120 mi_X8_init [v_r 24] Po la_47 mem_2 := by
  show mm_G X (d) 1 120 mi_X8_init Po 0 [(0, v_r 24)] [] la_47 mem_2 0 0
  refine mm_aload_n (mm_dc od_X8_init_0 0 rfl) rfl ?_
  refine mm_oinit (mm_dc od_X8_init_0 1 rfl) wd_1_149 wd_1_26 wd_1_27 (by decide) ?_
  refine mm_aload_n (mm_dc od_X8_init_0 2 rfl) rfl ?_
  refine mm_iconst (mm_dc od_X8_init_0 3 rfl) ?_
  refine mm_putI (ci := 8) (k := 0) (mm_dc od_X8_init_0 4 rfl) rfl in_X8 tyX8_ok nmX8 (by decide) wd_1_150 rfl rfl rfl rfl ?_
  refine mm_aload_n (mm_dc od_X8_init_0 5 rfl) rfl ?_
  refine mm_iconst (mm_dc od_X8_init_0 6 rfl) ?_
  refine mm_putI (ci := 8) (k := 1) (mm_dc od_X8_init_0 7 rfl) rfl in_X8 tyX8_ok nmX8 (by decide) wd_1_152 rfl rfl rfl rfl ?_
  refine mm_aload_n (mm_dc od_X8_init_0 8 rfl) rfl ?_
  refine mm_bipush (mm_dc od_X8_init_0 9 rfl) (by decide) ?_
  refine mm_newb (n := 120) (q := 25) (La' := la_48) (mm_dc od_X8_init_0 10 rfl) wd_1_77 rfl (by decide) (by decide) (by decide) rfl (by decide) rfl rfl (fun _ => rfl) rfl ?_
  refine mm_putR (La' := la_49) (ci := 8) (k := 2) (mm_dc od_X8_init_0 11 rfl) rfl in_X8 tyX8_ok nmX8 (by decide) wd_1_155 rfl rfl rfl (fun _ => rfl) (fun _ => rfl) rfl (by decide) rfl ?_
  refine mm_ret (mm_dc od_X8_init_0 12 rfl) rfl ?_
  exact k
theorem c_X7_init {X : Nat × (Nat → Int)} {d : Nat} {Po : mm_Po} (k : Po none la_67 mem_4) : mm_E X (d) 8 157 mi_X7_init [v_r 26] Po la_51 mem_3 := by
  show mm_G X (d) 8 157 mi_X7_init Po 0 [(0, v_r 26)] [] la_51 mem_3 0 0
  refine mm_aload_n (mm_dc od_X7_init_0 0 rfl) rfl ?_
  refine mm_oinit (mm_dc od_X7_init_0 1 rfl) wd_1_168 wd_1_26 wd_1_27 (by decide) ?_
  refine mm_aload_n (mm_dc od_X7_init_0 2 rfl) rfl ?_
  refine mm_iconst (mm_dc od_X7_init_0 3 rfl) ?_
  refine mm_putI (ci := 7) (k := 0) (mm_dc od_X7_init_0 4 rfl) rfl in_X7 tyX7_ok nmX7 (by decide) wd_1_169 rfl rfl rfl rfl ?_
  refine mm_aload_n (mm_dc od_X7_init_0 5 rfl) rfl ?_
  refine mm_bipush (mm_dc od_X7_init_0 6 rfl) (by decide) ?_
  refine mm_newb (n := 10) (q := 27) (La' := la_52) (mm_dc od_X7_init_0 7 rfl) wd_1_77 rfl (by decide) (by decide) (by decide) rfl (by decide) rfl rfl (fun _ => rfl) rfl ?_
  refine mm_putR (La' := la_53) (ci := 7) (k := 1) (mm_dc od_X7_init_0 8 rfl) rfl in_X7 tyX7_ok nmX7 (by decide) wd_1_171 rfl rfl rfl (fun _ => rfl) (fun _ => rfl) rfl (by decide) rfl ?_
  refine mm_aload_n (mm_dc od_X7_init_0 9 rfl) rfl ?_
  refine mm_bipush (mm_dc od_X7_init_0 10 rfl) (by decide) ?_
  refine mm_newb (n := 10) (q := 28) (La' := la_54) (mm_dc od_X7_init_0 11 rfl) wd_1_77 rfl (by decide) (by decide) (by decide) rfl (by decide) rfl rfl (fun _ => rfl) rfl ?_
  refine mm_putR (La' := la_55) (ci := 7) (k := 2) (mm_dc od_X7_init_0 12 rfl) rfl in_X7 tyX7_ok nmX7 (by decide) wd_1_173 rfl rfl rfl (fun _ => rfl) (fun _ => rfl) rfl (by decide) rfl ?_
  refine mm_aload_n (mm_dc od_X7_init_0 13 rfl) rfl ?_
  refine mm_bipush (mm_dc od_X7_init_0 14 rfl) (by decide) ?_
  refine mm_newb (n := 10) (q := 29) (La' := la_56) (mm_dc od_X7_init_0 15 rfl) wd_1_77 rfl (by decide) (by decide) (by decide) rfl (by decide) rfl rfl (fun _ => rfl) rfl ?_
  refine mm_putR (La' := la_57) (ci := 7) (k := 3) (mm_dc od_X7_init_0 16 rfl) rfl in_X7 tyX7_ok nmX7 (by decide) wd_1_174 rfl rfl rfl (fun _ => rfl) (fun _ => rfl) rfl (by decide) rfl ?_
  refine mm_aload_n (mm_dc od_X7_init_0 17 rfl) rfl ?_
  refine mm_bipush (mm_dc od_X7_init_0 18 rfl) (by decide) ?_
  refine mm_newb (n := 30) (q := 30) (La' := la_58) (mm_dc od_X7_init_0 19 rfl) wd_1_200 rfl (by decide) (by decide) (by decide) rfl (by decide) rfl rfl (fun _ => rfl) rfl ?_
  refine mm_putR (La' := la_59) (ci := 7) (k := 4) (mm_dc od_X7_init_0 20 rfl) rfl in_X7 tyX7_ok nmX7 (by decide) wd_1_175 rfl rfl rfl (fun _ => rfl) (fun _ => rfl) rfl (by decide) rfl ?_
  refine mm_aload_n (mm_dc od_X7_init_0 21 rfl) rfl ?_
  refine mm_bipush (mm_dc od_X7_init_0 22 rfl) (by decide) ?_
  refine mm_newb (n := 30) (q := 31) (La' := la_60) (mm_dc od_X7_init_0 23 rfl) wd_1_77 rfl (by decide) (by decide) (by decide) rfl (by decide) rfl rfl (fun _ => rfl) rfl ?_
  refine mm_putR (La' := la_61) (ci := 7) (k := 5) (mm_dc od_X7_init_0 24 rfl) rfl in_X7 tyX7_ok nmX7 (by decide) wd_1_176 rfl rfl rfl (fun _ => rfl) (fun _ => rfl) rfl (by decide) rfl ?_
  refine mm_aload_n (mm_dc od_X7_init_0 25 rfl) rfl ?_
  refine mm_bipush (mm_dc od_X7_init_0 26 rfl) (by decide) ?_
  refine mm_newb (n := 30) (q := 32) (La' := la_62) (mm_dc od_X7_init_0 27 rfl) wd_1_77 rfl (by decide) (by decide) (by decide) rfl (by decide) rfl rfl (fun _ => rfl) rfl ?_
  refine mm_putR (La' := la_63) (ci := 7) (k := 6) (mm_dc od_X7_init_0 28 rfl) rfl in_X7 tyX7_ok nmX7 (by decide) wd_1_177 rfl rfl rfl (fun _ => rfl) (fun _ => rfl) rfl (by decide) rfl ?_
  refine mm_aload_n (mm_dc od_X7_init_0 29 rfl) rfl ?_
  refine mm_bipush (mm_dc od_X7_init_0 30 rfl) (by decide) ?_
  refine mm_newb (n := 30) (q := 33) (La' := la_64) (mm_dc od_X7_init_0 31 rfl) wd_1_77 rfl (by decide) (by decide) (by decide) rfl (by decide) rfl rfl (fun _ => rfl) rfl ?_
  refine mm_putR (La' := la_65) (ci := 7) (k := 7) (mm_dc od_X7_init_0 32 rfl) rfl in_X7 tyX7_ok nmX7 (by decide) wd_1_178 rfl rfl rfl (fun _ => rfl) (fun _ => rfl) rfl (by decide) rfl ?_
  refine mm_aload_n (mm_dc od_X7_init_0 33 rfl) rfl ?_
  refine mm_bipush (mm_dc od_X7_init_0 34 rfl) (by decide) ?_
  refine mm_newb (n := 7) (q := 34) (La' := la_66) (mm_dc od_X7_init_0 35 rfl) wd_1_77 rfl (by decide) (by decide) (by decide) rfl (by decide) rfl rfl (fun _ => rfl) rfl ?_
  refine mm_putR (La' := la_67) (ci := 7) (k := 8) (mm_dc od_X7_init_0 36 rfl) rfl in_X7 tyX7_ok nmX7 (by decide) wd_1_179 rfl rfl rfl (fun _ => rfl) (fun _ => rfl) rfl (by decide) rfl ?_
  refine mm_ret (mm_dc od_X7_init_0 37 rfl) rfl ?_
  exact k
theorem c_X3_init {X : Nat × (Nat → Int)} {d : Nat} {Po : mm_Po} (k : Po none la_83 mem_5) : mm_E X (d) 7 300 mi_X3_init [v_r 35] Po la_69 mem_4 := by
  show mm_G X (d) 7 300 mi_X3_init Po 0 [(0, v_r 35)] [] la_69 mem_4 0 0
  refine mm_aload_n (mm_dc od_X3_init_0 0 rfl) rfl ?_
  refine mm_oinit (mm_dc od_X3_init_0 1 rfl) wd_1_206 wd_1_26 wd_1_27 (by decide) ?_
  refine mm_aload_n (mm_dc od_X3_init_0 2 rfl) rfl ?_
  refine mm_iconst (mm_dc od_X3_init_0 3 rfl) ?_
  refine mm_putI (ci := 3) (k := 0) (mm_dc od_X3_init_0 4 rfl) rfl in_X3 tyX3_ok nmX3 (by decide) wd_1_207 rfl rfl rfl rfl ?_
  refine mm_aload_n (mm_dc od_X3_init_0 5 rfl) rfl ?_
  refine mm_bipush (mm_dc od_X3_init_0 6 rfl) (by decide) ?_
  refine mm_newb (n := 30) (q := 36) (La' := la_70) (mm_dc od_X3_init_0 7 rfl) wd_1_77 rfl (by decide) (by decide) (by decide) rfl (by decide) rfl rfl (fun _ => rfl) rfl ?_
  refine mm_putR (La' := la_71) (ci := 3) (k := 1) (mm_dc od_X3_init_0 8 rfl) rfl in_X3 tyX3_ok nmX3 (by decide) wd_1_209 rfl rfl rfl (fun _ => rfl) (fun _ => rfl) rfl (by decide) rfl ?_
  refine mm_aload_n (mm_dc od_X3_init_0 9 rfl) rfl ?_
  refine mm_bipush (mm_dc od_X3_init_0 10 rfl) (by decide) ?_
  refine mm_newb (n := 30) (q := 37) (La' := la_72) (mm_dc od_X3_init_0 11 rfl) wd_1_77 rfl (by decide) (by decide) (by decide) rfl (by decide) rfl rfl (fun _ => rfl) rfl ?_
  refine mm_putR (La' := la_73) (ci := 3) (k := 2) (mm_dc od_X3_init_0 12 rfl) rfl in_X3 tyX3_ok nmX3 (by decide) wd_1_211 rfl rfl rfl (fun _ => rfl) (fun _ => rfl) rfl (by decide) rfl ?_
  refine mm_aload_n (mm_dc od_X3_init_0 13 rfl) rfl ?_
  refine mm_bipush (mm_dc od_X3_init_0 14 rfl) (by decide) ?_
  refine mm_newb (n := 30) (q := 38) (La' := la_74) (mm_dc od_X3_init_0 15 rfl) wd_1_77 rfl (by decide) (by decide) (by decide) rfl (by decide) rfl rfl (fun _ => rfl) rfl ?_
  refine mm_putR (La' := la_75) (ci := 3) (k := 3) (mm_dc od_X3_init_0 16 rfl) rfl in_X3 tyX3_ok nmX3 (by decide) wd_1_213 rfl rfl rfl (fun _ => rfl) (fun _ => rfl) rfl (by decide) rfl ?_
  refine mm_aload_n (mm_dc od_X3_init_0 17 rfl) rfl ?_
  refine mm_bipush (mm_dc od_X3_init_0 18 rfl) (by decide) ?_
  refine mm_newb (n := 30) (q := 39) (La' := la_76) (mm_dc od_X3_init_0 19 rfl) wd_1_77 rfl (by decide) (by decide) (by decide) rfl (by decide) rfl rfl (fun _ => rfl) rfl ?_
  refine mm_putR (La' := la_77) (ci := 3) (k := 4) (mm_dc od_X3_init_0 20 rfl) rfl in_X3 tyX3_ok nmX3 (by decide) wd_1_215 rfl rfl rfl (fun _ => rfl) (fun _ => rfl) rfl (by decide) rfl ?_
  refine mm_aload_n (mm_dc od_X3_init_0 21 rfl) rfl ?_
  refine mm_iconst (mm_dc od_X3_init_0 22 rfl) ?_
  refine mm_putI (ci := 3) (k := 5) (mm_dc od_X3_init_0 23 rfl) rfl in_X3 tyX3_ok nmX3 (by decide) wd_1_217 rfl rfl rfl rfl ?_
  refine mm_aload_n (mm_dc od_X3_init_0 24 rfl) rfl ?_
  refine mm_bipush (mm_dc od_X3_init_0 25 rfl) (by decide) ?_
  refine mm_newb (n := 60) (q := 40) (La' := la_78) (mm_dc od_X3_init_0 26 rfl) wd_1_77 rfl (by decide) (by decide) (by decide) rfl (by decide) rfl rfl (fun _ => rfl) rfl ?_
  refine mm_putR (La' := la_79) (ci := 3) (k := 6) (mm_dc od_X3_init_0 27 rfl) rfl in_X3 tyX3_ok nmX3 (by decide) wd_1_219 rfl rfl rfl (fun _ => rfl) (fun _ => rfl) rfl (by decide) rfl ?_
  refine mm_aload_n (mm_dc od_X3_init_0 28 rfl) rfl ?_
  refine mm_bipush (mm_dc od_X3_init_0 29 rfl) (by decide) ?_
  refine mm_newb (n := 60) (q := 41) (La' := la_80) (mm_dc od_X3_init_0 30 rfl) wd_1_77 rfl (by decide) (by decide) (by decide) rfl (by decide) rfl rfl (fun _ => rfl) rfl ?_
  refine mm_putR (La' := la_81) (ci := 3) (k := 7) (mm_dc od_X3_init_0 31 rfl) rfl in_X3 tyX3_ok nmX3 (by decide) wd_1_220 rfl rfl rfl (fun _ => rfl) (fun _ => rfl) rfl (by decide) rfl ?_
  refine mm_aload_n (mm_dc od_X3_init_0 32 rfl) rfl ?_
  refine mm_bipush (mm_dc od_X3_init_0 33 rfl) (by decide) ?_
  refine mm_newb (n := 60) (q := 42) (La' := la_82) (mm_dc od_X3_init_0 34 rfl) wd_1_77 rfl (by decide) (by decide) (by decide) rfl (by decide) rfl rfl (fun _ => rfl) rfl ?_
  refine mm_putR (La' := la_83) (ci := 3) (k := 8) (mm_dc od_X3_init_0 35 rfl) rfl in_X3 tyX3_ok nmX3 (by decide) wd_1_221 rfl rfl rfl (fun _ => rfl) (fun _ => rfl) rfl (by decide) rfl ?_
  refine mm_ret (mm_dc od_X3_init_0 36 rfl) rfl ?_
  exact k
theorem c_X2_init {X : Nat × (Nat → Int)} {d : Nat} {Po : mm_Po} (k : Po none la_89 mem_6) : mm_E X (d) 2 40 mi_X2_init [v_r 43] Po la_85 mem_5 := by
  show mm_G X (d) 2 40 mi_X2_init Po 0 [(0, v_r 43)] [] la_85 mem_5 0 0
  refine mm_aload_n (mm_dc od_X2_init_0 0 rfl) rfl ?_
  refine mm_oinit (mm_dc od_X2_init_0 1 rfl) wd_2_6 wd_1_26 wd_1_27 (by decide) ?_
  refine mm_aload_n (mm_dc od_X2_init_0 2 rfl) rfl ?_
  refine mm_iconst (mm_dc od_X2_init_0 3 rfl) ?_
  refine mm_putI (ci := 2) (k := 0) (mm_dc od_X2_init_0 4 rfl) rfl in_X2 tyX2_ok nmX2 (by decide) wd_2_7 rfl rfl rfl rfl ?_
  refine mm_aload_n (mm_dc od_X2_init_0 5 rfl) rfl ?_
  refine mm_bipush (mm_dc od_X2_init_0 6 rfl) (by decide) ?_
  refine mm_putI (ci := 2) (k := 1) (mm_dc od_X2_init_0 7 rfl) rfl in_X2 tyX2_ok nmX2 (by decide) wd_2_9 rfl rfl rfl rfl ?_
  refine mm_aload_n (mm_dc od_X2_init_0 8 rfl) rfl ?_
  refine mm_bipush (mm_dc od_X2_init_0 9 rfl) (by decide) ?_
  refine mm_newb (n := 20) (q := 44) (La' := la_86) (mm_dc od_X2_init_0 10 rfl) wd_1_77 rfl (by decide) (by decide) (by decide) rfl (by decide) rfl rfl (fun _ => rfl) rfl ?_
  refine mm_putR (La' := la_87) (ci := 2) (k := 2) (mm_dc od_X2_init_0 11 rfl) rfl in_X2 tyX2_ok nmX2 (by decide) wd_2_11 rfl rfl rfl (fun _ => rfl) (fun _ => rfl) rfl (by decide) rfl ?_
  refine mm_aload_n (mm_dc od_X2_init_0 12 rfl) rfl ?_
  refine mm_bipush (mm_dc od_X2_init_0 13 rfl) (by decide) ?_
  refine mm_newb (n := 20) (q := 45) (La' := la_88) (mm_dc od_X2_init_0 14 rfl) wd_1_77 rfl (by decide) (by decide) (by decide) rfl (by decide) rfl rfl (fun _ => rfl) rfl ?_
  refine mm_putR (La' := la_89) (ci := 2) (k := 3) (mm_dc od_X2_init_0 15 rfl) rfl in_X2 tyX2_ok nmX2 (by decide) wd_2_12 rfl rfl rfl (fun _ => rfl) (fun _ => rfl) rfl (by decide) rfl ?_
  refine mm_ret (mm_dc od_X2_init_0 16 rfl) rfl ?_
  exact k
theorem c_X5_init {X : Nat × (Nat → Int)} {d : Nat} {Po : mm_Po} (k : Po none la_97 mem_7) : mm_E X (d + 1) 3 19 mi_X5_init [v_r 46] Po la_91 mem_6 := by
  show mm_G X (d + 1) 3 19 mi_X5_init Po 0 [(0, v_r 46)] [] la_91 mem_6 0 0
  refine mm_aload_n (mm_dc od_X5_init_0 0 rfl) rfl ?_
  refine mm_oinit (mm_dc od_X5_init_0 1 rfl) wd_2_27 wd_1_26 wd_1_27 (by decide) ?_
  refine mm_aload_n (mm_dc od_X5_init_0 2 rfl) rfl ?_
  refine mm_bipush (mm_dc od_X5_init_0 3 rfl) (by decide) ?_
  refine mm_newb (n := 8) (q := 47) (La' := la_92) (mm_dc od_X5_init_0 4 rfl) wd_1_77 rfl (by decide) (by decide) (by decide) rfl (by decide) rfl rfl (fun _ => rfl) rfl ?_
  refine mm_putR (La' := la_93) (ci := 5) (k := 0) (mm_dc od_X5_init_0 5 rfl) rfl in_X5 tyX5_ok nmX5 (by decide) wd_2_31 rfl rfl rfl (fun _ => rfl) (fun _ => rfl) rfl (by decide) rfl ?_
  refine mm_aload_n (mm_dc od_X5_init_0 6 rfl) rfl ?_
  refine mm_bipush (mm_dc od_X5_init_0 7 rfl) (by decide) ?_
  refine mm_newb (n := 8) (q := 48) (La' := la_94) (mm_dc od_X5_init_0 8 rfl) wd_1_77 rfl (by decide) (by decide) (by decide) rfl (by decide) rfl rfl (fun _ => rfl) rfl ?_
  refine mm_putR (La' := la_95) (ci := 5) (k := 1) (mm_dc od_X5_init_0 9 rfl) rfl in_X5 tyX5_ok nmX5 (by decide) wd_2_33 rfl rfl rfl (fun _ => rfl) (fun _ => rfl) rfl (by decide) rfl ?_
  refine mm_aload_n (mm_dc od_X5_init_0 10 rfl) rfl ?_
  refine mm_iconst (mm_dc od_X5_init_0 11 rfl) ?_
  refine mm_newb (n := 3) (q := 49) (La' := la_96) (mm_dc od_X5_init_0 12 rfl) wd_1_77 rfl (by decide) (by decide) (by decide) rfl (by decide) rfl rfl (fun _ => rfl) rfl ?_
  refine mm_putR (La' := la_97) (ci := 5) (k := 2) (mm_dc od_X5_init_0 13 rfl) rfl in_X5 tyX5_ok nmX5 (by decide) wd_2_34 rfl rfl rfl (fun _ => rfl) (fun _ => rfl) rfl (by decide) rfl ?_
  refine mm_aload_n (mm_dc od_X5_init_0 14 rfl) rfl ?_
  refine mm_iconst (mm_dc od_X5_init_0 15 rfl) ?_
  refine mm_putI (ci := 5) (k := 3) (mm_dc od_X5_init_0 16 rfl) rfl in_X5 tyX5_ok nmX5 (by decide) wd_2_35 rfl rfl rfl rfl ?_
  refine mm_aload_n (mm_dc od_X5_init_0 17 rfl) rfl ?_
  refine mm_getR (ci := 5) (k := 0) (mm_dc od_X5_init_0 18 rfl) rfl in_X5 (by decide) wd_2_31 rfl rfl ?_
  refine mm_iconst (mm_dc od_X5_init_0 19 rfl) ?_
  refine mm_callS (mi' := mi_J7_fill_53178) [v_r 47, v_i (-1)] [] (mm_dc od_X5_init_0 20 rfl) rfl wd_2_28 wd_2_29 wd_1_11 wd_2_30 yk_J7_fill_53178 (by decide) rfl (by decide) (c_fillI (n := 8) (by decide) rfl _ ⟨Nat.le_refl _, ?_⟩)
  refine mm_ret (mm_dc od_X5_init_0 21 rfl) rfl ?_
  exact k
theorem c_X9_init {X : Nat × (Nat → Int)} {d : Nat} {Po : mm_Po} (k : Po none la_98 mem_8) : mm_E X (d + 2) 49 5414 mi_X9_init [v_r 0] Po la_0 mm_M0 := by
  show mm_G X (d + 2) 49 5414 mi_X9_init Po 0 [(0, v_r 0)] [] la_0 mm_M0 0 0
  refine mm_aload_n (mm_dc od_X9_init_0 0 rfl) rfl ?_
  refine mm_oinit (mm_dc od_X9_init_0 1 rfl) wd_1_25 wd_1_26 wd_1_27 (by decide) ?_
  refine mm_aload_n (mm_dc od_X9_init_0 2 rfl) rfl ?_
  refine mm_newo (ci := 0) (q := 1) (La' := la_1) (mm_dc od_X9_init_0 3 rfl) rfl in_X0 tyX0_ok wd_1_28 wd_1_29 wd_1_2 rfl rfl (by decide) rfl (by decide) rfl rfl (fun _ => rfl) rfl ?_
  refine mm_dup_r (mm_dc od_X9_init_0 4 rfl) ?_
  refine mm_callJ (b := 1) (mi' := mi_X0_init) [] [v_r 1, v_r 0] (mm_dc od_X9_init_0 5 rfl) rfl (List.mem_of_getElem? (i := 0) rfl) wd_1_31 wd_1_2 wd_1_32 rfl rfl yk_X0_init (by decide) rfl (by decide) (c_X0_init ⟨by decide, ?_⟩)
  refine mm_putR (La' := la_18) (ci := 9) (k := 0) (mm_dc od_X9_init_0 6 rfl) rfl in_X9 tyX9_ok nmX9 (by decide) wd_2_45 rfl rfl rfl (fun _ => rfl) (fun _ => rfl) rfl (by decide) rfl ?_
  refine mm_aload_n (mm_dc od_X9_init_0 7 rfl) rfl ?_
  refine mm_newo (ci := 4) (q := 10) (La' := la_19) (mm_dc od_X9_init_0 8 rfl) rfl in_X4 tyX4_ok wd_1_78 wd_1_79 wd_1_3 rfl rfl (by decide) rfl (by decide) rfl rfl (fun _ => rfl) rfl ?_
  refine mm_dup_r (mm_dc od_X9_init_0 9 rfl) ?_
  refine mm_callJ (b := 10) (mi' := mi_X4_init) [] [v_r 10, v_r 0] (mm_dc od_X9_init_0 10 rfl) rfl (List.mem_of_getElem? (i := 1) rfl) wd_1_81 wd_1_3 wd_1_82 rfl rfl yk_X4_init (by decide) rfl (by decide) (c_X4_init ⟨by decide, ?_⟩)
  refine mm_putR (La' := la_32) (ci := 9) (k := 1) (mm_dc od_X9_init_0 11 rfl) rfl in_X9 tyX9_ok nmX9 (by decide) wd_2_46 rfl rfl rfl (fun _ => rfl) (fun _ => rfl) rfl (by decide) rfl ?_
  refine mm_aload_n (mm_dc od_X9_init_0 12 rfl) rfl ?_
  refine mm_newo (ci := 1) (q := 17) (La' := la_33) (mm_dc od_X9_init_0 13 rfl) rfl in_X1 tyX1_ok wd_1_113 wd_1_114 wd_1_4 rfl rfl (by decide) rfl (by decide) rfl rfl (fun _ => rfl) rfl ?_
  refine mm_dup_r (mm_dc od_X9_init_0 14 rfl) ?_
  refine mm_callJ (b := 17) (mi' := mi_X1_init) [] [v_r 17, v_r 0] (mm_dc od_X9_init_0 15 rfl) rfl (List.mem_of_getElem? (i := 2) rfl) wd_1_116 wd_1_4 wd_1_117 rfl rfl yk_X1_init (by decide) rfl (by decide) (c_X1_init ⟨by decide, ?_⟩)
  refine mm_putR (La' := la_40) (ci := 9) (k := 2) (mm_dc od_X9_init_0 16 rfl) rfl in_X9 tyX9_ok nmX9 (by decide) wd_2_47 rfl rfl rfl (fun _ => rfl) (fun _ => rfl) rfl (by decide) rfl ?_
  refine mm_aload_n (mm_dc od_X9_init_0 17 rfl) rfl ?_
  refine mm_newo (ci := 6) (q := 21) (La' := la_41) (mm_dc od_X9_init_0 18 rfl) rfl in_X6 tyX6_ok wd_1_129 wd_1_130 wd_1_5 rfl rfl (by decide) rfl (by decide) rfl rfl (fun _ => rfl) rfl ?_
  refine mm_dup_r (mm_dc od_X9_init_0 19 rfl) ?_
  refine mm_callJ (b := 21) (mi' := mi_X6_init) [] [v_r 21, v_r 0] (mm_dc od_X9_init_0 20 rfl) rfl (List.mem_of_getElem? (i := 3) rfl) wd_1_132 wd_1_5 wd_1_133 rfl rfl yk_X6_init (by decide) rfl (by decide) (c_X6_init ⟨by decide, ?_⟩)
  refine mm_putR (La' := la_46) (ci := 9) (k := 3) (mm_dc od_X9_init_0 21 rfl) rfl in_X9 tyX9_ok nmX9 (by decide) wd_2_48 rfl rfl rfl (fun _ => rfl) (fun _ => rfl) rfl (by decide) rfl ?_
  refine mm_aload_n (mm_dc od_X9_init_0 22 rfl) rfl ?_
  refine mm_newo (ci := 8) (q := 24) (La' := la_47) (mm_dc od_X9_init_0 23 rfl) rfl in_X8 tyX8_ok wd_1_144 wd_1_145 wd_1_6 rfl rfl (by decide) rfl (by decide) rfl rfl (fun _ => rfl) rfl ?_
  refine mm_dup_r (mm_dc od_X9_init_0 24 rfl) ?_
  refine mm_callJ (b := 24) (mi' := mi_X8_init) [] [v_r 24, v_r 0] (mm_dc od_X9_init_0 25 rfl) rfl (List.mem_of_getElem? (i := 4) rfl) wd_1_147 wd_1_6 wd_1_148 rfl rfl yk_X8_init (by decide) rfl (by decide) (c_X8_init ⟨by decide, ?_⟩)
  refine mm_putR (La' := la_50) (ci := 9) (k := 4) (mm_dc od_X9_init_0 26 rfl) rfl in_X9 tyX9_ok nmX9 (by decide) wd_2_49 rfl rfl rfl (fun _ => rfl) (fun _ => rfl) rfl (by decide) rfl ?_
  refine mm_aload_n (mm_dc od_X9_init_0 27 rfl) rfl ?_
  refine mm_newo (ci := 7) (q := 26) (La' := la_51) (mm_dc od_X9_init_0 28 rfl) rfl in_X7 tyX7_ok wd_1_163 wd_1_164 wd_1_7 rfl rfl (by decide) rfl (by decide) rfl rfl (fun _ => rfl) rfl ?_
  refine mm_dup_r (mm_dc od_X9_init_0 29 rfl) ?_
  refine mm_callJ (b := 26) (mi' := mi_X7_init) [] [v_r 26, v_r 0] (mm_dc od_X9_init_0 30 rfl) rfl (List.mem_of_getElem? (i := 5) rfl) wd_1_166 wd_1_7 wd_1_167 rfl rfl yk_X7_init (by decide) rfl (by decide) (c_X7_init ⟨by decide, ?_⟩)
  refine mm_putR (La' := la_68) (ci := 9) (k := 5) (mm_dc od_X9_init_0 31 rfl) rfl in_X9 tyX9_ok nmX9 (by decide) wd_2_50 rfl rfl rfl (fun _ => rfl) (fun _ => rfl) rfl (by decide) rfl ?_
  refine mm_aload_n (mm_dc od_X9_init_0 32 rfl) rfl ?_
  refine mm_newo (ci := 3) (q := 35) (La' := la_69) (mm_dc od_X9_init_0 33 rfl) rfl in_X3 tyX3_ok wd_1_201 wd_1_202 wd_1_8 rfl rfl (by decide) rfl (by decide) rfl rfl (fun _ => rfl) rfl ?_
  refine mm_dup_r (mm_dc od_X9_init_0 34 rfl) ?_
  refine mm_callJ (b := 35) (mi' := mi_X3_init) [] [v_r 35, v_r 0] (mm_dc od_X9_init_0 35 rfl) rfl (List.mem_of_getElem? (i := 6) rfl) wd_1_204 wd_1_8 wd_1_205 rfl rfl yk_X3_init (by decide) rfl (by decide) (c_X3_init ⟨by decide, ?_⟩)
  refine mm_putR (La' := la_84) (ci := 9) (k := 6) (mm_dc od_X9_init_0 36 rfl) rfl in_X9 tyX9_ok nmX9 (by decide) wd_2_51 rfl rfl rfl (fun _ => rfl) (fun _ => rfl) rfl (by decide) rfl ?_
  refine mm_aload_n (mm_dc od_X9_init_0 37 rfl) rfl ?_
  refine mm_newo (ci := 2) (q := 43) (La' := la_85) (mm_dc od_X9_init_0 38 rfl) rfl in_X2 tyX2_ok wd_2_1 wd_2_2 wd_1_9 rfl rfl (by decide) rfl (by decide) rfl rfl (fun _ => rfl) rfl ?_
  refine mm_dup_r (mm_dc od_X9_init_0 39 rfl) ?_
  refine mm_callJ (b := 43) (mi' := mi_X2_init) [] [v_r 43, v_r 0] (mm_dc od_X9_init_0 40 rfl) rfl (List.mem_of_getElem? (i := 7) rfl) wd_2_4 wd_1_9 wd_2_5 rfl rfl yk_X2_init (by decide) rfl (by decide) (c_X2_init ⟨by decide, ?_⟩)
  refine mm_putR (La' := la_90) (ci := 9) (k := 7) (mm_dc od_X9_init_0 41 rfl) rfl in_X9 tyX9_ok nmX9 (by decide) wd_2_52 rfl rfl rfl (fun _ => rfl) (fun _ => rfl) rfl (by decide) rfl ?_
  refine mm_aload_n (mm_dc od_X9_init_0 42 rfl) rfl ?_
  refine mm_newo (ci := 5) (q := 46) (La' := la_91) (mm_dc od_X9_init_0 43 rfl) rfl in_X5 tyX5_ok wd_2_22 wd_2_23 wd_1_10 rfl rfl (by decide) rfl (by decide) rfl rfl (fun _ => rfl) rfl ?_
  refine mm_dup_r (mm_dc od_X9_init_0 44 rfl) ?_
  refine mm_callI (b := 46) (mi' := mi_X5_init) [] [v_r 46, v_r 0] (mm_dc od_X9_init_0 45 rfl) rfl wd_2_24 wd_2_25 wd_1_10 wd_2_26 rfl rfl yk_X5_init (by decide) rfl (by decide) (c_X5_init ⟨by decide, ?_⟩)
  refine mm_putR (La' := la_98) (ci := 9) (k := 8) (mm_dc od_X9_init_0 46 rfl) rfl in_X9 tyX9_ok nmX9 (by decide) wd_2_53 rfl rfl rfl (fun _ => rfl) (fun _ => rfl) rfl (by decide) rfl ?_
  refine mm_aload_n (mm_dc od_X9_init_0 47 rfl) rfl ?_
  refine mm_iconst (mm_dc od_X9_init_0 48 rfl) ?_
  refine mm_putI (ci := 9) (k := 9) (mm_dc od_X9_init_0 49 rfl) rfl in_X9 tyX9_ok nmX9 (by decide) wd_2_54 rfl rfl rfl rfl ?_
  refine mm_ret (mm_dc od_X9_init_0 50 rfl) rfl ?_
  exact k
