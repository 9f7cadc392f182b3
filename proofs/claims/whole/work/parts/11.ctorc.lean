theorem c_X10_init {X : Nat × (Nat → Int)} {d : Nat} {Po : mm_Po} (k : Po none la_179 mem_9) : mm_E X (d) 40 5529 mi_X10_init [v_r 50] Po la_99 mem_8 := by
  show mm_G X (d) 40 5529 mi_X10_init Po 0 [(0, v_r 50)] [] la_99 mem_8 0 0
  refine mm_aload_n (mm_dc od_X10_init_0 0 rfl) rfl ?_
  refine mm_oinit (mm_dc od_X10_init_0 1 rfl) wd_4_111 wd_1_26 wd_1_27 (by decide) ?_
  refine mm_aload_n (mm_dc od_X10_init_0 2 rfl) rfl ?_
  refine mm_bipush (mm_dc od_X10_init_0 3 rfl) (by decide) ?_
  refine mm_newb (n := 16) (q := 51) (La' := la_100) (mm_dc od_X10_init_0 4 rfl) wd_1_77 rfl (by decide) (by decide) (by decide) rfl (by decide) rfl rfl (fun _ => rfl) rfl ?_
  refine mm_putR (La' := la_101) (ci := 10) (k := 0) (mm_dc od_X10_init_0 5 rfl) rfl in_X10 tyX10_ok nmX10 (by decide) wd_4_112 rfl rfl rfl (fun _ => rfl) (fun _ => rfl) rfl (by decide) rfl ?_
  refine mm_aload_n (mm_dc od_X10_init_0 6 rfl) rfl ?_
  refine mm_bipush (mm_dc od_X10_init_0 7 rfl) (by decide) ?_
  refine mm_newb (n := 16) (q := 52) (La' := la_102) (mm_dc od_X10_init_0 8 rfl) wd_1_77 rfl (by decide) (by decide) (by decide) rfl (by decide) rfl rfl (fun _ => rfl) rfl ?_
  refine mm_putR (La' := la_103) (ci := 10) (k := 1) (mm_dc od_X10_init_0 9 rfl) rfl in_X10 tyX10_ok nmX10 (by decide) wd_4_113 rfl rfl rfl (fun _ => rfl) (fun _ => rfl) rfl (by decide) rfl ?_
  refine mm_aload_n (mm_dc od_X10_init_0 10 rfl) rfl ?_
  refine mm_bipush (mm_dc od_X10_init_0 11 rfl) (by decide) ?_
  refine mm_newb (n := 16) (q := 53) (La' := la_104) (mm_dc od_X10_init_0 12 rfl) wd_1_77 rfl (by decide) (by decide) (by decide) rfl (by decide) rfl rfl (fun _ => rfl) rfl ?_
  refine mm_putR (La' := la_105) (ci := 10) (k := 2) (mm_dc od_X10_init_0 13 rfl) rfl in_X10 tyX10_ok nmX10 (by decide) wd_4_114 rfl rfl rfl (fun _ => rfl) (fun _ => rfl) rfl (by decide) rfl ?_
  refine mm_aload_n (mm_dc od_X10_init_0 14 rfl) rfl ?_
  refine mm_bipush (mm_dc od_X10_init_0 15 rfl) (by decide) ?_
  refine mm_newb (n := 16) (q := 54) (La' := la_106) (mm_dc od_X10_init_0 16 rfl) wd_1_77 rfl (by decide) (by decide) (by decide) rfl (by decide) rfl rfl (fun _ => rfl) rfl ?_
  refine mm_putR (La' := la_107) (ci := 10) (k := 3) (mm_dc od_X10_init_0 17 rfl) rfl in_X10 tyX10_ok nmX10 (by decide) wd_4_115 rfl rfl rfl (fun _ => rfl) (fun _ => rfl) rfl (by decide) rfl ?_
  refine mm_aload_n (mm_dc od_X10_init_0 18 rfl) rfl ?_
  refine mm_bipush (mm_dc od_X10_init_0 19 rfl) (by decide) ?_
  refine mm_newb (n := 16) (q := 55) (La' := la_108) (mm_dc od_X10_init_0 20 rfl) wd_1_200 rfl (by decide) (by decide) (by decide) rfl (by decide) rfl rfl (fun _ => rfl) rfl ?_
  refine mm_putR (La' := la_109) (ci := 10) (k := 4) (mm_dc od_X10_init_0 21 rfl) rfl in_X10 tyX10_ok nmX10 (by decide) wd_4_116 rfl rfl rfl (fun _ => rfl) (fun _ => rfl) rfl (by decide) rfl ?_
  refine mm_aload_n (mm_dc od_X10_init_0 22 rfl) rfl ?_
  refine mm_bipush (mm_dc od_X10_init_0 23 rfl) (by decide) ?_
  refine mm_newb (n := 8) (q := 56) (La' := la_110) (mm_dc od_X10_init_0 24 rfl) wd_1_200 rfl (by decide) (by decide) (by decide) rfl (by decide) rfl rfl (fun _ => rfl) rfl ?_
  refine mm_putR (La' := la_111) (ci := 10) (k := 5) (mm_dc od_X10_init_0 25 rfl) rfl in_X10 tyX10_ok nmX10 (by decide) wd_4_117 rfl rfl rfl (fun _ => rfl) (fun _ => rfl) rfl (by decide) rfl ?_
  refine mm_aload_n (mm_dc od_X10_init_0 26 rfl) rfl ?_
  refine mm_bipush (mm_dc od_X10_init_0 27 rfl) (by decide) ?_
  refine mm_newb (n := 8) (q := 57) (La' := la_112) (mm_dc od_X10_init_0 28 rfl) wd_1_77 rfl (by decide) (by decide) (by decide) rfl (by decide) rfl rfl (fun _ => rfl) rfl ?_
  refine mm_putR (La' := la_113) (ci := 10) (k := 6) (mm_dc od_X10_init_0 29 rfl) rfl in_X10 tyX10_ok nmX10 (by decide) wd_4_118 rfl rfl rfl (fun _ => rfl) (fun _ => rfl) rfl (by decide) rfl ?_
  refine mm_aload_n (mm_dc od_X10_init_0 30 rfl) rfl ?_
  refine mm_bipush (mm_dc od_X10_init_0 31 rfl) (by decide) ?_
  refine mm_newb (n := 8) (q := 58) (La' := la_114) (mm_dc od_X10_init_0 32 rfl) wd_1_77 rfl (by decide) (by decide) (by decide) rfl (by decide) rfl rfl (fun _ => rfl) rfl ?_
  refine mm_putR (La' := la_115) (ci := 10) (k := 7) (mm_dc od_X10_init_0 33 rfl) rfl in_X10 tyX10_ok nmX10 (by decide) wd_4_119 rfl rfl rfl (fun _ => rfl) (fun _ => rfl) rfl (by decide) rfl ?_
  refine mm_aload_n (mm_dc od_X10_init_0 34 rfl) rfl ?_
  refine mm_bipush (mm_dc od_X10_init_0 35 rfl) (by decide) ?_
  refine mm_newb (n := 8) (q := 59) (La' := la_116) (mm_dc od_X10_init_0 36 rfl) wd_1_77 rfl (by decide) (by decide) (by decide) rfl (by decide) rfl rfl (fun _ => rfl) rfl ?_
  refine mm_putR (La' := la_117) (ci := 10) (k := 8) (mm_dc od_X10_init_0 37 rfl) rfl in_X10 tyX10_ok nmX10 (by decide) wd_4_120 rfl rfl rfl (fun _ => rfl) (fun _ => rfl) rfl (by decide) rfl ?_
  refine mm_aload_n (mm_dc od_X10_init_0 38 rfl) rfl ?_
  refine mm_bipush (mm_dc od_X10_init_0 39 rfl) (by decide) ?_
  refine mm_newb (n := 8) (q := 60) (La' := la_118) (mm_dc od_X10_init_0 40 rfl) wd_1_77 rfl (by decide) (by decide) (by decide) rfl (by decide) rfl rfl (fun _ => rfl) rfl ?_
  refine mm_putR (La' := la_119) (ci := 10) (k := 9) (mm_dc od_X10_init_0 41 rfl) rfl in_X10 tyX10_ok nmX10 (by decide) wd_4_121 rfl rfl rfl (fun _ => rfl) (fun _ => rfl) rfl (by decide) rfl ?_
  refine mm_aload_n (mm_dc od_X10_init_0 42 rfl) rfl ?_
  refine mm_bipush (mm_dc od_X10_init_0 43 rfl) (by decide) ?_
  refine mm_newb (n := 40) (q := 61) (La' := la_120) (mm_dc od_X10_init_0 44 rfl) wd_1_77 rfl (by decide) (by decide) (by decide) rfl (by decide) rfl rfl (fun _ => rfl) rfl ?_
  refine mm_putR (La' := la_121) (ci := 10) (k := 12) (mm_dc od_X10_init_0 45 rfl) rfl in_X10 tyX10_ok nmX10 (by decide) wd_4_124 rfl rfl rfl (fun _ => rfl) (fun _ => rfl) rfl (by decide) rfl ?_
  refine mm_aload_n (mm_dc od_X10_init_0 46 rfl) rfl ?_
  refine mm_bipush (mm_dc od_X10_init_0 47 rfl) (by decide) ?_
  refine mm_newb (n := 40) (q := 62) (La' := la_122) (mm_dc od_X10_init_0 48 rfl) wd_1_77 rfl (by decide) (by decide) (by decide) rfl (by decide) rfl rfl (fun _ => rfl) rfl ?_
  refine mm_putR (La' := la_123) (ci := 10) (k := 13) (mm_dc od_X10_init_0 49 rfl) rfl in_X10 tyX10_ok nmX10 (by decide) wd_4_125 rfl rfl rfl (fun _ => rfl) (fun _ => rfl) rfl (by decide) rfl ?_
  refine mm_aload_n (mm_dc od_X10_init_0 50 rfl) rfl ?_
  refine mm_bipush (mm_dc od_X10_init_0 51 rfl) (by decide) ?_
  refine mm_newb (n := 40) (q := 63) (La' := la_124) (mm_dc od_X10_init_0 52 rfl) wd_1_77 rfl (by decide) (by decide) (by decide) rfl (by decide) rfl rfl (fun _ => rfl) rfl ?_
  refine mm_putR (La' := la_125) (ci := 10) (k := 14) (mm_dc od_X10_init_0 53 rfl) rfl in_X10 tyX10_ok nmX10 (by decide) wd_4_126 rfl rfl rfl (fun _ => rfl) (fun _ => rfl) rfl (by decide) rfl ?_
  refine mm_aload_n (mm_dc od_X10_init_0 54 rfl) rfl ?_
  refine mm_bipush (mm_dc od_X10_init_0 55 rfl) (by decide) ?_
  refine mm_newb (n := 16) (q := 64) (La' := la_126) (mm_dc od_X10_init_0 56 rfl) wd_1_77 rfl (by decide) (by decide) (by decide) rfl (by decide) rfl rfl (fun _ => rfl) rfl ?_
  refine mm_putR (La' := la_127) (ci := 10) (k := 15) (mm_dc od_X10_init_0 57 rfl) rfl in_X10 tyX10_ok nmX10 (by decide) wd_4_127 rfl rfl rfl (fun _ => rfl) (fun _ => rfl) rfl (by decide) rfl ?_
  refine mm_aload_n (mm_dc od_X10_init_0 58 rfl) rfl ?_
  refine mm_bipush (mm_dc od_X10_init_0 59 rfl) (by decide) ?_
  refine mm_newb (n := 16) (q := 65) (La' := la_128) (mm_dc od_X10_init_1 0 rfl) wd_1_77 rfl (by decide) (by decide) (by decide) rfl (by decide) rfl rfl (fun _ => rfl) rfl ?_
  refine mm_putR (La' := la_129) (ci := 10) (k := 17) (mm_dc od_X10_init_1 1 rfl) rfl in_X10 tyX10_ok nmX10 (by decide) wd_4_129 rfl rfl rfl (fun _ => rfl) (fun _ => rfl) rfl (by decide) rfl ?_
  refine mm_aload_n (mm_dc od_X10_init_1 2 rfl) rfl ?_
  refine mm_bipush (mm_dc od_X10_init_1 3 rfl) (by decide) ?_
  refine mm_newb (n := 49) (q := 66) (La' := la_130) (mm_dc od_X10_init_1 4 rfl) wd_1_112 rfl (by decide) (by decide) (by decide) rfl (by decide) rfl rfl (fun _ => rfl) rfl ?_
  refine mm_putR (La' := la_131) (ci := 10) (k := 18) (mm_dc od_X10_init_1 5 rfl) rfl in_X10 tyX10_ok nmX10 (by decide) wd_4_130 rfl rfl rfl (fun _ => rfl) (fun _ => rfl) rfl (by decide) rfl ?_
  refine mm_aload_n (mm_dc od_X10_init_1 6 rfl) rfl ?_
  refine mm_bipush (mm_dc od_X10_init_1 7 rfl) (by decide) ?_
  refine mm_newb (n := 7) (q := 67) (La' := la_132) (mm_dc od_X10_init_1 8 rfl) wd_1_112 rfl (by decide) (by decide) (by decide) rfl (by decide) rfl rfl (fun _ => rfl) rfl ?_
  refine mm_putR (La' := la_133) (ci := 10) (k := 19) (mm_dc od_X10_init_1 9 rfl) rfl in_X10 tyX10_ok nmX10 (by decide) wd_4_131 rfl rfl rfl (fun _ => rfl) (fun _ => rfl) rfl (by decide) rfl ?_
  refine mm_aload_n (mm_dc od_X10_init_1 10 rfl) rfl ?_
  refine mm_sipush (mm_dc od_X10_init_1 11 rfl) (by decide) ?_
  refine mm_newb (n := 128) (q := 68) (La' := la_134) (mm_dc od_X10_init_1 12 rfl) wd_1_112 rfl (by decide) (by decide) (by decide) rfl (by decide) rfl rfl (fun _ => rfl) rfl ?_
  refine mm_putR (La' := la_135) (ci := 10) (k := 20) (mm_dc od_X10_init_1 13 rfl) rfl in_X10 tyX10_ok nmX10 (by decide) wd_4_132 rfl rfl rfl (fun _ => rfl) (fun _ => rfl) rfl (by decide) rfl ?_
  refine mm_aload_n (mm_dc od_X10_init_1 14 rfl) rfl ?_
  refine mm_bipush (mm_dc od_X10_init_1 15 rfl) (by decide) ?_
  refine mm_newb (n := 16) (q := 69) (La' := la_136) (mm_dc od_X10_init_1 16 rfl) wd_1_112 rfl (by decide) (by decide) (by decide) rfl (by decide) rfl rfl (fun _ => rfl) rfl ?_
  refine mm_putR (La' := la_137) (ci := 10) (k := 21) (mm_dc od_X10_init_1 17 rfl) rfl in_X10 tyX10_ok nmX10 (by decide) wd_4_133 rfl rfl rfl (fun _ => rfl) (fun _ => rfl) rfl (by decide) rfl ?_
  refine mm_aload_n (mm_dc od_X10_init_1 18 rfl) rfl ?_
  refine mm_sipush (mm_dc od_X10_init_1 19 rfl) (by decide) ?_
  refine mm_newb (n := 4352) (q := 70) (La' := la_138) (mm_dc od_X10_init_1 20 rfl) wd_1_77 rfl (by decide) (by decide) (by decide) rfl (by decide) rfl rfl (fun _ => rfl) rfl ?_
  refine mm_putR (La' := la_139) (ci := 10) (k := 24) (mm_dc od_X10_init_1 21 rfl) rfl in_X10 tyX10_ok nmX10 (by decide) wd_4_136 rfl rfl rfl (fun _ => rfl) (fun _ => rfl) rfl (by decide) rfl ?_
  refine mm_aload_n (mm_dc od_X10_init_1 22 rfl) rfl ?_
  refine mm_bipush (mm_dc od_X10_init_1 23 rfl) (by decide) ?_
  refine mm_newb (n := 16) (q := 71) (La' := la_140) (mm_dc od_X10_init_1 24 rfl) wd_1_77 rfl (by decide) (by decide) (by decide) rfl (by decide) rfl rfl (fun _ => rfl) rfl ?_
  refine mm_putR (La' := la_141) (ci := 10) (k := 25) (mm_dc od_X10_init_1 25 rfl) rfl in_X10 tyX10_ok nmX10 (by decide) wd_4_137 rfl rfl rfl (fun _ => rfl) (fun _ => rfl) rfl (by decide) rfl ?_
  refine mm_aload_n (mm_dc od_X10_init_1 26 rfl) rfl ?_
  refine mm_bipush (mm_dc od_X10_init_1 27 rfl) (by decide) ?_
  refine mm_newb (n := 30) (q := 72) (La' := la_142) (mm_dc od_X10_init_1 28 rfl) wd_1_77 rfl (by decide) (by decide) (by decide) rfl (by decide) rfl rfl (fun _ => rfl) rfl ?_
  refine mm_putR (La' := la_143) (ci := 10) (k := 26) (mm_dc od_X10_init_1 29 rfl) rfl in_X10 tyX10_ok nmX10 (by decide) wd_4_138 rfl rfl rfl (fun _ => rfl) (fun _ => rfl) rfl (by decide) rfl ?_
  refine mm_aload_n (mm_dc od_X10_init_1 30 rfl) rfl ?_
  refine mm_bipush (mm_dc od_X10_init_1 31 rfl) (by decide) ?_
  refine mm_newb (n := 30) (q := 73) (La' := la_144) (mm_dc od_X10_init_1 32 rfl) wd_1_77 rfl (by decide) (by decide) (by decide) rfl (by decide) rfl rfl (fun _ => rfl) rfl ?_
  refine mm_putR (La' := la_145) (ci := 10) (k := 27) (mm_dc od_X10_init_1 33 rfl) rfl in_X10 tyX10_ok nmX10 (by decide) wd_4_139 rfl rfl rfl (fun _ => rfl) (fun _ => rfl) rfl (by decide) rfl ?_
  refine mm_aload_n (mm_dc od_X10_init_1 34 rfl) rfl ?_
  refine mm_bipush (mm_dc od_X10_init_1 35 rfl) (by decide) ?_
  refine mm_newb (n := 120) (q := 74) (La' := la_146) (mm_dc od_X10_init_1 36 rfl) wd_1_77 rfl (by decide) (by decide) (by decide) rfl (by decide) rfl rfl (fun _ => rfl) rfl ?_
  refine mm_putR (La' := la_147) (ci := 10) (k := 28) (mm_dc od_X10_init_1 37 rfl) rfl in_X10 tyX10_ok nmX10 (by decide) wd_4_140 rfl rfl rfl (fun _ => rfl) (fun _ => rfl) rfl (by decide) rfl ?_
  refine mm_aload_n (mm_dc od_X10_init_1 38 rfl) rfl ?_
  refine mm_bipush (mm_dc od_X10_init_1 39 rfl) (by decide) ?_
  refine mm_newb (n := 10) (q := 75) (La' := la_148) (mm_dc od_X10_init_1 40 rfl) wd_1_200 rfl (by decide) (by decide) (by decide) rfl (by decide) rfl rfl (fun _ => rfl) rfl ?_
  refine mm_putR (La' := la_149) (ci := 10) (k := 32) (mm_dc od_X10_init_1 41 rfl) rfl in_X10 tyX10_ok nmX10 (by decide) wd_4_144 rfl rfl rfl (fun _ => rfl) (fun _ => rfl) rfl (by decide) rfl ?_
  refine mm_aload_n (mm_dc od_X10_init_1 42 rfl) rfl ?_
  refine mm_bipush (mm_dc od_X10_init_1 43 rfl) (by decide) ?_
  refine mm_newb (n := 10) (q := 76) (La' := la_150) (mm_dc od_X10_init_1 44 rfl) wd_1_77 rfl (by decide) (by decide) (by decide) rfl (by decide) rfl rfl (fun _ => rfl) rfl ?_
  refine mm_putR (La' := la_151) (ci := 10) (k := 33) (mm_dc od_X10_init_1 45 rfl) rfl in_X10 tyX10_ok nmX10 (by decide) wd_4_145 rfl rfl rfl (fun _ => rfl) (fun _ => rfl) rfl (by decide) rfl ?_
  refine mm_aload_n (mm_dc od_X10_init_1 46 rfl) rfl ?_
  refine mm_bipush (mm_dc od_X10_init_1 47 rfl) (by decide) ?_
  refine mm_newb (n := 10) (q := 77) (La' := la_152) (mm_dc od_X10_init_1 48 rfl) wd_1_77 rfl (by decide) (by decide) (by decide) rfl (by decide) rfl rfl (fun _ => rfl) rfl ?_
  refine mm_putR (La' := la_153) (ci := 10) (k := 34) (mm_dc od_X10_init_1 49 rfl) rfl in_X10 tyX10_ok nmX10 (by decide) wd_4_146 rfl rfl rfl (fun _ => rfl) (fun _ => rfl) rfl (by decide) rfl ?_
  refine mm_aload_n (mm_dc od_X10_init_1 50 rfl) rfl ?_
  refine mm_bipush (mm_dc od_X10_init_1 51 rfl) (by decide) ?_
  refine mm_newb (n := 120) (q := 78) (La' := la_154) (mm_dc od_X10_init_1 52 rfl) wd_1_77 rfl (by decide) (by decide) (by decide) rfl (by decide) rfl rfl (fun _ => rfl) rfl ?_
  refine mm_putR (La' := la_155) (ci := 10) (k := 35) (mm_dc od_X10_init_1 53 rfl) rfl in_X10 tyX10_ok nmX10 (by decide) wd_4_147 rfl rfl rfl (fun _ => rfl) (fun _ => rfl) rfl (by decide) rfl ?_
  refine mm_aload_n (mm_dc od_X10_init_1 54 rfl) rfl ?_
  refine mm_bipush (mm_dc od_X10_init_1 55 rfl) (by decide) ?_
  refine mm_newb (n := 30) (q := 79) (La' := la_156) (mm_dc od_X10_init_1 56 rfl) wd_1_77 rfl (by decide) (by decide) (by decide) rfl (by decide) rfl rfl (fun _ => rfl) rfl ?_
  refine mm_putR (La' := la_157) (ci := 10) (k := 37) (mm_dc od_X10_init_1 57 rfl) rfl in_X10 tyX10_ok nmX10 (by decide) wd_4_149 rfl rfl rfl (fun _ => rfl) (fun _ => rfl) rfl (by decide) rfl ?_
  refine mm_aload_n (mm_dc od_X10_init_1 58 rfl) rfl ?_
  refine mm_bipush (mm_dc od_X10_init_1 59 rfl) (by decide) ?_
  refine mm_newb (n := 30) (q := 80) (La' := la_158) (mm_dc od_X10_init_2 0 rfl) wd_1_77 rfl (by decide) (by decide) (by decide) rfl (by decide) rfl rfl (fun _ => rfl) rfl ?_
  refine mm_putR (La' := la_159) (ci := 10) (k := 38) (mm_dc od_X10_init_2 1 rfl) rfl in_X10 tyX10_ok nmX10 (by decide) wd_4_150 rfl rfl rfl (fun _ => rfl) (fun _ => rfl) rfl (by decide) rfl ?_
  refine mm_aload_n (mm_dc od_X10_init_2 2 rfl) rfl ?_
  refine mm_bipush (mm_dc od_X10_init_2 3 rfl) (by decide) ?_
  refine mm_newb (n := 30) (q := 81) (La' := la_160) (mm_dc od_X10_init_2 4 rfl) wd_1_77 rfl (by decide) (by decide) (by decide) rfl (by decide) rfl rfl (fun _ => rfl) rfl ?_
  refine mm_putR (La' := la_161) (ci := 10) (k := 39) (mm_dc od_X10_init_2 5 rfl) rfl in_X10 tyX10_ok nmX10 (by decide) wd_4_151 rfl rfl rfl (fun _ => rfl) (fun _ => rfl) rfl (by decide) rfl ?_
  refine mm_aload_n (mm_dc od_X10_init_2 6 rfl) rfl ?_
  refine mm_bipush (mm_dc od_X10_init_2 7 rfl) (by decide) ?_
  refine mm_newb (n := 30) (q := 82) (La' := la_162) (mm_dc od_X10_init_2 8 rfl) wd_1_77 rfl (by decide) (by decide) (by decide) rfl (by decide) rfl rfl (fun _ => rfl) rfl ?_
  refine mm_putR (La' := la_163) (ci := 10) (k := 40) (mm_dc od_X10_init_2 9 rfl) rfl in_X10 tyX10_ok nmX10 (by decide) wd_4_152 rfl rfl rfl (fun _ => rfl) (fun _ => rfl) rfl (by decide) rfl ?_
  refine mm_aload_n (mm_dc od_X10_init_2 10 rfl) rfl ?_
  refine mm_bipush (mm_dc od_X10_init_2 11 rfl) (by decide) ?_
  refine mm_newb (n := 60) (q := 83) (La' := la_164) (mm_dc od_X10_init_2 12 rfl) wd_1_77 rfl (by decide) (by decide) (by decide) rfl (by decide) rfl rfl (fun _ => rfl) rfl ?_
  refine mm_putR (La' := la_165) (ci := 10) (k := 41) (mm_dc od_X10_init_2 13 rfl) rfl in_X10 tyX10_ok nmX10 (by decide) wd_4_153 rfl rfl rfl (fun _ => rfl) (fun _ => rfl) rfl (by decide) rfl ?_
  refine mm_aload_n (mm_dc od_X10_init_2 14 rfl) rfl ?_
  refine mm_bipush (mm_dc od_X10_init_2 15 rfl) (by decide) ?_
  refine mm_newb (n := 60) (q := 84) (La' := la_166) (mm_dc od_X10_init_2 16 rfl) wd_1_77 rfl (by decide) (by decide) (by decide) rfl (by decide) rfl rfl (fun _ => rfl) rfl ?_
  refine mm_putR (La' := la_167) (ci := 10) (k := 42) (mm_dc od_X10_init_2 17 rfl) rfl in_X10 tyX10_ok nmX10 (by decide) wd_4_154 rfl rfl rfl (fun _ => rfl) (fun _ => rfl) rfl (by decide) rfl ?_
  refine mm_aload_n (mm_dc od_X10_init_2 18 rfl) rfl ?_
  refine mm_bipush (mm_dc od_X10_init_2 19 rfl) (by decide) ?_
  refine mm_newb (n := 60) (q := 85) (La' := la_168) (mm_dc od_X10_init_2 20 rfl) wd_1_200 rfl (by decide) (by decide) (by decide) rfl (by decide) rfl rfl (fun _ => rfl) rfl ?_
  refine mm_putR (La' := la_169) (ci := 10) (k := 43) (mm_dc od_X10_init_2 21 rfl) rfl in_X10 tyX10_ok nmX10 (by decide) wd_4_155 rfl rfl rfl (fun _ => rfl) (fun _ => rfl) rfl (by decide) rfl ?_
  refine mm_aload_n (mm_dc od_X10_init_2 22 rfl) rfl ?_
  refine mm_bipush (mm_dc od_X10_init_2 23 rfl) (by decide) ?_
  refine mm_newb (n := 20) (q := 86) (La' := la_170) (mm_dc od_X10_init_2 24 rfl) wd_1_77 rfl (by decide) (by decide) (by decide) rfl (by decide) rfl rfl (fun _ => rfl) rfl ?_
  refine mm_putR (La' := la_171) (ci := 10) (k := 46) (mm_dc od_X10_init_2 25 rfl) rfl in_X10 tyX10_ok nmX10 (by decide) wd_4_158 rfl rfl rfl (fun _ => rfl) (fun _ => rfl) rfl (by decide) rfl ?_
  refine mm_aload_n (mm_dc od_X10_init_2 26 rfl) rfl ?_
  refine mm_bipush (mm_dc od_X10_init_2 27 rfl) (by decide) ?_
  refine mm_newb (n := 20) (q := 87) (La' := la_172) (mm_dc od_X10_init_2 28 rfl) wd_1_77 rfl (by decide) (by decide) (by decide) rfl (by decide) rfl rfl (fun _ => rfl) rfl ?_
  refine mm_putR (La' := la_173) (ci := 10) (k := 47) (mm_dc od_X10_init_2 29 rfl) rfl in_X10 tyX10_ok nmX10 (by decide) wd_4_159 rfl rfl rfl (fun _ => rfl) (fun _ => rfl) rfl (by decide) rfl ?_
  refine mm_aload_n (mm_dc od_X10_init_2 30 rfl) rfl ?_
  refine mm_bipush (mm_dc od_X10_init_2 31 rfl) (by decide) ?_
  refine mm_putI (ci := 10) (k := 49) (mm_dc od_X10_init_2 32 rfl) rfl in_X10 tyX10_ok nmX10 (by decide) wd_4_161 rfl rfl rfl rfl ?_
  refine mm_aload_n (mm_dc od_X10_init_2 33 rfl) rfl ?_
  refine mm_bipush (mm_dc od_X10_init_2 34 rfl) (by decide) ?_
  refine mm_newb (n := 8) (q := 88) (La' := la_174) (mm_dc od_X10_init_2 35 rfl) wd_1_77 rfl (by decide) (by decide) (by decide) rfl (by decide) rfl rfl (fun _ => rfl) rfl ?_
  refine mm_putR (La' := la_175) (ci := 10) (k := 50) (mm_dc od_X10_init_2 36 rfl) rfl in_X10 tyX10_ok nmX10 (by decide) wd_4_162 rfl rfl rfl (fun _ => rfl) (fun _ => rfl) rfl (by decide) rfl ?_
  refine mm_aload_n (mm_dc od_X10_init_2 37 rfl) rfl ?_
  refine mm_bipush (mm_dc od_X10_init_2 38 rfl) (by decide) ?_
  refine mm_newb (n := 8) (q := 89) (La' := la_176) (mm_dc od_X10_init_2 39 rfl) wd_1_77 rfl (by decide) (by decide) (by decide) rfl (by decide) rfl rfl (fun _ => rfl) rfl ?_
  refine mm_putR (La' := la_177) (ci := 10) (k := 51) (mm_dc od_X10_init_2 40 rfl) rfl in_X10 tyX10_ok nmX10 (by decide) wd_4_163 rfl rfl rfl (fun _ => rfl) (fun _ => rfl) rfl (by decide) rfl ?_
  refine mm_aload_n (mm_dc od_X10_init_2 41 rfl) rfl ?_
  refine mm_iconst (mm_dc od_X10_init_2 42 rfl) ?_
  refine mm_newb (n := 3) (q := 90) (La' := la_178) (mm_dc od_X10_init_2 43 rfl) wd_1_77 rfl (by decide) (by decide) (by decide) rfl (by decide) rfl rfl (fun _ => rfl) rfl ?_
  refine mm_putR (La' := la_179) (ci := 10) (k := 52) (mm_dc od_X10_init_2 44 rfl) rfl in_X10 tyX10_ok nmX10 (by decide) wd_4_164 rfl rfl rfl (fun _ => rfl) (fun _ => rfl) rfl (by decide) rfl ?_
  refine mm_iconst (mm_dc od_X10_init_2 45 rfl) ?_
  refine mm_istore_n (L' := [(0, v_r 50), (1, v_i 0)]) (mm_dc od_X10_init_2 46 rfl) (by decide) rfl ?_
  refine mm_iload_n (mm_dc od_X10_init_2 47 rfl) rfl ?_
  refine mm_bipush (mm_dc od_X10_init_2 48 rfl) (by decide) ?_
  refine mm_icmp_ge 352 (mm_dc od_X10_init_2 49 rfl) (by omega) (by decide) (by decide) (fun h => absurd h (by decide)) (fun _ => ?_)
  refine mm_aload_n (mm_dc od_X10_init_2 50 rfl) rfl ?_
  refine mm_getR (ci := 10) (k := 50) (mm_dc od_X10_init_2 51 rfl) rfl in_X10 (by decide) wd_4_162 rfl rfl ?_
  refine mm_iload_n (mm_dc od_X10_init_2 52 rfl) rfl ?_
  refine mm_iconst (mm_dc od_X10_init_2 53 rfl) ?_
  refine mm_iast (mm_dc od_X10_init_2 54 rfl) rfl (by decide) (by decide) (by decide) ?_
  refine mm_iinc (L' := [(0, v_r 50), (1, v_i 1)]) (mm_dc od_X10_init_2 55 rfl) rfl (by decide) rfl ?_
  refine mm_goto 333 (mm_dc od_X10_init_2 56 rfl) (by omega) ?_
  refine mm_iload_n (mm_dc od_X10_init_2 47 rfl) rfl ?_
  refine mm_bipush (mm_dc od_X10_init_2 48 rfl) (by decide) ?_
  refine mm_icmp_ge 352 (mm_dc od_X10_init_2 49 rfl) (by omega) (by decide) (by decide) (fun h => absurd h (by decide)) (fun _ => ?_)
  refine mm_aload_n (mm_dc od_X10_init_2 50 rfl) rfl ?_
  refine mm_getR (ci := 10) (k := 50) (mm_dc od_X10_init_2 51 rfl) rfl in_X10 (by decide) wd_4_162 rfl rfl ?_
  refine mm_iload_n (mm_dc od_X10_init_2 52 rfl) rfl ?_
  refine mm_iconst (mm_dc od_X10_init_2 53 rfl) ?_
  refine mm_iast (mm_dc od_X10_init_2 54 rfl) rfl (by decide) (by decide) (by decide) ?_
  refine mm_iinc (L' := [(0, v_r 50), (1, v_i 2)]) (mm_dc od_X10_init_2 55 rfl) rfl (by decide) rfl ?_
  refine mm_goto 333 (mm_dc od_X10_init_2 56 rfl) (by omega) ?_
  refine mm_iload_n (mm_dc od_X10_init_2 47 rfl) rfl ?_
  refine mm_bipush (mm_dc od_X10_init_2 48 rfl) (by decide) ?_
  refine mm_icmp_ge 352 (mm_dc od_X10_init_2 49 rfl) (by omega) (by decide) (by decide) (fun h => absurd h (by decide)) (fun _ => ?_)
  refine mm_aload_n (mm_dc od_X10_init_2 50 rfl) rfl ?_
  refine mm_getR (ci := 10) (k := 50) (mm_dc od_X10_init_2 51 rfl) rfl in_X10 (by decide) wd_4_162 rfl rfl ?_
  refine mm_iload_n (mm_dc od_X10_init_2 52 rfl) rfl ?_
  refine mm_iconst (mm_dc od_X10_init_2 53 rfl) ?_
  refine mm_iast (mm_dc od_X10_init_2 54 rfl) rfl (by decide) (by decide) (by decide) ?_
  refine mm_iinc (L' := [(0, v_r 50), (1, v_i 3)]) (mm_dc od_X10_init_2 55 rfl) rfl (by decide) rfl ?_
  refine mm_goto 333 (mm_dc od_X10_init_2 56 rfl) (by omega) ?_
  refine mm_iload_n (mm_dc od_X10_init_2 47 rfl) rfl ?_
  refine mm_bipush (mm_dc od_X10_init_2 48 rfl) (by decide) ?_
  refine mm_icmp_ge 352 (mm_dc od_X10_init_2 49 rfl) (by omega) (by decide) (by decide) (fun h => absurd h (by decide)) (fun _ => ?_)
  refine mm_aload_n (mm_dc od_X10_init_2 50 rfl) rfl ?_
  refine mm_getR (ci := 10) (k := 50) (mm_dc od_X10_init_2 51 rfl) rfl in_X10 (by decide) wd_4_162 rfl rfl ?_
  refine mm_iload_n (mm_dc od_X10_init_2 52 rfl) rfl ?_
  refine mm_iconst (mm_dc od_X10_init_2 53 rfl) ?_
  refine mm_iast (mm_dc od_X10_init_2 54 rfl) rfl (by decide) (by decide) (by decide) ?_
  refine mm_iinc (L' := [(0, v_r 50), (1, v_i 4)]) (mm_dc od_X10_init_2 55 rfl) rfl (by decide) rfl ?_
  refine mm_goto 333 (mm_dc od_X10_init_2 56 rfl) (by omega) ?_
  refine mm_iload_n (mm_dc od_X10_init_2 47 rfl) rfl ?_
  refine mm_bipush (mm_dc od_X10_init_2 48 rfl) (by decide) ?_
  refine mm_icmp_ge 352 (mm_dc od_X10_init_2 49 rfl) (by omega) (by decide) (by decide) (fun h => absurd h (by decide)) (fun _ => ?_)
  refine mm_aload_n (mm_dc od_X10_init_2 50 rfl) rfl ?_
  refine mm_getR (ci := 10) (k := 50) (mm_dc od_X10_init_2 51 rfl) rfl in_X10 (by decide) wd_4_162 rfl rfl ?_
  refine mm_iload_n (mm_dc od_X10_init_2 52 rfl) rfl ?_
  refine mm_iconst (mm_dc od_X10_init_2 53 rfl) ?_
  refine mm_iast (mm_dc od_X10_init_2 54 rfl) rfl (by decide) (by decide) (by decide) ?_
  refine mm_iinc (L' := [(0, v_r 50), (1, v_i 5)]) (mm_dc od_X10_init_2 55 rfl) rfl (by decide) rfl ?_
  refine mm_goto 333 (mm_dc od_X10_init_2 56 rfl) (by omega) ?_
  refine mm_iload_n (mm_dc od_X10_init_2 47 rfl) rfl ?_
  refine mm_bipush (mm_dc od_X10_init_2 48 rfl) (by decide) ?_
  refine mm_icmp_ge 352 (mm_dc od_X10_init_2 49 rfl) (by omega) (by decide) (by decide) (fun h => absurd h (by decide)) (fun _ => ?_)
  refine mm_aload_n (mm_dc od_X10_init_2 50 rfl) rfl ?_
  refine mm_getR (ci := 10) (k := 50) (mm_dc od_X10_init_2 51 rfl) rfl in_X10 (by decide) wd_4_162 rfl rfl ?_
  refine mm_iload_n (mm_dc od_X10_init_2 52 rfl) rfl ?_
  refine mm_iconst (mm_dc od_X10_init_2 53 rfl) ?_
  refine mm_iast (mm_dc od_X10_init_2 54 rfl) rfl (by decide) (by decide) (by decide) ?_
  refine mm_iinc (L' := [(0, v_r 50), (1, v_i 6)]) (mm_dc od_X10_init_2 55 rfl) rfl (by decide) rfl ?_
  refine mm_goto 333 (mm_dc od_X10_init_2 56 rfl) (by omega) ?_
  refine mm_iload_n (mm_dc od_X10_init_2 47 rfl) rfl ?_
  refine mm_bipush (mm_dc od_X10_init_2 48 rfl) (by decide) ?_
  refine mm_icmp_ge 352 (mm_dc od_X10_init_2 49 rfl) (by omega) (by decide) (by decide) (fun h => absurd h (by decide)) (fun _ => ?_)
  refine mm_aload_n (mm_dc od_X10_init_2 50 rfl) rfl ?_
  refine mm_getR (ci := 10) (k := 50) (mm_dc od_X10_init_2 51 rfl) rfl in_X10 (by decide) wd_4_162 rfl rfl ?_
  refine mm_iload_n (mm_dc od_X10_init_2 52 rfl) rfl ?_
  refine mm_iconst (mm_dc od_X10_init_2 53 rfl) ?_
  refine mm_iast (mm_dc od_X10_init_2 54 rfl) rfl (by decide) (by decide) (by decide) ?_
  refine mm_iinc (L' := [(0, v_r 50), (1, v_i 7)]) (mm_dc od_X10_init_2 55 rfl) rfl (by decide) rfl ?_
  refine mm_goto 333 (mm_dc od_X10_init_2 56 rfl) (by omega) ?_
  refine mm_iload_n (mm_dc od_X10_init_2 47 rfl) rfl ?_
  refine mm_bipush (mm_dc od_X10_init_2 48 rfl) (by decide) ?_
  refine mm_icmp_ge 352 (mm_dc od_X10_init_2 49 rfl) (by omega) (by decide) (by decide) (fun h => absurd h (by decide)) (fun _ => ?_)
  refine mm_aload_n (mm_dc od_X10_init_2 50 rfl) rfl ?_
  refine mm_getR (ci := 10) (k := 50) (mm_dc od_X10_init_2 51 rfl) rfl in_X10 (by decide) wd_4_162 rfl rfl ?_
  refine mm_iload_n (mm_dc od_X10_init_2 52 rfl) rfl ?_
  refine mm_iconst (mm_dc od_X10_init_2 53 rfl) ?_
  refine mm_iast (mm_dc od_X10_init_2 54 rfl) rfl (by decide) (by decide) (by decide) ?_
  refine mm_iinc (L' := [(0, v_r 50), (1, v_i 8)]) (mm_dc od_X10_init_2 55 rfl) rfl (by decide) rfl ?_
  refine mm_goto 333 (mm_dc od_X10_init_2 56 rfl) (by omega) ?_
  refine mm_iload_n (mm_dc od_X10_init_2 47 rfl) rfl ?_
  refine mm_bipush (mm_dc od_X10_init_2 48 rfl) (by decide) ?_
  refine mm_icmp_ge 352 (mm_dc od_X10_init_2 49 rfl) (by omega) (by decide) (by decide) (fun _ => ?_) (fun h => absurd h (by decide))
  refine mm_ret (mm_dc od_X10_init_2 57 rfl) rfl ?_
  exact k
def Lam : List mm_S := la_179
