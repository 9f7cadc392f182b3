theorem wd_1_0 : Cond.initialized RL ∈ mm_tbl := wq_1 _ (List.mem_of_getElem? (i := 0) (by decide +kernel)) rfl
theorem wd_1_1 : Cond.initialized RX9 ∈ mm_tbl := wq_1 _ (List.mem_of_getElem? (i := 1) (by decide +kernel)) rfl
theorem wd_1_2 : Cond.initialized RX0 ∈ mm_tbl := wq_1 _ (List.mem_of_getElem? (i := 2) (by decide +kernel)) rfl
theorem wd_1_3 : Cond.initialized RX4 ∈ mm_tbl := wq_1 _ (List.mem_of_getElem? (i := 3) (by decide +kernel)) rfl
theorem wd_1_4 : Cond.initialized RX1 ∈ mm_tbl := wq_1 _ (List.mem_of_getElem? (i := 4) (by decide +kernel)) rfl
theorem wd_1_5 : Cond.initialized RX6 ∈ mm_tbl := wq_1 _ (List.mem_of_getElem? (i := 5) (by decide +kernel)) rfl
theorem wd_1_6 : Cond.initialized RX8 ∈ mm_tbl := wq_1 _ (List.mem_of_getElem? (i := 6) (by decide +kernel)) rfl
theorem wd_1_7 : Cond.initialized RX7 ∈ mm_tbl := wq_1 _ (List.mem_of_getElem? (i := 7) (by decide +kernel)) rfl
theorem wd_1_8 : Cond.initialized RX3 ∈ mm_tbl := wq_1 _ (List.mem_of_getElem? (i := 8) (by decide +kernel)) rfl
theorem wd_1_9 : Cond.initialized RX2 ∈ mm_tbl := wq_1 _ (List.mem_of_getElem? (i := 9) (by decide +kernel)) rfl
theorem wd_1_10 : Cond.initialized RX5 ∈ mm_tbl := wq_1 _ (List.mem_of_getElem? (i := 10) (by decide +kernel)) rfl
theorem wd_1_11 : Cond.initialized RJ7 ∈ mm_tbl := wq_1 _ (List.mem_of_getElem? (i := 11) (by decide +kernel)) rfl
theorem wd_1_12 : Cond.initialized RX10 ∈ mm_tbl := wq_1 _ (List.mem_of_getElem? (i := 12) (by decide +kernel)) rfl
theorem wd_1_13 : Cond.initialized RJ6 ∈ mm_tbl := wq_1 _ (List.mem_of_getElem? (i := 13) (by decide +kernel)) rfl
theorem wd_1_14 : Cond.initialized RJ9 ∈ mm_tbl := wq_1 _ (List.mem_of_getElem? (i := 14) (by decide +kernel)) rfl
theorem wd_1_15 : Cond.initialized RJ10 ∈ mm_tbl := wq_1 _ (List.mem_of_getElem? (i := 15) (by decide +kernel)) rfl
theorem wd_1_16 : Cond.initialized RJ0 ∈ mm_tbl := wq_1 _ (List.mem_of_getElem? (i := 16) (by decide +kernel)) rfl
theorem wd_1_17 : Cond.initialized RJ1 ∈ mm_tbl := wq_1 _ (List.mem_of_getElem? (i := 17) (by decide +kernel)) rfl
theorem wd_1_18 : Cond.initialized RJ3 ∈ mm_tbl := wq_1 _ (List.mem_of_getElem? (i := 18) (by decide +kernel)) rfl
theorem wd_1_19 : Cond.initialized RJ2 ∈ mm_tbl := wq_1 _ (List.mem_of_getElem? (i := 19) (by decide +kernel)) rfl
theorem wd_1_20 : Cond.classLink RL (7) RX9 ∈ mm_tbl := wq_1 _ (List.mem_of_getElem? (i := 20) (by decide +kernel)) rfl
theorem wd_1_21 : Cond.instantiable RX9 (10) ∈ mm_tbl := wq_1 _ (List.mem_of_getElem? (i := 21) (by decide +kernel)) rfl
theorem wd_1_22 : Cond.methodLink RL (9) yX9_init ∈ mm_tbl := wq_1 _ (List.mem_of_getElem? (i := 22) (by decide +kernel)) rfl
theorem wd_1_23 : Cond.instanceMethod yX9_init ∈ mm_tbl := wq_1 _ (List.mem_of_getElem? (i := 23) (by decide +kernel)) rfl
theorem wd_1_24 : Cond.code yX9_init cX9_init (1) none ∈ mm_tbl := wq_1 _ (List.mem_of_getElem? (i := 24) (by decide +kernel)) rfl
theorem wd_1_25 : Cond.methodLink RX9 (3) objectInit ∈ mm_tbl := wq_1 _ (List.mem_of_getElem? (i := 25) (by decide +kernel)) rfl
theorem wd_1_26 : Cond.instanceMethod objectInit ∈ mm_tbl := wq_1 _ (List.mem_of_getElem? (i := 26) (by decide +kernel)) rfl
theorem wd_1_27 : Cond.code objectInit object_method_1_code (1) none ∈ mm_tbl := wq_1 _ (List.mem_of_getElem? (i := 27) (by decide +kernel)) rfl
theorem wd_1_28 : Cond.classLink RX9 (9) RX0 ∈ mm_tbl := wq_1 _ (List.mem_of_getElem? (i := 28) (by decide +kernel)) rfl
theorem wd_1_29 : Cond.instantiable RX0 (10) ∈ mm_tbl := wq_1 _ (List.mem_of_getElem? (i := 29) (by decide +kernel)) rfl
theorem wd_1_31 : Cond.instanceMethod yX0_init ∈ mm_tbl := wq_1 _ (List.mem_of_getElem? (i := 31) (by decide +kernel)) rfl
theorem wd_1_32 : Cond.code yX0_init cX0_init (1) none ∈ mm_tbl := wq_1 _ (List.mem_of_getElem? (i := 32) (by decide +kernel)) rfl
theorem wd_1_33 : Cond.methodLink RX0 (3) objectInit ∈ mm_tbl := wq_1 _ (List.mem_of_getElem? (i := 33) (by decide +kernel)) rfl
theorem wd_1_34 : Cond.fieldLink RX0 (9) RX0 "oars" "I" ∈ mm_tbl := wq_1 _ (List.mem_of_getElem? (i := 34) (by decide +kernel)) rfl
theorem wd_1_35 : Cond.fieldLink RX1 (27) RX0 "oars" "I" ∈ mm_tbl := wq_1 _ (List.mem_of_getElem? (i := 35) (by decide +kernel)) rfl
theorem wd_1_36 : Cond.fieldLink RX9 (82) RX0 "oars" "I" ∈ mm_tbl := wq_1 _ (List.mem_of_getElem? (i := 36) (by decide +kernel)) rfl
theorem wd_1_37 : Cond.fieldLink RX0 (15) RX0 "oarKind" "[I" ∈ mm_tbl := wq_1 _ (List.mem_of_getElem? (i := 37) (by decide +kernel)) rfl
theorem wd_1_38 : Cond.fieldLink RX9 (118) RX0 "oarKind" "[I" ∈ mm_tbl := wq_1 _ (List.mem_of_getElem? (i := 38) (by decide +kernel)) rfl
theorem wd_1_39 : Cond.fieldLink RX0 (19) RX0 "weight" "[I" ∈ mm_tbl := wq_1 _ (List.mem_of_getElem? (i := 39) (by decide +kernel)) rfl
theorem wd_1_40 : Cond.fieldLink RX9 (121) RX0 "weight" "[I" ∈ mm_tbl := wq_1 _ (List.mem_of_getElem? (i := 40) (by decide +kernel)) rfl
theorem wd_1_41 : Cond.fieldLink RX0 (22) RX0 "sick" "[I" ∈ mm_tbl := wq_1 _ (List.mem_of_getElem? (i := 41) (by decide +kernel)) rfl
theorem wd_1_42 : Cond.fieldLink RX9 (100) RX0 "sick" "[I" ∈ mm_tbl := wq_1 _ (List.mem_of_getElem? (i := 42) (by decide +kernel)) rfl
theorem wd_1_43 : Cond.fieldLink RX0 (25) RX0 "place" "[I" ∈ mm_tbl := wq_1 _ (List.mem_of_getElem? (i := 43) (by decide +kernel)) rfl
theorem wd_1_44 : Cond.fieldLink RX1 (66) RX0 "place" "[I" ∈ mm_tbl := wq_1 _ (List.mem_of_getElem? (i := 44) (by decide +kernel)) rfl
theorem wd_1_45 : Cond.fieldLink RX9 (124) RX0 "place" "[I" ∈ mm_tbl := wq_1 _ (List.mem_of_getElem? (i := 45) (by decide +kernel)) rfl
theorem wd_1_46 : Cond.fieldLink RX0 (28) RX0 "boats" "I" ∈ mm_tbl := wq_1 _ (List.mem_of_getElem? (i := 46) (by decide +kernel)) rfl
theorem wd_1_47 : Cond.fieldLink RX9 (89) RX0 "boats" "I" ∈ mm_tbl := wq_1 _ (List.mem_of_getElem? (i := 47) (by decide +kernel)) rfl
theorem wd_1_48 : Cond.fieldLink RX0 (31) RX0 "boatKind" "[I" ∈ mm_tbl := wq_1 _ (List.mem_of_getElem? (i := 48) (by decide +kernel)) rfl
theorem wd_1_49 : Cond.fieldLink RX9 (310) RX0 "boatKind" "[I" ∈ mm_tbl := wq_1 _ (List.mem_of_getElem? (i := 49) (by decide +kernel)) rfl
theorem wd_1_50 : Cond.fieldLink RX0 (34) RX0 "least" "[I" ∈ mm_tbl := wq_1 _ (List.mem_of_getElem? (i := 50) (by decide +kernel)) rfl
theorem wd_1_51 : Cond.fieldLink RX9 (289) RX0 "least" "[I" ∈ mm_tbl := wq_1 _ (List.mem_of_getElem? (i := 51) (by decide +kernel)) rfl
theorem wd_1_52 : Cond.fieldLink RX0 (37) RX0 "most" "[I" ∈ mm_tbl := wq_1 _ (List.mem_of_getElem? (i := 52) (by decide +kernel)) rfl
theorem wd_1_53 : Cond.fieldLink RX9 (292) RX0 "most" "[I" ∈ mm_tbl := wq_1 _ (List.mem_of_getElem? (i := 53) (by decide +kernel)) rfl
theorem wd_1_54 : Cond.fieldLink RX0 (40) RX0 "length" "[I" ∈ mm_tbl := wq_1 _ (List.mem_of_getElem? (i := 54) (by decide +kernel)) rfl
theorem wd_1_55 : Cond.fieldLink RX9 (261) RX0 "length" "[I" ∈ mm_tbl := wq_1 _ (List.mem_of_getElem? (i := 55) (by decide +kernel)) rfl
theorem wd_1_77 : Cond.arrayClass .int ∈ mm_tbl := wq_1 _ (List.mem_of_getElem? (i := 77) (by decide +kernel)) rfl
theorem wd_1_78 : Cond.classLink RX9 (18) RX4 ∈ mm_tbl := wq_1 _ (List.mem_of_getElem? (i := 78) (by decide +kernel)) rfl
theorem wd_1_79 : Cond.instantiable RX4 (8) ∈ mm_tbl := wq_1 _ (List.mem_of_getElem? (i := 79) (by decide +kernel)) rfl
theorem wd_1_81 : Cond.instanceMethod yX4_init ∈ mm_tbl := wq_1 _ (List.mem_of_getElem? (i := 81) (by decide +kernel)) rfl
theorem wd_1_82 : Cond.code yX4_init cX4_init (1) none ∈ mm_tbl := wq_1 _ (List.mem_of_getElem? (i := 82) (by decide +kernel)) rfl
theorem wd_1_83 : Cond.methodLink RX4 (5) objectInit ∈ mm_tbl := wq_1 _ (List.mem_of_getElem? (i := 83) (by decide +kernel)) rfl
theorem wd_1_84 : Cond.fieldLink RX4 (11) RX4 "count" "I" ∈ mm_tbl := wq_1 _ (List.mem_of_getElem? (i := 84) (by decide +kernel)) rfl
theorem wd_1_85 : Cond.fieldLink RX9 (127) RX4 "count" "I" ∈ mm_tbl := wq_1 _ (List.mem_of_getElem? (i := 85) (by decide +kernel)) rfl
theorem wd_1_86 : Cond.fieldLink RX4 (15) RX4 "first" "[I" ∈ mm_tbl := wq_1 _ (List.mem_of_getElem? (i := 86) (by decide +kernel)) rfl
theorem wd_1_87 : Cond.fieldLink RX4 (19) RX4 "second" "[I" ∈ mm_tbl := wq_1 _ (List.mem_of_getElem? (i := 87) (by decide +kernel)) rfl
theorem wd_1_88 : Cond.fieldLink RX4 (22) RX4 "lead" "[I" ∈ mm_tbl := wq_1 _ (List.mem_of_getElem? (i := 88) (by decide +kernel)) rfl
theorem wd_1_89 : Cond.fieldLink RX4 (27) RX4 "above" "[J" ∈ mm_tbl := wq_1 _ (List.mem_of_getElem? (i := 89) (by decide +kernel)) rfl
theorem wd_1_90 : Cond.fieldLink RX9 (145) RX4 "above" "[J" ∈ mm_tbl := wq_1 _ (List.mem_of_getElem? (i := 90) (by decide +kernel)) rfl
theorem wd_1_91 : Cond.fieldLink RX4 (31) RX4 "below" "J" ∈ mm_tbl := wq_1 _ (List.mem_of_getElem? (i := 91) (by decide +kernel)) rfl
theorem wd_1_92 : Cond.fieldLink RX9 (149) RX4 "below" "J" ∈ mm_tbl := wq_1 _ (List.mem_of_getElem? (i := 92) (by decide +kernel)) rfl
theorem wd_1_93 : Cond.fieldLink RX4 (35) RX4 "rowOf" "[I" ∈ mm_tbl := wq_1 _ (List.mem_of_getElem? (i := 93) (by decide +kernel)) rfl
theorem wd_1_94 : Cond.fieldLink RX4 (38) RX4 "cells" "[J" ∈ mm_tbl := wq_1 _ (List.mem_of_getElem? (i := 94) (by decide +kernel)) rfl
theorem wd_1_112 : Cond.arrayClass .long ∈ mm_tbl := wq_1 _ (List.mem_of_getElem? (i := 112) (by decide +kernel)) rfl
theorem wd_1_113 : Cond.classLink RX9 (25) RX1 ∈ mm_tbl := wq_1 _ (List.mem_of_getElem? (i := 113) (by decide +kernel)) rfl
theorem wd_1_114 : Cond.instantiable RX1 (3) ∈ mm_tbl := wq_1 _ (List.mem_of_getElem? (i := 114) (by decide +kernel)) rfl
theorem wd_1_116 : Cond.instanceMethod yX1_init ∈ mm_tbl := wq_1 _ (List.mem_of_getElem? (i := 116) (by decide +kernel)) rfl
theorem wd_1_117 : Cond.code yX1_init cX1_init (1) none ∈ mm_tbl := wq_1 _ (List.mem_of_getElem? (i := 117) (by decide +kernel)) rfl
theorem wd_1_118 : Cond.methodLink RX1 (5) objectInit ∈ mm_tbl := wq_1 _ (List.mem_of_getElem? (i := 118) (by decide +kernel)) rfl
theorem wd_1_119 : Cond.fieldLink RX1 (13) RX1 "costs" "[I" ∈ mm_tbl := wq_1 _ (List.mem_of_getElem? (i := 119) (by decide +kernel)) rfl
theorem wd_1_120 : Cond.fieldLink RX1 (17) RX1 "price" "[I" ∈ mm_tbl := wq_1 _ (List.mem_of_getElem? (i := 120) (by decide +kernel)) rfl
theorem wd_1_121 : Cond.fieldLink RX1 (20) RX1 "chosen" "[I" ∈ mm_tbl := wq_1 _ (List.mem_of_getElem? (i := 121) (by decide +kernel)) rfl
theorem wd_1_129 : Cond.classLink RX9 (32) RX6 ∈ mm_tbl := wq_1 _ (List.mem_of_getElem? (i := 129) (by decide +kernel)) rfl
theorem wd_1_130 : Cond.instantiable RX6 (2) ∈ mm_tbl := wq_1 _ (List.mem_of_getElem? (i := 130) (by decide +kernel)) rfl
theorem wd_1_132 : Cond.instanceMethod yX6_init ∈ mm_tbl := wq_1 _ (List.mem_of_getElem? (i := 132) (by decide +kernel)) rfl
theorem wd_1_133 : Cond.code yX6_init cX6_init (1) none ∈ mm_tbl := wq_1 _ (List.mem_of_getElem? (i := 133) (by decide +kernel)) rfl
theorem wd_1_134 : Cond.methodLink RX6 (1) objectInit ∈ mm_tbl := wq_1 _ (List.mem_of_getElem? (i := 134) (by decide +kernel)) rfl
theorem wd_1_135 : Cond.fieldLink RX6 (9) RX6 "stream" "[I" ∈ mm_tbl := wq_1 _ (List.mem_of_getElem? (i := 135) (by decide +kernel)) rfl
theorem wd_1_136 : Cond.fieldLink RX9 (181) RX6 "stream" "[I" ∈ mm_tbl := wq_1 _ (List.mem_of_getElem? (i := 136) (by decide +kernel)) rfl
theorem wd_1_137 : Cond.fieldLink RX6 (13) RX6 "wind" "[I" ∈ mm_tbl := wq_1 _ (List.mem_of_getElem? (i := 137) (by decide +kernel)) rfl
theorem wd_1_138 : Cond.fieldLink RX9 (184) RX6 "wind" "[I" ∈ mm_tbl := wq_1 _ (List.mem_of_getElem? (i := 138) (by decide +kernel)) rfl
theorem wd_1_144 : Cond.classLink RX9 (39) RX8 ∈ mm_tbl := wq_1 _ (List.mem_of_getElem? (i := 144) (by decide +kernel)) rfl
theorem wd_1_145 : Cond.instantiable RX8 (3) ∈ mm_tbl := wq_1 _ (List.mem_of_getElem? (i := 145) (by decide +kernel)) rfl
theorem wd_1_147 : Cond.instanceMethod yX8_init ∈ mm_tbl := wq_1 _ (List.mem_of_getElem? (i := 147) (by decide +kernel)) rfl
theorem wd_1_148 : Cond.code yX8_init cX8_init (1) none ∈ mm_tbl := wq_1 _ (List.mem_of_getElem? (i := 148) (by decide +kernel)) rfl
theorem wd_1_149 : Cond.methodLink RX8 (3) objectInit ∈ mm_tbl := wq_1 _ (List.mem_of_getElem? (i := 149) (by decide +kernel)) rfl
theorem wd_1_150 : Cond.fieldLink RX8 (9) RX8 "length" "I" ∈ mm_tbl := wq_1 _ (List.mem_of_getElem? (i := 150) (by decide +kernel)) rfl
theorem wd_1_151 : Cond.fieldLink RX9 (187) RX8 "length" "I" ∈ mm_tbl := wq_1 _ (List.mem_of_getElem? (i := 151) (by decide +kernel)) rfl
theorem wd_1_152 : Cond.fieldLink RX8 (15) RX8 "at" "I" ∈ mm_tbl := wq_1 _ (List.mem_of_getElem? (i := 152) (by decide +kernel)) rfl
theorem wd_1_153 : Cond.fieldLink RX7 (41) RX8 "at" "I" ∈ mm_tbl := wq_1 _ (List.mem_of_getElem? (i := 153) (by decide +kernel)) rfl
theorem wd_1_154 : Cond.fieldLink RX9 (203) RX8 "at" "I" ∈ mm_tbl := wq_1 _ (List.mem_of_getElem? (i := 154) (by decide +kernel)) rfl
theorem wd_1_155 : Cond.fieldLink RX8 (18) RX8 "bytes" "[I" ∈ mm_tbl := wq_1 _ (List.mem_of_getElem? (i := 155) (by decide +kernel)) rfl
theorem wd_1_163 : Cond.classLink RX9 (46) RX7 ∈ mm_tbl := wq_1 _ (List.mem_of_getElem? (i := 163) (by decide +kernel)) rfl
theorem wd_1_164 : Cond.instantiable RX7 (9) ∈ mm_tbl := wq_1 _ (List.mem_of_getElem? (i := 164) (by decide +kernel)) rfl
theorem wd_1_166 : Cond.instanceMethod yX7_init ∈ mm_tbl := wq_1 _ (List.mem_of_getElem? (i := 166) (by decide +kernel)) rfl
theorem wd_1_167 : Cond.code yX7_init cX7_init (1) none ∈ mm_tbl := wq_1 _ (List.mem_of_getElem? (i := 167) (by decide +kernel)) rfl
theorem wd_1_168 : Cond.methodLink RX7 (3) objectInit ∈ mm_tbl := wq_1 _ (List.mem_of_getElem? (i := 168) (by decide +kernel)) rfl
theorem wd_1_169 : Cond.fieldLink RX7 (9) RX7 "count" "I" ∈ mm_tbl := wq_1 _ (List.mem_of_getElem? (i := 169) (by decide +kernel)) rfl
theorem wd_1_170 : Cond.fieldLink RX9 (194) RX7 "count" "I" ∈ mm_tbl := wq_1 _ (List.mem_of_getElem? (i := 170) (by decide +kernel)) rfl
theorem wd_1_171 : Cond.fieldLink RX7 (15) RX7 "bars" "[I" ∈ mm_tbl := wq_1 _ (List.mem_of_getElem? (i := 171) (by decide +kernel)) rfl
theorem wd_1_172 : Cond.fieldLink RX9 (298) RX7 "bars" "[I" ∈ mm_tbl := wq_1 _ (List.mem_of_getElem? (i := 172) (by decide +kernel)) rfl
theorem wd_1_173 : Cond.fieldLink RX7 (19) RX7 "kind" "[I" ∈ mm_tbl := wq_1 _ (List.mem_of_getElem? (i := 173) (by decide +kernel)) rfl
theorem wd_1_174 : Cond.fieldLink RX7 (22) RX7 "tests" "[I" ∈ mm_tbl := wq_1 _ (List.mem_of_getElem? (i := 174) (by decide +kernel)) rfl
theorem wd_1_175 : Cond.fieldLink RX7 (25) RX7 "denied" "[Z" ∈ mm_tbl := wq_1 _ (List.mem_of_getElem? (i := 175) (by decide +kernel)) rfl
theorem wd_1_176 : Cond.fieldLink RX7 (29) RX7 "field" "[I" ∈ mm_tbl := wq_1 _ (List.mem_of_getElem? (i := 176) (by decide +kernel)) rfl
theorem wd_1_177 : Cond.fieldLink RX7 (32) RX7 "sign" "[I" ∈ mm_tbl := wq_1 _ (List.mem_of_getElem? (i := 177) (by decide +kernel)) rfl
theorem wd_1_178 : Cond.fieldLink RX7 (35) RX7 "number" "[I" ∈ mm_tbl := wq_1 _ (List.mem_of_getElem? (i := 178) (by decide +kernel)) rfl
theorem wd_1_179 : Cond.fieldLink RX7 (38) RX7 "now" "[I" ∈ mm_tbl := wq_1 _ (List.mem_of_getElem? (i := 179) (by decide +kernel)) rfl
theorem wd_1_180 : Cond.fieldLink RX9 (301) RX7 "now" "[I" ∈ mm_tbl := wq_1 _ (List.mem_of_getElem? (i := 180) (by decide +kernel)) rfl
theorem wd_1_200 : Cond.arrayClass .boolean ∈ mm_tbl := wq_1 _ (List.mem_of_getElem? (i := 200) (by decide +kernel)) rfl
theorem wd_1_201 : Cond.classLink RX9 (53) RX3 ∈ mm_tbl := wq_1 _ (List.mem_of_getElem? (i := 201) (by decide +kernel)) rfl
theorem wd_1_202 : Cond.instantiable RX3 (9) ∈ mm_tbl := wq_1 _ (List.mem_of_getElem? (i := 202) (by decide +kernel)) rfl
theorem wd_1_204 : Cond.instanceMethod yX3_init ∈ mm_tbl := wq_1 _ (List.mem_of_getElem? (i := 204) (by decide +kernel)) rfl
theorem wd_1_205 : Cond.code yX3_init cX3_init (1) none ∈ mm_tbl := wq_1 _ (List.mem_of_getElem? (i := 205) (by decide +kernel)) rfl
theorem wd_1_206 : Cond.methodLink RX3 (3) objectInit ∈ mm_tbl := wq_1 _ (List.mem_of_getElem? (i := 206) (by decide +kernel)) rfl
theorem wd_1_207 : Cond.fieldLink RX3 (9) RX3 "outings" "I" ∈ mm_tbl := wq_1 _ (List.mem_of_getElem? (i := 207) (by decide +kernel)) rfl
theorem wd_1_208 : Cond.fieldLink RX9 (212) RX3 "outings" "I" ∈ mm_tbl := wq_1 _ (List.mem_of_getElem? (i := 208) (by decide +kernel)) rfl
theorem wd_1_209 : Cond.fieldLink RX3 (15) RX3 "outBoat" "[I" ∈ mm_tbl := wq_1 _ (List.mem_of_getElem? (i := 209) (by decide +kernel)) rfl
theorem wd_1_210 : Cond.fieldLink RX9 (239) RX3 "outBoat" "[I" ∈ mm_tbl := wq_1 _ (List.mem_of_getElem? (i := 210) (by decide +kernel)) rfl
theorem wd_1_211 : Cond.fieldLink RX3 (19) RX3 "outDay" "[I" ∈ mm_tbl := wq_1 _ (List.mem_of_getElem? (i := 211) (by decide +kernel)) rfl
theorem wd_1_212 : Cond.fieldLink RX9 (242) RX3 "outDay" "[I" ∈ mm_tbl := wq_1 _ (List.mem_of_getElem? (i := 212) (by decide +kernel)) rfl
theorem wd_1_213 : Cond.fieldLink RX3 (22) RX3 "outHour" "[I" ∈ mm_tbl := wq_1 _ (List.mem_of_getElem? (i := 213) (by decide +kernel)) rfl
theorem wd_1_214 : Cond.fieldLink RX9 (245) RX3 "outHour" "[I" ∈ mm_tbl := wq_1 _ (List.mem_of_getElem? (i := 214) (by decide +kernel)) rfl
theorem wd_1_215 : Cond.fieldLink RX3 (25) RX3 "who" "[I" ∈ mm_tbl := wq_1 _ (List.mem_of_getElem? (i := 215) (by decide +kernel)) rfl
theorem wd_1_216 : Cond.fieldLink RX9 (236) RX3 "who" "[I" ∈ mm_tbl := wq_1 _ (List.mem_of_getElem? (i := 216) (by decide +kernel)) rfl
theorem wd_1_217 : Cond.fieldLink RX3 (28) RX3 "looks" "I" ∈ mm_tbl := wq_1 _ (List.mem_of_getElem? (i := 217) (by decide +kernel)) rfl
theorem wd_1_218 : Cond.fieldLink RX9 (221) RX3 "looks" "I" ∈ mm_tbl := wq_1 _ (List.mem_of_getElem? (i := 218) (by decide +kernel)) rfl
theorem wd_1_219 : Cond.fieldLink RX3 (31) RX3 "lookBoat" "[I" ∈ mm_tbl := wq_1 _ (List.mem_of_getElem? (i := 219) (by decide +kernel)) rfl
theorem wd_1_220 : Cond.fieldLink RX3 (34) RX3 "wasWhole" "[I" ∈ mm_tbl := wq_1 _ (List.mem_of_getElem? (i := 220) (by decide +kernel)) rfl
theorem wd_1_221 : Cond.fieldLink RX3 (37) RX3 "ahead" "[I" ∈ mm_tbl := wq_1 _ (List.mem_of_getElem? (i := 221) (by decide +kernel)) rfl
theorem wd_2_1 : Cond.classLink RX9 (60) RX2 ∈ mm_tbl := wq_2 _ (List.mem_of_getElem? (i := 1) (by decide +kernel)) rfl
theorem wd_2_2 : Cond.instantiable RX2 (4) ∈ mm_tbl := wq_2 _ (List.mem_of_getElem? (i := 2) (by decide +kernel)) rfl
theorem wd_2_4 : Cond.instanceMethod yX2_init ∈ mm_tbl := wq_2 _ (List.mem_of_getElem? (i := 4) (by decide +kernel)) rfl
theorem wd_2_5 : Cond.code yX2_init cX2_init (1) none ∈ mm_tbl := wq_2 _ (List.mem_of_getElem? (i := 5) (by decide +kernel)) rfl
theorem wd_2_6 : Cond.methodLink RX2 (3) objectInit ∈ mm_tbl := wq_2 _ (List.mem_of_getElem? (i := 6) (by decide +kernel)) rfl
theorem wd_2_7 : Cond.fieldLink RX2 (9) RX2 "count" "I" ∈ mm_tbl := wq_2 _ (List.mem_of_getElem? (i := 7) (by decide +kernel)) rfl
theorem wd_2_8 : Cond.fieldLink RX9 (248) RX2 "count" "I" ∈ mm_tbl := wq_2 _ (List.mem_of_getElem? (i := 8) (by decide +kernel)) rfl
theorem wd_2_9 : Cond.fieldLink RX2 (15) RX2 "apart" "I" ∈ mm_tbl := wq_2 _ (List.mem_of_getElem? (i := 9) (by decide +kernel)) rfl
theorem wd_2_10 : Cond.fieldLink RX9 (252) RX2 "apart" "I" ∈ mm_tbl := wq_2 _ (List.mem_of_getElem? (i := 10) (by decide +kernel)) rfl
theorem wd_2_11 : Cond.fieldLink RX2 (18) RX2 "boatOf" "[I" ∈ mm_tbl := wq_2 _ (List.mem_of_getElem? (i := 11) (by decide +kernel)) rfl
theorem wd_2_12 : Cond.fieldLink RX2 (22) RX2 "start" "[I" ∈ mm_tbl := wq_2 _ (List.mem_of_getElem? (i := 12) (by decide +kernel)) rfl
theorem wd_2_22 : Cond.classLink RX9 (67) RX5 ∈ mm_tbl := wq_2 _ (List.mem_of_getElem? (i := 22) (by decide +kernel)) rfl
theorem wd_2_23 : Cond.instantiable RX5 (4) ∈ mm_tbl := wq_2 _ (List.mem_of_getElem? (i := 23) (by decide +kernel)) rfl
theorem wd_2_24 : Cond.methodLink RX9 (69) yX5_init ∈ mm_tbl := wq_2 _ (List.mem_of_getElem? (i := 24) (by decide +kernel)) rfl
theorem wd_2_25 : Cond.instanceMethod yX5_init ∈ mm_tbl := wq_2 _ (List.mem_of_getElem? (i := 25) (by decide +kernel)) rfl
theorem wd_2_26 : Cond.code yX5_init cX5_init (1) none ∈ mm_tbl := wq_2 _ (List.mem_of_getElem? (i := 26) (by decide +kernel)) rfl
theorem wd_2_27 : Cond.methodLink RX5 (3) objectInit ∈ mm_tbl := wq_2 _ (List.mem_of_getElem? (i := 27) (by decide +kernel)) rfl
theorem wd_2_28 : Cond.methodLink RX5 (27) yJ7_fill_53178 ∈ mm_tbl := wq_2 _ (List.mem_of_getElem? (i := 28) (by decide +kernel)) rfl
theorem wd_2_29 : Cond.static yJ7_fill_53178 ∈ mm_tbl := wq_2 _ (List.mem_of_getElem? (i := 29) (by decide +kernel)) rfl
theorem wd_2_30 : Cond.code yJ7_fill_53178 cJ7_fill_53178 (4) none ∈ mm_tbl := wq_2 _ (List.mem_of_getElem? (i := 30) (by decide +kernel)) rfl
theorem wd_2_31 : Cond.fieldLink RX5 (11) RX5 "rackOf" "[I" ∈ mm_tbl := wq_2 _ (List.mem_of_getElem? (i := 31) (by decide +kernel)) rfl
theorem wd_2_32 : Cond.fieldLink RX9 (267) RX5 "rackOf" "[I" ∈ mm_tbl := wq_2 _ (List.mem_of_getElem? (i := 32) (by decide +kernel)) rfl
theorem wd_2_33 : Cond.fieldLink RX5 (17) RX5 "trial" "[I" ∈ mm_tbl := wq_2 _ (List.mem_of_getElem? (i := 33) (by decide +kernel)) rfl
theorem wd_2_34 : Cond.fieldLink RX5 (20) RX5 "row" "[I" ∈ mm_tbl := wq_2 _ (List.mem_of_getElem? (i := 34) (by decide +kernel)) rfl
theorem wd_2_35 : Cond.fieldLink RX5 (23) RX5 "best" "I" ∈ mm_tbl := wq_2 _ (List.mem_of_getElem? (i := 35) (by decide +kernel)) rfl
theorem wd_2_45 : Cond.fieldLink RX9 (12) RX9 "club" "LDawnEights$Club;" ∈ mm_tbl := wq_2 _ (List.mem_of_getElem? (i := 45) (by decide +kernel)) rfl
theorem wd_2_46 : Cond.fieldLink RX9 (21) RX9 "races" "LDawnEights$Races;" ∈ mm_tbl := wq_2 _ (List.mem_of_getElem? (i := 46) (by decide +kernel)) rfl
theorem wd_2_47 : Cond.fieldLink RX9 (28) RX9 "plan" "LDawnEights$CrewPlan;" ∈ mm_tbl := wq_2 _ (List.mem_of_getElem? (i := 47) (by decide +kernel)) rfl
theorem wd_2_48 : Cond.fieldLink RX9 (35) RX9 "river" "LDawnEights$River;" ∈ mm_tbl := wq_2 _ (List.mem_of_getElem? (i := 48) (by decide +kernel)) rfl
theorem wd_2_49 : Cond.fieldLink RX9 (42) RX9 "tape" "LDawnEights$Tape;" ∈ mm_tbl := wq_2 _ (List.mem_of_getElem? (i := 49) (by decide +kernel)) rfl
theorem wd_2_50 : Cond.fieldLink RX9 (49) RX9 "rules" "LDawnEights$RuleBook;" ∈ mm_tbl := wq_2 _ (List.mem_of_getElem? (i := 50) (by decide +kernel)) rfl
theorem wd_2_51 : Cond.fieldLink RX9 (56) RX9 "log" "LDawnEights$Logbook;" ∈ mm_tbl := wq_2 _ (List.mem_of_getElem? (i := 51) (by decide +kernel)) rfl
theorem wd_2_52 : Cond.fieldLink RX9 (63) RX9 "heats" "LDawnEights$Heats;" ∈ mm_tbl := wq_2 _ (List.mem_of_getElem? (i := 52) (by decide +kernel)) rfl
theorem wd_2_53 : Cond.fieldLink RX9 (70) RX9 "racks" "LDawnEights$Racks;" ∈ mm_tbl := wq_2 _ (List.mem_of_getElem? (i := 53) (by decide +kernel)) rfl
theorem wd_2_54 : Cond.fieldLink RX9 (74) RX9 "today" "I" ∈ mm_tbl := wq_2 _ (List.mem_of_getElem? (i := 54) (by decide +kernel)) rfl
theorem wd_2_76 : Cond.methodLink RL (13) yX9_oar ∈ mm_tbl := wq_2 _ (List.mem_of_getElem? (i := 76) (by decide +kernel)) rfl
theorem wd_2_77 : Cond.instanceMethod yX9_oar ∈ mm_tbl := wq_2 _ (List.mem_of_getElem? (i := 77) (by decide +kernel)) rfl
theorem wd_2_78 : Cond.selects RX9 yX9_oar yX9_oar ∈ mm_tbl := wq_2 _ (List.mem_of_getElem? (i := 78) (by decide +kernel)) rfl
theorem wd_2_79 : Cond.code yX9_oar cX9_oar (3) (some .int) ∈ mm_tbl := wq_2 _ (List.mem_of_getElem? (i := 79) (by decide +kernel)) rfl
theorem wd_2_80 : Cond.methodLink RX9 (78) yX9_within ∈ mm_tbl := wq_2 _ (List.mem_of_getElem? (i := 80) (by decide +kernel)) rfl
theorem wd_2_81 : Cond.static yX9_within ∈ mm_tbl := wq_2 _ (List.mem_of_getElem? (i := 81) (by decide +kernel)) rfl
theorem wd_2_82 : Cond.code yX9_within cX9_within (3) (some .boolean) ∈ mm_tbl := wq_2 _ (List.mem_of_getElem? (i := 82) (by decide +kernel)) rfl
theorem wd_2_83 : Cond.methodLink RX9 (85) yX0_addOar ∈ mm_tbl := wq_2 _ (List.mem_of_getElem? (i := 83) (by decide +kernel)) rfl
theorem wd_2_84 : Cond.instanceMethod yX0_addOar ∈ mm_tbl := wq_2 _ (List.mem_of_getElem? (i := 84) (by decide +kernel)) rfl
theorem wd_2_85 : Cond.selects RX0 yX0_addOar yX0_addOar ∈ mm_tbl := wq_2 _ (List.mem_of_getElem? (i := 85) (by decide +kernel)) rfl
theorem wd_2_86 : Cond.code yX0_addOar cX0_addOar (3) (some .int) ∈ mm_tbl := wq_2 _ (List.mem_of_getElem? (i := 86) (by decide +kernel)) rfl
theorem wd_2_87 : Cond.methodLink RL (18) yX9_boat ∈ mm_tbl := wq_2 _ (List.mem_of_getElem? (i := 87) (by decide +kernel)) rfl
theorem wd_2_88 : Cond.instanceMethod yX9_boat ∈ mm_tbl := wq_2 _ (List.mem_of_getElem? (i := 88) (by decide +kernel)) rfl
theorem wd_2_89 : Cond.selects RX9 yX9_boat yX9_boat ∈ mm_tbl := wq_2 _ (List.mem_of_getElem? (i := 89) (by decide +kernel)) rfl
theorem wd_2_90 : Cond.code yX9_boat cX9_boat (5) (some .int) ∈ mm_tbl := wq_2 _ (List.mem_of_getElem? (i := 90) (by decide +kernel)) rfl
theorem wd_2_91 : Cond.methodLink RX9 (92) yX0_addBoat ∈ mm_tbl := wq_2 _ (List.mem_of_getElem? (i := 91) (by decide +kernel)) rfl
theorem wd_2_92 : Cond.instanceMethod yX0_addBoat ∈ mm_tbl := wq_2 _ (List.mem_of_getElem? (i := 92) (by decide +kernel)) rfl
theorem wd_2_93 : Cond.selects RX0 yX0_addBoat yX0_addBoat ∈ mm_tbl := wq_2 _ (List.mem_of_getElem? (i := 93) (by decide +kernel)) rfl
theorem wd_2_94 : Cond.code yX0_addBoat cX0_addBoat (5) (some .int) ∈ mm_tbl := wq_2 _ (List.mem_of_getElem? (i := 94) (by decide +kernel)) rfl
theorem wd_2_95 : Cond.methodLink RL (23) yX9_ill ∈ mm_tbl := wq_2 _ (List.mem_of_getElem? (i := 95) (by decide +kernel)) rfl
theorem wd_2_96 : Cond.instanceMethod yX9_ill ∈ mm_tbl := wq_2 _ (List.mem_of_getElem? (i := 96) (by decide +kernel)) rfl
theorem wd_2_97 : Cond.selects RX9 yX9_ill yX9_ill ∈ mm_tbl := wq_2 _ (List.mem_of_getElem? (i := 97) (by decide +kernel)) rfl
theorem wd_2_98 : Cond.code yX9_ill cX9_ill (4) (some .int) ∈ mm_tbl := wq_2 _ (List.mem_of_getElem? (i := 98) (by decide +kernel)) rfl
theorem wd_2_99 : Cond.methodLink RX9 (96) yX0_hasOar ∈ mm_tbl := wq_2 _ (List.mem_of_getElem? (i := 99) (by decide +kernel)) rfl
theorem wd_2_100 : Cond.instanceMethod yX0_hasOar ∈ mm_tbl := wq_2 _ (List.mem_of_getElem? (i := 100) (by decide +kernel)) rfl
theorem wd_2_101 : Cond.selects RX0 yX0_hasOar yX0_hasOar ∈ mm_tbl := wq_2 _ (List.mem_of_getElem? (i := 101) (by decide +kernel)) rfl
theorem wd_2_102 : Cond.code yX0_hasOar cX0_hasOar (2) (some .boolean) ∈ mm_tbl := wq_2 _ (List.mem_of_getElem? (i := 102) (by decide +kernel)) rfl
theorem wd_2_103 : Cond.methodLink RL (27) yX9_sit ∈ mm_tbl := wq_2 _ (List.mem_of_getElem? (i := 103) (by decide +kernel)) rfl
theorem wd_2_104 : Cond.instanceMethod yX9_sit ∈ mm_tbl := wq_2 _ (List.mem_of_getElem? (i := 104) (by decide +kernel)) rfl
theorem wd_2_105 : Cond.selects RX9 yX9_sit yX9_sit ∈ mm_tbl := wq_2 _ (List.mem_of_getElem? (i := 105) (by decide +kernel)) rfl
theorem wd_2_106 : Cond.code yX9_sit cX9_sit (4) (some .int) ∈ mm_tbl := wq_2 _ (List.mem_of_getElem? (i := 106) (by decide +kernel)) rfl
theorem wd_2_107 : Cond.methodLink RX9 (104) yX0_hasSeat ∈ mm_tbl := wq_2 _ (List.mem_of_getElem? (i := 107) (by decide +kernel)) rfl
theorem wd_2_108 : Cond.instanceMethod yX0_hasSeat ∈ mm_tbl := wq_2 _ (List.mem_of_getElem? (i := 108) (by decide +kernel)) rfl
theorem wd_2_109 : Cond.selects RX0 yX0_hasSeat yX0_hasSeat ∈ mm_tbl := wq_2 _ (List.mem_of_getElem? (i := 109) (by decide +kernel)) rfl
theorem wd_2_110 : Cond.code yX0_hasSeat cX0_hasSeat (3) (some .boolean) ∈ mm_tbl := wq_2 _ (List.mem_of_getElem? (i := 110) (by decide +kernel)) rfl
theorem wd_2_111 : Cond.methodLink RX0 (43) yX0_hasBoat ∈ mm_tbl := wq_2 _ (List.mem_of_getElem? (i := 111) (by decide +kernel)) rfl
theorem wd_2_112 : Cond.instanceMethod yX0_hasBoat ∈ mm_tbl := wq_2 _ (List.mem_of_getElem? (i := 112) (by decide +kernel)) rfl
theorem wd_2_113 : Cond.selects RX0 yX0_hasBoat yX0_hasBoat ∈ mm_tbl := wq_2 _ (List.mem_of_getElem? (i := 113) (by decide +kernel)) rfl
theorem wd_2_114 : Cond.code yX0_hasBoat cX0_hasBoat (2) (some .boolean) ∈ mm_tbl := wq_2 _ (List.mem_of_getElem? (i := 114) (by decide +kernel)) rfl
theorem wd_2_115 : Cond.methodLink RX0 (47) yX0_hasCox ∈ mm_tbl := wq_2 _ (List.mem_of_getElem? (i := 115) (by decide +kernel)) rfl
theorem wd_2_116 : Cond.instanceMethod yX0_hasCox ∈ mm_tbl := wq_2 _ (List.mem_of_getElem? (i := 116) (by decide +kernel)) rfl
theorem wd_2_117 : Cond.selects RX0 yX0_hasCox yX0_hasCox ∈ mm_tbl := wq_2 _ (List.mem_of_getElem? (i := 117) (by decide +kernel)) rfl
theorem wd_2_118 : Cond.code yX0_hasCox cX0_hasCox (2) (some .boolean) ∈ mm_tbl := wq_2 _ (List.mem_of_getElem? (i := 118) (by decide +kernel)) rfl
theorem wd_2_119 : Cond.methodLink RX0 (50) yX0_seats ∈ mm_tbl := wq_2 _ (List.mem_of_getElem? (i := 119) (by decide +kernel)) rfl
theorem wd_2_120 : Cond.instanceMethod yX0_seats ∈ mm_tbl := wq_2 _ (List.mem_of_getElem? (i := 120) (by decide +kernel)) rfl
theorem wd_2_121 : Cond.selects RX0 yX0_seats yX0_seats ∈ mm_tbl := wq_2 _ (List.mem_of_getElem? (i := 121) (by decide +kernel)) rfl
theorem wd_2_122 : Cond.code yX0_seats cX0_seats (2) (some .int) ∈ mm_tbl := wq_2 _ (List.mem_of_getElem? (i := 122) (by decide +kernel)) rfl
theorem wd_2_123 : Cond.fieldLink RX0 (58) RX0 "SEATS" "[I" ∈ mm_tbl := wq_2 _ (List.mem_of_getElem? (i := 123) (by decide +kernel)) rfl
theorem wd_2_126 : Cond.methodLink RX9 (108) yX0_maySit ∈ mm_tbl := wq_2 _ (List.mem_of_getElem? (i := 126) (by decide +kernel)) rfl
theorem wd_2_127 : Cond.instanceMethod yX0_maySit ∈ mm_tbl := wq_2 _ (List.mem_of_getElem? (i := 127) (by decide +kernel)) rfl
theorem wd_2_128 : Cond.selects RX0 yX0_maySit yX0_maySit ∈ mm_tbl := wq_2 _ (List.mem_of_getElem? (i := 128) (by decide +kernel)) rfl
theorem wd_2_129 : Cond.code yX0_maySit cX0_maySit (3) (some .boolean) ∈ mm_tbl := wq_2 _ (List.mem_of_getElem? (i := 129) (by decide +kernel)) rfl
theorem wd_2_130 : Cond.methodLink RX9 (111) yX0_putOn ∈ mm_tbl := wq_2 _ (List.mem_of_getElem? (i := 130) (by decide +kernel)) rfl
theorem wd_2_131 : Cond.instanceMethod yX0_putOn ∈ mm_tbl := wq_2 _ (List.mem_of_getElem? (i := 131) (by decide +kernel)) rfl
theorem wd_2_132 : Cond.selects RX0 yX0_putOn yX0_putOn ∈ mm_tbl := wq_2 _ (List.mem_of_getElem? (i := 132) (by decide +kernel)) rfl
theorem wd_2_133 : Cond.code yX0_putOn cX0_putOn (5) (some .int) ∈ mm_tbl := wq_2 _ (List.mem_of_getElem? (i := 133) (by decide +kernel)) rfl
theorem wd_2_134 : Cond.methodLink RX0 (61) yX0_whoSits ∈ mm_tbl := wq_2 _ (List.mem_of_getElem? (i := 134) (by decide +kernel)) rfl
theorem wd_2_135 : Cond.instanceMethod yX0_whoSits ∈ mm_tbl := wq_2 _ (List.mem_of_getElem? (i := 135) (by decide +kernel)) rfl
theorem wd_2_136 : Cond.selects RX0 yX0_whoSits yX0_whoSits ∈ mm_tbl := wq_2 _ (List.mem_of_getElem? (i := 136) (by decide +kernel)) rfl
theorem wd_2_137 : Cond.code yX0_whoSits cX0_whoSits (4) (some .int) ∈ mm_tbl := wq_2 _ (List.mem_of_getElem? (i := 137) (by decide +kernel)) rfl
theorem wd_2_138 : Cond.methodLink RL (32) yX9_seat ∈ mm_tbl := wq_2 _ (List.mem_of_getElem? (i := 138) (by decide +kernel)) rfl
theorem wd_2_139 : Cond.instanceMethod yX9_seat ∈ mm_tbl := wq_2 _ (List.mem_of_getElem? (i := 139) (by decide +kernel)) rfl
theorem wd_2_140 : Cond.selects RX9 yX9_seat yX9_seat ∈ mm_tbl := wq_2 _ (List.mem_of_getElem? (i := 140) (by decide +kernel)) rfl
theorem wd_2_141 : Cond.code yX9_seat cX9_seat (3) (some .int) ∈ mm_tbl := wq_2 _ (List.mem_of_getElem? (i := 141) (by decide +kernel)) rfl
theorem wd_2_142 : Cond.methodLink RX9 (115) yX0_whoSits ∈ mm_tbl := wq_2 _ (List.mem_of_getElem? (i := 142) (by decide +kernel)) rfl
theorem wd_2_143 : Cond.methodLink RL (36) yX9_about ∈ mm_tbl := wq_2 _ (List.mem_of_getElem? (i := 143) (by decide +kernel)) rfl
theorem wd_2_144 : Cond.instanceMethod yX9_about ∈ mm_tbl := wq_2 _ (List.mem_of_getElem? (i := 144) (by decide +kernel)) rfl
theorem wd_2_145 : Cond.selects RX9 yX9_about yX9_about ∈ mm_tbl := wq_2 _ (List.mem_of_getElem? (i := 145) (by decide +kernel)) rfl
theorem wd_2_146 : Cond.code yX9_about cX9_about (3) (some .int) ∈ mm_tbl := wq_2 _ (List.mem_of_getElem? (i := 146) (by decide +kernel)) rfl
theorem wd_2_147 : Cond.methodLink RL (40) yX9_race ∈ mm_tbl := wq_2 _ (List.mem_of_getElem? (i := 147) (by decide +kernel)) rfl
theorem wd_2_148 : Cond.instanceMethod yX9_race ∈ mm_tbl := wq_2 _ (List.mem_of_getElem? (i := 148) (by decide +kernel)) rfl
theorem wd_2_149 : Cond.selects RX9 yX9_race yX9_race ∈ mm_tbl := wq_2 _ (List.mem_of_getElem? (i := 149) (by decide +kernel)) rfl
theorem wd_2_150 : Cond.code yX9_race cX9_race (4) (some .int) ∈ mm_tbl := wq_2 _ (List.mem_of_getElem? (i := 150) (by decide +kernel)) rfl
theorem wd_2_151 : Cond.methodLink RX9 (130) yX4_addRace ∈ mm_tbl := wq_2 _ (List.mem_of_getElem? (i := 151) (by decide +kernel)) rfl
theorem wd_2_152 : Cond.instanceMethod yX4_addRace ∈ mm_tbl := wq_2 _ (List.mem_of_getElem? (i := 152) (by decide +kernel)) rfl
theorem wd_2_153 : Cond.selects RX4 yX4_addRace yX4_addRace ∈ mm_tbl := wq_2 _ (List.mem_of_getElem? (i := 153) (by decide +kernel)) rfl
theorem wd_2_154 : Cond.code yX4_addRace cX4_addRace (4) (some .int) ∈ mm_tbl := wq_2 _ (List.mem_of_getElem? (i := 154) (by decide +kernel)) rfl
theorem wd_2_155 : Cond.methodLink RL (44) yX9_unrace ∈ mm_tbl := wq_2 _ (List.mem_of_getElem? (i := 155) (by decide +kernel)) rfl
theorem wd_2_156 : Cond.instanceMethod yX9_unrace ∈ mm_tbl := wq_2 _ (List.mem_of_getElem? (i := 156) (by decide +kernel)) rfl
theorem wd_2_157 : Cond.selects RX9 yX9_unrace yX9_unrace ∈ mm_tbl := wq_2 _ (List.mem_of_getElem? (i := 157) (by decide +kernel)) rfl
theorem wd_2_158 : Cond.code yX9_unrace cX9_unrace (1) (some .int) ∈ mm_tbl := wq_2 _ (List.mem_of_getElem? (i := 158) (by decide +kernel)) rfl
theorem wd_2_159 : Cond.methodLink RL (49) yX9_group ∈ mm_tbl := wq_2 _ (List.mem_of_getElem? (i := 159) (by decide +kernel)) rfl
theorem wd_2_160 : Cond.instanceMethod yX9_group ∈ mm_tbl := wq_2 _ (List.mem_of_getElem? (i := 160) (by decide +kernel)) rfl
theorem wd_2_161 : Cond.selects RX9 yX9_group yX9_group ∈ mm_tbl := wq_2 _ (List.mem_of_getElem? (i := 161) (by decide +kernel)) rfl
theorem wd_2_162 : Cond.code yX9_group cX9_group (2) (some .int) ∈ mm_tbl := wq_2 _ (List.mem_of_getElem? (i := 162) (by decide +kernel)) rfl
theorem wd_2_163 : Cond.methodLink RX9 (133) yX4_groupOf ∈ mm_tbl := wq_2 _ (List.mem_of_getElem? (i := 163) (by decide +kernel)) rfl
theorem wd_2_164 : Cond.instanceMethod yX4_groupOf ∈ mm_tbl := wq_2 _ (List.mem_of_getElem? (i := 164) (by decide +kernel)) rfl
theorem wd_2_165 : Cond.selects RX4 yX4_groupOf yX4_groupOf ∈ mm_tbl := wq_2 _ (List.mem_of_getElem? (i := 165) (by decide +kernel)) rfl
theorem wd_2_166 : Cond.code yX4_groupOf cX4_groupOf (7) (some .int) ∈ mm_tbl := wq_2 _ (List.mem_of_getElem? (i := 166) (by decide +kernel)) rfl
theorem wd_2_167 : Cond.methodLink RX9 (137) yX9_leastOf ∈ mm_tbl := wq_2 _ (List.mem_of_getElem? (i := 167) (by decide +kernel)) rfl
theorem wd_2_168 : Cond.static yX9_leastOf ∈ mm_tbl := wq_2 _ (List.mem_of_getElem? (i := 168) (by decide +kernel)) rfl
theorem wd_2_169 : Cond.code yX9_leastOf cX9_leastOf (2) (some .int) ∈ mm_tbl := wq_2 _ (List.mem_of_getElem? (i := 169) (by decide +kernel)) rfl
theorem wd_2_170 : Cond.methodLink RX9 (157) yX9_has ∈ mm_tbl := wq_2 _ (List.mem_of_getElem? (i := 170) (by decide +kernel)) rfl
theorem wd_2_171 : Cond.static yX9_has ∈ mm_tbl := wq_2 _ (List.mem_of_getElem? (i := 171) (by decide +kernel)) rfl
theorem wd_2_172 : Cond.code yX9_has cX9_has (2) (some .boolean) ∈ mm_tbl := wq_2 _ (List.mem_of_getElem? (i := 172) (by decide +kernel)) rfl
theorem wd_2_173 : Cond.methodLink RL (54) yX9_strength ∈ mm_tbl := wq_2 _ (List.mem_of_getElem? (i := 173) (by decide +kernel)) rfl
theorem wd_2_174 : Cond.instanceMethod yX9_strength ∈ mm_tbl := wq_2 _ (List.mem_of_getElem? (i := 174) (by decide +kernel)) rfl
theorem wd_2_175 : Cond.selects RX9 yX9_strength yX9_strength ∈ mm_tbl := wq_2 _ (List.mem_of_getElem? (i := 175) (by decide +kernel)) rfl
theorem wd_2_176 : Cond.code yX9_strength cX9_strength (3) (some .long) ∈ mm_tbl := wq_2 _ (List.mem_of_getElem? (i := 176) (by decide +kernel)) rfl
theorem wd_2_177 : Cond.methodLink RX9 (140) yX4_solve ∈ mm_tbl := wq_2 _ (List.mem_of_getElem? (i := 177) (by decide +kernel)) rfl
theorem wd_2_178 : Cond.instanceMethod yX4_solve ∈ mm_tbl := wq_2 _ (List.mem_of_getElem? (i := 178) (by decide +kernel)) rfl
theorem wd_2_179 : Cond.selects RX4 yX4_solve yX4_solve ∈ mm_tbl := wq_2 _ (List.mem_of_getElem? (i := 179) (by decide +kernel)) rfl
theorem wd_2_180 : Cond.code yX4_solve cX4_solve (4) (some .boolean) ∈ mm_tbl := wq_2 _ (List.mem_of_getElem? (i := 180) (by decide +kernel)) rfl
theorem wd_2_181 : Cond.methodLink RX4 (41) yJ6_bitCount_0f7a4 ∈ mm_tbl := wq_2 _ (List.mem_of_getElem? (i := 181) (by decide +kernel)) rfl
theorem wd_2_182 : Cond.static yJ6_bitCount_0f7a4 ∈ mm_tbl := wq_2 _ (List.mem_of_getElem? (i := 182) (by decide +kernel)) rfl
theorem wd_2_183 : Cond.code yJ6_bitCount_0f7a4 cJ6_bitCount_0f7a4 (1) (some .int) ∈ mm_tbl := wq_2 _ (List.mem_of_getElem? (i := 183) (by decide +kernel)) rfl
theorem wd_2_184 : Cond.constant RJ6 (265) (1431655765) ∈ mm_tbl := wq_2 _ (List.mem_of_getElem? (i := 184) (by decide +kernel)) rfl
theorem wd_2_185 : Cond.constant RJ6 (266) (858993459) ∈ mm_tbl := wq_2 _ (List.mem_of_getElem? (i := 185) (by decide +kernel)) rfl
theorem wd_2_186 : Cond.constant RJ6 (267) (252645135) ∈ mm_tbl := wq_2 _ (List.mem_of_getElem? (i := 186) (by decide +kernel)) rfl
theorem wd_2_187 : Cond.methodLink RX4 (47) yX4_numberRows ∈ mm_tbl := wq_2 _ (List.mem_of_getElem? (i := 187) (by decide +kernel)) rfl
theorem wd_2_189 : Cond.instanceMethod yX4_numberRows ∈ mm_tbl := wq_2 _ (List.mem_of_getElem? (i := 189) (by decide +kernel)) rfl
theorem wd_2_190 : Cond.code yX4_numberRows cX4_numberRows (4) none ∈ mm_tbl := wq_2 _ (List.mem_of_getElem? (i := 190) (by decide +kernel)) rfl
theorem wd_2_192 : Cond.methodLink RX4 (51) yX4_fillCells ∈ mm_tbl := wq_2 _ (List.mem_of_getElem? (i := 192) (by decide +kernel)) rfl
theorem wd_2_194 : Cond.instanceMethod yX4_fillCells ∈ mm_tbl := wq_2 _ (List.mem_of_getElem? (i := 194) (by decide +kernel)) rfl
theorem wd_2_195 : Cond.code yX4_fillCells cX4_fillCells (5) none ∈ mm_tbl := wq_2 _ (List.mem_of_getElem? (i := 195) (by decide +kernel)) rfl
theorem wd_2_196 : Cond.methodLink RX4 (62) yJ7_fill_d0a16 ∈ mm_tbl := wq_2 _ (List.mem_of_getElem? (i := 196) (by decide +kernel)) rfl
theorem wd_2_197 : Cond.static yJ7_fill_d0a16 ∈ mm_tbl := wq_2 _ (List.mem_of_getElem? (i := 197) (by decide +kernel)) rfl
theorem wd_2_198 : Cond.code yJ7_fill_d0a16 cJ7_fill_d0a16 (5) none ∈ mm_tbl := wq_2 _ (List.mem_of_getElem? (i := 198) (by decide +kernel)) rfl
theorem wd_2_199 : Cond.methodLink RX4 (68) yX4_addToRow ∈ mm_tbl := wq_2 _ (List.mem_of_getElem? (i := 199) (by decide +kernel)) rfl
theorem wd_2_201 : Cond.instanceMethod yX4_addToRow ∈ mm_tbl := wq_2 _ (List.mem_of_getElem? (i := 201) (by decide +kernel)) rfl
theorem wd_2_202 : Cond.code yX4_addToRow cX4_addToRow (4) none ∈ mm_tbl := wq_2 _ (List.mem_of_getElem? (i := 202) (by decide +kernel)) rfl
theorem wd_2_203 : Cond.methodLink RX4 (54) yX4_eliminate ∈ mm_tbl := wq_2 _ (List.mem_of_getElem? (i := 203) (by decide +kernel)) rfl
theorem wd_2_205 : Cond.instanceMethod yX4_eliminate ∈ mm_tbl := wq_2 _ (List.mem_of_getElem? (i := 205) (by decide +kernel)) rfl
theorem wd_2_206 : Cond.code yX4_eliminate cX4_eliminate (8) (some .boolean) ∈ mm_tbl := wq_2 _ (List.mem_of_getElem? (i := 206) (by decide +kernel)) rfl
theorem wd_2_207 : Cond.methodLink RX4 (72) yX4_clearCell ∈ mm_tbl := wq_2 _ (List.mem_of_getElem? (i := 207) (by decide +kernel)) rfl
theorem wd_2_209 : Cond.instanceMethod yX4_clearCell ∈ mm_tbl := wq_2 _ (List.mem_of_getElem? (i := 209) (by decide +kernel)) rfl
theorem wd_2_210 : Cond.code yX4_clearCell cX4_clearCell (12) none ∈ mm_tbl := wq_2 _ (List.mem_of_getElem? (i := 210) (by decide +kernel)) rfl
theorem wd_2_211 : Cond.constantLong RX9 (143) (-9223372036854775808) ∈ mm_tbl := wq_2 _ (List.mem_of_getElem? (i := 211) (by decide +kernel)) rfl
theorem wd_2_212 : Cond.methodLink RX9 (153) yX9_partOf ∈ mm_tbl := wq_2 _ (List.mem_of_getElem? (i := 212) (by decide +kernel)) rfl
theorem wd_2_213 : Cond.static yX9_partOf ∈ mm_tbl := wq_2 _ (List.mem_of_getElem? (i := 213) (by decide +kernel)) rfl
theorem wd_2_214 : Cond.code yX9_partOf cX9_partOf (7) (some .long) ∈ mm_tbl := wq_2 _ (List.mem_of_getElem? (i := 214) (by decide +kernel)) rfl
theorem wd_2_215 : Cond.methodLink RX9 (270) yJ9_abs_067f4 ∈ mm_tbl := wq_2 _ (List.mem_of_getElem? (i := 215) (by decide +kernel)) rfl
theorem wd_2_216 : Cond.static yJ9_abs_067f4 ∈ mm_tbl := wq_2 _ (List.mem_of_getElem? (i := 216) (by decide +kernel)) rfl
theorem wd_2_217 : Cond.code yJ9_abs_067f4 cJ9_abs_067f4 (2) (some .long) ∈ mm_tbl := wq_2 _ (List.mem_of_getElem? (i := 217) (by decide +kernel)) rfl
theorem wd_2_218 : Cond.methodLink RX9 (276) yX9_commonDivisor ∈ mm_tbl := wq_2 _ (List.mem_of_getElem? (i := 218) (by decide +kernel)) rfl
theorem wd_2_219 : Cond.static yX9_commonDivisor ∈ mm_tbl := wq_2 _ (List.mem_of_getElem? (i := 219) (by decide +kernel)) rfl
theorem wd_2_220 : Cond.code yX9_commonDivisor cX9_commonDivisor (11) (some .long) ∈ mm_tbl := wq_2 _ (List.mem_of_getElem? (i := 220) (by decide +kernel)) rfl
theorem wd_2_221 : Cond.methodLink RL (59) yX9_between ∈ mm_tbl := wq_2 _ (List.mem_of_getElem? (i := 221) (by decide +kernel)) rfl
theorem wd_2_222 : Cond.instanceMethod yX9_between ∈ mm_tbl := wq_2 _ (List.mem_of_getElem? (i := 222) (by decide +kernel)) rfl
theorem wd_2_223 : Cond.selects RX9 yX9_between yX9_between ∈ mm_tbl := wq_2 _ (List.mem_of_getElem? (i := 223) (by decide +kernel)) rfl
theorem wd_2_224 : Cond.code yX9_between cX9_between (5) (some .long) ∈ mm_tbl := wq_2 _ (List.mem_of_getElem? (i := 224) (by decide +kernel)) rfl
theorem wd_2_225 : Cond.methodLink RL (64) yX9_misfit ∈ mm_tbl := wq_2 _ (List.mem_of_getElem? (i := 225) (by decide +kernel)) rfl
theorem wd_2_226 : Cond.instanceMethod yX9_misfit ∈ mm_tbl := wq_2 _ (List.mem_of_getElem? (i := 226) (by decide +kernel)) rfl
theorem wd_2_227 : Cond.selects RX9 yX9_misfit yX9_misfit ∈ mm_tbl := wq_2 _ (List.mem_of_getElem? (i := 227) (by decide +kernel)) rfl
theorem wd_2_228 : Cond.code yX9_misfit cX9_misfit (4) (some .long) ∈ mm_tbl := wq_2 _ (List.mem_of_getElem? (i := 228) (by decide +kernel)) rfl
theorem wd_2_229 : Cond.methodLink RX9 (160) yX4_misfitAbove ∈ mm_tbl := wq_2 _ (List.mem_of_getElem? (i := 229) (by decide +kernel)) rfl
theorem wd_2_230 : Cond.instanceMethod yX4_misfitAbove ∈ mm_tbl := wq_2 _ (List.mem_of_getElem? (i := 230) (by decide +kernel)) rfl
theorem wd_2_231 : Cond.selects RX4 yX4_misfitAbove yX4_misfitAbove ∈ mm_tbl := wq_2 _ (List.mem_of_getElem? (i := 231) (by decide +kernel)) rfl
theorem wd_2_232 : Cond.code yX4_misfitAbove cX4_misfitAbove (5) (some .long) ∈ mm_tbl := wq_2 _ (List.mem_of_getElem? (i := 232) (by decide +kernel)) rfl
theorem wd_2_233 : Cond.methodLink RX4 (76) yJ9_abs_067f4 ∈ mm_tbl := wq_2 _ (List.mem_of_getElem? (i := 233) (by decide +kernel)) rfl
theorem wd_2_234 : Cond.methodLink RL (68) yX9_sure ∈ mm_tbl := wq_2 _ (List.mem_of_getElem? (i := 234) (by decide +kernel)) rfl
theorem wd_2_235 : Cond.instanceMethod yX9_sure ∈ mm_tbl := wq_2 _ (List.mem_of_getElem? (i := 235) (by decide +kernel)) rfl
theorem wd_2_236 : Cond.selects RX9 yX9_sure yX9_sure ∈ mm_tbl := wq_2 _ (List.mem_of_getElem? (i := 236) (by decide +kernel)) rfl
theorem wd_2_237 : Cond.code yX9_sure cX9_sure (3) (some .int) ∈ mm_tbl := wq_2 _ (List.mem_of_getElem? (i := 237) (by decide +kernel)) rfl
theorem wd_2_238 : Cond.methodLink RX9 (164) yX4_whoIsSurelyBetter ∈ mm_tbl := wq_2 _ (List.mem_of_getElem? (i := 238) (by decide +kernel)) rfl
theorem wd_2_239 : Cond.instanceMethod yX4_whoIsSurelyBetter ∈ mm_tbl := wq_2 _ (List.mem_of_getElem? (i := 239) (by decide +kernel)) rfl
theorem wd_3_0 : Cond.selects RX4 yX4_whoIsSurelyBetter yX4_whoIsSurelyBetter ∈ mm_tbl := wq_3 _ (List.mem_of_getElem? (i := 0) (by decide +kernel)) rfl
theorem wd_3_1 : Cond.code yX4_whoIsSurelyBetter cX4_whoIsSurelyBetter (7) (some .int) ∈ mm_tbl := wq_3 _ (List.mem_of_getElem? (i := 1) (by decide +kernel)) rfl
theorem wd_3_2 : Cond.methodLink RX4 (82) yX4_leadOver ∈ mm_tbl := wq_3 _ (List.mem_of_getElem? (i := 2) (by decide +kernel)) rfl
theorem wd_3_4 : Cond.instanceMethod yX4_leadOver ∈ mm_tbl := wq_3 _ (List.mem_of_getElem? (i := 4) (by decide +kernel)) rfl
theorem wd_3_5 : Cond.code yX4_leadOver cX4_leadOver (4) (some .int) ∈ mm_tbl := wq_3 _ (List.mem_of_getElem? (i := 5) (by decide +kernel)) rfl
theorem wd_3_6 : Cond.methodLink RL (72) yX9_crew ∈ mm_tbl := wq_3 _ (List.mem_of_getElem? (i := 6) (by decide +kernel)) rfl
theorem wd_3_7 : Cond.instanceMethod yX9_crew ∈ mm_tbl := wq_3 _ (List.mem_of_getElem? (i := 7) (by decide +kernel)) rfl
theorem wd_3_8 : Cond.selects RX9 yX9_crew yX9_crew ∈ mm_tbl := wq_3 _ (List.mem_of_getElem? (i := 8) (by decide +kernel)) rfl
theorem wd_3_9 : Cond.code yX9_crew cX9_crew (5) (some .int) ∈ mm_tbl := wq_3 _ (List.mem_of_getElem? (i := 9) (by decide +kernel)) rfl
theorem wd_3_10 : Cond.methodLink RX9 (167) yX0_hasBoat ∈ mm_tbl := wq_3 _ (List.mem_of_getElem? (i := 10) (by decide +kernel)) rfl
theorem wd_3_11 : Cond.methodLink RX9 (170) yX9_isHour ∈ mm_tbl := wq_3 _ (List.mem_of_getElem? (i := 11) (by decide +kernel)) rfl
theorem wd_3_12 : Cond.static yX9_isHour ∈ mm_tbl := wq_3 _ (List.mem_of_getElem? (i := 12) (by decide +kernel)) rfl
theorem wd_3_13 : Cond.code yX9_isHour cX9_isHour (1) (some .boolean) ∈ mm_tbl := wq_3 _ (List.mem_of_getElem? (i := 13) (by decide +kernel)) rfl
theorem wd_3_14 : Cond.methodLink RX9 (173) yX1_leastCost ∈ mm_tbl := wq_3 _ (List.mem_of_getElem? (i := 14) (by decide +kernel)) rfl
theorem wd_3_15 : Cond.instanceMethod yX1_leastCost ∈ mm_tbl := wq_3 _ (List.mem_of_getElem? (i := 15) (by decide +kernel)) rfl
theorem wd_3_16 : Cond.selects RX1 yX1_leastCost yX1_leastCost ∈ mm_tbl := wq_3 _ (List.mem_of_getElem? (i := 16) (by decide +kernel)) rfl
theorem wd_3_17 : Cond.code yX1_leastCost cX1_leastCost (7) (some .int) ∈ mm_tbl := wq_3 _ (List.mem_of_getElem? (i := 17) (by decide +kernel)) rfl
theorem wd_3_18 : Cond.methodLink RX1 (23) yX0_seats ∈ mm_tbl := wq_3 _ (List.mem_of_getElem? (i := 18) (by decide +kernel)) rfl
theorem wd_3_19 : Cond.methodLink RX1 (31) yX1_fillRow ∈ mm_tbl := wq_3 _ (List.mem_of_getElem? (i := 19) (by decide +kernel)) rfl
theorem wd_3_21 : Cond.instanceMethod yX1_fillRow ∈ mm_tbl := wq_3 _ (List.mem_of_getElem? (i := 21) (by decide +kernel)) rfl
theorem wd_3_22 : Cond.code yX1_fillRow cX1_fillRow (11) none ∈ mm_tbl := wq_3 _ (List.mem_of_getElem? (i := 22) (by decide +kernel)) rfl
theorem wd_3_23 : Cond.methodLink RX1 (35) ⟨"java/lang/System", "arraycopy", "(Ljava/lang/Object;ILjava/lang/Object;II)V"⟩ ∈ mm_tbl := wq_3 _ (List.mem_of_getElem? (i := 23) (by decide +kernel)) rfl
theorem wd_3_24 : Cond.static ⟨"java/lang/System", "arraycopy", "(Ljava/lang/Object;ILjava/lang/Object;II)V"⟩ ∈ mm_tbl := wq_3 _ (List.mem_of_getElem? (i := 24) (by decide +kernel)) rfl
theorem wd_3_25 : Cond.native ⟨"java/lang/System", "arraycopy", "(Ljava/lang/Object;ILjava/lang/Object;II)V"⟩ ∈ mm_tbl := wq_3 _ (List.mem_of_getElem? (i := 25) (by decide +kernel)) rfl
theorem wd_3_26 : Cond.methodLink RX1 (41) yX1_isFree ∈ mm_tbl := wq_3 _ (List.mem_of_getElem? (i := 26) (by decide +kernel)) rfl
theorem wd_3_27 : Cond.static yX1_isFree ∈ mm_tbl := wq_3 _ (List.mem_of_getElem? (i := 27) (by decide +kernel)) rfl
theorem wd_3_28 : Cond.code yX1_isFree cX1_isFree (4) (some .boolean) ∈ mm_tbl := wq_3 _ (List.mem_of_getElem? (i := 28) (by decide +kernel)) rfl
theorem wd_3_29 : Cond.methodLink RX1 (59) yX0_mayBeOut ∈ mm_tbl := wq_3 _ (List.mem_of_getElem? (i := 29) (by decide +kernel)) rfl
theorem wd_3_30 : Cond.instanceMethod yX0_mayBeOut ∈ mm_tbl := wq_3 _ (List.mem_of_getElem? (i := 30) (by decide +kernel)) rfl
theorem wd_3_31 : Cond.selects RX0 yX0_mayBeOut yX0_mayBeOut ∈ mm_tbl := wq_3 _ (List.mem_of_getElem? (i := 31) (by decide +kernel)) rfl
theorem wd_3_32 : Cond.code yX0_mayBeOut cX0_mayBeOut (3) (some .boolean) ∈ mm_tbl := wq_3 _ (List.mem_of_getElem? (i := 32) (by decide +kernel)) rfl
theorem wd_3_33 : Cond.methodLink RX1 (62) yX0_isCox ∈ mm_tbl := wq_3 _ (List.mem_of_getElem? (i := 33) (by decide +kernel)) rfl
theorem wd_3_34 : Cond.instanceMethod yX0_isCox ∈ mm_tbl := wq_3 _ (List.mem_of_getElem? (i := 34) (by decide +kernel)) rfl
theorem wd_3_35 : Cond.selects RX0 yX0_isCox yX0_isCox ∈ mm_tbl := wq_3 _ (List.mem_of_getElem? (i := 35) (by decide +kernel)) rfl
theorem wd_3_36 : Cond.code yX0_isCox cX0_isCox (2) (some .boolean) ∈ mm_tbl := wq_3 _ (List.mem_of_getElem? (i := 36) (by decide +kernel)) rfl
theorem wd_3_37 : Cond.methodLink RX1 (69) yX0_sitsIn ∈ mm_tbl := wq_3 _ (List.mem_of_getElem? (i := 37) (by decide +kernel)) rfl
theorem wd_3_38 : Cond.instanceMethod yX0_sitsIn ∈ mm_tbl := wq_3 _ (List.mem_of_getElem? (i := 38) (by decide +kernel)) rfl
theorem wd_3_39 : Cond.selects RX0 yX0_sitsIn yX0_sitsIn ∈ mm_tbl := wq_3 _ (List.mem_of_getElem? (i := 39) (by decide +kernel)) rfl
theorem wd_3_40 : Cond.code yX0_sitsIn cX0_sitsIn (3) (some .boolean) ∈ mm_tbl := wq_3 _ (List.mem_of_getElem? (i := 40) (by decide +kernel)) rfl
theorem wd_3_41 : Cond.methodLink RX1 (45) yX1_setPrices ∈ mm_tbl := wq_3 _ (List.mem_of_getElem? (i := 41) (by decide +kernel)) rfl
theorem wd_3_43 : Cond.instanceMethod yX1_setPrices ∈ mm_tbl := wq_3 _ (List.mem_of_getElem? (i := 43) (by decide +kernel)) rfl
theorem wd_3_44 : Cond.code yX1_setPrices cX1_setPrices (7) none ∈ mm_tbl := wq_3 _ (List.mem_of_getElem? (i := 44) (by decide +kernel)) rfl
theorem wd_3_45 : Cond.methodLink RX1 (72) yX0_dislike ∈ mm_tbl := wq_3 _ (List.mem_of_getElem? (i := 45) (by decide +kernel)) rfl
theorem wd_3_46 : Cond.instanceMethod yX0_dislike ∈ mm_tbl := wq_3 _ (List.mem_of_getElem? (i := 46) (by decide +kernel)) rfl
theorem wd_3_47 : Cond.selects RX0 yX0_dislike yX0_dislike ∈ mm_tbl := wq_3 _ (List.mem_of_getElem? (i := 47) (by decide +kernel)) rfl
theorem wd_3_48 : Cond.code yX0_dislike cX0_dislike (6) (some .int) ∈ mm_tbl := wq_3 _ (List.mem_of_getElem? (i := 48) (by decide +kernel)) rfl
theorem wd_3_49 : Cond.fieldLink RX0 (83) RX0 "DISLIKES" "[I" ∈ mm_tbl := wq_3 _ (List.mem_of_getElem? (i := 49) (by decide +kernel)) rfl
theorem wd_3_52 : Cond.methodLink RX1 (53) yJ9_min_7cf53 ∈ mm_tbl := wq_3 _ (List.mem_of_getElem? (i := 52) (by decide +kernel)) rfl
theorem wd_3_53 : Cond.static yJ9_min_7cf53 ∈ mm_tbl := wq_3 _ (List.mem_of_getElem? (i := 53) (by decide +kernel)) rfl
theorem wd_3_54 : Cond.code yJ9_min_7cf53 cJ9_min_7cf53 (2) (some .int) ∈ mm_tbl := wq_3 _ (List.mem_of_getElem? (i := 54) (by decide +kernel)) rfl
theorem wd_3_55 : Cond.methodLink RX9 (177) yX1_seatThem ∈ mm_tbl := wq_3 _ (List.mem_of_getElem? (i := 55) (by decide +kernel)) rfl
theorem wd_3_56 : Cond.instanceMethod yX1_seatThem ∈ mm_tbl := wq_3 _ (List.mem_of_getElem? (i := 56) (by decide +kernel)) rfl
theorem wd_3_57 : Cond.selects RX1 yX1_seatThem yX1_seatThem ∈ mm_tbl := wq_3 _ (List.mem_of_getElem? (i := 57) (by decide +kernel)) rfl
theorem wd_3_58 : Cond.code yX1_seatThem cX1_seatThem (6) none ∈ mm_tbl := wq_3 _ (List.mem_of_getElem? (i := 58) (by decide +kernel)) rfl
theorem wd_3_59 : Cond.methodLink RX1 (76) yX1_choose ∈ mm_tbl := wq_3 _ (List.mem_of_getElem? (i := 59) (by decide +kernel)) rfl
theorem wd_3_61 : Cond.instanceMethod yX1_choose ∈ mm_tbl := wq_3 _ (List.mem_of_getElem? (i := 61) (by decide +kernel)) rfl
theorem wd_3_62 : Cond.code yX1_choose cX1_choose (6) (some .int) ∈ mm_tbl := wq_3 _ (List.mem_of_getElem? (i := 62) (by decide +kernel)) rfl
theorem wd_3_63 : Cond.methodLink RL (76) yX9_water ∈ mm_tbl := wq_3 _ (List.mem_of_getElem? (i := 63) (by decide +kernel)) rfl
theorem wd_3_64 : Cond.instanceMethod yX9_water ∈ mm_tbl := wq_3 _ (List.mem_of_getElem? (i := 64) (by decide +kernel)) rfl
theorem wd_3_65 : Cond.selects RX9 yX9_water yX9_water ∈ mm_tbl := wq_3 _ (List.mem_of_getElem? (i := 65) (by decide +kernel)) rfl
theorem wd_3_66 : Cond.code yX9_water cX9_water (4) (some .int) ∈ mm_tbl := wq_3 _ (List.mem_of_getElem? (i := 66) (by decide +kernel)) rfl
theorem wd_3_67 : Cond.methodLink RL (82) yX9_feed ∈ mm_tbl := wq_3 _ (List.mem_of_getElem? (i := 67) (by decide +kernel)) rfl
theorem wd_3_68 : Cond.instanceMethod yX9_feed ∈ mm_tbl := wq_3 _ (List.mem_of_getElem? (i := 68) (by decide +kernel)) rfl
theorem wd_3_69 : Cond.selects RX9 yX9_feed yX9_feed ∈ mm_tbl := wq_3 _ (List.mem_of_getElem? (i := 69) (by decide +kernel)) rfl
theorem wd_3_70 : Cond.code yX9_feed cX9_feed (4) (some .int) ∈ mm_tbl := wq_3 _ (List.mem_of_getElem? (i := 70) (by decide +kernel)) rfl
theorem wd_3_71 : Cond.methodLink RX9 (190) yX8_append ∈ mm_tbl := wq_3 _ (List.mem_of_getElem? (i := 71) (by decide +kernel)) rfl
theorem wd_3_72 : Cond.instanceMethod yX8_append ∈ mm_tbl := wq_3 _ (List.mem_of_getElem? (i := 72) (by decide +kernel)) rfl
theorem wd_3_73 : Cond.selects RX8 yX8_append yX8_append ∈ mm_tbl := wq_3 _ (List.mem_of_getElem? (i := 73) (by decide +kernel)) rfl
theorem wd_3_74 : Cond.code yX8_append cX8_append (5) (some .int) ∈ mm_tbl := wq_3 _ (List.mem_of_getElem? (i := 74) (by decide +kernel)) rfl
theorem wd_3_75 : Cond.constantLong RX8 (22) (255) ∈ mm_tbl := wq_3 _ (List.mem_of_getElem? (i := 75) (by decide +kernel)) rfl
theorem wd_3_76 : Cond.methodLink RL (87) yX9_rule ∈ mm_tbl := wq_3 _ (List.mem_of_getElem? (i := 76) (by decide +kernel)) rfl
theorem wd_3_77 : Cond.instanceMethod yX9_rule ∈ mm_tbl := wq_3 _ (List.mem_of_getElem? (i := 77) (by decide +kernel)) rfl
theorem wd_3_78 : Cond.selects RX9 yX9_rule yX9_rule ∈ mm_tbl := wq_3 _ (List.mem_of_getElem? (i := 78) (by decide +kernel)) rfl
theorem wd_3_79 : Cond.code yX9_rule cX9_rule (2) (some .int) ∈ mm_tbl := wq_3 _ (List.mem_of_getElem? (i := 79) (by decide +kernel)) rfl
theorem wd_3_80 : Cond.methodLink RX9 (195) yX7_read ∈ mm_tbl := wq_3 _ (List.mem_of_getElem? (i := 80) (by decide +kernel)) rfl
theorem wd_3_81 : Cond.instanceMethod yX7_read ∈ mm_tbl := wq_3 _ (List.mem_of_getElem? (i := 81) (by decide +kernel)) rfl
theorem wd_3_82 : Cond.selects RX7 yX7_read yX7_read ∈ mm_tbl := wq_3 _ (List.mem_of_getElem? (i := 82) (by decide +kernel)) rfl
theorem wd_3_83 : Cond.code yX7_read cX7_read (2) (some .boolean) ∈ mm_tbl := wq_3 _ (List.mem_of_getElem? (i := 83) (by decide +kernel)) rfl
theorem wd_3_85 : Cond.methodLink RX7 (48) yX8_takeWord ∈ mm_tbl := wq_3 _ (List.mem_of_getElem? (i := 85) (by decide +kernel)) rfl
theorem wd_3_86 : Cond.instanceMethod yX8_takeWord ∈ mm_tbl := wq_3 _ (List.mem_of_getElem? (i := 86) (by decide +kernel)) rfl
theorem wd_3_87 : Cond.selects RX8 yX8_takeWord yX8_takeWord ∈ mm_tbl := wq_3 _ (List.mem_of_getElem? (i := 87) (by decide +kernel)) rfl
theorem wd_3_88 : Cond.code yX8_takeWord cX8_takeWord (7) (some .int) ∈ mm_tbl := wq_3 _ (List.mem_of_getElem? (i := 88) (by decide +kernel)) rfl
theorem wd_3_89 : Cond.methodLink RX8 (24) yJ0_length_8abf5 ∈ mm_tbl := wq_3 _ (List.mem_of_getElem? (i := 89) (by decide +kernel)) rfl
theorem wd_3_90 : Cond.instanceMethod yJ0_length_8abf5 ∈ mm_tbl := wq_3 _ (List.mem_of_getElem? (i := 90) (by decide +kernel)) rfl
theorem wd_3_91 : Cond.selects RJ0 yJ0_length_8abf5 yJ0_length_8abf5 ∈ mm_tbl := wq_3 _ (List.mem_of_getElem? (i := 91) (by decide +kernel)) rfl
theorem wd_3_92 : Cond.code yJ0_length_8abf5 cJ0_length_8abf5 (1) (some .int) ∈ mm_tbl := wq_3 _ (List.mem_of_getElem? (i := 92) (by decide +kernel)) rfl
theorem wd_3_93 : Cond.methodLink RJ0 (335) yJ0_coder_7d493 ∈ mm_tbl := wq_3 _ (List.mem_of_getElem? (i := 93) (by decide +kernel)) rfl
theorem wd_3_94 : Cond.instanceMethod yJ0_coder_7d493 ∈ mm_tbl := wq_3 _ (List.mem_of_getElem? (i := 94) (by decide +kernel)) rfl
theorem wd_3_95 : Cond.selects RJ0 yJ0_coder_7d493 yJ0_coder_7d493 ∈ mm_tbl := wq_3 _ (List.mem_of_getElem? (i := 95) (by decide +kernel)) rfl
theorem wd_3_96 : Cond.code yJ0_coder_7d493 cJ0_coder_7d493 (1) (some .byte) ∈ mm_tbl := wq_3 _ (List.mem_of_getElem? (i := 96) (by decide +kernel)) rfl
theorem wd_3_97 : Cond.fieldLink RJ0 (38) RJ0 "COMPACT_STRINGS" "Z" ∈ mm_tbl := wq_3 _ (List.mem_of_getElem? (i := 97) (by decide +kernel)) rfl
theorem wd_3_99 : Cond.methodLink RX8 (29) yJ0_charAt_5068e ∈ mm_tbl := wq_3 _ (List.mem_of_getElem? (i := 99) (by decide +kernel)) rfl
theorem wd_3_100 : Cond.instanceMethod yJ0_charAt_5068e ∈ mm_tbl := wq_3 _ (List.mem_of_getElem? (i := 100) (by decide +kernel)) rfl
theorem wd_3_101 : Cond.selects RJ0 yJ0_charAt_5068e yJ0_charAt_5068e ∈ mm_tbl := wq_3 _ (List.mem_of_getElem? (i := 101) (by decide +kernel)) rfl
theorem wd_3_102 : Cond.code yJ0_charAt_5068e cJ0_charAt_5068e (2) (some .char) ∈ mm_tbl := wq_3 _ (List.mem_of_getElem? (i := 102) (by decide +kernel)) rfl
theorem wd_3_103 : Cond.methodLink RJ0 (492) yJ0_isLatin1_aae02 ∈ mm_tbl := wq_3 _ (List.mem_of_getElem? (i := 103) (by decide +kernel)) rfl
theorem wd_3_104 : Cond.instanceMethod yJ0_isLatin1_aae02 ∈ mm_tbl := wq_3 _ (List.mem_of_getElem? (i := 104) (by decide +kernel)) rfl
theorem wd_3_105 : Cond.selects RJ0 yJ0_isLatin1_aae02 yJ0_isLatin1_aae02 ∈ mm_tbl := wq_3 _ (List.mem_of_getElem? (i := 105) (by decide +kernel)) rfl
theorem wd_3_106 : Cond.code yJ0_isLatin1_aae02 cJ0_isLatin1_aae02 (1) (some .boolean) ∈ mm_tbl := wq_3 _ (List.mem_of_getElem? (i := 106) (by decide +kernel)) rfl
theorem wd_3_107 : Cond.methodLink RJ0 (495) yJ1_charAt_3b067 ∈ mm_tbl := wq_3 _ (List.mem_of_getElem? (i := 107) (by decide +kernel)) rfl
theorem wd_3_108 : Cond.static yJ1_charAt_3b067 ∈ mm_tbl := wq_3 _ (List.mem_of_getElem? (i := 108) (by decide +kernel)) rfl
theorem wd_3_109 : Cond.code yJ1_charAt_3b067 cJ1_charAt_3b067 (2) (some .char) ∈ mm_tbl := wq_3 _ (List.mem_of_getElem? (i := 109) (by decide +kernel)) rfl
theorem wd_3_110 : Cond.methodLink RJ1 (9) yJ0_checkIndex_df160 ∈ mm_tbl := wq_3 _ (List.mem_of_getElem? (i := 110) (by decide +kernel)) rfl
theorem wd_3_111 : Cond.static yJ0_checkIndex_df160 ∈ mm_tbl := wq_3 _ (List.mem_of_getElem? (i := 111) (by decide +kernel)) rfl
theorem wd_3_112 : Cond.code yJ0_checkIndex_df160 cJ0_checkIndex_df160 (2) none ∈ mm_tbl := wq_3 _ (List.mem_of_getElem? (i := 112) (by decide +kernel)) rfl
theorem wd_3_113 : Cond.fieldLink RJ0 (1053) RJ3 "SIOOBE_FORMATTER" "Ljava/util/function/BiFunction;" ∈ mm_tbl := wq_3 _ (List.mem_of_getElem? (i := 113) (by decide +kernel)) rfl
theorem wd_3_115 : Cond.methodLink RJ0 (1059) yJ3_checkIndex_8e157 ∈ mm_tbl := wq_3 _ (List.mem_of_getElem? (i := 115) (by decide +kernel)) rfl
theorem wd_3_116 : Cond.static yJ3_checkIndex_8e157 ∈ mm_tbl := wq_3 _ (List.mem_of_getElem? (i := 116) (by decide +kernel)) rfl
theorem wd_3_117 : Cond.code yJ3_checkIndex_8e157 cJ3_checkIndex_8e157 (3) (some .int) ∈ mm_tbl := wq_3 _ (List.mem_of_getElem? (i := 117) (by decide +kernel)) rfl
theorem wd_3_118 : Cond.methodLink RJ0 (498) yJ2_charAt_3b067 ∈ mm_tbl := wq_3 _ (List.mem_of_getElem? (i := 118) (by decide +kernel)) rfl
theorem wd_3_119 : Cond.static yJ2_charAt_3b067 ∈ mm_tbl := wq_3 _ (List.mem_of_getElem? (i := 119) (by decide +kernel)) rfl
theorem wd_3_120 : Cond.code yJ2_charAt_3b067 cJ2_charAt_3b067 (2) (some .char) ∈ mm_tbl := wq_3 _ (List.mem_of_getElem? (i := 120) (by decide +kernel)) rfl
theorem wd_3_121 : Cond.methodLink RJ2 (67) yJ2_checkIndex_2214a ∈ mm_tbl := wq_3 _ (List.mem_of_getElem? (i := 121) (by decide +kernel)) rfl
theorem wd_3_122 : Cond.static yJ2_checkIndex_2214a ∈ mm_tbl := wq_3 _ (List.mem_of_getElem? (i := 122) (by decide +kernel)) rfl
theorem wd_3_123 : Cond.code yJ2_checkIndex_2214a cJ2_checkIndex_2214a (2) none ∈ mm_tbl := wq_3 _ (List.mem_of_getElem? (i := 123) (by decide +kernel)) rfl
theorem wd_3_124 : Cond.methodLink RJ2 (48) yJ2_length_9d52b ∈ mm_tbl := wq_3 _ (List.mem_of_getElem? (i := 124) (by decide +kernel)) rfl
theorem wd_3_125 : Cond.static yJ2_length_9d52b ∈ mm_tbl := wq_3 _ (List.mem_of_getElem? (i := 125) (by decide +kernel)) rfl
theorem wd_3_126 : Cond.code yJ2_length_9d52b cJ2_length_9d52b (1) (some .int) ∈ mm_tbl := wq_3 _ (List.mem_of_getElem? (i := 126) (by decide +kernel)) rfl
theorem wd_3_127 : Cond.methodLink RJ2 (414) yJ0_checkIndex_df160 ∈ mm_tbl := wq_3 _ (List.mem_of_getElem? (i := 127) (by decide +kernel)) rfl
theorem wd_3_128 : Cond.methodLink RJ2 (71) yJ2_getChar_3b067 ∈ mm_tbl := wq_3 _ (List.mem_of_getElem? (i := 128) (by decide +kernel)) rfl
theorem wd_3_129 : Cond.static yJ2_getChar_3b067 ∈ mm_tbl := wq_3 _ (List.mem_of_getElem? (i := 129) (by decide +kernel)) rfl
theorem wd_3_130 : Cond.code yJ2_getChar_3b067 cJ2_getChar_3b067 (2) (some .char) ∈ mm_tbl := wq_3 _ (List.mem_of_getElem? (i := 130) (by decide +kernel)) rfl
theorem wd_3_131 : Cond.fieldLink RJ2 (44) RJ2 "$assertionsDisabled" "Z" ∈ mm_tbl := wq_3 _ (List.mem_of_getElem? (i := 131) (by decide +kernel)) rfl
theorem wd_3_133 : Cond.fieldLink RJ2 (59) RJ2 "HI_BYTE_SHIFT" "I" ∈ mm_tbl := wq_3 _ (List.mem_of_getElem? (i := 133) (by decide +kernel)) rfl
theorem wd_3_135 : Cond.fieldLink RJ2 (63) RJ2 "LO_BYTE_SHIFT" "I" ∈ mm_tbl := wq_3 _ (List.mem_of_getElem? (i := 135) (by decide +kernel)) rfl
theorem wd_3_137 : Cond.methodLink RX8 (33) yX8_countSame ∈ mm_tbl := wq_3 _ (List.mem_of_getElem? (i := 137) (by decide +kernel)) rfl
theorem wd_3_139 : Cond.instanceMethod yX8_countSame ∈ mm_tbl := wq_3 _ (List.mem_of_getElem? (i := 139) (by decide +kernel)) rfl
theorem wd_3_140 : Cond.code yX8_countSame cX8_countSame (6) (some .int) ∈ mm_tbl := wq_3 _ (List.mem_of_getElem? (i := 140) (by decide +kernel)) rfl
theorem wd_3_141 : Cond.methodLink RX8 (37) yJ9_max_7cf53 ∈ mm_tbl := wq_3 _ (List.mem_of_getElem? (i := 141) (by decide +kernel)) rfl
theorem wd_3_142 : Cond.static yJ9_max_7cf53 ∈ mm_tbl := wq_3 _ (List.mem_of_getElem? (i := 142) (by decide +kernel)) rfl
theorem wd_3_143 : Cond.code yJ9_max_7cf53 cJ9_max_7cf53 (2) (some .int) ∈ mm_tbl := wq_3 _ (List.mem_of_getElem? (i := 143) (by decide +kernel)) rfl
theorem wd_3_145 : Cond.methodLink RX7 (54) yX8_isAtEnd ∈ mm_tbl := wq_3 _ (List.mem_of_getElem? (i := 145) (by decide +kernel)) rfl
theorem wd_3_146 : Cond.instanceMethod yX8_isAtEnd ∈ mm_tbl := wq_3 _ (List.mem_of_getElem? (i := 146) (by decide +kernel)) rfl
theorem wd_3_147 : Cond.selects RX8 yX8_isAtEnd yX8_isAtEnd ∈ mm_tbl := wq_3 _ (List.mem_of_getElem? (i := 147) (by decide +kernel)) rfl
theorem wd_3_148 : Cond.code yX8_isAtEnd cX8_isAtEnd (1) (some .boolean) ∈ mm_tbl := wq_3 _ (List.mem_of_getElem? (i := 148) (by decide +kernel)) rfl
theorem wd_3_150 : Cond.methodLink RX7 (60) yX7_readTests ∈ mm_tbl := wq_3 _ (List.mem_of_getElem? (i := 150) (by decide +kernel)) rfl
theorem wd_3_152 : Cond.instanceMethod yX7_readTests ∈ mm_tbl := wq_3 _ (List.mem_of_getElem? (i := 152) (by decide +kernel)) rfl
theorem wd_3_153 : Cond.code yX7_readTests cX7_readTests (3) (some .boolean) ∈ mm_tbl := wq_3 _ (List.mem_of_getElem? (i := 153) (by decide +kernel)) rfl
theorem wd_3_154 : Cond.methodLink RX7 (64) yX7_readTest ∈ mm_tbl := wq_3 _ (List.mem_of_getElem? (i := 154) (by decide +kernel)) rfl
theorem wd_3_156 : Cond.instanceMethod yX7_readTest ∈ mm_tbl := wq_3 _ (List.mem_of_getElem? (i := 156) (by decide +kernel)) rfl
theorem wd_3_157 : Cond.code yX7_readTest cX7_readTest (3) (some .boolean) ∈ mm_tbl := wq_3 _ (List.mem_of_getElem? (i := 157) (by decide +kernel)) rfl
theorem wd_3_158 : Cond.methodLink RX7 (68) yX8_skip ∈ mm_tbl := wq_3 _ (List.mem_of_getElem? (i := 158) (by decide +kernel)) rfl
theorem wd_3_159 : Cond.instanceMethod yX8_skip ∈ mm_tbl := wq_3 _ (List.mem_of_getElem? (i := 159) (by decide +kernel)) rfl
theorem wd_3_160 : Cond.selects RX8 yX8_skip yX8_skip ∈ mm_tbl := wq_3 _ (List.mem_of_getElem? (i := 160) (by decide +kernel)) rfl
theorem wd_3_161 : Cond.code yX8_skip cX8_skip (2) (some .boolean) ∈ mm_tbl := wq_3 _ (List.mem_of_getElem? (i := 161) (by decide +kernel)) rfl
theorem wd_3_162 : Cond.methodLink RX8 (43) yX8_isAtEnd ∈ mm_tbl := wq_3 _ (List.mem_of_getElem? (i := 162) (by decide +kernel)) rfl
theorem wd_3_165 : Cond.methodLink RX7 (76) yX8_takeNumber ∈ mm_tbl := wq_3 _ (List.mem_of_getElem? (i := 165) (by decide +kernel)) rfl
theorem wd_3_166 : Cond.instanceMethod yX8_takeNumber ∈ mm_tbl := wq_3 _ (List.mem_of_getElem? (i := 166) (by decide +kernel)) rfl
theorem wd_3_167 : Cond.selects RX8 yX8_takeNumber yX8_takeNumber ∈ mm_tbl := wq_3 _ (List.mem_of_getElem? (i := 167) (by decide +kernel)) rfl
theorem wd_3_168 : Cond.code yX8_takeNumber cX8_takeNumber (3) (some .int) ∈ mm_tbl := wq_3 _ (List.mem_of_getElem? (i := 168) (by decide +kernel)) rfl
theorem wd_3_170 : Cond.methodLink RX9 (199) yX7_keepRead ∈ mm_tbl := wq_3 _ (List.mem_of_getElem? (i := 170) (by decide +kernel)) rfl
theorem wd_3_171 : Cond.instanceMethod yX7_keepRead ∈ mm_tbl := wq_3 _ (List.mem_of_getElem? (i := 171) (by decide +kernel)) rfl
theorem wd_3_172 : Cond.selects RX7 yX7_keepRead yX7_keepRead ∈ mm_tbl := wq_3 _ (List.mem_of_getElem? (i := 172) (by decide +kernel)) rfl
theorem wd_3_173 : Cond.code yX7_keepRead cX7_keepRead (1) (some .int) ∈ mm_tbl := wq_3 _ (List.mem_of_getElem? (i := 173) (by decide +kernel)) rfl
theorem wd_3_174 : Cond.arrayClass .byte ∈ mm_tbl := wq_3 _ (List.mem_of_getElem? (i := 174) (by decide +kernel)) rfl
theorem wd_3_175 : Cond.methodLink RL (91) yX9_ruled ∈ mm_tbl := wq_3 _ (List.mem_of_getElem? (i := 175) (by decide +kernel)) rfl
theorem wd_3_176 : Cond.instanceMethod yX9_ruled ∈ mm_tbl := wq_3 _ (List.mem_of_getElem? (i := 176) (by decide +kernel)) rfl
theorem wd_3_177 : Cond.selects RX9 yX9_ruled yX9_ruled ∈ mm_tbl := wq_3 _ (List.mem_of_getElem? (i := 177) (by decide +kernel)) rfl
theorem wd_3_178 : Cond.code yX9_ruled cX9_ruled (3) (some .int) ∈ mm_tbl := wq_3 _ (List.mem_of_getElem? (i := 178) (by decide +kernel)) rfl
theorem wd_3_179 : Cond.methodLink RX9 (206) yX9_askedRule ∈ mm_tbl := wq_3 _ (List.mem_of_getElem? (i := 179) (by decide +kernel)) rfl
theorem wd_3_181 : Cond.instanceMethod yX9_askedRule ∈ mm_tbl := wq_3 _ (List.mem_of_getElem? (i := 181) (by decide +kernel)) rfl
theorem wd_3_182 : Cond.code yX9_askedRule cX9_askedRule (6) (some .int) ∈ mm_tbl := wq_3 _ (List.mem_of_getElem? (i := 182) (by decide +kernel)) rfl
theorem wd_3_183 : Cond.methodLink RX9 (304) yX0_seats ∈ mm_tbl := wq_3 _ (List.mem_of_getElem? (i := 183) (by decide +kernel)) rfl
theorem wd_3_184 : Cond.methodLink RX9 (307) yX0_isYoungAboard ∈ mm_tbl := wq_3 _ (List.mem_of_getElem? (i := 184) (by decide +kernel)) rfl
theorem wd_3_185 : Cond.instanceMethod yX0_isYoungAboard ∈ mm_tbl := wq_3 _ (List.mem_of_getElem? (i := 185) (by decide +kernel)) rfl
theorem wd_3_186 : Cond.selects RX0 yX0_isYoungAboard yX0_isYoungAboard ∈ mm_tbl := wq_3 _ (List.mem_of_getElem? (i := 186) (by decide +kernel)) rfl
theorem wd_3_187 : Cond.code yX0_isYoungAboard cX0_isYoungAboard (3) (some .boolean) ∈ mm_tbl := wq_3 _ (List.mem_of_getElem? (i := 187) (by decide +kernel)) rfl
theorem wd_3_188 : Cond.methodLink RX0 (65) yX0_sitsIn ∈ mm_tbl := wq_3 _ (List.mem_of_getElem? (i := 188) (by decide +kernel)) rfl
theorem wd_3_189 : Cond.methodLink RX9 (313) yX7_asked ∈ mm_tbl := wq_3 _ (List.mem_of_getElem? (i := 189) (by decide +kernel)) rfl
theorem wd_3_190 : Cond.instanceMethod yX7_asked ∈ mm_tbl := wq_3 _ (List.mem_of_getElem? (i := 190) (by decide +kernel)) rfl
theorem wd_3_191 : Cond.selects RX7 yX7_asked yX7_asked ∈ mm_tbl := wq_3 _ (List.mem_of_getElem? (i := 191) (by decide +kernel)) rfl
theorem wd_3_192 : Cond.code yX7_asked cX7_asked (3) (some .int) ∈ mm_tbl := wq_3 _ (List.mem_of_getElem? (i := 192) (by decide +kernel)) rfl
theorem wd_3_193 : Cond.methodLink RX7 (80) yX7_testsHold ∈ mm_tbl := wq_3 _ (List.mem_of_getElem? (i := 193) (by decide +kernel)) rfl
