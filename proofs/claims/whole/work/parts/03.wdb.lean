theorem wd_3_195 : Cond.instanceMethod yX7_testsHold ∈ mm_tbl := wq_3 _ (List.mem_of_getElem? (i := 195) (by decide +kernel)) rfl
theorem wd_3_196 : Cond.code yX7_testsHold cX7_testsHold (4) (some .boolean) ∈ mm_tbl := wq_3 _ (List.mem_of_getElem? (i := 196) (by decide +kernel)) rfl
theorem wd_3_197 : Cond.methodLink RX7 (84) yX7_isSo ∈ mm_tbl := wq_3 _ (List.mem_of_getElem? (i := 197) (by decide +kernel)) rfl
theorem wd_3_199 : Cond.instanceMethod yX7_isSo ∈ mm_tbl := wq_3 _ (List.mem_of_getElem? (i := 199) (by decide +kernel)) rfl
theorem wd_3_200 : Cond.code yX7_isSo cX7_isSo (3) (some .boolean) ∈ mm_tbl := wq_3 _ (List.mem_of_getElem? (i := 200) (by decide +kernel)) rfl
theorem wd_3_201 : Cond.methodLink RL (95) yX9_may ∈ mm_tbl := wq_3 _ (List.mem_of_getElem? (i := 201) (by decide +kernel)) rfl
theorem wd_3_202 : Cond.instanceMethod yX9_may ∈ mm_tbl := wq_3 _ (List.mem_of_getElem? (i := 202) (by decide +kernel)) rfl
theorem wd_3_203 : Cond.selects RX9 yX9_may yX9_may ∈ mm_tbl := wq_3 _ (List.mem_of_getElem? (i := 203) (by decide +kernel)) rfl
theorem wd_3_204 : Cond.code yX9_may cX9_may (3) (some .int) ∈ mm_tbl := wq_3 _ (List.mem_of_getElem? (i := 204) (by decide +kernel)) rfl
theorem wd_3_205 : Cond.methodLink RX9 (209) yX9_whyAshore ∈ mm_tbl := wq_3 _ (List.mem_of_getElem? (i := 205) (by decide +kernel)) rfl
theorem wd_3_207 : Cond.instanceMethod yX9_whyAshore ∈ mm_tbl := wq_3 _ (List.mem_of_getElem? (i := 207) (by decide +kernel)) rfl
theorem wd_3_208 : Cond.code yX9_whyAshore cX9_whyAshore (4) (some .int) ∈ mm_tbl := wq_3 _ (List.mem_of_getElem? (i := 208) (by decide +kernel)) rfl
theorem wd_3_209 : Cond.methodLink RX9 (280) yX3_isBroken ∈ mm_tbl := wq_3 _ (List.mem_of_getElem? (i := 209) (by decide +kernel)) rfl
theorem wd_3_210 : Cond.instanceMethod yX3_isBroken ∈ mm_tbl := wq_3 _ (List.mem_of_getElem? (i := 210) (by decide +kernel)) rfl
theorem wd_3_211 : Cond.selects RX3 yX3_isBroken yX3_isBroken ∈ mm_tbl := wq_3 _ (List.mem_of_getElem? (i := 211) (by decide +kernel)) rfl
theorem wd_3_212 : Cond.code yX3_isBroken cX3_isBroken (3) (some .boolean) ∈ mm_tbl := wq_3 _ (List.mem_of_getElem? (i := 212) (by decide +kernel)) rfl
theorem wd_3_213 : Cond.methodLink RX3 (40) yX3_latestLook ∈ mm_tbl := wq_3 _ (List.mem_of_getElem? (i := 213) (by decide +kernel)) rfl
theorem wd_3_215 : Cond.instanceMethod yX3_latestLook ∈ mm_tbl := wq_3 _ (List.mem_of_getElem? (i := 215) (by decide +kernel)) rfl
theorem wd_3_216 : Cond.code yX3_latestLook cX3_latestLook (4) (some .int) ∈ mm_tbl := wq_3 _ (List.mem_of_getElem? (i := 216) (by decide +kernel)) rfl
theorem wd_3_217 : Cond.methodLink RX9 (283) yX0_isManned ∈ mm_tbl := wq_3 _ (List.mem_of_getElem? (i := 217) (by decide +kernel)) rfl
theorem wd_3_218 : Cond.instanceMethod yX0_isManned ∈ mm_tbl := wq_3 _ (List.mem_of_getElem? (i := 218) (by decide +kernel)) rfl
theorem wd_3_219 : Cond.selects RX0 yX0_isManned yX0_isManned ∈ mm_tbl := wq_3 _ (List.mem_of_getElem? (i := 219) (by decide +kernel)) rfl
theorem wd_3_220 : Cond.code yX0_isManned cX0_isManned (2) (some .boolean) ∈ mm_tbl := wq_3 _ (List.mem_of_getElem? (i := 220) (by decide +kernel)) rfl
theorem wd_3_221 : Cond.methodLink RX0 (69) yX0_aboard ∈ mm_tbl := wq_3 _ (List.mem_of_getElem? (i := 221) (by decide +kernel)) rfl
theorem wd_3_222 : Cond.instanceMethod yX0_aboard ∈ mm_tbl := wq_3 _ (List.mem_of_getElem? (i := 222) (by decide +kernel)) rfl
theorem wd_3_223 : Cond.selects RX0 yX0_aboard yX0_aboard ∈ mm_tbl := wq_3 _ (List.mem_of_getElem? (i := 223) (by decide +kernel)) rfl
theorem wd_3_224 : Cond.code yX0_aboard cX0_aboard (4) (some .int) ∈ mm_tbl := wq_3 _ (List.mem_of_getElem? (i := 224) (by decide +kernel)) rfl
theorem wd_3_225 : Cond.methodLink RX0 (72) yJ6_bitCount_0f7a4 ∈ mm_tbl := wq_3 _ (List.mem_of_getElem? (i := 225) (by decide +kernel)) rfl
theorem wd_3_226 : Cond.methodLink RX9 (286) yX0_meanWeight ∈ mm_tbl := wq_3 _ (List.mem_of_getElem? (i := 226) (by decide +kernel)) rfl
theorem wd_3_227 : Cond.instanceMethod yX0_meanWeight ∈ mm_tbl := wq_3 _ (List.mem_of_getElem? (i := 227) (by decide +kernel)) rfl
theorem wd_3_228 : Cond.selects RX0 yX0_meanWeight yX0_meanWeight ∈ mm_tbl := wq_3 _ (List.mem_of_getElem? (i := 228) (by decide +kernel)) rfl
theorem wd_3_229 : Cond.code yX0_meanWeight cX0_meanWeight (4) (some .int) ∈ mm_tbl := wq_3 _ (List.mem_of_getElem? (i := 229) (by decide +kernel)) rfl
theorem wd_3_230 : Cond.methodLink RX0 (77) yX0_isCox ∈ mm_tbl := wq_3 _ (List.mem_of_getElem? (i := 230) (by decide +kernel)) rfl
theorem wd_3_231 : Cond.methodLink RX9 (295) yX0_allMayBeOut ∈ mm_tbl := wq_3 _ (List.mem_of_getElem? (i := 231) (by decide +kernel)) rfl
theorem wd_3_232 : Cond.instanceMethod yX0_allMayBeOut ∈ mm_tbl := wq_3 _ (List.mem_of_getElem? (i := 232) (by decide +kernel)) rfl
theorem wd_3_233 : Cond.selects RX0 yX0_allMayBeOut yX0_allMayBeOut ∈ mm_tbl := wq_3 _ (List.mem_of_getElem? (i := 233) (by decide +kernel)) rfl
theorem wd_3_234 : Cond.code yX0_allMayBeOut cX0_allMayBeOut (4) (some .boolean) ∈ mm_tbl := wq_3 _ (List.mem_of_getElem? (i := 234) (by decide +kernel)) rfl
theorem wd_3_235 : Cond.methodLink RX0 (80) yX0_mayBeOut ∈ mm_tbl := wq_3 _ (List.mem_of_getElem? (i := 235) (by decide +kernel)) rfl
theorem wd_3_236 : Cond.methodLink RL (99) yX9_day ∈ mm_tbl := wq_3 _ (List.mem_of_getElem? (i := 236) (by decide +kernel)) rfl
theorem wd_3_237 : Cond.instanceMethod yX9_day ∈ mm_tbl := wq_3 _ (List.mem_of_getElem? (i := 237) (by decide +kernel)) rfl
theorem wd_3_238 : Cond.selects RX9 yX9_day yX9_day ∈ mm_tbl := wq_3 _ (List.mem_of_getElem? (i := 238) (by decide +kernel)) rfl
theorem wd_3_239 : Cond.code yX9_day cX9_day (3) (some .int) ∈ mm_tbl := wq_3 _ (List.mem_of_getElem? (i := 239) (by decide +kernel)) rfl
theorem wd_4_0 : Cond.methodLink RL (103) yX9_out ∈ mm_tbl := wq_4 _ (List.mem_of_getElem? (i := 0) (by decide +kernel)) rfl
theorem wd_4_1 : Cond.instanceMethod yX9_out ∈ mm_tbl := wq_4 _ (List.mem_of_getElem? (i := 1) (by decide +kernel)) rfl
theorem wd_4_2 : Cond.selects RX9 yX9_out yX9_out ∈ mm_tbl := wq_4 _ (List.mem_of_getElem? (i := 2) (by decide +kernel)) rfl
theorem wd_4_3 : Cond.code yX9_out cX9_out (3) (some .int) ∈ mm_tbl := wq_4 _ (List.mem_of_getElem? (i := 3) (by decide +kernel)) rfl
theorem wd_4_4 : Cond.methodLink RX9 (215) yX0_aboard ∈ mm_tbl := wq_4 _ (List.mem_of_getElem? (i := 4) (by decide +kernel)) rfl
theorem wd_4_5 : Cond.methodLink RX9 (218) yX3_addOuting ∈ mm_tbl := wq_4 _ (List.mem_of_getElem? (i := 5) (by decide +kernel)) rfl
theorem wd_4_6 : Cond.instanceMethod yX3_addOuting ∈ mm_tbl := wq_4 _ (List.mem_of_getElem? (i := 6) (by decide +kernel)) rfl
theorem wd_4_7 : Cond.selects RX3 yX3_addOuting yX3_addOuting ∈ mm_tbl := wq_4 _ (List.mem_of_getElem? (i := 7) (by decide +kernel)) rfl
theorem wd_4_8 : Cond.code yX3_addOuting cX3_addOuting (5) (some .int) ∈ mm_tbl := wq_4 _ (List.mem_of_getElem? (i := 8) (by decide +kernel)) rfl
theorem wd_4_9 : Cond.methodLink RL (107) yX9_look ∈ mm_tbl := wq_4 _ (List.mem_of_getElem? (i := 9) (by decide +kernel)) rfl
theorem wd_4_10 : Cond.instanceMethod yX9_look ∈ mm_tbl := wq_4 _ (List.mem_of_getElem? (i := 10) (by decide +kernel)) rfl
theorem wd_4_11 : Cond.selects RX9 yX9_look yX9_look ∈ mm_tbl := wq_4 _ (List.mem_of_getElem? (i := 11) (by decide +kernel)) rfl
theorem wd_4_12 : Cond.code yX9_look cX9_look (3) (some .int) ∈ mm_tbl := wq_4 _ (List.mem_of_getElem? (i := 12) (by decide +kernel)) rfl
theorem wd_4_13 : Cond.methodLink RX9 (224) yX3_addLook ∈ mm_tbl := wq_4 _ (List.mem_of_getElem? (i := 13) (by decide +kernel)) rfl
theorem wd_4_14 : Cond.instanceMethod yX3_addLook ∈ mm_tbl := wq_4 _ (List.mem_of_getElem? (i := 14) (by decide +kernel)) rfl
theorem wd_4_15 : Cond.selects RX3 yX3_addLook yX3_addLook ∈ mm_tbl := wq_4 _ (List.mem_of_getElem? (i := 15) (by decide +kernel)) rfl
theorem wd_4_16 : Cond.code yX3_addLook cX3_addLook (3) (some .int) ∈ mm_tbl := wq_4 _ (List.mem_of_getElem? (i := 16) (by decide +kernel)) rfl
theorem wd_4_17 : Cond.methodLink RL (111) yX9_broke ∈ mm_tbl := wq_4 _ (List.mem_of_getElem? (i := 17) (by decide +kernel)) rfl
theorem wd_4_18 : Cond.instanceMethod yX9_broke ∈ mm_tbl := wq_4 _ (List.mem_of_getElem? (i := 18) (by decide +kernel)) rfl
theorem wd_4_19 : Cond.selects RX9 yX9_broke yX9_broke ∈ mm_tbl := wq_4 _ (List.mem_of_getElem? (i := 19) (by decide +kernel)) rfl
theorem wd_4_20 : Cond.code yX9_broke cX9_broke (4) (some .int) ∈ mm_tbl := wq_4 _ (List.mem_of_getElem? (i := 20) (by decide +kernel)) rfl
theorem wd_4_21 : Cond.methodLink RX9 (227) yX3_brokeAt ∈ mm_tbl := wq_4 _ (List.mem_of_getElem? (i := 21) (by decide +kernel)) rfl
theorem wd_4_22 : Cond.instanceMethod yX3_brokeAt ∈ mm_tbl := wq_4 _ (List.mem_of_getElem? (i := 22) (by decide +kernel)) rfl
theorem wd_4_23 : Cond.selects RX3 yX3_brokeAt yX3_brokeAt ∈ mm_tbl := wq_4 _ (List.mem_of_getElem? (i := 23) (by decide +kernel)) rfl
theorem wd_4_24 : Cond.code yX3_brokeAt cX3_brokeAt (3) (some .boolean) ∈ mm_tbl := wq_4 _ (List.mem_of_getElem? (i := 24) (by decide +kernel)) rfl
theorem wd_4_25 : Cond.methodLink RX9 (230) yX3_suspects ∈ mm_tbl := wq_4 _ (List.mem_of_getElem? (i := 25) (by decide +kernel)) rfl
theorem wd_4_26 : Cond.instanceMethod yX3_suspects ∈ mm_tbl := wq_4 _ (List.mem_of_getElem? (i := 26) (by decide +kernel)) rfl
theorem wd_4_27 : Cond.selects RX3 yX3_suspects yX3_suspects ∈ mm_tbl := wq_4 _ (List.mem_of_getElem? (i := 27) (by decide +kernel)) rfl
theorem wd_4_28 : Cond.code yX3_suspects cX3_suspects (4) (some .int) ∈ mm_tbl := wq_4 _ (List.mem_of_getElem? (i := 28) (by decide +kernel)) rfl
theorem wd_4_29 : Cond.methodLink RX3 (44) yX3_firstBehind ∈ mm_tbl := wq_4 _ (List.mem_of_getElem? (i := 29) (by decide +kernel)) rfl
theorem wd_4_31 : Cond.instanceMethod yX3_firstBehind ∈ mm_tbl := wq_4 _ (List.mem_of_getElem? (i := 31) (by decide +kernel)) rfl
theorem wd_4_32 : Cond.code yX3_firstBehind cX3_firstBehind (3) (some .int) ∈ mm_tbl := wq_4 _ (List.mem_of_getElem? (i := 32) (by decide +kernel)) rfl
theorem wd_4_33 : Cond.methodLink RX9 (233) yX3_firstSuspect ∈ mm_tbl := wq_4 _ (List.mem_of_getElem? (i := 33) (by decide +kernel)) rfl
theorem wd_4_34 : Cond.instanceMethod yX3_firstSuspect ∈ mm_tbl := wq_4 _ (List.mem_of_getElem? (i := 34) (by decide +kernel)) rfl
theorem wd_4_35 : Cond.selects RX3 yX3_firstSuspect yX3_firstSuspect ∈ mm_tbl := wq_4 _ (List.mem_of_getElem? (i := 35) (by decide +kernel)) rfl
theorem wd_4_36 : Cond.code yX3_firstSuspect cX3_firstSuspect (3) (some .int) ∈ mm_tbl := wq_4 _ (List.mem_of_getElem? (i := 36) (by decide +kernel)) rfl
theorem wd_4_37 : Cond.methodLink RL (115) yX9_outing ∈ mm_tbl := wq_4 _ (List.mem_of_getElem? (i := 37) (by decide +kernel)) rfl
theorem wd_4_38 : Cond.instanceMethod yX9_outing ∈ mm_tbl := wq_4 _ (List.mem_of_getElem? (i := 38) (by decide +kernel)) rfl
theorem wd_4_39 : Cond.selects RX9 yX9_outing yX9_outing ∈ mm_tbl := wq_4 _ (List.mem_of_getElem? (i := 39) (by decide +kernel)) rfl
theorem wd_4_40 : Cond.code yX9_outing cX9_outing (3) (some .int) ∈ mm_tbl := wq_4 _ (List.mem_of_getElem? (i := 40) (by decide +kernel)) rfl
theorem wd_4_41 : Cond.methodLink RL (119) yX9_heat ∈ mm_tbl := wq_4 _ (List.mem_of_getElem? (i := 41) (by decide +kernel)) rfl
theorem wd_4_42 : Cond.instanceMethod yX9_heat ∈ mm_tbl := wq_4 _ (List.mem_of_getElem? (i := 42) (by decide +kernel)) rfl
theorem wd_4_43 : Cond.selects RX9 yX9_heat yX9_heat ∈ mm_tbl := wq_4 _ (List.mem_of_getElem? (i := 43) (by decide +kernel)) rfl
theorem wd_4_44 : Cond.code yX9_heat cX9_heat (3) (some .int) ∈ mm_tbl := wq_4 _ (List.mem_of_getElem? (i := 44) (by decide +kernel)) rfl
theorem wd_4_45 : Cond.methodLink RX9 (249) yX2_addHeat ∈ mm_tbl := wq_4 _ (List.mem_of_getElem? (i := 45) (by decide +kernel)) rfl
theorem wd_4_46 : Cond.instanceMethod yX2_addHeat ∈ mm_tbl := wq_4 _ (List.mem_of_getElem? (i := 46) (by decide +kernel)) rfl
theorem wd_4_47 : Cond.selects RX2 yX2_addHeat yX2_addHeat ∈ mm_tbl := wq_4 _ (List.mem_of_getElem? (i := 47) (by decide +kernel)) rfl
theorem wd_4_48 : Cond.code yX2_addHeat cX2_addHeat (3) (some .int) ∈ mm_tbl := wq_4 _ (List.mem_of_getElem? (i := 48) (by decide +kernel)) rfl
theorem wd_4_49 : Cond.methodLink RL (123) yX9_near ∈ mm_tbl := wq_4 _ (List.mem_of_getElem? (i := 49) (by decide +kernel)) rfl
theorem wd_4_50 : Cond.instanceMethod yX9_near ∈ mm_tbl := wq_4 _ (List.mem_of_getElem? (i := 50) (by decide +kernel)) rfl
theorem wd_4_51 : Cond.selects RX9 yX9_near yX9_near ∈ mm_tbl := wq_4 _ (List.mem_of_getElem? (i := 51) (by decide +kernel)) rfl
theorem wd_4_52 : Cond.code yX9_near cX9_near (3) (some .int) ∈ mm_tbl := wq_4 _ (List.mem_of_getElem? (i := 52) (by decide +kernel)) rfl
theorem wd_4_53 : Cond.methodLink RL (127) yX9_clashes ∈ mm_tbl := wq_4 _ (List.mem_of_getElem? (i := 53) (by decide +kernel)) rfl
theorem wd_4_54 : Cond.instanceMethod yX9_clashes ∈ mm_tbl := wq_4 _ (List.mem_of_getElem? (i := 54) (by decide +kernel)) rfl
theorem wd_4_55 : Cond.selects RX9 yX9_clashes yX9_clashes ∈ mm_tbl := wq_4 _ (List.mem_of_getElem? (i := 55) (by decide +kernel)) rfl
theorem wd_4_56 : Cond.code yX9_clashes cX9_clashes (1) (some .int) ∈ mm_tbl := wq_4 _ (List.mem_of_getElem? (i := 56) (by decide +kernel)) rfl
theorem wd_4_57 : Cond.methodLink RX9 (255) yX2_clashingPairs ∈ mm_tbl := wq_4 _ (List.mem_of_getElem? (i := 57) (by decide +kernel)) rfl
theorem wd_4_58 : Cond.instanceMethod yX2_clashingPairs ∈ mm_tbl := wq_4 _ (List.mem_of_getElem? (i := 58) (by decide +kernel)) rfl
theorem wd_4_59 : Cond.selects RX2 yX2_clashingPairs yX2_clashingPairs ∈ mm_tbl := wq_4 _ (List.mem_of_getElem? (i := 59) (by decide +kernel)) rfl
theorem wd_4_60 : Cond.code yX2_clashingPairs cX2_clashingPairs (4) (some .int) ∈ mm_tbl := wq_4 _ (List.mem_of_getElem? (i := 60) (by decide +kernel)) rfl
theorem wd_4_61 : Cond.methodLink RX2 (31) yX2_wouldClash ∈ mm_tbl := wq_4 _ (List.mem_of_getElem? (i := 61) (by decide +kernel)) rfl
theorem wd_4_63 : Cond.instanceMethod yX2_wouldClash ∈ mm_tbl := wq_4 _ (List.mem_of_getElem? (i := 63) (by decide +kernel)) rfl
theorem wd_4_64 : Cond.code yX2_wouldClash cX2_wouldClash (4) (some .boolean) ∈ mm_tbl := wq_4 _ (List.mem_of_getElem? (i := 64) (by decide +kernel)) rfl
theorem wd_4_65 : Cond.methodLink RX2 (25) yJ9_abs_0f7a4 ∈ mm_tbl := wq_4 _ (List.mem_of_getElem? (i := 65) (by decide +kernel)) rfl
theorem wd_4_66 : Cond.static yJ9_abs_0f7a4 ∈ mm_tbl := wq_4 _ (List.mem_of_getElem? (i := 66) (by decide +kernel)) rfl
theorem wd_4_67 : Cond.code yJ9_abs_0f7a4 cJ9_abs_0f7a4 (1) (some .int) ∈ mm_tbl := wq_4 _ (List.mem_of_getElem? (i := 67) (by decide +kernel)) rfl
theorem wd_4_68 : Cond.methodLink RL (131) yX9_shift ∈ mm_tbl := wq_4 _ (List.mem_of_getElem? (i := 68) (by decide +kernel)) rfl
theorem wd_4_69 : Cond.instanceMethod yX9_shift ∈ mm_tbl := wq_4 _ (List.mem_of_getElem? (i := 69) (by decide +kernel)) rfl
theorem wd_4_70 : Cond.selects RX9 yX9_shift yX9_shift ∈ mm_tbl := wq_4 _ (List.mem_of_getElem? (i := 70) (by decide +kernel)) rfl
theorem wd_4_71 : Cond.code yX9_shift cX9_shift (3) (some .int) ∈ mm_tbl := wq_4 _ (List.mem_of_getElem? (i := 71) (by decide +kernel)) rfl
theorem wd_4_72 : Cond.methodLink RX9 (258) yX2_freeMinute ∈ mm_tbl := wq_4 _ (List.mem_of_getElem? (i := 72) (by decide +kernel)) rfl
theorem wd_4_73 : Cond.instanceMethod yX2_freeMinute ∈ mm_tbl := wq_4 _ (List.mem_of_getElem? (i := 73) (by decide +kernel)) rfl
theorem wd_4_74 : Cond.selects RX2 yX2_freeMinute yX2_freeMinute ∈ mm_tbl := wq_4 _ (List.mem_of_getElem? (i := 74) (by decide +kernel)) rfl
theorem wd_4_75 : Cond.code yX2_freeMinute cX2_freeMinute (5) (some .int) ∈ mm_tbl := wq_4 _ (List.mem_of_getElem? (i := 75) (by decide +kernel)) rfl
theorem wd_4_76 : Cond.methodLink RX2 (35) yX2_firstClash ∈ mm_tbl := wq_4 _ (List.mem_of_getElem? (i := 76) (by decide +kernel)) rfl
theorem wd_4_78 : Cond.instanceMethod yX2_firstClash ∈ mm_tbl := wq_4 _ (List.mem_of_getElem? (i := 78) (by decide +kernel)) rfl
theorem wd_4_79 : Cond.code yX2_firstClash cX2_firstClash (4) (some .int) ∈ mm_tbl := wq_4 _ (List.mem_of_getElem? (i := 79) (by decide +kernel)) rfl
theorem wd_4_80 : Cond.methodLink RL (135) yX9_trailer ∈ mm_tbl := wq_4 _ (List.mem_of_getElem? (i := 80) (by decide +kernel)) rfl
theorem wd_4_81 : Cond.instanceMethod yX9_trailer ∈ mm_tbl := wq_4 _ (List.mem_of_getElem? (i := 81) (by decide +kernel)) rfl
theorem wd_4_82 : Cond.selects RX9 yX9_trailer yX9_trailer ∈ mm_tbl := wq_4 _ (List.mem_of_getElem? (i := 82) (by decide +kernel)) rfl
theorem wd_4_83 : Cond.code yX9_trailer cX9_trailer (4) (some .int) ∈ mm_tbl := wq_4 _ (List.mem_of_getElem? (i := 83) (by decide +kernel)) rfl
theorem wd_4_84 : Cond.methodLink RX9 (263) yX5_load ∈ mm_tbl := wq_4 _ (List.mem_of_getElem? (i := 84) (by decide +kernel)) rfl
theorem wd_4_85 : Cond.instanceMethod yX5_load ∈ mm_tbl := wq_4 _ (List.mem_of_getElem? (i := 85) (by decide +kernel)) rfl
theorem wd_4_86 : Cond.selects RX5 yX5_load yX5_load ∈ mm_tbl := wq_4 _ (List.mem_of_getElem? (i := 86) (by decide +kernel)) rfl
theorem wd_4_87 : Cond.code yX5_load cX5_load (4) (some .int) ∈ mm_tbl := wq_4 _ (List.mem_of_getElem? (i := 87) (by decide +kernel)) rfl
theorem wd_4_88 : Cond.methodLink RX5 (33) yX5_lay ∈ mm_tbl := wq_4 _ (List.mem_of_getElem? (i := 88) (by decide +kernel)) rfl
theorem wd_4_89 : Cond.static yX5_lay ∈ mm_tbl := wq_4 _ (List.mem_of_getElem? (i := 89) (by decide +kernel)) rfl
theorem wd_4_90 : Cond.code yX5_lay cX5_lay (6) none ∈ mm_tbl := wq_4 _ (List.mem_of_getElem? (i := 90) (by decide +kernel)) rfl
theorem wd_4_91 : Cond.methodLink RX5 (37) yX5_longestRow ∈ mm_tbl := wq_4 _ (List.mem_of_getElem? (i := 91) (by decide +kernel)) rfl
theorem wd_4_93 : Cond.instanceMethod yX5_longestRow ∈ mm_tbl := wq_4 _ (List.mem_of_getElem? (i := 93) (by decide +kernel)) rfl
theorem wd_4_94 : Cond.code yX5_longestRow cX5_longestRow (1) (some .int) ∈ mm_tbl := wq_4 _ (List.mem_of_getElem? (i := 94) (by decide +kernel)) rfl
theorem wd_4_95 : Cond.methodLink RX5 (51) yJ9_max_7cf53 ∈ mm_tbl := wq_4 _ (List.mem_of_getElem? (i := 95) (by decide +kernel)) rfl
theorem wd_4_96 : Cond.methodLink RX5 (41) ⟨"java/lang/System", "arraycopy", "(Ljava/lang/Object;ILjava/lang/Object;II)V"⟩ ∈ mm_tbl := wq_4 _ (List.mem_of_getElem? (i := 96) (by decide +kernel)) rfl
theorem wd_4_98 : Cond.methodLink RL (139) yX9_rack ∈ mm_tbl := wq_4 _ (List.mem_of_getElem? (i := 98) (by decide +kernel)) rfl
theorem wd_4_99 : Cond.instanceMethod yX9_rack ∈ mm_tbl := wq_4 _ (List.mem_of_getElem? (i := 99) (by decide +kernel)) rfl
theorem wd_4_100 : Cond.selects RX9 yX9_rack yX9_rack ∈ mm_tbl := wq_4 _ (List.mem_of_getElem? (i := 100) (by decide +kernel)) rfl
theorem wd_4_101 : Cond.code yX9_rack cX9_rack (2) (some .int) ∈ mm_tbl := wq_4 _ (List.mem_of_getElem? (i := 101) (by decide +kernel)) rfl
theorem wd_4_102 : Cond.methodLink RL (143) yX9_count ∈ mm_tbl := wq_4 _ (List.mem_of_getElem? (i := 102) (by decide +kernel)) rfl
theorem wd_4_103 : Cond.instanceMethod yX9_count ∈ mm_tbl := wq_4 _ (List.mem_of_getElem? (i := 103) (by decide +kernel)) rfl
theorem wd_4_104 : Cond.selects RX9 yX9_count yX9_count ∈ mm_tbl := wq_4 _ (List.mem_of_getElem? (i := 104) (by decide +kernel)) rfl
theorem wd_4_105 : Cond.code yX9_count cX9_count (2) (some .int) ∈ mm_tbl := wq_4 _ (List.mem_of_getElem? (i := 105) (by decide +kernel)) rfl
theorem wd_4_106 : Cond.classLink RL (10) RX10 ∈ mm_tbl := wq_4 _ (List.mem_of_getElem? (i := 106) (by decide +kernel)) rfl
theorem wd_4_107 : Cond.instantiable RX10 (53) ∈ mm_tbl := wq_4 _ (List.mem_of_getElem? (i := 107) (by decide +kernel)) rfl
theorem wd_4_108 : Cond.methodLink RL (12) yX10_init ∈ mm_tbl := wq_4 _ (List.mem_of_getElem? (i := 108) (by decide +kernel)) rfl
theorem wd_4_109 : Cond.instanceMethod yX10_init ∈ mm_tbl := wq_4 _ (List.mem_of_getElem? (i := 109) (by decide +kernel)) rfl
theorem wd_4_110 : Cond.code yX10_init cX10_init (2) none ∈ mm_tbl := wq_4 _ (List.mem_of_getElem? (i := 110) (by decide +kernel)) rfl
theorem wd_4_111 : Cond.methodLink RX10 (1) objectInit ∈ mm_tbl := wq_4 _ (List.mem_of_getElem? (i := 111) (by decide +kernel)) rfl
theorem wd_4_112 : Cond.fieldLink RX10 (7) RX10 "kindOf" "[I" ∈ mm_tbl := wq_4 _ (List.mem_of_getElem? (i := 112) (by decide +kernel)) rfl
theorem wd_4_113 : Cond.fieldLink RX10 (13) RX10 "weightOf" "[I" ∈ mm_tbl := wq_4 _ (List.mem_of_getElem? (i := 113) (by decide +kernel)) rfl
theorem wd_4_114 : Cond.fieldLink RX10 (16) RX10 "boatOf" "[I" ∈ mm_tbl := wq_4 _ (List.mem_of_getElem? (i := 114) (by decide +kernel)) rfl
theorem wd_4_115 : Cond.fieldLink RX10 (19) RX10 "seatOf" "[I" ∈ mm_tbl := wq_4 _ (List.mem_of_getElem? (i := 115) (by decide +kernel)) rfl
theorem wd_4_116 : Cond.fieldLink RX10 (22) RX10 "isIll" "[Z" ∈ mm_tbl := wq_4 _ (List.mem_of_getElem? (i := 116) (by decide +kernel)) rfl
theorem wd_4_117 : Cond.fieldLink RX10 (26) RX10 "isBroken" "[Z" ∈ mm_tbl := wq_4 _ (List.mem_of_getElem? (i := 117) (by decide +kernel)) rfl
theorem wd_4_118 : Cond.fieldLink RX10 (29) RX10 "boatKind" "[I" ∈ mm_tbl := wq_4 _ (List.mem_of_getElem? (i := 118) (by decide +kernel)) rfl
theorem wd_4_119 : Cond.fieldLink RX10 (32) RX10 "least" "[I" ∈ mm_tbl := wq_4 _ (List.mem_of_getElem? (i := 119) (by decide +kernel)) rfl
theorem wd_4_120 : Cond.fieldLink RX10 (35) RX10 "most" "[I" ∈ mm_tbl := wq_4 _ (List.mem_of_getElem? (i := 120) (by decide +kernel)) rfl
theorem wd_4_121 : Cond.fieldLink RX10 (38) RX10 "longOf" "[I" ∈ mm_tbl := wq_4 _ (List.mem_of_getElem? (i := 121) (by decide +kernel)) rfl
theorem wd_4_122 : Cond.fieldLink RX10 (136) RX10 "oars" "I" ∈ mm_tbl := wq_4 _ (List.mem_of_getElem? (i := 122) (by decide +kernel)) rfl
theorem wd_4_123 : Cond.fieldLink RX10 (139) RX10 "boats" "I" ∈ mm_tbl := wq_4 _ (List.mem_of_getElem? (i := 123) (by decide +kernel)) rfl
theorem wd_4_124 : Cond.fieldLink RX10 (41) RX10 "first" "[I" ∈ mm_tbl := wq_4 _ (List.mem_of_getElem? (i := 124) (by decide +kernel)) rfl
theorem wd_4_125 : Cond.fieldLink RX10 (44) RX10 "second" "[I" ∈ mm_tbl := wq_4 _ (List.mem_of_getElem? (i := 125) (by decide +kernel)) rfl
theorem wd_4_126 : Cond.fieldLink RX10 (47) RX10 "byHow" "[I" ∈ mm_tbl := wq_4 _ (List.mem_of_getElem? (i := 126) (by decide +kernel)) rfl
theorem wd_4_127 : Cond.fieldLink RX10 (50) RX10 "groupOf" "[I" ∈ mm_tbl := wq_4 _ (List.mem_of_getElem? (i := 127) (by decide +kernel)) rfl
theorem wd_4_128 : Cond.fieldLink RX10 (180) RX10 "races" "I" ∈ mm_tbl := wq_4 _ (List.mem_of_getElem? (i := 128) (by decide +kernel)) rfl
theorem wd_4_129 : Cond.fieldLink RX10 (53) RX10 "placeOf" "[I" ∈ mm_tbl := wq_4 _ (List.mem_of_getElem? (i := 129) (by decide +kernel)) rfl
theorem wd_4_130 : Cond.fieldLink RX10 (56) RX10 "table" "[J" ∈ mm_tbl := wq_4 _ (List.mem_of_getElem? (i := 130) (by decide +kernel)) rfl
theorem wd_4_131 : Cond.fieldLink RX10 (60) RX10 "right" "[J" ∈ mm_tbl := wq_4 _ (List.mem_of_getElem? (i := 131) (by decide +kernel)) rfl
theorem wd_4_132 : Cond.fieldLink RX10 (63) RX10 "used" "[J" ∈ mm_tbl := wq_4 _ (List.mem_of_getElem? (i := 132) (by decide +kernel)) rfl
theorem wd_4_133 : Cond.fieldLink RX10 (66) RX10 "strength" "[J" ∈ mm_tbl := wq_4 _ (List.mem_of_getElem? (i := 133) (by decide +kernel)) rfl
theorem wd_4_134 : Cond.fieldLink RX10 (186) RX10 "others" "I" ∈ mm_tbl := wq_4 _ (List.mem_of_getElem? (i := 134) (by decide +kernel)) rfl
theorem wd_4_135 : Cond.fieldLink RX10 (200) RX10 "line" "J" ∈ mm_tbl := wq_4 _ (List.mem_of_getElem? (i := 135) (by decide +kernel)) rfl
theorem wd_4_136 : Cond.fieldLink RX10 (69) RX10 "cost" "[I" ∈ mm_tbl := wq_4 _ (List.mem_of_getElem? (i := 136) (by decide +kernel)) rfl
theorem wd_4_137 : Cond.fieldLink RX10 (72) RX10 "given" "[I" ∈ mm_tbl := wq_4 _ (List.mem_of_getElem? (i := 137) (by decide +kernel)) rfl
theorem wd_4_138 : Cond.fieldLink RX10 (75) RX10 "stream" "[I" ∈ mm_tbl := wq_4 _ (List.mem_of_getElem? (i := 138) (by decide +kernel)) rfl
theorem wd_4_139 : Cond.fieldLink RX10 (78) RX10 "wind" "[I" ∈ mm_tbl := wq_4 _ (List.mem_of_getElem? (i := 139) (by decide +kernel)) rfl
theorem wd_4_140 : Cond.fieldLink RX10 (81) RX10 "tape" "[I" ∈ mm_tbl := wq_4 _ (List.mem_of_getElem? (i := 140) (by decide +kernel)) rfl
theorem wd_4_141 : Cond.fieldLink RX10 (246) RX10 "taped" "I" ∈ mm_tbl := wq_4 _ (List.mem_of_getElem? (i := 141) (by decide +kernel)) rfl
theorem wd_4_142 : Cond.fieldLink RX10 (284) RX10 "rules" "I" ∈ mm_tbl := wq_4 _ (List.mem_of_getElem? (i := 142) (by decide +kernel)) rfl
theorem wd_4_143 : Cond.fieldLink RX10 (293) RX10 "day" "I" ∈ mm_tbl := wq_4 _ (List.mem_of_getElem? (i := 143) (by decide +kernel)) rfl
theorem wd_4_144 : Cond.fieldLink RX10 (84) RX10 "isBar" "[Z" ∈ mm_tbl := wq_4 _ (List.mem_of_getElem? (i := 144) (by decide +kernel)) rfl
theorem wd_4_145 : Cond.fieldLink RX10 (87) RX10 "ruleKind" "[I" ∈ mm_tbl := wq_4 _ (List.mem_of_getElem? (i := 145) (by decide +kernel)) rfl
theorem wd_4_146 : Cond.fieldLink RX10 (90) RX10 "tests" "[I" ∈ mm_tbl := wq_4 _ (List.mem_of_getElem? (i := 146) (by decide +kernel)) rfl
theorem wd_4_147 : Cond.fieldLink RX10 (93) RX10 "test" "[I" ∈ mm_tbl := wq_4 _ (List.mem_of_getElem? (i := 147) (by decide +kernel)) rfl
theorem wd_4_148 : Cond.fieldLink RX10 (251) RX10 "at" "I" ∈ mm_tbl := wq_4 _ (List.mem_of_getElem? (i := 148) (by decide +kernel)) rfl
theorem wd_4_149 : Cond.fieldLink RX10 (96) RX10 "outBoat" "[I" ∈ mm_tbl := wq_4 _ (List.mem_of_getElem? (i := 149) (by decide +kernel)) rfl
theorem wd_4_150 : Cond.fieldLink RX10 (99) RX10 "outDay" "[I" ∈ mm_tbl := wq_4 _ (List.mem_of_getElem? (i := 150) (by decide +kernel)) rfl
theorem wd_4_151 : Cond.fieldLink RX10 (102) RX10 "outHour" "[I" ∈ mm_tbl := wq_4 _ (List.mem_of_getElem? (i := 151) (by decide +kernel)) rfl
theorem wd_4_152 : Cond.fieldLink RX10 (105) RX10 "outWho" "[I" ∈ mm_tbl := wq_4 _ (List.mem_of_getElem? (i := 152) (by decide +kernel)) rfl
theorem wd_4_153 : Cond.fieldLink RX10 (108) RX10 "lookBoat" "[I" ∈ mm_tbl := wq_4 _ (List.mem_of_getElem? (i := 153) (by decide +kernel)) rfl
theorem wd_4_154 : Cond.fieldLink RX10 (111) RX10 "lookAt" "[I" ∈ mm_tbl := wq_4 _ (List.mem_of_getElem? (i := 154) (by decide +kernel)) rfl
theorem wd_4_155 : Cond.fieldLink RX10 (114) RX10 "isWhole" "[Z" ∈ mm_tbl := wq_4 _ (List.mem_of_getElem? (i := 155) (by decide +kernel)) rfl
theorem wd_4_156 : Cond.fieldLink RX10 (308) RX10 "outings" "I" ∈ mm_tbl := wq_4 _ (List.mem_of_getElem? (i := 156) (by decide +kernel)) rfl
theorem wd_4_157 : Cond.fieldLink RX10 (314) RX10 "looks" "I" ∈ mm_tbl := wq_4 _ (List.mem_of_getElem? (i := 157) (by decide +kernel)) rfl
theorem wd_4_158 : Cond.fieldLink RX10 (117) RX10 "heatBoat" "[I" ∈ mm_tbl := wq_4 _ (List.mem_of_getElem? (i := 158) (by decide +kernel)) rfl
theorem wd_4_159 : Cond.fieldLink RX10 (120) RX10 "heatAt" "[I" ∈ mm_tbl := wq_4 _ (List.mem_of_getElem? (i := 159) (by decide +kernel)) rfl
theorem wd_4_160 : Cond.fieldLink RX10 (321) RX10 "heats" "I" ∈ mm_tbl := wq_4 _ (List.mem_of_getElem? (i := 160) (by decide +kernel)) rfl
theorem wd_4_161 : Cond.fieldLink RX10 (123) RX10 "near" "I" ∈ mm_tbl := wq_4 _ (List.mem_of_getElem? (i := 161) (by decide +kernel)) rfl
theorem wd_4_162 : Cond.fieldLink RX10 (127) RX10 "rackOf" "[I" ∈ mm_tbl := wq_4 _ (List.mem_of_getElem? (i := 162) (by decide +kernel)) rfl
theorem wd_4_163 : Cond.fieldLink RX10 (130) RX10 "lies" "[I" ∈ mm_tbl := wq_4 _ (List.mem_of_getElem? (i := 163) (by decide +kernel)) rfl
theorem wd_4_164 : Cond.fieldLink RX10 (133) RX10 "long3" "[I" ∈ mm_tbl := wq_4 _ (List.mem_of_getElem? (i := 164) (by decide +kernel)) rfl
theorem wd_5_32 : Cond.methodLink RL (17) yX10_oar ∈ mm_tbl := wq_5 _ (List.mem_of_getElem? (i := 32) (by decide +kernel)) rfl
theorem wd_5_33 : Cond.instanceMethod yX10_oar ∈ mm_tbl := wq_5 _ (List.mem_of_getElem? (i := 33) (by decide +kernel)) rfl
theorem wd_5_34 : Cond.selects RX10 yX10_oar yX10_oar ∈ mm_tbl := wq_5 _ (List.mem_of_getElem? (i := 34) (by decide +kernel)) rfl
theorem wd_5_35 : Cond.code yX10_oar cX10_oar (3) (some .int) ∈ mm_tbl := wq_5 _ (List.mem_of_getElem? (i := 35) (by decide +kernel)) rfl
theorem wd_5_36 : Cond.constantLong RX10 (153) (4) ∈ mm_tbl := wq_5 _ (List.mem_of_getElem? (i := 36) (by decide +kernel)) rfl
theorem wd_5_37 : Cond.methodLink RX10 (155) yX10_isIn ∈ mm_tbl := wq_5 _ (List.mem_of_getElem? (i := 37) (by decide +kernel)) rfl
theorem wd_5_38 : Cond.static yX10_isIn ∈ mm_tbl := wq_5 _ (List.mem_of_getElem? (i := 38) (by decide +kernel)) rfl
theorem wd_5_39 : Cond.code yX10_isIn cX10_isIn (6) (some .boolean) ∈ mm_tbl := wq_5 _ (List.mem_of_getElem? (i := 39) (by decide +kernel)) rfl
theorem wd_5_40 : Cond.constantLong RX10 (159) (30) ∈ mm_tbl := wq_5 _ (List.mem_of_getElem? (i := 40) (by decide +kernel)) rfl
theorem wd_5_41 : Cond.constantLong RX10 (161) (150) ∈ mm_tbl := wq_5 _ (List.mem_of_getElem? (i := 41) (by decide +kernel)) rfl
theorem wd_5_42 : Cond.methodLink RL (22) yX10_boat ∈ mm_tbl := wq_5 _ (List.mem_of_getElem? (i := 42) (by decide +kernel)) rfl
theorem wd_5_43 : Cond.instanceMethod yX10_boat ∈ mm_tbl := wq_5 _ (List.mem_of_getElem? (i := 43) (by decide +kernel)) rfl
theorem wd_5_44 : Cond.selects RX10 yX10_boat yX10_boat ∈ mm_tbl := wq_5 _ (List.mem_of_getElem? (i := 44) (by decide +kernel)) rfl
theorem wd_5_45 : Cond.code yX10_boat cX10_boat (5) (some .int) ∈ mm_tbl := wq_5 _ (List.mem_of_getElem? (i := 45) (by decide +kernel)) rfl
theorem wd_5_46 : Cond.constantLong RX10 (163) (99) ∈ mm_tbl := wq_5 _ (List.mem_of_getElem? (i := 46) (by decide +kernel)) rfl
theorem wd_5_47 : Cond.methodLink RL (26) yX10_ill ∈ mm_tbl := wq_5 _ (List.mem_of_getElem? (i := 47) (by decide +kernel)) rfl
theorem wd_5_48 : Cond.instanceMethod yX10_ill ∈ mm_tbl := wq_5 _ (List.mem_of_getElem? (i := 48) (by decide +kernel)) rfl
theorem wd_5_49 : Cond.selects RX10 yX10_ill yX10_ill ∈ mm_tbl := wq_5 _ (List.mem_of_getElem? (i := 49) (by decide +kernel)) rfl
theorem wd_5_50 : Cond.code yX10_ill cX10_ill (4) (some .int) ∈ mm_tbl := wq_5 _ (List.mem_of_getElem? (i := 50) (by decide +kernel)) rfl
theorem wd_5_51 : Cond.methodLink RX10 (165) yX10_isOar ∈ mm_tbl := wq_5 _ (List.mem_of_getElem? (i := 51) (by decide +kernel)) rfl
theorem wd_5_53 : Cond.instanceMethod yX10_isOar ∈ mm_tbl := wq_5 _ (List.mem_of_getElem? (i := 53) (by decide +kernel)) rfl
theorem wd_5_54 : Cond.code yX10_isOar cX10_isOar (2) (some .boolean) ∈ mm_tbl := wq_5 _ (List.mem_of_getElem? (i := 54) (by decide +kernel)) rfl
theorem wd_5_55 : Cond.methodLink RL (31) yX10_sit ∈ mm_tbl := wq_5 _ (List.mem_of_getElem? (i := 55) (by decide +kernel)) rfl
theorem wd_5_56 : Cond.instanceMethod yX10_sit ∈ mm_tbl := wq_5 _ (List.mem_of_getElem? (i := 56) (by decide +kernel)) rfl
theorem wd_5_57 : Cond.selects RX10 yX10_sit yX10_sit ∈ mm_tbl := wq_5 _ (List.mem_of_getElem? (i := 57) (by decide +kernel)) rfl
theorem wd_5_58 : Cond.code yX10_sit cX10_sit (5) (some .int) ∈ mm_tbl := wq_5 _ (List.mem_of_getElem? (i := 58) (by decide +kernel)) rfl
theorem wd_5_59 : Cond.methodLink RX10 (168) yX10_isSeat ∈ mm_tbl := wq_5 _ (List.mem_of_getElem? (i := 59) (by decide +kernel)) rfl
theorem wd_5_61 : Cond.instanceMethod yX10_isSeat ∈ mm_tbl := wq_5 _ (List.mem_of_getElem? (i := 61) (by decide +kernel)) rfl
theorem wd_5_62 : Cond.code yX10_isSeat cX10_isSeat (3) (some .boolean) ∈ mm_tbl := wq_5 _ (List.mem_of_getElem? (i := 62) (by decide +kernel)) rfl
theorem wd_5_63 : Cond.methodLink RX10 (142) yX10_isBoat ∈ mm_tbl := wq_5 _ (List.mem_of_getElem? (i := 63) (by decide +kernel)) rfl
theorem wd_5_65 : Cond.instanceMethod yX10_isBoat ∈ mm_tbl := wq_5 _ (List.mem_of_getElem? (i := 65) (by decide +kernel)) rfl
theorem wd_5_66 : Cond.code yX10_isBoat cX10_isBoat (2) (some .boolean) ∈ mm_tbl := wq_5 _ (List.mem_of_getElem? (i := 66) (by decide +kernel)) rfl
theorem wd_5_67 : Cond.methodLink RX10 (146) yX10_seatsOf ∈ mm_tbl := wq_5 _ (List.mem_of_getElem? (i := 67) (by decide +kernel)) rfl
theorem wd_5_69 : Cond.instanceMethod yX10_seatsOf ∈ mm_tbl := wq_5 _ (List.mem_of_getElem? (i := 69) (by decide +kernel)) rfl
theorem wd_5_70 : Cond.code yX10_seatsOf cX10_seatsOf (3) (some .int) ∈ mm_tbl := wq_5 _ (List.mem_of_getElem? (i := 70) (by decide +kernel)) rfl
theorem wd_5_71 : Cond.methodLink RX10 (150) yX10_hasCox ∈ mm_tbl := wq_5 _ (List.mem_of_getElem? (i := 71) (by decide +kernel)) rfl
theorem wd_5_73 : Cond.instanceMethod yX10_hasCox ∈ mm_tbl := wq_5 _ (List.mem_of_getElem? (i := 73) (by decide +kernel)) rfl
theorem wd_5_74 : Cond.code yX10_hasCox cX10_hasCox (2) (some .boolean) ∈ mm_tbl := wq_5 _ (List.mem_of_getElem? (i := 74) (by decide +kernel)) rfl
theorem wd_5_75 : Cond.methodLink RX10 (172) yX10_sitter ∈ mm_tbl := wq_5 _ (List.mem_of_getElem? (i := 75) (by decide +kernel)) rfl
theorem wd_5_77 : Cond.instanceMethod yX10_sitter ∈ mm_tbl := wq_5 _ (List.mem_of_getElem? (i := 77) (by decide +kernel)) rfl
theorem wd_5_78 : Cond.code yX10_sitter cX10_sitter (5) (some .int) ∈ mm_tbl := wq_5 _ (List.mem_of_getElem? (i := 78) (by decide +kernel)) rfl
theorem wd_5_79 : Cond.methodLink RL (35) yX10_seat ∈ mm_tbl := wq_5 _ (List.mem_of_getElem? (i := 79) (by decide +kernel)) rfl
theorem wd_5_80 : Cond.instanceMethod yX10_seat ∈ mm_tbl := wq_5 _ (List.mem_of_getElem? (i := 80) (by decide +kernel)) rfl
theorem wd_5_81 : Cond.selects RX10 yX10_seat yX10_seat ∈ mm_tbl := wq_5 _ (List.mem_of_getElem? (i := 81) (by decide +kernel)) rfl
theorem wd_5_82 : Cond.code yX10_seat cX10_seat (3) (some .int) ∈ mm_tbl := wq_5 _ (List.mem_of_getElem? (i := 82) (by decide +kernel)) rfl
theorem wd_5_83 : Cond.methodLink RL (39) yX10_about ∈ mm_tbl := wq_5 _ (List.mem_of_getElem? (i := 83) (by decide +kernel)) rfl
theorem wd_5_84 : Cond.instanceMethod yX10_about ∈ mm_tbl := wq_5 _ (List.mem_of_getElem? (i := 84) (by decide +kernel)) rfl
theorem wd_5_85 : Cond.selects RX10 yX10_about yX10_about ∈ mm_tbl := wq_5 _ (List.mem_of_getElem? (i := 85) (by decide +kernel)) rfl
theorem wd_5_86 : Cond.code yX10_about cX10_about (3) (some .int) ∈ mm_tbl := wq_5 _ (List.mem_of_getElem? (i := 86) (by decide +kernel)) rfl
theorem wd_5_87 : Cond.methodLink RL (43) yX10_race ∈ mm_tbl := wq_5 _ (List.mem_of_getElem? (i := 87) (by decide +kernel)) rfl
theorem wd_5_88 : Cond.instanceMethod yX10_race ∈ mm_tbl := wq_5 _ (List.mem_of_getElem? (i := 88) (by decide +kernel)) rfl
theorem wd_5_89 : Cond.selects RX10 yX10_race yX10_race ∈ mm_tbl := wq_5 _ (List.mem_of_getElem? (i := 89) (by decide +kernel)) rfl
theorem wd_5_90 : Cond.code yX10_race cX10_race (4) (some .int) ∈ mm_tbl := wq_5 _ (List.mem_of_getElem? (i := 90) (by decide +kernel)) rfl
theorem wd_5_91 : Cond.constantLong RX10 (176) (-999) ∈ mm_tbl := wq_5 _ (List.mem_of_getElem? (i := 91) (by decide +kernel)) rfl
theorem wd_5_92 : Cond.constantLong RX10 (178) (999) ∈ mm_tbl := wq_5 _ (List.mem_of_getElem? (i := 92) (by decide +kernel)) rfl
theorem wd_5_93 : Cond.methodLink RL (48) yX10_unrace ∈ mm_tbl := wq_5 _ (List.mem_of_getElem? (i := 93) (by decide +kernel)) rfl
theorem wd_5_94 : Cond.instanceMethod yX10_unrace ∈ mm_tbl := wq_5 _ (List.mem_of_getElem? (i := 94) (by decide +kernel)) rfl
theorem wd_5_95 : Cond.selects RX10 yX10_unrace yX10_unrace ∈ mm_tbl := wq_5 _ (List.mem_of_getElem? (i := 95) (by decide +kernel)) rfl
theorem wd_5_96 : Cond.code yX10_unrace cX10_unrace (1) (some .int) ∈ mm_tbl := wq_5 _ (List.mem_of_getElem? (i := 96) (by decide +kernel)) rfl
theorem wd_5_97 : Cond.methodLink RL (53) yX10_group ∈ mm_tbl := wq_5 _ (List.mem_of_getElem? (i := 97) (by decide +kernel)) rfl
theorem wd_5_98 : Cond.instanceMethod yX10_group ∈ mm_tbl := wq_5 _ (List.mem_of_getElem? (i := 98) (by decide +kernel)) rfl
theorem wd_5_99 : Cond.selects RX10 yX10_group yX10_group ∈ mm_tbl := wq_5 _ (List.mem_of_getElem? (i := 99) (by decide +kernel)) rfl
theorem wd_5_100 : Cond.code yX10_group cX10_group (2) (some .int) ∈ mm_tbl := wq_5 _ (List.mem_of_getElem? (i := 100) (by decide +kernel)) rfl
theorem wd_5_101 : Cond.methodLink RX10 (183) yX10_findGroups ∈ mm_tbl := wq_5 _ (List.mem_of_getElem? (i := 101) (by decide +kernel)) rfl
theorem wd_5_103 : Cond.instanceMethod yX10_findGroups ∈ mm_tbl := wq_5 _ (List.mem_of_getElem? (i := 103) (by decide +kernel)) rfl
theorem wd_5_104 : Cond.code yX10_findGroups cX10_findGroups (5) none ∈ mm_tbl := wq_5 _ (List.mem_of_getElem? (i := 104) (by decide +kernel)) rfl
theorem wd_5_105 : Cond.methodLink RL (58) yX10_strength ∈ mm_tbl := wq_5 _ (List.mem_of_getElem? (i := 105) (by decide +kernel)) rfl
theorem wd_5_106 : Cond.instanceMethod yX10_strength ∈ mm_tbl := wq_5 _ (List.mem_of_getElem? (i := 106) (by decide +kernel)) rfl
theorem wd_5_107 : Cond.selects RX10 yX10_strength yX10_strength ∈ mm_tbl := wq_5 _ (List.mem_of_getElem? (i := 107) (by decide +kernel)) rfl
theorem wd_5_108 : Cond.code yX10_strength cX10_strength (3) (some .long) ∈ mm_tbl := wq_5 _ (List.mem_of_getElem? (i := 108) (by decide +kernel)) rfl
theorem wd_5_109 : Cond.methodLink RX10 (208) yX10_solves ∈ mm_tbl := wq_5 _ (List.mem_of_getElem? (i := 109) (by decide +kernel)) rfl
theorem wd_5_111 : Cond.instanceMethod yX10_solves ∈ mm_tbl := wq_5 _ (List.mem_of_getElem? (i := 111) (by decide +kernel)) rfl
theorem wd_5_112 : Cond.code yX10_solves cX10_solves (4) (some .boolean) ∈ mm_tbl := wq_5 _ (List.mem_of_getElem? (i := 112) (by decide +kernel)) rfl
theorem wd_5_113 : Cond.methodLink RX10 (192) yX10_tells ∈ mm_tbl := wq_5 _ (List.mem_of_getElem? (i := 113) (by decide +kernel)) rfl
theorem wd_5_115 : Cond.instanceMethod yX10_tells ∈ mm_tbl := wq_5 _ (List.mem_of_getElem? (i := 115) (by decide +kernel)) rfl
theorem wd_5_116 : Cond.code yX10_tells cX10_tells (4) none ∈ mm_tbl := wq_5 _ (List.mem_of_getElem? (i := 116) (by decide +kernel)) rfl
theorem wd_5_117 : Cond.methodLink RX10 (196) yX10_determinant ∈ mm_tbl := wq_5 _ (List.mem_of_getElem? (i := 117) (by decide +kernel)) rfl
theorem wd_5_119 : Cond.instanceMethod yX10_determinant ∈ mm_tbl := wq_5 _ (List.mem_of_getElem? (i := 119) (by decide +kernel)) rfl
theorem wd_5_120 : Cond.code yX10_determinant cX10_determinant (7) (some .long) ∈ mm_tbl := wq_5 _ (List.mem_of_getElem? (i := 120) (by decide +kernel)) rfl
theorem wd_5_121 : Cond.methodLink RX10 (189) yX10_bits ∈ mm_tbl := wq_5 _ (List.mem_of_getElem? (i := 121) (by decide +kernel)) rfl
theorem wd_5_122 : Cond.static yX10_bits ∈ mm_tbl := wq_5 _ (List.mem_of_getElem? (i := 122) (by decide +kernel)) rfl
theorem wd_5_123 : Cond.code yX10_bits cX10_bits (3) (some .int) ∈ mm_tbl := wq_5 _ (List.mem_of_getElem? (i := 123) (by decide +kernel)) rfl
theorem wd_5_124 : Cond.constantLong RX10 (211) (-9223372036854775808) ∈ mm_tbl := wq_5 _ (List.mem_of_getElem? (i := 124) (by decide +kernel)) rfl
theorem wd_5_125 : Cond.methodLink RX10 (213) yX10_part ∈ mm_tbl := wq_5 _ (List.mem_of_getElem? (i := 125) (by decide +kernel)) rfl
theorem wd_5_126 : Cond.static yX10_part ∈ mm_tbl := wq_5 _ (List.mem_of_getElem? (i := 126) (by decide +kernel)) rfl
theorem wd_5_127 : Cond.code yX10_part cX10_part (7) (some .long) ∈ mm_tbl := wq_5 _ (List.mem_of_getElem? (i := 127) (by decide +kernel)) rfl
theorem wd_5_128 : Cond.methodLink RX10 (204) yX10_divisor ∈ mm_tbl := wq_5 _ (List.mem_of_getElem? (i := 128) (by decide +kernel)) rfl
theorem wd_5_129 : Cond.static yX10_divisor ∈ mm_tbl := wq_5 _ (List.mem_of_getElem? (i := 129) (by decide +kernel)) rfl
theorem wd_5_130 : Cond.code yX10_divisor cX10_divisor (10) (some .long) ∈ mm_tbl := wq_5 _ (List.mem_of_getElem? (i := 130) (by decide +kernel)) rfl
theorem wd_5_131 : Cond.methodLink RL (63) yX10_between ∈ mm_tbl := wq_5 _ (List.mem_of_getElem? (i := 131) (by decide +kernel)) rfl
theorem wd_5_132 : Cond.instanceMethod yX10_between ∈ mm_tbl := wq_5 _ (List.mem_of_getElem? (i := 132) (by decide +kernel)) rfl
theorem wd_5_133 : Cond.selects RX10 yX10_between yX10_between ∈ mm_tbl := wq_5 _ (List.mem_of_getElem? (i := 133) (by decide +kernel)) rfl
theorem wd_5_134 : Cond.code yX10_between cX10_between (4) (some .long) ∈ mm_tbl := wq_5 _ (List.mem_of_getElem? (i := 134) (by decide +kernel)) rfl
theorem wd_5_135 : Cond.methodLink RL (67) yX10_misfit ∈ mm_tbl := wq_5 _ (List.mem_of_getElem? (i := 135) (by decide +kernel)) rfl
theorem wd_5_136 : Cond.instanceMethod yX10_misfit ∈ mm_tbl := wq_5 _ (List.mem_of_getElem? (i := 136) (by decide +kernel)) rfl
theorem wd_5_137 : Cond.selects RX10 yX10_misfit yX10_misfit ∈ mm_tbl := wq_5 _ (List.mem_of_getElem? (i := 137) (by decide +kernel)) rfl
theorem wd_5_138 : Cond.code yX10_misfit cX10_misfit (8) (some .long) ∈ mm_tbl := wq_5 _ (List.mem_of_getElem? (i := 138) (by decide +kernel)) rfl
theorem wd_5_139 : Cond.methodLink RL (71) yX10_sure ∈ mm_tbl := wq_5 _ (List.mem_of_getElem? (i := 139) (by decide +kernel)) rfl
theorem wd_5_140 : Cond.instanceMethod yX10_sure ∈ mm_tbl := wq_5 _ (List.mem_of_getElem? (i := 140) (by decide +kernel)) rfl
theorem wd_5_141 : Cond.selects RX10 yX10_sure yX10_sure ∈ mm_tbl := wq_5 _ (List.mem_of_getElem? (i := 141) (by decide +kernel)) rfl
theorem wd_5_142 : Cond.code yX10_sure cX10_sure (7) (some .int) ∈ mm_tbl := wq_5 _ (List.mem_of_getElem? (i := 142) (by decide +kernel)) rfl
theorem wd_5_143 : Cond.methodLink RL (75) yX10_crew ∈ mm_tbl := wq_5 _ (List.mem_of_getElem? (i := 143) (by decide +kernel)) rfl
theorem wd_5_144 : Cond.instanceMethod yX10_crew ∈ mm_tbl := wq_5 _ (List.mem_of_getElem? (i := 144) (by decide +kernel)) rfl
theorem wd_5_145 : Cond.selects RX10 yX10_crew yX10_crew ∈ mm_tbl := wq_5 _ (List.mem_of_getElem? (i := 145) (by decide +kernel)) rfl
theorem wd_5_146 : Cond.code yX10_crew cX10_crew (8) (some .int) ∈ mm_tbl := wq_5 _ (List.mem_of_getElem? (i := 146) (by decide +kernel)) rfl
theorem wd_5_147 : Cond.constantLong RX10 (232) (23) ∈ mm_tbl := wq_5 _ (List.mem_of_getElem? (i := 147) (by decide +kernel)) rfl
theorem wd_5_148 : Cond.methodLink RX10 (234) yX10_fillCost ∈ mm_tbl := wq_5 _ (List.mem_of_getElem? (i := 148) (by decide +kernel)) rfl
theorem wd_5_150 : Cond.instanceMethod yX10_fillCost ∈ mm_tbl := wq_5 _ (List.mem_of_getElem? (i := 150) (by decide +kernel)) rfl
theorem wd_5_151 : Cond.code yX10_fillCost cX10_fillCost (10) none ∈ mm_tbl := wq_5 _ (List.mem_of_getElem? (i := 151) (by decide +kernel)) rfl
theorem wd_5_152 : Cond.constant RX10 (224) (1000000) ∈ mm_tbl := wq_5 _ (List.mem_of_getElem? (i := 152) (by decide +kernel)) rfl
theorem wd_5_153 : Cond.methodLink RX10 (225) yX10_canSit ∈ mm_tbl := wq_5 _ (List.mem_of_getElem? (i := 153) (by decide +kernel)) rfl
theorem wd_5_155 : Cond.instanceMethod yX10_canSit ∈ mm_tbl := wq_5 _ (List.mem_of_getElem? (i := 155) (by decide +kernel)) rfl
theorem wd_5_156 : Cond.code yX10_canSit cX10_canSit (5) (some .boolean) ∈ mm_tbl := wq_5 _ (List.mem_of_getElem? (i := 156) (by decide +kernel)) rfl
theorem wd_5_157 : Cond.methodLink RX10 (221) yX10_mayBeOut ∈ mm_tbl := wq_5 _ (List.mem_of_getElem? (i := 157) (by decide +kernel)) rfl
theorem wd_5_159 : Cond.instanceMethod yX10_mayBeOut ∈ mm_tbl := wq_5 _ (List.mem_of_getElem? (i := 159) (by decide +kernel)) rfl
theorem wd_5_160 : Cond.code yX10_mayBeOut cX10_mayBeOut (3) (some .boolean) ∈ mm_tbl := wq_5 _ (List.mem_of_getElem? (i := 160) (by decide +kernel)) rfl
theorem wd_5_161 : Cond.methodLink RX10 (229) yX10_costOf ∈ mm_tbl := wq_5 _ (List.mem_of_getElem? (i := 161) (by decide +kernel)) rfl
theorem wd_5_163 : Cond.instanceMethod yX10_costOf ∈ mm_tbl := wq_5 _ (List.mem_of_getElem? (i := 163) (by decide +kernel)) rfl
theorem wd_5_164 : Cond.code yX10_costOf cX10_costOf (5) (some .int) ∈ mm_tbl := wq_5 _ (List.mem_of_getElem? (i := 164) (by decide +kernel)) rfl
theorem wd_5_165 : Cond.methodLink RX10 (217) yX10_dislikes ∈ mm_tbl := wq_5 _ (List.mem_of_getElem? (i := 165) (by decide +kernel)) rfl
theorem wd_5_167 : Cond.instanceMethod yX10_dislikes ∈ mm_tbl := wq_5 _ (List.mem_of_getElem? (i := 167) (by decide +kernel)) rfl
theorem wd_5_168 : Cond.code yX10_dislikes cX10_dislikes (6) (some .int) ∈ mm_tbl := wq_5 _ (List.mem_of_getElem? (i := 168) (by decide +kernel)) rfl
theorem wd_5_169 : Cond.methodLink RL (79) yX10_water ∈ mm_tbl := wq_5 _ (List.mem_of_getElem? (i := 169) (by decide +kernel)) rfl
theorem wd_5_170 : Cond.instanceMethod yX10_water ∈ mm_tbl := wq_5 _ (List.mem_of_getElem? (i := 170) (by decide +kernel)) rfl
theorem wd_5_171 : Cond.selects RX10 yX10_water yX10_water ∈ mm_tbl := wq_5 _ (List.mem_of_getElem? (i := 171) (by decide +kernel)) rfl
theorem wd_5_172 : Cond.code yX10_water cX10_water (4) (some .int) ∈ mm_tbl := wq_5 _ (List.mem_of_getElem? (i := 172) (by decide +kernel)) rfl
theorem wd_5_173 : Cond.constantLong RX10 (238) (29) ∈ mm_tbl := wq_5 _ (List.mem_of_getElem? (i := 173) (by decide +kernel)) rfl
theorem wd_5_174 : Cond.constantLong RX10 (240) (200) ∈ mm_tbl := wq_5 _ (List.mem_of_getElem? (i := 174) (by decide +kernel)) rfl
theorem wd_5_175 : Cond.constantLong RX10 (242) (12) ∈ mm_tbl := wq_5 _ (List.mem_of_getElem? (i := 175) (by decide +kernel)) rfl
theorem wd_5_176 : Cond.methodLink RL (86) yX10_feed ∈ mm_tbl := wq_5 _ (List.mem_of_getElem? (i := 176) (by decide +kernel)) rfl
theorem wd_5_177 : Cond.instanceMethod yX10_feed ∈ mm_tbl := wq_5 _ (List.mem_of_getElem? (i := 177) (by decide +kernel)) rfl
theorem wd_5_178 : Cond.selects RX10 yX10_feed yX10_feed ∈ mm_tbl := wq_5 _ (List.mem_of_getElem? (i := 178) (by decide +kernel)) rfl
theorem wd_5_179 : Cond.code yX10_feed cX10_feed (5) (some .int) ∈ mm_tbl := wq_5 _ (List.mem_of_getElem? (i := 179) (by decide +kernel)) rfl
theorem wd_5_180 : Cond.constantLong RX10 (244) (8) ∈ mm_tbl := wq_5 _ (List.mem_of_getElem? (i := 180) (by decide +kernel)) rfl
theorem wd_5_181 : Cond.constantLong RX10 (249) (255) ∈ mm_tbl := wq_5 _ (List.mem_of_getElem? (i := 181) (by decide +kernel)) rfl
theorem wd_5_182 : Cond.methodLink RL (90) yX10_rule ∈ mm_tbl := wq_5 _ (List.mem_of_getElem? (i := 182) (by decide +kernel)) rfl
theorem wd_5_183 : Cond.instanceMethod yX10_rule ∈ mm_tbl := wq_5 _ (List.mem_of_getElem? (i := 183) (by decide +kernel)) rfl
theorem wd_5_184 : Cond.selects RX10 yX10_rule yX10_rule ∈ mm_tbl := wq_5 _ (List.mem_of_getElem? (i := 184) (by decide +kernel)) rfl
theorem wd_5_185 : Cond.code yX10_rule cX10_rule (2) (some .int) ∈ mm_tbl := wq_5 _ (List.mem_of_getElem? (i := 185) (by decide +kernel)) rfl
theorem wd_5_186 : Cond.methodLink RX10 (289) yX10_parses ∈ mm_tbl := wq_5 _ (List.mem_of_getElem? (i := 186) (by decide +kernel)) rfl
theorem wd_5_188 : Cond.instanceMethod yX10_parses ∈ mm_tbl := wq_5 _ (List.mem_of_getElem? (i := 188) (by decide +kernel)) rfl
theorem wd_5_189 : Cond.code yX10_parses cX10_parses (3) (some .boolean) ∈ mm_tbl := wq_5 _ (List.mem_of_getElem? (i := 189) (by decide +kernel)) rfl
theorem wd_5_190 : Cond.methodLink RX10 (278) yX10_word ∈ mm_tbl := wq_5 _ (List.mem_of_getElem? (i := 190) (by decide +kernel)) rfl
theorem wd_5_192 : Cond.instanceMethod yX10_word ∈ mm_tbl := wq_5 _ (List.mem_of_getElem? (i := 192) (by decide +kernel)) rfl
theorem wd_5_193 : Cond.code yX10_word cX10_word (7) (some .int) ∈ mm_tbl := wq_5 _ (List.mem_of_getElem? (i := 193) (by decide +kernel)) rfl
theorem wd_5_194 : Cond.methodLink RX10 (265) yX10_fits ∈ mm_tbl := wq_5 _ (List.mem_of_getElem? (i := 194) (by decide +kernel)) rfl
theorem wd_5_196 : Cond.instanceMethod yX10_fits ∈ mm_tbl := wq_5 _ (List.mem_of_getElem? (i := 196) (by decide +kernel)) rfl
theorem wd_5_197 : Cond.code yX10_fits cX10_fits (5) (some .boolean) ∈ mm_tbl := wq_5 _ (List.mem_of_getElem? (i := 197) (by decide +kernel)) rfl
theorem wd_5_198 : Cond.methodLink RX10 (268) yX10_letter ∈ mm_tbl := wq_5 _ (List.mem_of_getElem? (i := 198) (by decide +kernel)) rfl
theorem wd_5_199 : Cond.static yX10_letter ∈ mm_tbl := wq_5 _ (List.mem_of_getElem? (i := 199) (by decide +kernel)) rfl
theorem wd_5_200 : Cond.code yX10_letter cX10_letter (8) (some .int) ∈ mm_tbl := wq_5 _ (List.mem_of_getElem? (i := 200) (by decide +kernel)) rfl
theorem wd_5_201 : Cond.methodLink RX10 (254) yX10_wordOf ∈ mm_tbl := wq_5 _ (List.mem_of_getElem? (i := 201) (by decide +kernel)) rfl
theorem wd_5_202 : Cond.static yX10_wordOf ∈ mm_tbl := wq_5 _ (List.mem_of_getElem? (i := 202) (by decide +kernel)) rfl
theorem wd_5_203 : Cond.code yX10_wordOf cX10_wordOf (1) (some .long) ∈ mm_tbl := wq_5 _ (List.mem_of_getElem? (i := 203) (by decide +kernel)) rfl
theorem wd_5_204 : Cond.methodLink RX10 (259) yX10_spelled ∈ mm_tbl := wq_5 _ (List.mem_of_getElem? (i := 204) (by decide +kernel)) rfl
theorem wd_5_205 : Cond.static yX10_spelled ∈ mm_tbl := wq_5 _ (List.mem_of_getElem? (i := 205) (by decide +kernel)) rfl
theorem wd_5_206 : Cond.code yX10_spelled cX10_spelled (8) (some .long) ∈ mm_tbl := wq_5 _ (List.mem_of_getElem? (i := 206) (by decide +kernel)) rfl
theorem wd_5_207 : Cond.constantLong RX10 (263) (27) ∈ mm_tbl := wq_5 _ (List.mem_of_getElem? (i := 207) (by decide +kernel)) rfl
theorem wd_5_208 : Cond.constantLong RX10 (257) (31) ∈ mm_tbl := wq_5 _ (List.mem_of_getElem? (i := 208) (by decide +kernel)) rfl
theorem wd_5_209 : Cond.methodLink RX10 (271) yX10_sign ∈ mm_tbl := wq_5 _ (List.mem_of_getElem? (i := 209) (by decide +kernel)) rfl
theorem wd_5_211 : Cond.instanceMethod yX10_sign ∈ mm_tbl := wq_5 _ (List.mem_of_getElem? (i := 211) (by decide +kernel)) rfl
theorem wd_5_212 : Cond.code yX10_sign cX10_sign (1) (some .int) ∈ mm_tbl := wq_5 _ (List.mem_of_getElem? (i := 212) (by decide +kernel)) rfl
theorem wd_5_213 : Cond.methodLink RX10 (275) yX10_takes ∈ mm_tbl := wq_5 _ (List.mem_of_getElem? (i := 213) (by decide +kernel)) rfl
theorem wd_5_215 : Cond.instanceMethod yX10_takes ∈ mm_tbl := wq_5 _ (List.mem_of_getElem? (i := 215) (by decide +kernel)) rfl
theorem wd_5_216 : Cond.code yX10_takes cX10_takes (2) (some .boolean) ∈ mm_tbl := wq_5 _ (List.mem_of_getElem? (i := 216) (by decide +kernel)) rfl
theorem wd_5_217 : Cond.methodLink RX10 (287) yX10_test ∈ mm_tbl := wq_5 _ (List.mem_of_getElem? (i := 217) (by decide +kernel)) rfl
theorem wd_5_219 : Cond.instanceMethod yX10_test ∈ mm_tbl := wq_5 _ (List.mem_of_getElem? (i := 219) (by decide +kernel)) rfl
theorem wd_5_220 : Cond.code yX10_test cX10_test (7) (some .boolean) ∈ mm_tbl := wq_5 _ (List.mem_of_getElem? (i := 220) (by decide +kernel)) rfl
theorem wd_5_221 : Cond.methodLink RX10 (281) yX10_isDigit ∈ mm_tbl := wq_5 _ (List.mem_of_getElem? (i := 221) (by decide +kernel)) rfl
theorem wd_5_222 : Cond.static yX10_isDigit ∈ mm_tbl := wq_5 _ (List.mem_of_getElem? (i := 222) (by decide +kernel)) rfl
theorem wd_5_223 : Cond.code yX10_isDigit cX10_isDigit (1) (some .boolean) ∈ mm_tbl := wq_5 _ (List.mem_of_getElem? (i := 223) (by decide +kernel)) rfl
theorem wd_5_224 : Cond.methodLink RL (94) yX10_ruled ∈ mm_tbl := wq_5 _ (List.mem_of_getElem? (i := 224) (by decide +kernel)) rfl
theorem wd_5_225 : Cond.instanceMethod yX10_ruled ∈ mm_tbl := wq_5 _ (List.mem_of_getElem? (i := 225) (by decide +kernel)) rfl
theorem wd_5_226 : Cond.selects RX10 yX10_ruled yX10_ruled ∈ mm_tbl := wq_5 _ (List.mem_of_getElem? (i := 226) (by decide +kernel)) rfl
theorem wd_5_227 : Cond.code yX10_ruled cX10_ruled (3) (some .int) ∈ mm_tbl := wq_5 _ (List.mem_of_getElem? (i := 227) (by decide +kernel)) rfl
theorem wd_5_228 : Cond.methodLink RX10 (302) yX10_asked ∈ mm_tbl := wq_5 _ (List.mem_of_getElem? (i := 228) (by decide +kernel)) rfl
theorem wd_5_230 : Cond.instanceMethod yX10_asked ∈ mm_tbl := wq_5 _ (List.mem_of_getElem? (i := 230) (by decide +kernel)) rfl
theorem wd_5_231 : Cond.code yX10_asked cX10_asked (7) (some .int) ∈ mm_tbl := wq_5 _ (List.mem_of_getElem? (i := 231) (by decide +kernel)) rfl
theorem wd_5_232 : Cond.methodLink RX10 (299) yX10_isSo ∈ mm_tbl := wq_5 _ (List.mem_of_getElem? (i := 232) (by decide +kernel)) rfl
theorem wd_5_234 : Cond.instanceMethod yX10_isSo ∈ mm_tbl := wq_5 _ (List.mem_of_getElem? (i := 234) (by decide +kernel)) rfl
theorem wd_5_235 : Cond.code yX10_isSo cX10_isSo (6) (some .boolean) ∈ mm_tbl := wq_5 _ (List.mem_of_getElem? (i := 235) (by decide +kernel)) rfl
theorem wd_5_236 : Cond.methodLink RX10 (296) yX10_field ∈ mm_tbl := wq_5 _ (List.mem_of_getElem? (i := 236) (by decide +kernel)) rfl
theorem wd_5_238 : Cond.instanceMethod yX10_field ∈ mm_tbl := wq_5 _ (List.mem_of_getElem? (i := 238) (by decide +kernel)) rfl
theorem wd_5_239 : Cond.code yX10_field cX10_field (8) (some .int) ∈ mm_tbl := wq_5 _ (List.mem_of_getElem? (i := 239) (by decide +kernel)) rfl
theorem wd_6_0 : Cond.methodLink RL (98) yX10_may ∈ mm_tbl := wq_6 _ (List.mem_of_getElem? (i := 0) (by decide +kernel)) rfl
theorem wd_6_1 : Cond.instanceMethod yX10_may ∈ mm_tbl := wq_6 _ (List.mem_of_getElem? (i := 1) (by decide +kernel)) rfl
theorem wd_6_2 : Cond.selects RX10 yX10_may yX10_may ∈ mm_tbl := wq_6 _ (List.mem_of_getElem? (i := 2) (by decide +kernel)) rfl
theorem wd_6_3 : Cond.code yX10_may cX10_may (3) (some .int) ∈ mm_tbl := wq_6 _ (List.mem_of_getElem? (i := 3) (by decide +kernel)) rfl
theorem wd_6_4 : Cond.methodLink RX10 (305) yX10_ashore ∈ mm_tbl := wq_6 _ (List.mem_of_getElem? (i := 4) (by decide +kernel)) rfl
theorem wd_6_6 : Cond.instanceMethod yX10_ashore ∈ mm_tbl := wq_6 _ (List.mem_of_getElem? (i := 6) (by decide +kernel)) rfl
theorem wd_6_7 : Cond.code yX10_ashore cX10_ashore (6) (some .int) ∈ mm_tbl := wq_6 _ (List.mem_of_getElem? (i := 7) (by decide +kernel)) rfl
theorem wd_6_8 : Cond.methodLink RL (102) yX10_day ∈ mm_tbl := wq_6 _ (List.mem_of_getElem? (i := 8) (by decide +kernel)) rfl
theorem wd_6_9 : Cond.instanceMethod yX10_day ∈ mm_tbl := wq_6 _ (List.mem_of_getElem? (i := 9) (by decide +kernel)) rfl
theorem wd_6_10 : Cond.selects RX10 yX10_day yX10_day ∈ mm_tbl := wq_6 _ (List.mem_of_getElem? (i := 10) (by decide +kernel)) rfl
theorem wd_6_11 : Cond.code yX10_day cX10_day (3) (some .int) ∈ mm_tbl := wq_6 _ (List.mem_of_getElem? (i := 11) (by decide +kernel)) rfl
theorem wd_6_12 : Cond.methodLink RL (106) yX10_out ∈ mm_tbl := wq_6 _ (List.mem_of_getElem? (i := 12) (by decide +kernel)) rfl
theorem wd_6_13 : Cond.instanceMethod yX10_out ∈ mm_tbl := wq_6 _ (List.mem_of_getElem? (i := 13) (by decide +kernel)) rfl
theorem wd_6_14 : Cond.selects RX10 yX10_out yX10_out ∈ mm_tbl := wq_6 _ (List.mem_of_getElem? (i := 14) (by decide +kernel)) rfl
theorem wd_6_15 : Cond.code yX10_out cX10_out (3) (some .int) ∈ mm_tbl := wq_6 _ (List.mem_of_getElem? (i := 15) (by decide +kernel)) rfl
theorem wd_6_16 : Cond.methodLink RX10 (311) yX10_whoIn ∈ mm_tbl := wq_6 _ (List.mem_of_getElem? (i := 16) (by decide +kernel)) rfl
theorem wd_6_18 : Cond.instanceMethod yX10_whoIn ∈ mm_tbl := wq_6 _ (List.mem_of_getElem? (i := 18) (by decide +kernel)) rfl
theorem wd_6_19 : Cond.code yX10_whoIn cX10_whoIn (4) (some .int) ∈ mm_tbl := wq_6 _ (List.mem_of_getElem? (i := 19) (by decide +kernel)) rfl
theorem wd_6_20 : Cond.methodLink RL (110) yX10_look ∈ mm_tbl := wq_6 _ (List.mem_of_getElem? (i := 20) (by decide +kernel)) rfl
theorem wd_6_21 : Cond.instanceMethod yX10_look ∈ mm_tbl := wq_6 _ (List.mem_of_getElem? (i := 21) (by decide +kernel)) rfl
theorem wd_6_22 : Cond.selects RX10 yX10_look yX10_look ∈ mm_tbl := wq_6 _ (List.mem_of_getElem? (i := 22) (by decide +kernel)) rfl
theorem wd_6_23 : Cond.code yX10_look cX10_look (3) (some .int) ∈ mm_tbl := wq_6 _ (List.mem_of_getElem? (i := 23) (by decide +kernel)) rfl
theorem wd_6_24 : Cond.methodLink RL (114) yX10_broke ∈ mm_tbl := wq_6 _ (List.mem_of_getElem? (i := 24) (by decide +kernel)) rfl
theorem wd_6_25 : Cond.instanceMethod yX10_broke ∈ mm_tbl := wq_6 _ (List.mem_of_getElem? (i := 25) (by decide +kernel)) rfl
theorem wd_6_26 : Cond.selects RX10 yX10_broke yX10_broke ∈ mm_tbl := wq_6 _ (List.mem_of_getElem? (i := 26) (by decide +kernel)) rfl
theorem wd_6_27 : Cond.code yX10_broke cX10_broke (8) (some .int) ∈ mm_tbl := wq_6 _ (List.mem_of_getElem? (i := 27) (by decide +kernel)) rfl
theorem wd_6_28 : Cond.constantLong RX10 (317) (2) ∈ mm_tbl := wq_6 _ (List.mem_of_getElem? (i := 28) (by decide +kernel)) rfl
theorem wd_6_29 : Cond.methodLink RL (118) yX10_outing ∈ mm_tbl := wq_6 _ (List.mem_of_getElem? (i := 29) (by decide +kernel)) rfl
theorem wd_6_30 : Cond.instanceMethod yX10_outing ∈ mm_tbl := wq_6 _ (List.mem_of_getElem? (i := 30) (by decide +kernel)) rfl
theorem wd_6_31 : Cond.selects RX10 yX10_outing yX10_outing ∈ mm_tbl := wq_6 _ (List.mem_of_getElem? (i := 31) (by decide +kernel)) rfl
theorem wd_6_32 : Cond.code yX10_outing cX10_outing (3) (some .int) ∈ mm_tbl := wq_6 _ (List.mem_of_getElem? (i := 32) (by decide +kernel)) rfl
theorem wd_6_33 : Cond.methodLink RL (122) yX10_heat ∈ mm_tbl := wq_6 _ (List.mem_of_getElem? (i := 33) (by decide +kernel)) rfl
theorem wd_6_34 : Cond.instanceMethod yX10_heat ∈ mm_tbl := wq_6 _ (List.mem_of_getElem? (i := 34) (by decide +kernel)) rfl
theorem wd_6_35 : Cond.selects RX10 yX10_heat yX10_heat ∈ mm_tbl := wq_6 _ (List.mem_of_getElem? (i := 35) (by decide +kernel)) rfl
theorem wd_6_36 : Cond.code yX10_heat cX10_heat (3) (some .int) ∈ mm_tbl := wq_6 _ (List.mem_of_getElem? (i := 36) (by decide +kernel)) rfl
theorem wd_6_37 : Cond.constantLong RX10 (319) (1439) ∈ mm_tbl := wq_6 _ (List.mem_of_getElem? (i := 37) (by decide +kernel)) rfl
theorem wd_6_38 : Cond.methodLink RL (126) yX10_near ∈ mm_tbl := wq_6 _ (List.mem_of_getElem? (i := 38) (by decide +kernel)) rfl
theorem wd_6_39 : Cond.instanceMethod yX10_near ∈ mm_tbl := wq_6 _ (List.mem_of_getElem? (i := 39) (by decide +kernel)) rfl
theorem wd_6_40 : Cond.selects RX10 yX10_near yX10_near ∈ mm_tbl := wq_6 _ (List.mem_of_getElem? (i := 40) (by decide +kernel)) rfl
theorem wd_6_41 : Cond.code yX10_near cX10_near (3) (some .int) ∈ mm_tbl := wq_6 _ (List.mem_of_getElem? (i := 41) (by decide +kernel)) rfl
theorem wd_6_42 : Cond.methodLink RL (130) yX10_clashes ∈ mm_tbl := wq_6 _ (List.mem_of_getElem? (i := 42) (by decide +kernel)) rfl
theorem wd_6_43 : Cond.instanceMethod yX10_clashes ∈ mm_tbl := wq_6 _ (List.mem_of_getElem? (i := 43) (by decide +kernel)) rfl
theorem wd_6_44 : Cond.selects RX10 yX10_clashes yX10_clashes ∈ mm_tbl := wq_6 _ (List.mem_of_getElem? (i := 44) (by decide +kernel)) rfl
theorem wd_6_45 : Cond.code yX10_clashes cX10_clashes (4) (some .int) ∈ mm_tbl := wq_6 _ (List.mem_of_getElem? (i := 45) (by decide +kernel)) rfl
theorem wd_6_46 : Cond.methodLink RX10 (324) yX10_clash ∈ mm_tbl := wq_6 _ (List.mem_of_getElem? (i := 46) (by decide +kernel)) rfl
theorem wd_6_48 : Cond.instanceMethod yX10_clash ∈ mm_tbl := wq_6 _ (List.mem_of_getElem? (i := 48) (by decide +kernel)) rfl
theorem wd_6_49 : Cond.code yX10_clash cX10_clash (5) (some .boolean) ∈ mm_tbl := wq_6 _ (List.mem_of_getElem? (i := 49) (by decide +kernel)) rfl
theorem wd_6_50 : Cond.methodLink RL (134) yX10_shift ∈ mm_tbl := wq_6 _ (List.mem_of_getElem? (i := 50) (by decide +kernel)) rfl
theorem wd_6_51 : Cond.instanceMethod yX10_shift ∈ mm_tbl := wq_6 _ (List.mem_of_getElem? (i := 51) (by decide +kernel)) rfl
theorem wd_6_52 : Cond.selects RX10 yX10_shift yX10_shift ∈ mm_tbl := wq_6 _ (List.mem_of_getElem? (i := 52) (by decide +kernel)) rfl
theorem wd_6_53 : Cond.code yX10_shift cX10_shift (5) (some .int) ∈ mm_tbl := wq_6 _ (List.mem_of_getElem? (i := 53) (by decide +kernel)) rfl
theorem wd_6_54 : Cond.methodLink RL (138) yX10_trailer ∈ mm_tbl := wq_6 _ (List.mem_of_getElem? (i := 54) (by decide +kernel)) rfl
theorem wd_6_55 : Cond.instanceMethod yX10_trailer ∈ mm_tbl := wq_6 _ (List.mem_of_getElem? (i := 55) (by decide +kernel)) rfl
theorem wd_6_56 : Cond.selects RX10 yX10_trailer yX10_trailer ∈ mm_tbl := wq_6 _ (List.mem_of_getElem? (i := 56) (by decide +kernel)) rfl
theorem wd_6_57 : Cond.code yX10_trailer cX10_trailer (8) (some .int) ∈ mm_tbl := wq_6 _ (List.mem_of_getElem? (i := 57) (by decide +kernel)) rfl
theorem wd_6_58 : Cond.methodLink RX10 (327) yX10_longest ∈ mm_tbl := wq_6 _ (List.mem_of_getElem? (i := 58) (by decide +kernel)) rfl
theorem wd_6_60 : Cond.instanceMethod yX10_longest ∈ mm_tbl := wq_6 _ (List.mem_of_getElem? (i := 60) (by decide +kernel)) rfl
theorem wd_6_61 : Cond.code yX10_longest cX10_longest (5) (some .int) ∈ mm_tbl := wq_6 _ (List.mem_of_getElem? (i := 61) (by decide +kernel)) rfl
theorem wd_6_62 : Cond.methodLink RL (142) yX10_rack ∈ mm_tbl := wq_6 _ (List.mem_of_getElem? (i := 62) (by decide +kernel)) rfl
theorem wd_6_63 : Cond.instanceMethod yX10_rack ∈ mm_tbl := wq_6 _ (List.mem_of_getElem? (i := 63) (by decide +kernel)) rfl
theorem wd_6_64 : Cond.selects RX10 yX10_rack yX10_rack ∈ mm_tbl := wq_6 _ (List.mem_of_getElem? (i := 64) (by decide +kernel)) rfl
theorem wd_6_65 : Cond.code yX10_rack cX10_rack (2) (some .int) ∈ mm_tbl := wq_6 _ (List.mem_of_getElem? (i := 65) (by decide +kernel)) rfl
theorem wd_6_66 : Cond.methodLink RL (146) yX10_count ∈ mm_tbl := wq_6 _ (List.mem_of_getElem? (i := 66) (by decide +kernel)) rfl
theorem wd_6_67 : Cond.instanceMethod yX10_count ∈ mm_tbl := wq_6 _ (List.mem_of_getElem? (i := 67) (by decide +kernel)) rfl
theorem wd_6_68 : Cond.selects RX10 yX10_count yX10_count ∈ mm_tbl := wq_6 _ (List.mem_of_getElem? (i := 68) (by decide +kernel)) rfl
theorem wd_6_69 : Cond.code yX10_count cX10_count (2) (some .int) ∈ mm_tbl := wq_6 _ (List.mem_of_getElem? (i := 69) (by decide +kernel)) rfl
theorem wd_6_70 : Cond.constantLong RL (80) (4294967295) ∈ mm_tbl := wq_6 _ (List.mem_of_getElem? (i := 70) (by decide +kernel)) rfl
theorem wd_6_71 : Cond.fieldLink RJ0 (9) RJ0 "value" "[B" ∈ mm_tbl := wq_6 _ (List.mem_of_getElem? (i := 71) (by decide +kernel)) rfl
theorem wd_6_72 : Cond.fieldLink RJ0 (15) RJ0 "coder" "B" ∈ mm_tbl := wq_6 _ (List.mem_of_getElem? (i := 72) (by decide +kernel)) rfl
theorem wd_p_0 : Cond.selects RX4 yX4_numberRows yX4_numberRows ∈ mm_tbl := wq_p _ (List.mem_of_getElem? (i := 0) (by decide +kernel)) rfl
theorem wd_p_1 : Cond.selects RX4 yX4_fillCells yX4_fillCells ∈ mm_tbl := wq_p _ (List.mem_of_getElem? (i := 1) (by decide +kernel)) rfl
theorem wd_p_2 : Cond.selects RX4 yX4_addToRow yX4_addToRow ∈ mm_tbl := wq_p _ (List.mem_of_getElem? (i := 2) (by decide +kernel)) rfl
theorem wd_p_3 : Cond.selects RX4 yX4_eliminate yX4_eliminate ∈ mm_tbl := wq_p _ (List.mem_of_getElem? (i := 3) (by decide +kernel)) rfl
theorem wd_p_4 : Cond.selects RX4 yX4_clearCell yX4_clearCell ∈ mm_tbl := wq_p _ (List.mem_of_getElem? (i := 4) (by decide +kernel)) rfl
theorem wd_p_5 : Cond.selects RX4 yX4_leadOver yX4_leadOver ∈ mm_tbl := wq_p _ (List.mem_of_getElem? (i := 5) (by decide +kernel)) rfl
theorem wd_p_6 : Cond.selects RX1 yX1_fillRow yX1_fillRow ∈ mm_tbl := wq_p _ (List.mem_of_getElem? (i := 6) (by decide +kernel)) rfl
theorem wd_p_7 : Cond.selects RX1 yX1_setPrices yX1_setPrices ∈ mm_tbl := wq_p _ (List.mem_of_getElem? (i := 7) (by decide +kernel)) rfl
theorem wd_p_8 : Cond.selects RX1 yX1_choose yX1_choose ∈ mm_tbl := wq_p _ (List.mem_of_getElem? (i := 8) (by decide +kernel)) rfl
theorem wd_p_9 : Cond.selects RX8 yX8_countSame yX8_countSame ∈ mm_tbl := wq_p _ (List.mem_of_getElem? (i := 9) (by decide +kernel)) rfl
theorem wd_p_10 : Cond.selects RX7 yX7_readTests yX7_readTests ∈ mm_tbl := wq_p _ (List.mem_of_getElem? (i := 10) (by decide +kernel)) rfl
theorem wd_p_11 : Cond.selects RX7 yX7_readTest yX7_readTest ∈ mm_tbl := wq_p _ (List.mem_of_getElem? (i := 11) (by decide +kernel)) rfl
theorem wd_p_12 : Cond.selects RX9 yX9_askedRule yX9_askedRule ∈ mm_tbl := wq_p _ (List.mem_of_getElem? (i := 12) (by decide +kernel)) rfl
theorem wd_p_13 : Cond.selects RX7 yX7_testsHold yX7_testsHold ∈ mm_tbl := wq_p _ (List.mem_of_getElem? (i := 13) (by decide +kernel)) rfl
theorem wd_p_14 : Cond.selects RX7 yX7_isSo yX7_isSo ∈ mm_tbl := wq_p _ (List.mem_of_getElem? (i := 14) (by decide +kernel)) rfl
theorem wd_p_15 : Cond.selects RX9 yX9_whyAshore yX9_whyAshore ∈ mm_tbl := wq_p _ (List.mem_of_getElem? (i := 15) (by decide +kernel)) rfl
theorem wd_p_16 : Cond.selects RX3 yX3_latestLook yX3_latestLook ∈ mm_tbl := wq_p _ (List.mem_of_getElem? (i := 16) (by decide +kernel)) rfl
theorem wd_p_17 : Cond.selects RX3 yX3_firstBehind yX3_firstBehind ∈ mm_tbl := wq_p _ (List.mem_of_getElem? (i := 17) (by decide +kernel)) rfl
theorem wd_p_18 : Cond.selects RX2 yX2_wouldClash yX2_wouldClash ∈ mm_tbl := wq_p _ (List.mem_of_getElem? (i := 18) (by decide +kernel)) rfl
theorem wd_p_19 : Cond.selects RX2 yX2_firstClash yX2_firstClash ∈ mm_tbl := wq_p _ (List.mem_of_getElem? (i := 19) (by decide +kernel)) rfl
theorem wd_p_20 : Cond.selects RX5 yX5_longestRow yX5_longestRow ∈ mm_tbl := wq_p _ (List.mem_of_getElem? (i := 20) (by decide +kernel)) rfl
theorem wd_p_21 : Cond.selects RX10 yX10_isOar yX10_isOar ∈ mm_tbl := wq_p _ (List.mem_of_getElem? (i := 21) (by decide +kernel)) rfl
theorem wd_p_22 : Cond.selects RX10 yX10_isSeat yX10_isSeat ∈ mm_tbl := wq_p _ (List.mem_of_getElem? (i := 22) (by decide +kernel)) rfl
theorem wd_p_23 : Cond.selects RX10 yX10_isBoat yX10_isBoat ∈ mm_tbl := wq_p _ (List.mem_of_getElem? (i := 23) (by decide +kernel)) rfl
theorem wd_p_24 : Cond.selects RX10 yX10_seatsOf yX10_seatsOf ∈ mm_tbl := wq_p _ (List.mem_of_getElem? (i := 24) (by decide +kernel)) rfl
theorem wd_p_25 : Cond.selects RX10 yX10_hasCox yX10_hasCox ∈ mm_tbl := wq_p _ (List.mem_of_getElem? (i := 25) (by decide +kernel)) rfl
theorem wd_p_26 : Cond.selects RX10 yX10_sitter yX10_sitter ∈ mm_tbl := wq_p _ (List.mem_of_getElem? (i := 26) (by decide +kernel)) rfl
theorem wd_p_27 : Cond.selects RX10 yX10_findGroups yX10_findGroups ∈ mm_tbl := wq_p _ (List.mem_of_getElem? (i := 27) (by decide +kernel)) rfl
theorem wd_p_28 : Cond.selects RX10 yX10_solves yX10_solves ∈ mm_tbl := wq_p _ (List.mem_of_getElem? (i := 28) (by decide +kernel)) rfl
theorem wd_p_29 : Cond.selects RX10 yX10_tells yX10_tells ∈ mm_tbl := wq_p _ (List.mem_of_getElem? (i := 29) (by decide +kernel)) rfl
theorem wd_p_30 : Cond.selects RX10 yX10_determinant yX10_determinant ∈ mm_tbl := wq_p _ (List.mem_of_getElem? (i := 30) (by decide +kernel)) rfl
theorem wd_p_31 : Cond.selects RX10 yX10_fillCost yX10_fillCost ∈ mm_tbl := wq_p _ (List.mem_of_getElem? (i := 31) (by decide +kernel)) rfl
theorem wd_p_32 : Cond.selects RX10 yX10_canSit yX10_canSit ∈ mm_tbl := wq_p _ (List.mem_of_getElem? (i := 32) (by decide +kernel)) rfl
theorem wd_p_33 : Cond.selects RX10 yX10_mayBeOut yX10_mayBeOut ∈ mm_tbl := wq_p _ (List.mem_of_getElem? (i := 33) (by decide +kernel)) rfl
theorem wd_p_34 : Cond.selects RX10 yX10_costOf yX10_costOf ∈ mm_tbl := wq_p _ (List.mem_of_getElem? (i := 34) (by decide +kernel)) rfl
theorem wd_p_35 : Cond.selects RX10 yX10_dislikes yX10_dislikes ∈ mm_tbl := wq_p _ (List.mem_of_getElem? (i := 35) (by decide +kernel)) rfl
theorem wd_p_36 : Cond.selects RX10 yX10_parses yX10_parses ∈ mm_tbl := wq_p _ (List.mem_of_getElem? (i := 36) (by decide +kernel)) rfl
theorem wd_p_37 : Cond.selects RX10 yX10_word yX10_word ∈ mm_tbl := wq_p _ (List.mem_of_getElem? (i := 37) (by decide +kernel)) rfl
theorem wd_p_38 : Cond.selects RX10 yX10_fits yX10_fits ∈ mm_tbl := wq_p _ (List.mem_of_getElem? (i := 38) (by decide +kernel)) rfl
theorem wd_p_39 : Cond.selects RX10 yX10_sign yX10_sign ∈ mm_tbl := wq_p _ (List.mem_of_getElem? (i := 39) (by decide +kernel)) rfl
theorem wd_p_40 : Cond.selects RX10 yX10_takes yX10_takes ∈ mm_tbl := wq_p _ (List.mem_of_getElem? (i := 40) (by decide +kernel)) rfl
theorem wd_p_41 : Cond.selects RX10 yX10_test yX10_test ∈ mm_tbl := wq_p _ (List.mem_of_getElem? (i := 41) (by decide +kernel)) rfl
theorem wd_p_42 : Cond.selects RX10 yX10_asked yX10_asked ∈ mm_tbl := wq_p _ (List.mem_of_getElem? (i := 42) (by decide +kernel)) rfl
theorem wd_p_43 : Cond.selects RX10 yX10_isSo yX10_isSo ∈ mm_tbl := wq_p _ (List.mem_of_getElem? (i := 43) (by decide +kernel)) rfl
theorem wd_p_44 : Cond.selects RX10 yX10_field yX10_field ∈ mm_tbl := wq_p _ (List.mem_of_getElem? (i := 44) (by decide +kernel)) rfl
theorem wd_p_45 : Cond.selects RX10 yX10_ashore yX10_ashore ∈ mm_tbl := wq_p _ (List.mem_of_getElem? (i := 45) (by decide +kernel)) rfl
theorem wd_p_46 : Cond.selects RX10 yX10_whoIn yX10_whoIn ∈ mm_tbl := wq_p _ (List.mem_of_getElem? (i := 46) (by decide +kernel)) rfl
theorem wd_p_47 : Cond.selects RX10 yX10_clash yX10_clash ∈ mm_tbl := wq_p _ (List.mem_of_getElem? (i := 47) (by decide +kernel)) rfl
theorem wd_p_48 : Cond.selects RX10 yX10_longest yX10_longest ∈ mm_tbl := wq_p _ (List.mem_of_getElem? (i := 48) (by decide +kernel)) rfl
