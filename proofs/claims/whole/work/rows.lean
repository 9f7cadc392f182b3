section
-- ===== PART A: goes FIRST, ahead of the names: the tables' words, and 'selects' of the private methods out of them =====
/-- a private method of a class that the tables say can be made, by its rows of tables_1 -/
def lw_okq (q : MethodName × Nat) : Prop := (q.1.cls ≠ "java/lang/invoke/MethodHandle" ∧ q.1.cls ≠ "java/lang/invoke/VarHandle") ∧ Cond.instantiable q.1.cls q.2 ∈ tables_1 ∧ Cond.privateMethod q.1 ∈ tables_1 ∧ Cond.instanceMethod q.1 ∈ tables_1
theorem lw_p0 : lw_okq (⟨"DawnEights$Races", "numberRows", "(I)V"⟩, 8) := ⟨⟨by decide +kernel, by decide +kernel⟩, List.mem_of_getElem? (i := 79) (by decide +kernel), List.mem_of_getElem? (i := 428) (by decide +kernel), List.mem_of_getElem? (i := 429) (by decide +kernel)⟩
theorem lw_p1 : lw_okq (⟨"DawnEights$Races", "fillCells", "(I)V"⟩, 8) := ⟨⟨by decide +kernel, by decide +kernel⟩, List.mem_of_getElem? (i := 79) (by decide +kernel), List.mem_of_getElem? (i := 433) (by decide +kernel), List.mem_of_getElem? (i := 434) (by decide +kernel)⟩
theorem lw_p2 : lw_okq (⟨"DawnEights$Races", "addToRow", "(III)V"⟩, 8) := ⟨⟨by decide +kernel, by decide +kernel⟩, List.mem_of_getElem? (i := 79) (by decide +kernel), List.mem_of_getElem? (i := 440) (by decide +kernel), List.mem_of_getElem? (i := 441) (by decide +kernel)⟩
theorem lw_p3 : lw_okq (⟨"DawnEights$Races", "eliminate", "(I)Z"⟩, 8) := ⟨⟨by decide +kernel, by decide +kernel⟩, List.mem_of_getElem? (i := 79) (by decide +kernel), List.mem_of_getElem? (i := 444) (by decide +kernel), List.mem_of_getElem? (i := 445) (by decide +kernel)⟩
theorem lw_p4 : lw_okq (⟨"DawnEights$Races", "clearCell", "(IIJJ)V"⟩, 8) := ⟨⟨by decide +kernel, by decide +kernel⟩, List.mem_of_getElem? (i := 79) (by decide +kernel), List.mem_of_getElem? (i := 448) (by decide +kernel), List.mem_of_getElem? (i := 449) (by decide +kernel)⟩
theorem lw_p5 : lw_okq (⟨"DawnEights$Races", "leadOver", "(III)I"⟩, 8) := ⟨⟨by decide +kernel, by decide +kernel⟩, List.mem_of_getElem? (i := 79) (by decide +kernel), List.mem_of_getElem? (i := 483) (by decide +kernel), List.mem_of_getElem? (i := 484) (by decide +kernel)⟩
theorem lw_p6 : lw_okq (⟨"DawnEights$CrewPlan", "fillRow", "(LDawnEights$Club;III)V"⟩, 3) := ⟨⟨by decide +kernel, by decide +kernel⟩, List.mem_of_getElem? (i := 114) (by decide +kernel), List.mem_of_getElem? (i := 500) (by decide +kernel), List.mem_of_getElem? (i := 501) (by decide +kernel)⟩
theorem lw_p7 : lw_okq (⟨"DawnEights$CrewPlan", "setPrices", "(LDawnEights$Club;II)V"⟩, 3) := ⟨⟨by decide +kernel, by decide +kernel⟩, List.mem_of_getElem? (i := 114) (by decide +kernel), List.mem_of_getElem? (i := 522) (by decide +kernel), List.mem_of_getElem? (i := 523) (by decide +kernel)⟩
theorem lw_p8 : lw_okq (⟨"DawnEights$CrewPlan", "choose", "(III)I"⟩, 3) := ⟨⟨by decide +kernel, by decide +kernel⟩, List.mem_of_getElem? (i := 114) (by decide +kernel), List.mem_of_getElem? (i := 540) (by decide +kernel), List.mem_of_getElem? (i := 541) (by decide +kernel)⟩
theorem lw_p9 : lw_okq (⟨"DawnEights$Tape", "countSame", "(Ljava/lang/String;II)I"⟩, 3) := ⟨⟨by decide +kernel, by decide +kernel⟩, List.mem_of_getElem? (i := 145) (by decide +kernel), List.mem_of_getElem? (i := 618) (by decide +kernel), List.mem_of_getElem? (i := 619) (by decide +kernel)⟩
theorem lw_p10 : lw_okq (⟨"DawnEights$RuleBook", "readTests", "(LDawnEights$Tape;)Z"⟩, 9) := ⟨⟨by decide +kernel, by decide +kernel⟩, List.mem_of_getElem? (i := 164) (by decide +kernel), List.mem_of_getElem? (i := 631) (by decide +kernel), List.mem_of_getElem? (i := 632) (by decide +kernel)⟩
theorem lw_p11 : lw_okq (⟨"DawnEights$RuleBook", "readTest", "(LDawnEights$Tape;I)Z"⟩, 9) := ⟨⟨by decide +kernel, by decide +kernel⟩, List.mem_of_getElem? (i := 164) (by decide +kernel), List.mem_of_getElem? (i := 635) (by decide +kernel), List.mem_of_getElem? (i := 636) (by decide +kernel)⟩
theorem lw_p12 : lw_okq (⟨"DawnEights", "askedRule", "(II)I"⟩, 10) := ⟨⟨by decide +kernel, by decide +kernel⟩, List.mem_of_getElem? (i := 21) (by decide +kernel), List.mem_of_getElem? (i := 660) (by decide +kernel), List.mem_of_getElem? (i := 661) (by decide +kernel)⟩
theorem lw_p13 : lw_okq (⟨"DawnEights$RuleBook", "testsHold", "(I)Z"⟩, 9) := ⟨⟨by decide +kernel, by decide +kernel⟩, List.mem_of_getElem? (i := 164) (by decide +kernel), List.mem_of_getElem? (i := 674) (by decide +kernel), List.mem_of_getElem? (i := 675) (by decide +kernel)⟩
theorem lw_p14 : lw_okq (⟨"DawnEights$RuleBook", "isSo", "(I)Z"⟩, 9) := ⟨⟨by decide +kernel, by decide +kernel⟩, List.mem_of_getElem? (i := 164) (by decide +kernel), List.mem_of_getElem? (i := 678) (by decide +kernel), List.mem_of_getElem? (i := 679) (by decide +kernel)⟩
theorem lw_p15 : lw_okq (⟨"DawnEights", "whyAshore", "(II)I"⟩, 10) := ⟨⟨by decide +kernel, by decide +kernel⟩, List.mem_of_getElem? (i := 21) (by decide +kernel), List.mem_of_getElem? (i := 686) (by decide +kernel), List.mem_of_getElem? (i := 687) (by decide +kernel)⟩
def lw_privs_1 : List (MethodName × Nat) := [(⟨"DawnEights$Races", "numberRows", "(I)V"⟩, 8), (⟨"DawnEights$Races", "fillCells", "(I)V"⟩, 8), (⟨"DawnEights$Races", "addToRow", "(III)V"⟩, 8), (⟨"DawnEights$Races", "eliminate", "(I)Z"⟩, 8), (⟨"DawnEights$Races", "clearCell", "(IIJJ)V"⟩, 8), (⟨"DawnEights$Races", "leadOver", "(III)I"⟩, 8), (⟨"DawnEights$CrewPlan", "fillRow", "(LDawnEights$Club;III)V"⟩, 3), (⟨"DawnEights$CrewPlan", "setPrices", "(LDawnEights$Club;II)V"⟩, 3), (⟨"DawnEights$CrewPlan", "choose", "(III)I"⟩, 3), (⟨"DawnEights$Tape", "countSame", "(Ljava/lang/String;II)I"⟩, 3), (⟨"DawnEights$RuleBook", "readTests", "(LDawnEights$Tape;)Z"⟩, 9), (⟨"DawnEights$RuleBook", "readTest", "(LDawnEights$Tape;I)Z"⟩, 9), (⟨"DawnEights", "askedRule", "(II)I"⟩, 10), (⟨"DawnEights$RuleBook", "testsHold", "(I)Z"⟩, 9), (⟨"DawnEights$RuleBook", "isSo", "(I)Z"⟩, 9), (⟨"DawnEights", "whyAshore", "(II)I"⟩, 10)]
theorem lw_r1 : ∀ q ∈ lw_privs_1, lw_okq q := List.forall_mem_cons.mpr ⟨lw_p0, List.forall_mem_cons.mpr ⟨lw_p1, List.forall_mem_cons.mpr ⟨lw_p2, List.forall_mem_cons.mpr ⟨lw_p3, List.forall_mem_cons.mpr ⟨lw_p4, List.forall_mem_cons.mpr ⟨lw_p5, List.forall_mem_cons.mpr ⟨lw_p6, List.forall_mem_cons.mpr ⟨lw_p7, List.forall_mem_cons.mpr ⟨lw_p8, List.forall_mem_cons.mpr ⟨lw_p9, List.forall_mem_cons.mpr ⟨lw_p10, List.forall_mem_cons.mpr ⟨lw_p11, List.forall_mem_cons.mpr ⟨lw_p12, List.forall_mem_cons.mpr ⟨lw_p13, List.forall_mem_cons.mpr ⟨lw_p14, List.forall_mem_cons.mpr ⟨lw_p15, fun _ h => absurd h List.not_mem_nil⟩⟩⟩⟩⟩⟩⟩⟩⟩⟩⟩⟩⟩⟩⟩⟩
theorem lw_p16 : lw_okq (⟨"DawnEights$Logbook", "latestLook", "(II)I"⟩, 9) := ⟨⟨by decide +kernel, by decide +kernel⟩, List.mem_of_getElem? (i := 202) (by decide +kernel), List.mem_of_getElem? (i := 694) (by decide +kernel), List.mem_of_getElem? (i := 695) (by decide +kernel)⟩
theorem lw_p17 : lw_okq (⟨"DawnEights$Logbook", "firstBehind", "(I)I"⟩, 9) := ⟨⟨by decide +kernel, by decide +kernel⟩, List.mem_of_getElem? (i := 202) (by decide +kernel), List.mem_of_getElem? (i := 750) (by decide +kernel), List.mem_of_getElem? (i := 751) (by decide +kernel)⟩
theorem lw_p18 : lw_okq (⟨"DawnEights$Heats", "wouldClash", "(III)Z"⟩, 4) := ⟨⟨by decide +kernel, by decide +kernel⟩, List.mem_of_getElem? (i := 242) (by decide +kernel), List.mem_of_getElem? (i := 782) (by decide +kernel), List.mem_of_getElem? (i := 783) (by decide +kernel)⟩
theorem lw_p19 : lw_okq (⟨"DawnEights$Heats", "firstClash", "(II)I"⟩, 4) := ⟨⟨by decide +kernel, by decide +kernel⟩, List.mem_of_getElem? (i := 242) (by decide +kernel), List.mem_of_getElem? (i := 797) (by decide +kernel), List.mem_of_getElem? (i := 798) (by decide +kernel)⟩
theorem lw_p20 : lw_okq (⟨"DawnEights$Racks", "longestRow", "()I"⟩, 4) := ⟨⟨by decide +kernel, by decide +kernel⟩, List.mem_of_getElem? (i := 263) (by decide +kernel), List.mem_of_getElem? (i := 812) (by decide +kernel), List.mem_of_getElem? (i := 813) (by decide +kernel)⟩
theorem lw_p21 : lw_okq (⟨"DawnEightsModel", "isOar", "(I)Z"⟩, 53) := ⟨⟨by decide +kernel, by decide +kernel⟩, List.mem_of_getElem? (i := 827) (by decide +kernel), List.mem_of_getElem? (i := 1012) (by decide +kernel), List.mem_of_getElem? (i := 1013) (by decide +kernel)⟩
theorem lw_p22 : lw_okq (⟨"DawnEightsModel", "isSeat", "(II)Z"⟩, 53) := ⟨⟨by decide +kernel, by decide +kernel⟩, List.mem_of_getElem? (i := 827) (by decide +kernel), List.mem_of_getElem? (i := 1020) (by decide +kernel), List.mem_of_getElem? (i := 1021) (by decide +kernel)⟩
theorem lw_p23 : lw_okq (⟨"DawnEightsModel", "isBoat", "(I)Z"⟩, 53) := ⟨⟨by decide +kernel, by decide +kernel⟩, List.mem_of_getElem? (i := 827) (by decide +kernel), List.mem_of_getElem? (i := 1024) (by decide +kernel), List.mem_of_getElem? (i := 1025) (by decide +kernel)⟩
theorem lw_p24 : lw_okq (⟨"DawnEightsModel", "seatsOf", "(I)I"⟩, 53) := ⟨⟨by decide +kernel, by decide +kernel⟩, List.mem_of_getElem? (i := 827) (by decide +kernel), List.mem_of_getElem? (i := 1028) (by decide +kernel), List.mem_of_getElem? (i := 1029) (by decide +kernel)⟩
theorem lw_p25 : lw_okq (⟨"DawnEightsModel", "hasCox", "(I)Z"⟩, 53) := ⟨⟨by decide +kernel, by decide +kernel⟩, List.mem_of_getElem? (i := 827) (by decide +kernel), List.mem_of_getElem? (i := 1032) (by decide +kernel), List.mem_of_getElem? (i := 1033) (by decide +kernel)⟩
theorem lw_p26 : lw_okq (⟨"DawnEightsModel", "sitter", "(II)I"⟩, 53) := ⟨⟨by decide +kernel, by decide +kernel⟩, List.mem_of_getElem? (i := 827) (by decide +kernel), List.mem_of_getElem? (i := 1036) (by decide +kernel), List.mem_of_getElem? (i := 1037) (by decide +kernel)⟩
theorem lw_p27 : lw_okq (⟨"DawnEightsModel", "findGroups", "()V"⟩, 53) := ⟨⟨by decide +kernel, by decide +kernel⟩, List.mem_of_getElem? (i := 827) (by decide +kernel), List.mem_of_getElem? (i := 1062) (by decide +kernel), List.mem_of_getElem? (i := 1063) (by decide +kernel)⟩
theorem lw_p28 : lw_okq (⟨"DawnEightsModel", "solves", "(I)Z"⟩, 53) := ⟨⟨by decide +kernel, by decide +kernel⟩, List.mem_of_getElem? (i := 827) (by decide +kernel), List.mem_of_getElem? (i := 1070) (by decide +kernel), List.mem_of_getElem? (i := 1071) (by decide +kernel)⟩
theorem lw_p29 : lw_okq (⟨"DawnEightsModel", "tells", "(III)V"⟩, 53) := ⟨⟨by decide +kernel, by decide +kernel⟩, List.mem_of_getElem? (i := 827) (by decide +kernel), List.mem_of_getElem? (i := 1074) (by decide +kernel), List.mem_of_getElem? (i := 1075) (by decide +kernel)⟩
theorem lw_p30 : lw_okq (⟨"DawnEightsModel", "determinant", "(I)J"⟩, 53) := ⟨⟨by decide +kernel, by decide +kernel⟩, List.mem_of_getElem? (i := 827) (by decide +kernel), List.mem_of_getElem? (i := 1078) (by decide +kernel), List.mem_of_getElem? (i := 1079) (by decide +kernel)⟩
theorem lw_p31 : lw_okq (⟨"DawnEightsModel", "fillCost", "(II)V"⟩, 53) := ⟨⟨by decide +kernel, by decide +kernel⟩, List.mem_of_getElem? (i := 827) (by decide +kernel), List.mem_of_getElem? (i := 1109) (by decide +kernel), List.mem_of_getElem? (i := 1110) (by decide +kernel)⟩
def lw_privs_2 : List (MethodName × Nat) := [(⟨"DawnEights$Logbook", "latestLook", "(II)I"⟩, 9), (⟨"DawnEights$Logbook", "firstBehind", "(I)I"⟩, 9), (⟨"DawnEights$Heats", "wouldClash", "(III)Z"⟩, 4), (⟨"DawnEights$Heats", "firstClash", "(II)I"⟩, 4), (⟨"DawnEights$Racks", "longestRow", "()I"⟩, 4), (⟨"DawnEightsModel", "isOar", "(I)Z"⟩, 53), (⟨"DawnEightsModel", "isSeat", "(II)Z"⟩, 53), (⟨"DawnEightsModel", "isBoat", "(I)Z"⟩, 53), (⟨"DawnEightsModel", "seatsOf", "(I)I"⟩, 53), (⟨"DawnEightsModel", "hasCox", "(I)Z"⟩, 53), (⟨"DawnEightsModel", "sitter", "(II)I"⟩, 53), (⟨"DawnEightsModel", "findGroups", "()V"⟩, 53), (⟨"DawnEightsModel", "solves", "(I)Z"⟩, 53), (⟨"DawnEightsModel", "tells", "(III)V"⟩, 53), (⟨"DawnEightsModel", "determinant", "(I)J"⟩, 53), (⟨"DawnEightsModel", "fillCost", "(II)V"⟩, 53)]
theorem lw_r2 : ∀ q ∈ lw_privs_2, lw_okq q := List.forall_mem_cons.mpr ⟨lw_p16, List.forall_mem_cons.mpr ⟨lw_p17, List.forall_mem_cons.mpr ⟨lw_p18, List.forall_mem_cons.mpr ⟨lw_p19, List.forall_mem_cons.mpr ⟨lw_p20, List.forall_mem_cons.mpr ⟨lw_p21, List.forall_mem_cons.mpr ⟨lw_p22, List.forall_mem_cons.mpr ⟨lw_p23, List.forall_mem_cons.mpr ⟨lw_p24, List.forall_mem_cons.mpr ⟨lw_p25, List.forall_mem_cons.mpr ⟨lw_p26, List.forall_mem_cons.mpr ⟨lw_p27, List.forall_mem_cons.mpr ⟨lw_p28, List.forall_mem_cons.mpr ⟨lw_p29, List.forall_mem_cons.mpr ⟨lw_p30, List.forall_mem_cons.mpr ⟨lw_p31, fun _ h => absurd h List.not_mem_nil⟩⟩⟩⟩⟩⟩⟩⟩⟩⟩⟩⟩⟩⟩⟩⟩
theorem lw_p32 : lw_okq (⟨"DawnEightsModel", "canSit", "(III)Z"⟩, 53) := ⟨⟨by decide +kernel, by decide +kernel⟩, List.mem_of_getElem? (i := 827) (by decide +kernel), List.mem_of_getElem? (i := 1114) (by decide +kernel), List.mem_of_getElem? (i := 1115) (by decide +kernel)⟩
theorem lw_p33 : lw_okq (⟨"DawnEightsModel", "mayBeOut", "(II)Z"⟩, 53) := ⟨⟨by decide +kernel, by decide +kernel⟩, List.mem_of_getElem? (i := 827) (by decide +kernel), List.mem_of_getElem? (i := 1118) (by decide +kernel), List.mem_of_getElem? (i := 1119) (by decide +kernel)⟩
theorem lw_p34 : lw_okq (⟨"DawnEightsModel", "costOf", "(III)I"⟩, 53) := ⟨⟨by decide +kernel, by decide +kernel⟩, List.mem_of_getElem? (i := 827) (by decide +kernel), List.mem_of_getElem? (i := 1122) (by decide +kernel), List.mem_of_getElem? (i := 1123) (by decide +kernel)⟩
theorem lw_p35 : lw_okq (⟨"DawnEightsModel", "dislikes", "(III)I"⟩, 53) := ⟨⟨by decide +kernel, by decide +kernel⟩, List.mem_of_getElem? (i := 827) (by decide +kernel), List.mem_of_getElem? (i := 1126) (by decide +kernel), List.mem_of_getElem? (i := 1127) (by decide +kernel)⟩
theorem lw_p36 : lw_okq (⟨"DawnEightsModel", "parses", "()Z"⟩, 53) := ⟨⟨by decide +kernel, by decide +kernel⟩, List.mem_of_getElem? (i := 827) (by decide +kernel), List.mem_of_getElem? (i := 1147) (by decide +kernel), List.mem_of_getElem? (i := 1148) (by decide +kernel)⟩
theorem lw_p37 : lw_okq (⟨"DawnEightsModel", "word", "(II)I"⟩, 53) := ⟨⟨by decide +kernel, by decide +kernel⟩, List.mem_of_getElem? (i := 827) (by decide +kernel), List.mem_of_getElem? (i := 1151) (by decide +kernel), List.mem_of_getElem? (i := 1152) (by decide +kernel)⟩
theorem lw_p38 : lw_okq (⟨"DawnEightsModel", "fits", "(II)Z"⟩, 53) := ⟨⟨by decide +kernel, by decide +kernel⟩, List.mem_of_getElem? (i := 827) (by decide +kernel), List.mem_of_getElem? (i := 1155) (by decide +kernel), List.mem_of_getElem? (i := 1156) (by decide +kernel)⟩
theorem lw_p39 : lw_okq (⟨"DawnEightsModel", "sign", "()I"⟩, 53) := ⟨⟨by decide +kernel, by decide +kernel⟩, List.mem_of_getElem? (i := 827) (by decide +kernel), List.mem_of_getElem? (i := 1170) (by decide +kernel), List.mem_of_getElem? (i := 1171) (by decide +kernel)⟩
theorem lw_p40 : lw_okq (⟨"DawnEightsModel", "takes", "(I)Z"⟩, 53) := ⟨⟨by decide +kernel, by decide +kernel⟩, List.mem_of_getElem? (i := 827) (by decide +kernel), List.mem_of_getElem? (i := 1174) (by decide +kernel), List.mem_of_getElem? (i := 1175) (by decide +kernel)⟩
theorem lw_p41 : lw_okq (⟨"DawnEightsModel", "test", "(I)Z"⟩, 53) := ⟨⟨by decide +kernel, by decide +kernel⟩, List.mem_of_getElem? (i := 827) (by decide +kernel), List.mem_of_getElem? (i := 1178) (by decide +kernel), List.mem_of_getElem? (i := 1179) (by decide +kernel)⟩
theorem lw_p42 : lw_okq (⟨"DawnEightsModel", "asked", "(II)I"⟩, 53) := ⟨⟨by decide +kernel, by decide +kernel⟩, List.mem_of_getElem? (i := 827) (by decide +kernel), List.mem_of_getElem? (i := 1189) (by decide +kernel), List.mem_of_getElem? (i := 1190) (by decide +kernel)⟩
theorem lw_p43 : lw_okq (⟨"DawnEightsModel", "isSo", "(III)Z"⟩, 53) := ⟨⟨by decide +kernel, by decide +kernel⟩, List.mem_of_getElem? (i := 827) (by decide +kernel), List.mem_of_getElem? (i := 1193) (by decide +kernel), List.mem_of_getElem? (i := 1194) (by decide +kernel)⟩
theorem lw_p44 : lw_okq (⟨"DawnEightsModel", "field", "(III)I"⟩, 53) := ⟨⟨by decide +kernel, by decide +kernel⟩, List.mem_of_getElem? (i := 827) (by decide +kernel), List.mem_of_getElem? (i := 1197) (by decide +kernel), List.mem_of_getElem? (i := 1198) (by decide +kernel)⟩
theorem lw_p45 : lw_okq (⟨"DawnEightsModel", "ashore", "(II)I"⟩, 53) := ⟨⟨by decide +kernel, by decide +kernel⟩, List.mem_of_getElem? (i := 827) (by decide +kernel), List.mem_of_getElem? (i := 1205) (by decide +kernel), List.mem_of_getElem? (i := 1206) (by decide +kernel)⟩
theorem lw_p46 : lw_okq (⟨"DawnEightsModel", "whoIn", "(I)I"⟩, 53) := ⟨⟨by decide +kernel, by decide +kernel⟩, List.mem_of_getElem? (i := 827) (by decide +kernel), List.mem_of_getElem? (i := 1217) (by decide +kernel), List.mem_of_getElem? (i := 1218) (by decide +kernel)⟩
theorem lw_p47 : lw_okq (⟨"DawnEightsModel", "clash", "(III)Z"⟩, 53) := ⟨⟨by decide +kernel, by decide +kernel⟩, List.mem_of_getElem? (i := 827) (by decide +kernel), List.mem_of_getElem? (i := 1247) (by decide +kernel), List.mem_of_getElem? (i := 1248) (by decide +kernel)⟩
def lw_privs_3 : List (MethodName × Nat) := [(⟨"DawnEightsModel", "canSit", "(III)Z"⟩, 53), (⟨"DawnEightsModel", "mayBeOut", "(II)Z"⟩, 53), (⟨"DawnEightsModel", "costOf", "(III)I"⟩, 53), (⟨"DawnEightsModel", "dislikes", "(III)I"⟩, 53), (⟨"DawnEightsModel", "parses", "()Z"⟩, 53), (⟨"DawnEightsModel", "word", "(II)I"⟩, 53), (⟨"DawnEightsModel", "fits", "(II)Z"⟩, 53), (⟨"DawnEightsModel", "sign", "()I"⟩, 53), (⟨"DawnEightsModel", "takes", "(I)Z"⟩, 53), (⟨"DawnEightsModel", "test", "(I)Z"⟩, 53), (⟨"DawnEightsModel", "asked", "(II)I"⟩, 53), (⟨"DawnEightsModel", "isSo", "(III)Z"⟩, 53), (⟨"DawnEightsModel", "field", "(III)I"⟩, 53), (⟨"DawnEightsModel", "ashore", "(II)I"⟩, 53), (⟨"DawnEightsModel", "whoIn", "(I)I"⟩, 53), (⟨"DawnEightsModel", "clash", "(III)Z"⟩, 53)]
theorem lw_r3 : ∀ q ∈ lw_privs_3, lw_okq q := List.forall_mem_cons.mpr ⟨lw_p32, List.forall_mem_cons.mpr ⟨lw_p33, List.forall_mem_cons.mpr ⟨lw_p34, List.forall_mem_cons.mpr ⟨lw_p35, List.forall_mem_cons.mpr ⟨lw_p36, List.forall_mem_cons.mpr ⟨lw_p37, List.forall_mem_cons.mpr ⟨lw_p38, List.forall_mem_cons.mpr ⟨lw_p39, List.forall_mem_cons.mpr ⟨lw_p40, List.forall_mem_cons.mpr ⟨lw_p41, List.forall_mem_cons.mpr ⟨lw_p42, List.forall_mem_cons.mpr ⟨lw_p43, List.forall_mem_cons.mpr ⟨lw_p44, List.forall_mem_cons.mpr ⟨lw_p45, List.forall_mem_cons.mpr ⟨lw_p46, List.forall_mem_cons.mpr ⟨lw_p47, fun _ h => absurd h List.not_mem_nil⟩⟩⟩⟩⟩⟩⟩⟩⟩⟩⟩⟩⟩⟩⟩⟩
theorem lw_p48 : lw_okq (⟨"DawnEightsModel", "longest", "(II)I"⟩, 53) := ⟨⟨by decide +kernel, by decide +kernel⟩, List.mem_of_getElem? (i := 827) (by decide +kernel), List.mem_of_getElem? (i := 1259) (by decide +kernel), List.mem_of_getElem? (i := 1260) (by decide +kernel)⟩
def lw_privs_4 : List (MethodName × Nat) := [(⟨"DawnEightsModel", "longest", "(II)I"⟩, 53)]
theorem lw_r4 : ∀ q ∈ lw_privs_4, lw_okq q := List.forall_mem_cons.mpr ⟨lw_p48, fun _ h => absurd h List.not_mem_nil⟩
def lw_privs : List (MethodName × Nat) := lw_privs_1 ++ (lw_privs_2 ++ (lw_privs_3 ++ (lw_privs_4)))
def lw_tbl : List Cond := k2_sels lw_privs ++ tables_1
theorem lw_privs_ok : ∀ q ∈ lw_privs, lw_okq q := by
  show ∀ q ∈ lw_privs_1 ++ (lw_privs_2 ++ (lw_privs_3 ++ (lw_privs_4))), lw_okq q
  exact List.forall_mem_append.mpr ⟨lw_r1, List.forall_mem_append.mpr ⟨lw_r2, List.forall_mem_append.mpr ⟨lw_r3, lw_r4⟩⟩⟩
end
section
def RX0 : String := "DawnEights$Club"
def TX0 : u_T := fun k => match k with
  | 0 => ("DawnEights$Club", "oars", "I", false)
  | 1 => ("DawnEights$Club", "oarKind", "[I", true)
  | 2 => ("DawnEights$Club", "weight", "[I", true)
  | 3 => ("DawnEights$Club", "sick", "[I", true)
  | 4 => ("DawnEights$Club", "place", "[I", true)
  | 5 => ("DawnEights$Club", "boats", "I", false)
  | 6 => ("DawnEights$Club", "boatKind", "[I", true)
  | 7 => ("DawnEights$Club", "least", "[I", true)
  | 8 => ("DawnEights$Club", "most", "[I", true)
  | _ => ("DawnEights$Club", "length", "[I", true)
def tyX0 : Nat → FieldType := fun k => match k with
  | 0 => .int
  | 1 => .array .int
  | 2 => .array .int
  | 3 => .array .int
  | 4 => .array .int
  | 5 => .int
  | 6 => .array .int
  | 7 => .array .int
  | 8 => .array .int
  | _ => .array .int
theorem nmX0 : ∀ a, a < 10 → ∀ b, b < 10 → a ≠ b → (TX0 a).2.1 ≠ (TX0 b).2.1 := by decide +kernel
theorem tyX0_ok : ∀ k, k < 10 → parseFieldDescriptor (TX0 k).2.2.1 = some (tyX0 k) := by decide +kernel
abbrev cX0_init : ByteArray := prog_2_method_1_code
def yX0_init : MethodName := ⟨RX0, "<init>", "()V"⟩
abbrev cX0_addOar : ByteArray := prog_2_method_2_code
def yX0_addOar : MethodName := ⟨RX0, "addOar", "(II)I"⟩
abbrev cX0_addBoat : ByteArray := prog_2_method_3_code
def yX0_addBoat : MethodName := ⟨RX0, "addBoat", "(IIII)I"⟩
abbrev cX0_hasOar : ByteArray := prog_2_method_4_code
def yX0_hasOar : MethodName := ⟨RX0, "hasOar", "(I)Z"⟩
abbrev cX0_hasBoat : ByteArray := prog_2_method_5_code
def yX0_hasBoat : MethodName := ⟨RX0, "hasBoat", "(I)Z"⟩
abbrev cX0_hasSeat : ByteArray := prog_2_method_6_code
def yX0_hasSeat : MethodName := ⟨RX0, "hasSeat", "(II)Z"⟩
abbrev cX0_seats : ByteArray := prog_2_method_7_code
def yX0_seats : MethodName := ⟨RX0, "seats", "(I)I"⟩
abbrev cX0_hasCox : ByteArray := prog_2_method_8_code
def yX0_hasCox : MethodName := ⟨RX0, "hasCox", "(I)Z"⟩
abbrev cX0_sitsIn : ByteArray := prog_2_method_9_code
def yX0_sitsIn : MethodName := ⟨RX0, "sitsIn", "(II)Z"⟩
abbrev cX0_isCox : ByteArray := prog_2_method_10_code
def yX0_isCox : MethodName := ⟨RX0, "isCox", "(I)Z"⟩
abbrev cX0_whoSits : ByteArray := prog_2_method_11_code
def yX0_whoSits : MethodName := ⟨RX0, "whoSits", "(II)I"⟩
abbrev cX0_maySit : ByteArray := prog_2_method_12_code
def yX0_maySit : MethodName := ⟨RX0, "maySit", "(II)Z"⟩
abbrev cX0_putOn : ByteArray := prog_2_method_13_code
def yX0_putOn : MethodName := ⟨RX0, "putOn", "(III)I"⟩
abbrev cX0_aboard : ByteArray := prog_2_method_14_code
def yX0_aboard : MethodName := ⟨RX0, "aboard", "(I)I"⟩
abbrev cX0_isManned : ByteArray := prog_2_method_15_code
def yX0_isManned : MethodName := ⟨RX0, "isManned", "(I)Z"⟩
abbrev cX0_meanWeight : ByteArray := prog_2_method_16_code
def yX0_meanWeight : MethodName := ⟨RX0, "meanWeight", "(I)I"⟩
abbrev cX0_mayBeOut : ByteArray := prog_2_method_17_code
def yX0_mayBeOut : MethodName := ⟨RX0, "mayBeOut", "(II)Z"⟩
abbrev cX0_allMayBeOut : ByteArray := prog_2_method_18_code
def yX0_allMayBeOut : MethodName := ⟨RX0, "allMayBeOut", "(II)Z"⟩
abbrev cX0_isYoungAboard : ByteArray := prog_2_method_19_code
def yX0_isYoungAboard : MethodName := ⟨RX0, "isYoungAboard", "(I)Z"⟩
abbrev cX0_dislike : ByteArray := prog_2_method_20_code
def yX0_dislike : MethodName := ⟨RX0, "dislike", "(III)I"⟩
def RX1 : String := "DawnEights$CrewPlan"
def TX1 : u_T := fun k => match k with
  | 0 => ("DawnEights$CrewPlan", "costs", "[I", true)
  | 1 => ("DawnEights$CrewPlan", "price", "[I", true)
  | _ => ("DawnEights$CrewPlan", "chosen", "[I", true)
def tyX1 : Nat → FieldType := fun k => match k with
  | 0 => .array .int
  | 1 => .array .int
  | _ => .array .int
theorem nmX1 : ∀ a, a < 3 → ∀ b, b < 3 → a ≠ b → (TX1 a).2.1 ≠ (TX1 b).2.1 := by decide +kernel
theorem tyX1_ok : ∀ k, k < 3 → parseFieldDescriptor (TX1 k).2.2.1 = some (tyX1 k) := by decide +kernel
abbrev cX1_init : ByteArray := prog_3_method_1_code
def yX1_init : MethodName := ⟨RX1, "<init>", "()V"⟩
abbrev cX1_leastCost : ByteArray := prog_3_method_2_code
def yX1_leastCost : MethodName := ⟨RX1, "leastCost", "(LDawnEights$Club;II)I"⟩
abbrev cX1_fillRow : ByteArray := prog_3_method_3_code
def yX1_fillRow : MethodName := ⟨RX1, "fillRow", "(LDawnEights$Club;III)V"⟩
abbrev cX1_isFree : ByteArray := prog_3_method_4_code
def yX1_isFree : MethodName := ⟨RX1, "isFree", "(LDawnEights$Club;III)Z"⟩
abbrev cX1_setPrices : ByteArray := prog_3_method_5_code
def yX1_setPrices : MethodName := ⟨RX1, "setPrices", "(LDawnEights$Club;II)V"⟩
abbrev cX1_seatThem : ByteArray := prog_3_method_6_code
def yX1_seatThem : MethodName := ⟨RX1, "seatThem", "(LDawnEights$Club;II)V"⟩
abbrev cX1_choose : ByteArray := prog_3_method_7_code
def yX1_choose : MethodName := ⟨RX1, "choose", "(III)I"⟩
def RX2 : String := "DawnEights$Heats"
def TX2 : u_T := fun k => match k with
  | 0 => ("DawnEights$Heats", "count", "I", false)
  | 1 => ("DawnEights$Heats", "apart", "I", false)
  | 2 => ("DawnEights$Heats", "boatOf", "[I", true)
  | _ => ("DawnEights$Heats", "start", "[I", true)
def tyX2 : Nat → FieldType := fun k => match k with
  | 0 => .int
  | 1 => .int
  | 2 => .array .int
  | _ => .array .int
theorem nmX2 : ∀ a, a < 4 → ∀ b, b < 4 → a ≠ b → (TX2 a).2.1 ≠ (TX2 b).2.1 := by decide +kernel
theorem tyX2_ok : ∀ k, k < 4 → parseFieldDescriptor (TX2 k).2.2.1 = some (tyX2 k) := by decide +kernel
abbrev cX2_init : ByteArray := prog_4_method_1_code
def yX2_init : MethodName := ⟨RX2, "<init>", "()V"⟩
abbrev cX2_addHeat : ByteArray := prog_4_method_2_code
def yX2_addHeat : MethodName := ⟨RX2, "addHeat", "(II)I"⟩
abbrev cX2_wouldClash : ByteArray := prog_4_method_3_code
def yX2_wouldClash : MethodName := ⟨RX2, "wouldClash", "(III)Z"⟩
abbrev cX2_clashingPairs : ByteArray := prog_4_method_4_code
def yX2_clashingPairs : MethodName := ⟨RX2, "clashingPairs", "()I"⟩
abbrev cX2_freeMinute : ByteArray := prog_4_method_5_code
def yX2_freeMinute : MethodName := ⟨RX2, "freeMinute", "(I)I"⟩
abbrev cX2_firstClash : ByteArray := prog_4_method_6_code
def yX2_firstClash : MethodName := ⟨RX2, "firstClash", "(II)I"⟩
def RX3 : String := "DawnEights$Logbook"
def TX3 : u_T := fun k => match k with
  | 0 => ("DawnEights$Logbook", "outings", "I", false)
  | 1 => ("DawnEights$Logbook", "outBoat", "[I", true)
  | 2 => ("DawnEights$Logbook", "outDay", "[I", true)
  | 3 => ("DawnEights$Logbook", "outHour", "[I", true)
  | 4 => ("DawnEights$Logbook", "who", "[I", true)
  | 5 => ("DawnEights$Logbook", "looks", "I", false)
  | 6 => ("DawnEights$Logbook", "lookBoat", "[I", true)
  | 7 => ("DawnEights$Logbook", "wasWhole", "[I", true)
  | _ => ("DawnEights$Logbook", "ahead", "[I", true)
def tyX3 : Nat → FieldType := fun k => match k with
  | 0 => .int
  | 1 => .array .int
  | 2 => .array .int
  | 3 => .array .int
  | 4 => .array .int
  | 5 => .int
  | 6 => .array .int
  | 7 => .array .int
  | _ => .array .int
theorem nmX3 : ∀ a, a < 9 → ∀ b, b < 9 → a ≠ b → (TX3 a).2.1 ≠ (TX3 b).2.1 := by decide +kernel
theorem tyX3_ok : ∀ k, k < 9 → parseFieldDescriptor (TX3 k).2.2.1 = some (tyX3 k) := by decide +kernel
abbrev cX3_init : ByteArray := prog_5_method_1_code
def yX3_init : MethodName := ⟨RX3, "<init>", "()V"⟩
abbrev cX3_addOuting : ByteArray := prog_5_method_2_code
def yX3_addOuting : MethodName := ⟨RX3, "addOuting", "(IIII)I"⟩
abbrev cX3_addLook : ByteArray := prog_5_method_3_code
def yX3_addLook : MethodName := ⟨RX3, "addLook", "(II)I"⟩
abbrev cX3_latestLook : ByteArray := prog_5_method_4_code
def yX3_latestLook : MethodName := ⟨RX3, "latestLook", "(II)I"⟩
abbrev cX3_isBroken : ByteArray := prog_5_method_5_code
def yX3_isBroken : MethodName := ⟨RX3, "isBroken", "(I)Z"⟩
abbrev cX3_brokeAt : ByteArray := prog_5_method_6_code
def yX3_brokeAt : MethodName := ⟨RX3, "brokeAt", "(I)Z"⟩
abbrev cX3_firstBehind : ByteArray := prog_5_method_7_code
def yX3_firstBehind : MethodName := ⟨RX3, "firstBehind", "(I)I"⟩
abbrev cX3_suspects : ByteArray := prog_5_method_8_code
def yX3_suspects : MethodName := ⟨RX3, "suspects", "(I)I"⟩
abbrev cX3_firstSuspect : ByteArray := prog_5_method_9_code
def yX3_firstSuspect : MethodName := ⟨RX3, "firstSuspect", "(I)I"⟩
def RX4 : String := "DawnEights$Races"
def TX4 : u_T := fun k => match k with
  | 0 => ("DawnEights$Races", "count", "I", false)
  | 1 => ("DawnEights$Races", "first", "[I", true)
  | 2 => ("DawnEights$Races", "second", "[I", true)
  | 3 => ("DawnEights$Races", "lead", "[I", true)
  | 4 => ("DawnEights$Races", "above", "[J", true)
  | 5 => ("DawnEights$Races", "below", "J", false)
  | 6 => ("DawnEights$Races", "rowOf", "[I", true)
  | _ => ("DawnEights$Races", "cells", "[J", true)
def tyX4 : Nat → FieldType := fun k => match k with
  | 0 => .int
  | 1 => .array .int
  | 2 => .array .int
  | 3 => .array .int
  | 4 => .array .long
  | 5 => .long
  | 6 => .array .int
  | _ => .array .long
theorem nmX4 : ∀ a, a < 8 → ∀ b, b < 8 → a ≠ b → (TX4 a).2.1 ≠ (TX4 b).2.1 := by decide +kernel
theorem tyX4_ok : ∀ k, k < 8 → parseFieldDescriptor (TX4 k).2.2.1 = some (tyX4 k) := by decide +kernel
abbrev cX4_init : ByteArray := prog_6_method_1_code
def yX4_init : MethodName := ⟨RX4, "<init>", "()V"⟩
abbrev cX4_addRace : ByteArray := prog_6_method_2_code
def yX4_addRace : MethodName := ⟨RX4, "addRace", "(III)I"⟩
abbrev cX4_groupOf : ByteArray := prog_6_method_3_code
def yX4_groupOf : MethodName := ⟨RX4, "groupOf", "(I)I"⟩
abbrev cX4_solve : ByteArray := prog_6_method_4_code
def yX4_solve : MethodName := ⟨RX4, "solve", "(I)Z"⟩
abbrev cX4_numberRows : ByteArray := prog_6_method_5_code
def yX4_numberRows : MethodName := ⟨RX4, "numberRows", "(I)V"⟩
abbrev cX4_fillCells : ByteArray := prog_6_method_6_code
def yX4_fillCells : MethodName := ⟨RX4, "fillCells", "(I)V"⟩
abbrev cX4_addToRow : ByteArray := prog_6_method_7_code
def yX4_addToRow : MethodName := ⟨RX4, "addToRow", "(III)V"⟩
abbrev cX4_eliminate : ByteArray := prog_6_method_8_code
def yX4_eliminate : MethodName := ⟨RX4, "eliminate", "(I)Z"⟩
abbrev cX4_clearCell : ByteArray := prog_6_method_9_code
def yX4_clearCell : MethodName := ⟨RX4, "clearCell", "(IIJJ)V"⟩
abbrev cX4_misfitAbove : ByteArray := prog_6_method_10_code
def yX4_misfitAbove : MethodName := ⟨RX4, "misfitAbove", "(I)J"⟩
abbrev cX4_whoIsSurelyBetter : ByteArray := prog_6_method_11_code
def yX4_whoIsSurelyBetter : MethodName := ⟨RX4, "whoIsSurelyBetter", "(II)I"⟩
abbrev cX4_leadOver : ByteArray := prog_6_method_12_code
def yX4_leadOver : MethodName := ⟨RX4, "leadOver", "(III)I"⟩
def RX5 : String := "DawnEights$Racks"
def TX5 : u_T := fun k => match k with
  | 0 => ("DawnEights$Racks", "rackOf", "[I", true)
  | 1 => ("DawnEights$Racks", "trial", "[I", true)
  | 2 => ("DawnEights$Racks", "row", "[I", true)
  | _ => ("DawnEights$Racks", "best", "I", false)
def tyX5 : Nat → FieldType := fun k => match k with
  | 0 => .array .int
  | 1 => .array .int
  | 2 => .array .int
  | _ => .int
theorem nmX5 : ∀ a, a < 4 → ∀ b, b < 4 → a ≠ b → (TX5 a).2.1 ≠ (TX5 b).2.1 := by decide +kernel
theorem tyX5_ok : ∀ k, k < 4 → parseFieldDescriptor (TX5 k).2.2.1 = some (tyX5 k) := by decide +kernel
abbrev cX5_init : ByteArray := prog_7_method_1_code
def yX5_init : MethodName := ⟨RX5, "<init>", "()V"⟩
abbrev cX5_load : ByteArray := prog_7_method_2_code
def yX5_load : MethodName := ⟨RX5, "load", "([III)I"⟩
abbrev cX5_lay : ByteArray := prog_7_method_3_code
def yX5_lay : MethodName := ⟨RX5, "lay", "(LDawnEights$Racks;[III)V"⟩
abbrev cX5_longestRow : ByteArray := prog_7_method_4_code
def yX5_longestRow : MethodName := ⟨RX5, "longestRow", "()I"⟩
def RX6 : String := "DawnEights$River"
def TX6 : u_T := fun k => match k with
  | 0 => ("DawnEights$River", "stream", "[I", true)
  | _ => ("DawnEights$River", "wind", "[I", true)
def tyX6 : Nat → FieldType := fun k => match k with
  | 0 => .array .int
  | _ => .array .int
theorem nmX6 : ∀ a, a < 2 → ∀ b, b < 2 → a ≠ b → (TX6 a).2.1 ≠ (TX6 b).2.1 := by decide +kernel
theorem tyX6_ok : ∀ k, k < 2 → parseFieldDescriptor (TX6 k).2.2.1 = some (tyX6 k) := by decide +kernel
abbrev cX6_init : ByteArray := prog_8_method_1_code
def yX6_init : MethodName := ⟨RX6, "<init>", "()V"⟩
def RX7 : String := "DawnEights$RuleBook"
def TX7 : u_T := fun k => match k with
  | 0 => ("DawnEights$RuleBook", "count", "I", false)
  | 1 => ("DawnEights$RuleBook", "bars", "[I", true)
  | 2 => ("DawnEights$RuleBook", "kind", "[I", true)
  | 3 => ("DawnEights$RuleBook", "tests", "[I", true)
  | 4 => ("DawnEights$RuleBook", "denied", "[Z", true)
  | 5 => ("DawnEights$RuleBook", "field", "[I", true)
  | 6 => ("DawnEights$RuleBook", "sign", "[I", true)
  | 7 => ("DawnEights$RuleBook", "number", "[I", true)
  | _ => ("DawnEights$RuleBook", "now", "[I", true)
def tyX7 : Nat → FieldType := fun k => match k with
  | 0 => .int
  | 1 => .array .int
  | 2 => .array .int
  | 3 => .array .int
  | 4 => .array .boolean
  | 5 => .array .int
  | 6 => .array .int
  | 7 => .array .int
  | _ => .array .int
theorem nmX7 : ∀ a, a < 9 → ∀ b, b < 9 → a ≠ b → (TX7 a).2.1 ≠ (TX7 b).2.1 := by decide +kernel
theorem tyX7_ok : ∀ k, k < 9 → parseFieldDescriptor (TX7 k).2.2.1 = some (tyX7 k) := by decide +kernel
abbrev cX7_init : ByteArray := prog_9_method_1_code
def yX7_init : MethodName := ⟨RX7, "<init>", "()V"⟩
abbrev cX7_read : ByteArray := prog_9_method_2_code
def yX7_read : MethodName := ⟨RX7, "read", "(LDawnEights$Tape;)Z"⟩
abbrev cX7_readTests : ByteArray := prog_9_method_3_code
def yX7_readTests : MethodName := ⟨RX7, "readTests", "(LDawnEights$Tape;)Z"⟩
abbrev cX7_readTest : ByteArray := prog_9_method_4_code
def yX7_readTest : MethodName := ⟨RX7, "readTest", "(LDawnEights$Tape;I)Z"⟩
abbrev cX7_keepRead : ByteArray := prog_9_method_5_code
def yX7_keepRead : MethodName := ⟨RX7, "keepRead", "()I"⟩
abbrev cX7_asked : ByteArray := prog_9_method_6_code
def yX7_asked : MethodName := ⟨RX7, "asked", "(I)I"⟩
abbrev cX7_testsHold : ByteArray := prog_9_method_7_code
def yX7_testsHold : MethodName := ⟨RX7, "testsHold", "(I)Z"⟩
abbrev cX7_isSo : ByteArray := prog_9_method_8_code
def yX7_isSo : MethodName := ⟨RX7, "isSo", "(I)Z"⟩
def RX8 : String := "DawnEights$Tape"
def TX8 : u_T := fun k => match k with
  | 0 => ("DawnEights$Tape", "length", "I", false)
  | 1 => ("DawnEights$Tape", "at", "I", false)
  | _ => ("DawnEights$Tape", "bytes", "[I", true)
def tyX8 : Nat → FieldType := fun k => match k with
  | 0 => .int
  | 1 => .int
  | _ => .array .int
theorem nmX8 : ∀ a, a < 3 → ∀ b, b < 3 → a ≠ b → (TX8 a).2.1 ≠ (TX8 b).2.1 := by decide +kernel
theorem tyX8_ok : ∀ k, k < 3 → parseFieldDescriptor (TX8 k).2.2.1 = some (tyX8 k) := by decide +kernel
abbrev cX8_init : ByteArray := prog_10_method_1_code
def yX8_init : MethodName := ⟨RX8, "<init>", "()V"⟩
abbrev cX8_append : ByteArray := prog_10_method_2_code
def yX8_append : MethodName := ⟨RX8, "append", "(JI)I"⟩
abbrev cX8_isAtEnd : ByteArray := prog_10_method_3_code
def yX8_isAtEnd : MethodName := ⟨RX8, "isAtEnd", "()Z"⟩
abbrev cX8_takeWord : ByteArray := prog_10_method_4_code
def yX8_takeWord : MethodName := ⟨RX8, "takeWord", "(Ljava/lang/String;)I"⟩
abbrev cX8_countSame : ByteArray := prog_10_method_5_code
def yX8_countSame : MethodName := ⟨RX8, "countSame", "(Ljava/lang/String;II)I"⟩
abbrev cX8_skip : ByteArray := prog_10_method_6_code
def yX8_skip : MethodName := ⟨RX8, "skip", "(C)Z"⟩
abbrev cX8_takeNumber : ByteArray := prog_10_method_7_code
def yX8_takeNumber : MethodName := ⟨RX8, "takeNumber", "()I"⟩
def RX9 : String := "DawnEights"
def TX9 : u_T := fun k => match k with
  | 0 => ("DawnEights", "club", "LDawnEights$Club;", true)
  | 1 => ("DawnEights", "races", "LDawnEights$Races;", true)
  | 2 => ("DawnEights", "plan", "LDawnEights$CrewPlan;", true)
  | 3 => ("DawnEights", "river", "LDawnEights$River;", true)
  | 4 => ("DawnEights", "tape", "LDawnEights$Tape;", true)
  | 5 => ("DawnEights", "rules", "LDawnEights$RuleBook;", true)
  | 6 => ("DawnEights", "log", "LDawnEights$Logbook;", true)
  | 7 => ("DawnEights", "heats", "LDawnEights$Heats;", true)
  | 8 => ("DawnEights", "racks", "LDawnEights$Racks;", true)
  | _ => ("DawnEights", "today", "I", false)
def tyX9 : Nat → FieldType := fun k => match k with
  | 0 => .object "DawnEights$Club"
  | 1 => .object "DawnEights$Races"
  | 2 => .object "DawnEights$CrewPlan"
  | 3 => .object "DawnEights$River"
  | 4 => .object "DawnEights$Tape"
  | 5 => .object "DawnEights$RuleBook"
  | 6 => .object "DawnEights$Logbook"
  | 7 => .object "DawnEights$Heats"
  | 8 => .object "DawnEights$Racks"
  | _ => .int
theorem nmX9 : ∀ a, a < 10 → ∀ b, b < 10 → a ≠ b → (TX9 a).2.1 ≠ (TX9 b).2.1 := by decide +kernel
theorem tyX9_ok : ∀ k, k < 10 → parseFieldDescriptor (TX9 k).2.2.1 = some (tyX9 k) := by decide +kernel
abbrev cX9_init : ByteArray := prog_1_method_1_code
def yX9_init : MethodName := ⟨RX9, "<init>", "()V"⟩
abbrev cX9_oar : ByteArray := prog_1_method_2_code
def yX9_oar : MethodName := ⟨RX9, "oar", "(II)I"⟩
abbrev cX9_boat : ByteArray := prog_1_method_3_code
def yX9_boat : MethodName := ⟨RX9, "boat", "(IIII)I"⟩
abbrev cX9_ill : ByteArray := prog_1_method_4_code
def yX9_ill : MethodName := ⟨RX9, "ill", "(II)I"⟩
abbrev cX9_sit : ByteArray := prog_1_method_5_code
def yX9_sit : MethodName := ⟨RX9, "sit", "(III)I"⟩
abbrev cX9_seat : ByteArray := prog_1_method_6_code
def yX9_seat : MethodName := ⟨RX9, "seat", "(II)I"⟩
abbrev cX9_about : ByteArray := prog_1_method_7_code
def yX9_about : MethodName := ⟨RX9, "about", "(II)I"⟩
abbrev cX9_race : ByteArray := prog_1_method_8_code
def yX9_race : MethodName := ⟨RX9, "race", "(III)I"⟩
abbrev cX9_unrace : ByteArray := prog_1_method_9_code
def yX9_unrace : MethodName := ⟨RX9, "unrace", "()I"⟩
abbrev cX9_group : ByteArray := prog_1_method_10_code
def yX9_group : MethodName := ⟨RX9, "group", "(I)I"⟩
abbrev cX9_strength : ByteArray := prog_1_method_11_code
def yX9_strength : MethodName := ⟨RX9, "strength", "(II)J"⟩
abbrev cX9_between : ByteArray := prog_1_method_12_code
def yX9_between : MethodName := ⟨RX9, "between", "(III)J"⟩
abbrev cX9_misfit : ByteArray := prog_1_method_13_code
def yX9_misfit : MethodName := ⟨RX9, "misfit", "(II)J"⟩
abbrev cX9_sure : ByteArray := prog_1_method_14_code
def yX9_sure : MethodName := ⟨RX9, "sure", "(II)I"⟩
abbrev cX9_crew : ByteArray := prog_1_method_15_code
def yX9_crew : MethodName := ⟨RX9, "crew", "(III)I"⟩
abbrev cX9_water : ByteArray := prog_1_method_16_code
def yX9_water : MethodName := ⟨RX9, "water", "(III)I"⟩
abbrev cX9_feed : ByteArray := prog_1_method_17_code
def yX9_feed : MethodName := ⟨RX9, "feed", "(JI)I"⟩
abbrev cX9_rule : ByteArray := prog_1_method_18_code
def yX9_rule : MethodName := ⟨RX9, "rule", "()I"⟩
abbrev cX9_ruled : ByteArray := prog_1_method_19_code
def yX9_ruled : MethodName := ⟨RX9, "ruled", "(II)I"⟩
abbrev cX9_may : ByteArray := prog_1_method_20_code
def yX9_may : MethodName := ⟨RX9, "may", "(II)I"⟩
abbrev cX9_day : ByteArray := prog_1_method_21_code
def yX9_day : MethodName := ⟨RX9, "day", "(I)I"⟩
abbrev cX9_out : ByteArray := prog_1_method_22_code
def yX9_out : MethodName := ⟨RX9, "out", "(II)I"⟩
abbrev cX9_look : ByteArray := prog_1_method_23_code
def yX9_look : MethodName := ⟨RX9, "look", "(II)I"⟩
abbrev cX9_broke : ByteArray := prog_1_method_24_code
def yX9_broke : MethodName := ⟨RX9, "broke", "(II)I"⟩
abbrev cX9_outing : ByteArray := prog_1_method_25_code
def yX9_outing : MethodName := ⟨RX9, "outing", "(II)I"⟩
abbrev cX9_heat : ByteArray := prog_1_method_26_code
def yX9_heat : MethodName := ⟨RX9, "heat", "(II)I"⟩
abbrev cX9_near : ByteArray := prog_1_method_27_code
def yX9_near : MethodName := ⟨RX9, "near", "(I)I"⟩
abbrev cX9_clashes : ByteArray := prog_1_method_28_code
def yX9_clashes : MethodName := ⟨RX9, "clashes", "()I"⟩
abbrev cX9_shift : ByteArray := prog_1_method_29_code
def yX9_shift : MethodName := ⟨RX9, "shift", "(I)I"⟩
abbrev cX9_trailer : ByteArray := prog_1_method_30_code
def yX9_trailer : MethodName := ⟨RX9, "trailer", "(II)I"⟩
abbrev cX9_rack : ByteArray := prog_1_method_31_code
def yX9_rack : MethodName := ⟨RX9, "rack", "(I)I"⟩
abbrev cX9_count : ByteArray := prog_1_method_32_code
def yX9_count : MethodName := ⟨RX9, "count", "(I)I"⟩
abbrev cX9_within : ByteArray := prog_1_method_33_code
def yX9_within : MethodName := ⟨RX9, "within", "(III)Z"⟩
abbrev cX9_isHour : ByteArray := prog_1_method_34_code
def yX9_isHour : MethodName := ⟨RX9, "isHour", "(I)Z"⟩
abbrev cX9_has : ByteArray := prog_1_method_35_code
def yX9_has : MethodName := ⟨RX9, "has", "(II)Z"⟩
abbrev cX9_leastOf : ByteArray := prog_1_method_36_code
def yX9_leastOf : MethodName := ⟨RX9, "leastOf", "(I)I"⟩
abbrev cX9_partOf : ByteArray := prog_1_method_37_code
def yX9_partOf : MethodName := ⟨RX9, "partOf", "(JJI)J"⟩
abbrev cX9_commonDivisor : ByteArray := prog_1_method_38_code
def yX9_commonDivisor : MethodName := ⟨RX9, "commonDivisor", "(JJ)J"⟩
abbrev cX9_whyAshore : ByteArray := prog_1_method_39_code
def yX9_whyAshore : MethodName := ⟨RX9, "whyAshore", "(II)I"⟩
abbrev cX9_askedRule : ByteArray := prog_1_method_40_code
def yX9_askedRule : MethodName := ⟨RX9, "askedRule", "(II)I"⟩
def RX10 : String := "DawnEightsModel"
def TX10 : u_T := fun k => match k with
  | 0 => ("DawnEightsModel", "kindOf", "[I", true)
  | 1 => ("DawnEightsModel", "weightOf", "[I", true)
  | 2 => ("DawnEightsModel", "boatOf", "[I", true)
  | 3 => ("DawnEightsModel", "seatOf", "[I", true)
  | 4 => ("DawnEightsModel", "isIll", "[Z", true)
  | 5 => ("DawnEightsModel", "isBroken", "[Z", true)
  | 6 => ("DawnEightsModel", "boatKind", "[I", true)
  | 7 => ("DawnEightsModel", "least", "[I", true)
  | 8 => ("DawnEightsModel", "most", "[I", true)
  | 9 => ("DawnEightsModel", "longOf", "[I", true)
  | 10 => ("DawnEightsModel", "oars", "I", false)
  | 11 => ("DawnEightsModel", "boats", "I", false)
  | 12 => ("DawnEightsModel", "first", "[I", true)
  | 13 => ("DawnEightsModel", "second", "[I", true)
  | 14 => ("DawnEightsModel", "byHow", "[I", true)
  | 15 => ("DawnEightsModel", "groupOf", "[I", true)
  | 16 => ("DawnEightsModel", "races", "I", false)
  | 17 => ("DawnEightsModel", "placeOf", "[I", true)
  | 18 => ("DawnEightsModel", "table", "[J", true)
  | 19 => ("DawnEightsModel", "right", "[J", true)
  | 20 => ("DawnEightsModel", "used", "[J", true)
  | 21 => ("DawnEightsModel", "strength", "[J", true)
  | 22 => ("DawnEightsModel", "others", "I", false)
  | 23 => ("DawnEightsModel", "line", "J", false)
  | 24 => ("DawnEightsModel", "cost", "[I", true)
  | 25 => ("DawnEightsModel", "given", "[I", true)
  | 26 => ("DawnEightsModel", "stream", "[I", true)
  | 27 => ("DawnEightsModel", "wind", "[I", true)
  | 28 => ("DawnEightsModel", "tape", "[I", true)
  | 29 => ("DawnEightsModel", "taped", "I", false)
  | 30 => ("DawnEightsModel", "rules", "I", false)
  | 31 => ("DawnEightsModel", "day", "I", false)
  | 32 => ("DawnEightsModel", "isBar", "[Z", true)
  | 33 => ("DawnEightsModel", "ruleKind", "[I", true)
  | 34 => ("DawnEightsModel", "tests", "[I", true)
  | 35 => ("DawnEightsModel", "test", "[I", true)
  | 36 => ("DawnEightsModel", "at", "I", false)
  | 37 => ("DawnEightsModel", "outBoat", "[I", true)
  | 38 => ("DawnEightsModel", "outDay", "[I", true)
  | 39 => ("DawnEightsModel", "outHour", "[I", true)
  | 40 => ("DawnEightsModel", "outWho", "[I", true)
  | 41 => ("DawnEightsModel", "lookBoat", "[I", true)
  | 42 => ("DawnEightsModel", "lookAt", "[I", true)
  | 43 => ("DawnEightsModel", "isWhole", "[Z", true)
  | 44 => ("DawnEightsModel", "outings", "I", false)
  | 45 => ("DawnEightsModel", "looks", "I", false)
  | 46 => ("DawnEightsModel", "heatBoat", "[I", true)
  | 47 => ("DawnEightsModel", "heatAt", "[I", true)
  | 48 => ("DawnEightsModel", "heats", "I", false)
  | 49 => ("DawnEightsModel", "near", "I", false)
  | 50 => ("DawnEightsModel", "rackOf", "[I", true)
  | 51 => ("DawnEightsModel", "lies", "[I", true)
  | _ => ("DawnEightsModel", "long3", "[I", true)
def tyX10 : Nat → FieldType := fun k => match k with
  | 0 => .array .int
  | 1 => .array .int
  | 2 => .array .int
  | 3 => .array .int
  | 4 => .array .boolean
  | 5 => .array .boolean
  | 6 => .array .int
  | 7 => .array .int
  | 8 => .array .int
  | 9 => .array .int
  | 10 => .int
  | 11 => .int
  | 12 => .array .int
  | 13 => .array .int
  | 14 => .array .int
  | 15 => .array .int
  | 16 => .int
  | 17 => .array .int
  | 18 => .array .long
  | 19 => .array .long
  | 20 => .array .long
  | 21 => .array .long
  | 22 => .int
  | 23 => .long
  | 24 => .array .int
  | 25 => .array .int
  | 26 => .array .int
  | 27 => .array .int
  | 28 => .array .int
  | 29 => .int
  | 30 => .int
  | 31 => .int
  | 32 => .array .boolean
  | 33 => .array .int
  | 34 => .array .int
  | 35 => .array .int
  | 36 => .int
  | 37 => .array .int
  | 38 => .array .int
  | 39 => .array .int
  | 40 => .array .int
  | 41 => .array .int
  | 42 => .array .int
  | 43 => .array .boolean
  | 44 => .int
  | 45 => .int
  | 46 => .array .int
  | 47 => .array .int
  | 48 => .int
  | 49 => .int
  | 50 => .array .int
  | 51 => .array .int
  | _ => .array .int
theorem nmX10 : ∀ a, a < 53 → ∀ b, b < 53 → a ≠ b → (TX10 a).2.1 ≠ (TX10 b).2.1 := by decide +kernel
theorem tyX10_ok : ∀ k, k < 53 → parseFieldDescriptor (TX10 k).2.2.1 = some (tyX10 k) := by decide +kernel
abbrev cX10_init : ByteArray := prog_12_method_1_code
def yX10_init : MethodName := ⟨RX10, "<init>", "()V"⟩
abbrev cX10_isIn : ByteArray := prog_12_method_2_code
def yX10_isIn : MethodName := ⟨RX10, "isIn", "(JJJ)Z"⟩
abbrev cX10_isOar : ByteArray := prog_12_method_3_code
def yX10_isOar : MethodName := ⟨RX10, "isOar", "(I)Z"⟩
abbrev cX10_isBoat : ByteArray := prog_12_method_4_code
def yX10_isBoat : MethodName := ⟨RX10, "isBoat", "(I)Z"⟩
abbrev cX10_seatsOf : ByteArray := prog_12_method_5_code
def yX10_seatsOf : MethodName := ⟨RX10, "seatsOf", "(I)I"⟩
abbrev cX10_hasCox : ByteArray := prog_12_method_6_code
def yX10_hasCox : MethodName := ⟨RX10, "hasCox", "(I)Z"⟩
abbrev cX10_isSeat : ByteArray := prog_12_method_7_code
def yX10_isSeat : MethodName := ⟨RX10, "isSeat", "(II)Z"⟩
abbrev cX10_oar : ByteArray := prog_12_method_8_code
def yX10_oar : MethodName := ⟨RX10, "oar", "(II)I"⟩
abbrev cX10_boat : ByteArray := prog_12_method_9_code
def yX10_boat : MethodName := ⟨RX10, "boat", "(IIII)I"⟩
abbrev cX10_ill : ByteArray := prog_12_method_10_code
def yX10_ill : MethodName := ⟨RX10, "ill", "(II)I"⟩
abbrev cX10_sitter : ByteArray := prog_12_method_11_code
def yX10_sitter : MethodName := ⟨RX10, "sitter", "(II)I"⟩
abbrev cX10_sit : ByteArray := prog_12_method_12_code
def yX10_sit : MethodName := ⟨RX10, "sit", "(III)I"⟩
abbrev cX10_seat : ByteArray := prog_12_method_13_code
def yX10_seat : MethodName := ⟨RX10, "seat", "(II)I"⟩
abbrev cX10_about : ByteArray := prog_12_method_14_code
def yX10_about : MethodName := ⟨RX10, "about", "(II)I"⟩
abbrev cX10_race : ByteArray := prog_12_method_15_code
def yX10_race : MethodName := ⟨RX10, "race", "(III)I"⟩
abbrev cX10_unrace : ByteArray := prog_12_method_16_code
def yX10_unrace : MethodName := ⟨RX10, "unrace", "()I"⟩
abbrev cX10_findGroups : ByteArray := prog_12_method_17_code
def yX10_findGroups : MethodName := ⟨RX10, "findGroups", "()V"⟩
abbrev cX10_group : ByteArray := prog_12_method_18_code
def yX10_group : MethodName := ⟨RX10, "group", "(I)I"⟩
abbrev cX10_bits : ByteArray := prog_12_method_19_code
def yX10_bits : MethodName := ⟨RX10, "bits", "(I)I"⟩
abbrev cX10_determinant : ByteArray := prog_12_method_20_code
def yX10_determinant : MethodName := ⟨RX10, "determinant", "(I)J"⟩
abbrev cX10_tells : ByteArray := prog_12_method_21_code
def yX10_tells : MethodName := ⟨RX10, "tells", "(III)V"⟩
abbrev cX10_solves : ByteArray := prog_12_method_22_code
def yX10_solves : MethodName := ⟨RX10, "solves", "(I)Z"⟩
abbrev cX10_divisor : ByteArray := prog_12_method_23_code
def yX10_divisor : MethodName := ⟨RX10, "divisor", "(JJ)J"⟩
abbrev cX10_part : ByteArray := prog_12_method_24_code
def yX10_part : MethodName := ⟨RX10, "part", "(JJI)J"⟩
abbrev cX10_strength : ByteArray := prog_12_method_25_code
def yX10_strength : MethodName := ⟨RX10, "strength", "(II)J"⟩
abbrev cX10_between : ByteArray := prog_12_method_26_code
def yX10_between : MethodName := ⟨RX10, "between", "(III)J"⟩
abbrev cX10_misfit : ByteArray := prog_12_method_27_code
def yX10_misfit : MethodName := ⟨RX10, "misfit", "(II)J"⟩
abbrev cX10_sure : ByteArray := prog_12_method_28_code
def yX10_sure : MethodName := ⟨RX10, "sure", "(II)I"⟩
abbrev cX10_mayBeOut : ByteArray := prog_12_method_29_code
def yX10_mayBeOut : MethodName := ⟨RX10, "mayBeOut", "(II)Z"⟩
abbrev cX10_dislikes : ByteArray := prog_12_method_30_code
def yX10_dislikes : MethodName := ⟨RX10, "dislikes", "(III)I"⟩
abbrev cX10_costOf : ByteArray := prog_12_method_31_code
def yX10_costOf : MethodName := ⟨RX10, "costOf", "(III)I"⟩
abbrev cX10_canSit : ByteArray := prog_12_method_32_code
def yX10_canSit : MethodName := ⟨RX10, "canSit", "(III)Z"⟩
abbrev cX10_fillCost : ByteArray := prog_12_method_33_code
def yX10_fillCost : MethodName := ⟨RX10, "fillCost", "(II)V"⟩
abbrev cX10_crew : ByteArray := prog_12_method_34_code
def yX10_crew : MethodName := ⟨RX10, "crew", "(III)I"⟩
abbrev cX10_water : ByteArray := prog_12_method_35_code
def yX10_water : MethodName := ⟨RX10, "water", "(III)I"⟩
abbrev cX10_feed : ByteArray := prog_12_method_36_code
def yX10_feed : MethodName := ⟨RX10, "feed", "(JI)I"⟩
abbrev cX10_sign : ByteArray := prog_12_method_37_code
def yX10_sign : MethodName := ⟨RX10, "sign", "()I"⟩
abbrev cX10_letter : ByteArray := prog_12_method_38_code
def yX10_letter : MethodName := ⟨RX10, "letter", "(II)I"⟩
abbrev cX10_spelled : ByteArray := prog_12_method_39_code
def yX10_spelled : MethodName := ⟨RX10, "spelled", "(IIIIII)J"⟩
abbrev cX10_wordOf : ByteArray := prog_12_method_40_code
def yX10_wordOf : MethodName := ⟨RX10, "wordOf", "(I)J"⟩
abbrev cX10_word : ByteArray := prog_12_method_41_code
def yX10_word : MethodName := ⟨RX10, "word", "(II)I"⟩
abbrev cX10_fits : ByteArray := prog_12_method_42_code
def yX10_fits : MethodName := ⟨RX10, "fits", "(II)Z"⟩
abbrev cX10_takes : ByteArray := prog_12_method_43_code
def yX10_takes : MethodName := ⟨RX10, "takes", "(I)Z"⟩
abbrev cX10_isDigit : ByteArray := prog_12_method_44_code
def yX10_isDigit : MethodName := ⟨RX10, "isDigit", "(I)Z"⟩
abbrev cX10_test : ByteArray := prog_12_method_45_code
def yX10_test : MethodName := ⟨RX10, "test", "(I)Z"⟩
abbrev cX10_parses : ByteArray := prog_12_method_46_code
def yX10_parses : MethodName := ⟨RX10, "parses", "()Z"⟩
abbrev cX10_rule : ByteArray := prog_12_method_47_code
def yX10_rule : MethodName := ⟨RX10, "rule", "()I"⟩
abbrev cX10_field : ByteArray := prog_12_method_48_code
def yX10_field : MethodName := ⟨RX10, "field", "(III)I"⟩
abbrev cX10_isSo : ByteArray := prog_12_method_49_code
def yX10_isSo : MethodName := ⟨RX10, "isSo", "(III)Z"⟩
abbrev cX10_asked : ByteArray := prog_12_method_50_code
def yX10_asked : MethodName := ⟨RX10, "asked", "(II)I"⟩
abbrev cX10_ruled : ByteArray := prog_12_method_51_code
def yX10_ruled : MethodName := ⟨RX10, "ruled", "(II)I"⟩
abbrev cX10_ashore : ByteArray := prog_12_method_52_code
def yX10_ashore : MethodName := ⟨RX10, "ashore", "(II)I"⟩
abbrev cX10_may : ByteArray := prog_12_method_53_code
def yX10_may : MethodName := ⟨RX10, "may", "(II)I"⟩
abbrev cX10_day : ByteArray := prog_12_method_54_code
def yX10_day : MethodName := ⟨RX10, "day", "(I)I"⟩
abbrev cX10_whoIn : ByteArray := prog_12_method_55_code
def yX10_whoIn : MethodName := ⟨RX10, "whoIn", "(I)I"⟩
abbrev cX10_out : ByteArray := prog_12_method_56_code
def yX10_out : MethodName := ⟨RX10, "out", "(II)I"⟩
abbrev cX10_look : ByteArray := prog_12_method_57_code
def yX10_look : MethodName := ⟨RX10, "look", "(II)I"⟩
abbrev cX10_broke : ByteArray := prog_12_method_58_code
def yX10_broke : MethodName := ⟨RX10, "broke", "(II)I"⟩
abbrev cX10_outing : ByteArray := prog_12_method_59_code
def yX10_outing : MethodName := ⟨RX10, "outing", "(II)I"⟩
abbrev cX10_heat : ByteArray := prog_12_method_60_code
def yX10_heat : MethodName := ⟨RX10, "heat", "(II)I"⟩
abbrev cX10_near : ByteArray := prog_12_method_61_code
def yX10_near : MethodName := ⟨RX10, "near", "(I)I"⟩
abbrev cX10_clash : ByteArray := prog_12_method_62_code
def yX10_clash : MethodName := ⟨RX10, "clash", "(III)Z"⟩
abbrev cX10_clashes : ByteArray := prog_12_method_63_code
def yX10_clashes : MethodName := ⟨RX10, "clashes", "()I"⟩
abbrev cX10_shift : ByteArray := prog_12_method_64_code
def yX10_shift : MethodName := ⟨RX10, "shift", "(I)I"⟩
abbrev cX10_longest : ByteArray := prog_12_method_65_code
def yX10_longest : MethodName := ⟨RX10, "longest", "(II)I"⟩
abbrev cX10_trailer : ByteArray := prog_12_method_66_code
def yX10_trailer : MethodName := ⟨RX10, "trailer", "(II)I"⟩
abbrev cX10_rack : ByteArray := prog_12_method_67_code
def yX10_rack : MethodName := ⟨RX10, "rack", "(I)I"⟩
abbrev cX10_count : ByteArray := prog_12_method_68_code
def yX10_count : MethodName := ⟨RX10, "count", "(I)I"⟩
def RJ6 : String := "java/lang/Integer"
abbrev cJ6_bitCount_0f7a4 : ByteArray := prog_13_method_49_code
def yJ6_bitCount_0f7a4 : MethodName := ⟨RJ6, "bitCount", "(I)I"⟩
def RJ9 : String := "java/lang/Math"
abbrev cJ9_abs_0f7a4 : ByteArray := prog_14_method_59_code
def yJ9_abs_0f7a4 : MethodName := ⟨RJ9, "abs", "(I)I"⟩
abbrev cJ9_abs_067f4 : ByteArray := prog_14_method_61_code
def yJ9_abs_067f4 : MethodName := ⟨RJ9, "abs", "(J)J"⟩
abbrev cJ9_max_7cf53 : ByteArray := prog_14_method_65_code
def yJ9_max_7cf53 : MethodName := ⟨RJ9, "max", "(II)I"⟩
abbrev cJ9_min_7cf53 : ByteArray := prog_14_method_69_code
def yJ9_min_7cf53 : MethodName := ⟨RJ9, "min", "(II)I"⟩
def RJ0 : String := "java/lang/String"
abbrev cJ0_length_8abf5 : ByteArray := prog_15_method_54_code
def yJ0_length_8abf5 : MethodName := ⟨RJ0, "length", "()I"⟩
abbrev cJ0_charAt_5068e : ByteArray := prog_15_method_56_code
def yJ0_charAt_5068e : MethodName := ⟨RJ0, "charAt", "(I)C"⟩
abbrev cJ0_coder_7d493 : ByteArray := prog_15_method_152_code
def yJ0_coder_7d493 : MethodName := ⟨RJ0, "coder", "()B"⟩
abbrev cJ0_isLatin1_aae02 : ByteArray := prog_15_method_154_code
def yJ0_isLatin1_aae02 : MethodName := ⟨RJ0, "isLatin1", "()Z"⟩
abbrev cJ0_checkIndex_df160 : ByteArray := prog_15_method_155_code
def yJ0_checkIndex_df160 : MethodName := ⟨RJ0, "checkIndex", "(II)V"⟩
def RJ1 : String := "java/lang/StringLatin1"
abbrev cJ1_charAt_3b067 : ByteArray := prog_16_method_2_code
def yJ1_charAt_3b067 : MethodName := ⟨RJ1, "charAt", "([BI)C"⟩
def RJ2 : String := "java/lang/StringUTF16"
abbrev cJ2_getChar_3b067 : ByteArray := prog_17_method_5_code
def yJ2_getChar_3b067 : MethodName := ⟨RJ2, "getChar", "([BI)C"⟩
abbrev cJ2_length_9d52b : ByteArray := prog_17_method_6_code
def yJ2_length_9d52b : MethodName := ⟨RJ2, "length", "([B)I"⟩
abbrev cJ2_charAt_3b067 : ByteArray := prog_17_method_83_code
def yJ2_charAt_3b067 : MethodName := ⟨RJ2, "charAt", "([BI)C"⟩
abbrev cJ2_checkIndex_2214a : ByteArray := prog_17_method_91_code
def yJ2_checkIndex_2214a : MethodName := ⟨RJ2, "checkIndex", "(I[B)V"⟩
def RJ10 : String := "java/lang/System"
def RJ7 : String := "java/util/Arrays"
abbrev cJ7_fill_d0a16 : ByteArray := prog_19_method_101_code
def yJ7_fill_d0a16 : MethodName := ⟨RJ7, "fill", "([JJ)V"⟩
abbrev cJ7_fill_53178 : ByteArray := prog_19_method_103_code
def yJ7_fill_53178 : MethodName := ⟨RJ7, "fill", "([II)V"⟩
def RJ3 : String := "jdk/internal/util/Preconditions"
abbrev cJ3_checkIndex_8e157 : ByteArray := prog_20_method_11_code
def yJ3_checkIndex_8e157 : MethodName := ⟨RJ3, "checkIndex", "(IILjava/util/function/BiFunction;)I"⟩
def RL : String := "DawnEightsLaw"
abbrev cL_law : ByteArray := code
def yL_law : MethodName := ⟨RL, "law", "([I)Z"⟩
abbrev vwCl : List vw_C := [(RX0, TX0, 10), (RX1, TX1, 3), (RX2, TX2, 4), (RX3, TX3, 9), (RX4, TX4, 8), (RX5, TX5, 4), (RX6, TX6, 2), (RX7, TX7, 9), (RX8, TX8, 3), (RX9, TX9, 10), (RX10, TX10, 53)]
def mm_tbl : List Cond := lw_tbl.filter goodWord
theorem mm_gd : GoodIn lw_tbl mm_tbl := fun w h => ⟨(List.mem_filter.mp h).1, good_of_word (List.mem_filter.mp h).2⟩
theorem mm_gg : GoodIn mm_tbl mm_tbl := fun w h => ⟨h, good_of_word (List.mem_filter.mp h).2⟩
theorem mm_sel {ws : List Cond} {ps : List Nat} (hp : ws = ps.filterMap (fun i => tables_1[i]?)) (hg : ws.all goodWord = true) : ∀ w ∈ ws, w ∈ mm_tbl := by
  intro w hw
  refine List.mem_filter.mpr ⟨?_, List.all_eq_true.mp hg w hw⟩
  rw [hp] at hw
  obtain ⟨i, -, hi⟩ := List.mem_filterMap.mp hw
  exact List.mem_append_right _ (List.mem_of_getElem? hi)
theorem wq_p : ∀ w ∈ k2_sels lw_privs, goodWord w = true → w ∈ mm_tbl := fun _ h g => List.mem_filter.mpr ⟨List.mem_append_left _ h, g⟩
theorem wq_1 : ∀ w ∈ tables_1_1, goodWord w = true → w ∈ mm_tbl := fun _ h g => List.mem_filter.mpr ⟨List.mem_append_right _ (List.mem_append_left _ h), g⟩
theorem wq_2 : ∀ w ∈ tables_1_2, goodWord w = true → w ∈ mm_tbl := fun _ h g => List.mem_filter.mpr ⟨List.mem_append_right _ (List.mem_append_right _ (List.mem_append_left _ h)), g⟩
theorem wq_3 : ∀ w ∈ tables_1_3, goodWord w = true → w ∈ mm_tbl := fun _ h g => List.mem_filter.mpr ⟨List.mem_append_right _ (List.mem_append_right _ (List.mem_append_right _ (List.mem_append_left _ h))), g⟩
theorem wq_4 : ∀ w ∈ tables_1_4, goodWord w = true → w ∈ mm_tbl := fun _ h g => List.mem_filter.mpr ⟨List.mem_append_right _ (List.mem_append_right _ (List.mem_append_right _ (List.mem_append_right _ (List.mem_append_left _ h)))), g⟩
theorem wq_5 : ∀ w ∈ tables_1_5, goodWord w = true → w ∈ mm_tbl := fun _ h g => List.mem_filter.mpr ⟨List.mem_append_right _ (List.mem_append_right _ (List.mem_append_right _ (List.mem_append_right _ (List.mem_append_right _ (List.mem_append_left _ h))))), g⟩
theorem wq_6 : ∀ w ∈ tables_1_6, goodWord w = true → w ∈ mm_tbl := fun _ h g => List.mem_filter.mpr ⟨List.mem_append_right _ (List.mem_append_right _ (List.mem_append_right _ (List.mem_append_right _ (List.mem_append_right _ (List.mem_append_right _ (h)))))), g⟩
theorem in_X0 : ∀ w ∈ u_ws RX0 TX0 10, w ∈ mm_tbl := mm_sel (ps := [56, 58, 60, 62, 64, 66, 68, 70, 72, 74]) (by decide +kernel) (by decide +kernel)
theorem in_X1 : ∀ w ∈ u_ws RX1 TX1 3, w ∈ mm_tbl := mm_sel (ps := [122, 124, 126]) (by decide +kernel) (by decide +kernel)
theorem in_X2 : ∀ w ∈ u_ws RX2 TX2 4, w ∈ mm_tbl := mm_sel (ps := [253, 255, 257, 259]) (by decide +kernel) (by decide +kernel)
theorem in_X3 : ∀ w ∈ u_ws RX3 TX3 9, w ∈ mm_tbl := mm_sel (ps := [222, 224, 226, 228, 230, 232, 234, 236, 238]) (by decide +kernel) (by decide +kernel)
theorem in_X4 : ∀ w ∈ u_ws RX4 TX4 8, w ∈ mm_tbl := mm_sel (ps := [95, 97, 99, 101, 103, 105, 107, 109]) (by decide +kernel) (by decide +kernel)
theorem in_X5 : ∀ w ∈ u_ws RX5 TX5 4, w ∈ mm_tbl := mm_sel (ps := [276, 278, 280, 282]) (by decide +kernel) (by decide +kernel)
theorem in_X6 : ∀ w ∈ u_ws RX6 TX6 2, w ∈ mm_tbl := mm_sel (ps := [139, 141]) (by decide +kernel) (by decide +kernel)
theorem in_X7 : ∀ w ∈ u_ws RX7 TX7 9, w ∈ mm_tbl := mm_sel (ps := [181, 183, 185, 187, 189, 191, 193, 195, 197]) (by decide +kernel) (by decide +kernel)
theorem in_X8 : ∀ w ∈ u_ws RX8 TX8 3, w ∈ mm_tbl := mm_sel (ps := [156, 158, 160]) (by decide +kernel) (by decide +kernel)
theorem in_X9 : ∀ w ∈ u_ws RX9 TX9 10, w ∈ mm_tbl := mm_sel (ps := [295, 297, 299, 301, 303, 305, 307, 309, 311, 313]) (by decide +kernel) (by decide +kernel)
theorem in_X10 : ∀ w ∈ u_ws RX10 TX10 53, w ∈ mm_tbl := mm_sel (ps := [885, 887, 889, 891, 893, 895, 897, 899, 901, 903, 905, 907, 909, 911, 913, 915, 917, 919, 921, 923, 925, 927, 929, 931, 933, 935, 937, 939, 941, 943, 945, 947, 949, 951, 953, 955, 957, 959, 961, 963, 965, 967, 969, 971, 973, 975, 977, 979, 981, 983, 985, 987, 989]) (by decide +kernel) (by decide +kernel)
abbrev mm_Mi : Type := MethodName × ByteArray × Nat × Option FieldType
abbrev mi_J0_charAt_5068e : mm_Mi := (yJ0_charAt_5068e, cJ0_charAt_5068e, 2, some .char)
abbrev mi_J0_checkIndex_df160 : mm_Mi := (yJ0_checkIndex_df160, cJ0_checkIndex_df160, 2, none)
abbrev mi_J0_coder_7d493 : mm_Mi := (yJ0_coder_7d493, cJ0_coder_7d493, 1, some .byte)
abbrev mi_J0_isLatin1_aae02 : mm_Mi := (yJ0_isLatin1_aae02, cJ0_isLatin1_aae02, 1, some .boolean)
abbrev mi_J0_length_8abf5 : mm_Mi := (yJ0_length_8abf5, cJ0_length_8abf5, 1, some .int)
abbrev mi_J1_charAt_3b067 : mm_Mi := (yJ1_charAt_3b067, cJ1_charAt_3b067, 2, some .char)
abbrev mi_J2_charAt_3b067 : mm_Mi := (yJ2_charAt_3b067, cJ2_charAt_3b067, 2, some .char)
abbrev mi_J2_checkIndex_2214a : mm_Mi := (yJ2_checkIndex_2214a, cJ2_checkIndex_2214a, 2, none)
abbrev mi_J2_getChar_3b067 : mm_Mi := (yJ2_getChar_3b067, cJ2_getChar_3b067, 2, some .char)
abbrev mi_J2_length_9d52b : mm_Mi := (yJ2_length_9d52b, cJ2_length_9d52b, 1, some .int)
abbrev mi_J3_checkIndex_8e157 : mm_Mi := (yJ3_checkIndex_8e157, cJ3_checkIndex_8e157, 3, some .int)
abbrev mi_J6_bitCount_0f7a4 : mm_Mi := (yJ6_bitCount_0f7a4, cJ6_bitCount_0f7a4, 1, some .int)
abbrev mi_J7_fill_53178 : mm_Mi := (yJ7_fill_53178, cJ7_fill_53178, 4, none)
abbrev mi_J7_fill_d0a16 : mm_Mi := (yJ7_fill_d0a16, cJ7_fill_d0a16, 5, none)
abbrev mi_J9_abs_067f4 : mm_Mi := (yJ9_abs_067f4, cJ9_abs_067f4, 2, some .long)
abbrev mi_J9_abs_0f7a4 : mm_Mi := (yJ9_abs_0f7a4, cJ9_abs_0f7a4, 1, some .int)
abbrev mi_J9_max_7cf53 : mm_Mi := (yJ9_max_7cf53, cJ9_max_7cf53, 2, some .int)
abbrev mi_J9_min_7cf53 : mm_Mi := (yJ9_min_7cf53, cJ9_min_7cf53, 2, some .int)
abbrev mi_X0_aboard : mm_Mi := (yX0_aboard, cX0_aboard, 4, some .int)
abbrev mi_X0_addBoat : mm_Mi := (yX0_addBoat, cX0_addBoat, 5, some .int)
abbrev mi_X0_addOar : mm_Mi := (yX0_addOar, cX0_addOar, 3, some .int)
abbrev mi_X0_allMayBeOut : mm_Mi := (yX0_allMayBeOut, cX0_allMayBeOut, 4, some .boolean)
abbrev mi_X0_dislike : mm_Mi := (yX0_dislike, cX0_dislike, 6, some .int)
abbrev mi_X0_hasBoat : mm_Mi := (yX0_hasBoat, cX0_hasBoat, 2, some .boolean)
abbrev mi_X0_hasCox : mm_Mi := (yX0_hasCox, cX0_hasCox, 2, some .boolean)
abbrev mi_X0_hasOar : mm_Mi := (yX0_hasOar, cX0_hasOar, 2, some .boolean)
abbrev mi_X0_hasSeat : mm_Mi := (yX0_hasSeat, cX0_hasSeat, 3, some .boolean)
abbrev mi_X0_init : mm_Mi := (yX0_init, cX0_init, 1, none)
abbrev mi_X0_isCox : mm_Mi := (yX0_isCox, cX0_isCox, 2, some .boolean)
abbrev mi_X0_isManned : mm_Mi := (yX0_isManned, cX0_isManned, 2, some .boolean)
abbrev mi_X0_isYoungAboard : mm_Mi := (yX0_isYoungAboard, cX0_isYoungAboard, 3, some .boolean)
abbrev mi_X0_mayBeOut : mm_Mi := (yX0_mayBeOut, cX0_mayBeOut, 3, some .boolean)
abbrev mi_X0_maySit : mm_Mi := (yX0_maySit, cX0_maySit, 3, some .boolean)
abbrev mi_X0_meanWeight : mm_Mi := (yX0_meanWeight, cX0_meanWeight, 4, some .int)
abbrev mi_X0_putOn : mm_Mi := (yX0_putOn, cX0_putOn, 5, some .int)
abbrev mi_X0_seats : mm_Mi := (yX0_seats, cX0_seats, 2, some .int)
abbrev mi_X0_sitsIn : mm_Mi := (yX0_sitsIn, cX0_sitsIn, 3, some .boolean)
abbrev mi_X0_whoSits : mm_Mi := (yX0_whoSits, cX0_whoSits, 4, some .int)
abbrev mi_X10_about : mm_Mi := (yX10_about, cX10_about, 3, some .int)
abbrev mi_X10_ashore : mm_Mi := (yX10_ashore, cX10_ashore, 6, some .int)
abbrev mi_X10_asked : mm_Mi := (yX10_asked, cX10_asked, 7, some .int)
abbrev mi_X10_between : mm_Mi := (yX10_between, cX10_between, 4, some .long)
abbrev mi_X10_bits : mm_Mi := (yX10_bits, cX10_bits, 3, some .int)
abbrev mi_X10_boat : mm_Mi := (yX10_boat, cX10_boat, 5, some .int)
abbrev mi_X10_broke : mm_Mi := (yX10_broke, cX10_broke, 8, some .int)
abbrev mi_X10_canSit : mm_Mi := (yX10_canSit, cX10_canSit, 5, some .boolean)
abbrev mi_X10_clash : mm_Mi := (yX10_clash, cX10_clash, 5, some .boolean)
abbrev mi_X10_clashes : mm_Mi := (yX10_clashes, cX10_clashes, 4, some .int)
abbrev mi_X10_costOf : mm_Mi := (yX10_costOf, cX10_costOf, 5, some .int)
abbrev mi_X10_count : mm_Mi := (yX10_count, cX10_count, 2, some .int)
abbrev mi_X10_crew : mm_Mi := (yX10_crew, cX10_crew, 8, some .int)
abbrev mi_X10_day : mm_Mi := (yX10_day, cX10_day, 3, some .int)
abbrev mi_X10_determinant : mm_Mi := (yX10_determinant, cX10_determinant, 7, some .long)
abbrev mi_X10_dislikes : mm_Mi := (yX10_dislikes, cX10_dislikes, 6, some .int)
abbrev mi_X10_divisor : mm_Mi := (yX10_divisor, cX10_divisor, 10, some .long)
abbrev mi_X10_feed : mm_Mi := (yX10_feed, cX10_feed, 5, some .int)
abbrev mi_X10_field : mm_Mi := (yX10_field, cX10_field, 8, some .int)
abbrev mi_X10_fillCost : mm_Mi := (yX10_fillCost, cX10_fillCost, 10, none)
abbrev mi_X10_findGroups : mm_Mi := (yX10_findGroups, cX10_findGroups, 5, none)
abbrev mi_X10_fits : mm_Mi := (yX10_fits, cX10_fits, 5, some .boolean)
abbrev mi_X10_group : mm_Mi := (yX10_group, cX10_group, 2, some .int)
abbrev mi_X10_hasCox : mm_Mi := (yX10_hasCox, cX10_hasCox, 2, some .boolean)
abbrev mi_X10_heat : mm_Mi := (yX10_heat, cX10_heat, 3, some .int)
abbrev mi_X10_ill : mm_Mi := (yX10_ill, cX10_ill, 4, some .int)
abbrev mi_X10_init : mm_Mi := (yX10_init, cX10_init, 2, none)
abbrev mi_X10_isBoat : mm_Mi := (yX10_isBoat, cX10_isBoat, 2, some .boolean)
abbrev mi_X10_isDigit : mm_Mi := (yX10_isDigit, cX10_isDigit, 1, some .boolean)
abbrev mi_X10_isIn : mm_Mi := (yX10_isIn, cX10_isIn, 6, some .boolean)
abbrev mi_X10_isOar : mm_Mi := (yX10_isOar, cX10_isOar, 2, some .boolean)
abbrev mi_X10_isSeat : mm_Mi := (yX10_isSeat, cX10_isSeat, 3, some .boolean)
abbrev mi_X10_isSo : mm_Mi := (yX10_isSo, cX10_isSo, 6, some .boolean)
abbrev mi_X10_letter : mm_Mi := (yX10_letter, cX10_letter, 8, some .int)
abbrev mi_X10_longest : mm_Mi := (yX10_longest, cX10_longest, 5, some .int)
abbrev mi_X10_look : mm_Mi := (yX10_look, cX10_look, 3, some .int)
abbrev mi_X10_may : mm_Mi := (yX10_may, cX10_may, 3, some .int)
abbrev mi_X10_mayBeOut : mm_Mi := (yX10_mayBeOut, cX10_mayBeOut, 3, some .boolean)
abbrev mi_X10_misfit : mm_Mi := (yX10_misfit, cX10_misfit, 8, some .long)
abbrev mi_X10_near : mm_Mi := (yX10_near, cX10_near, 3, some .int)
abbrev mi_X10_oar : mm_Mi := (yX10_oar, cX10_oar, 3, some .int)
abbrev mi_X10_out : mm_Mi := (yX10_out, cX10_out, 3, some .int)
abbrev mi_X10_outing : mm_Mi := (yX10_outing, cX10_outing, 3, some .int)
abbrev mi_X10_parses : mm_Mi := (yX10_parses, cX10_parses, 3, some .boolean)
abbrev mi_X10_part : mm_Mi := (yX10_part, cX10_part, 7, some .long)
abbrev mi_X10_race : mm_Mi := (yX10_race, cX10_race, 4, some .int)
abbrev mi_X10_rack : mm_Mi := (yX10_rack, cX10_rack, 2, some .int)
abbrev mi_X10_rule : mm_Mi := (yX10_rule, cX10_rule, 2, some .int)
abbrev mi_X10_ruled : mm_Mi := (yX10_ruled, cX10_ruled, 3, some .int)
abbrev mi_X10_seat : mm_Mi := (yX10_seat, cX10_seat, 3, some .int)
abbrev mi_X10_seatsOf : mm_Mi := (yX10_seatsOf, cX10_seatsOf, 3, some .int)
abbrev mi_X10_shift : mm_Mi := (yX10_shift, cX10_shift, 5, some .int)
abbrev mi_X10_sign : mm_Mi := (yX10_sign, cX10_sign, 1, some .int)
abbrev mi_X10_sit : mm_Mi := (yX10_sit, cX10_sit, 5, some .int)
abbrev mi_X10_sitter : mm_Mi := (yX10_sitter, cX10_sitter, 5, some .int)
abbrev mi_X10_solves : mm_Mi := (yX10_solves, cX10_solves, 4, some .boolean)
abbrev mi_X10_spelled : mm_Mi := (yX10_spelled, cX10_spelled, 8, some .long)
abbrev mi_X10_strength : mm_Mi := (yX10_strength, cX10_strength, 3, some .long)
abbrev mi_X10_sure : mm_Mi := (yX10_sure, cX10_sure, 7, some .int)
abbrev mi_X10_takes : mm_Mi := (yX10_takes, cX10_takes, 2, some .boolean)
abbrev mi_X10_tells : mm_Mi := (yX10_tells, cX10_tells, 4, none)
abbrev mi_X10_test : mm_Mi := (yX10_test, cX10_test, 7, some .boolean)
abbrev mi_X10_trailer : mm_Mi := (yX10_trailer, cX10_trailer, 8, some .int)
abbrev mi_X10_unrace : mm_Mi := (yX10_unrace, cX10_unrace, 1, some .int)
abbrev mi_X10_water : mm_Mi := (yX10_water, cX10_water, 4, some .int)
abbrev mi_X10_whoIn : mm_Mi := (yX10_whoIn, cX10_whoIn, 4, some .int)
abbrev mi_X10_word : mm_Mi := (yX10_word, cX10_word, 7, some .int)
abbrev mi_X10_wordOf : mm_Mi := (yX10_wordOf, cX10_wordOf, 1, some .long)
abbrev mi_X1_choose : mm_Mi := (yX1_choose, cX1_choose, 6, some .int)
abbrev mi_X1_fillRow : mm_Mi := (yX1_fillRow, cX1_fillRow, 11, none)
abbrev mi_X1_init : mm_Mi := (yX1_init, cX1_init, 1, none)
abbrev mi_X1_isFree : mm_Mi := (yX1_isFree, cX1_isFree, 4, some .boolean)
abbrev mi_X1_leastCost : mm_Mi := (yX1_leastCost, cX1_leastCost, 7, some .int)
abbrev mi_X1_seatThem : mm_Mi := (yX1_seatThem, cX1_seatThem, 6, none)
abbrev mi_X1_setPrices : mm_Mi := (yX1_setPrices, cX1_setPrices, 7, none)
abbrev mi_X2_addHeat : mm_Mi := (yX2_addHeat, cX2_addHeat, 3, some .int)
abbrev mi_X2_clashingPairs : mm_Mi := (yX2_clashingPairs, cX2_clashingPairs, 4, some .int)
abbrev mi_X2_firstClash : mm_Mi := (yX2_firstClash, cX2_firstClash, 4, some .int)
abbrev mi_X2_freeMinute : mm_Mi := (yX2_freeMinute, cX2_freeMinute, 5, some .int)
abbrev mi_X2_init : mm_Mi := (yX2_init, cX2_init, 1, none)
abbrev mi_X2_wouldClash : mm_Mi := (yX2_wouldClash, cX2_wouldClash, 4, some .boolean)
abbrev mi_X3_addLook : mm_Mi := (yX3_addLook, cX3_addLook, 3, some .int)
abbrev mi_X3_addOuting : mm_Mi := (yX3_addOuting, cX3_addOuting, 5, some .int)
abbrev mi_X3_brokeAt : mm_Mi := (yX3_brokeAt, cX3_brokeAt, 3, some .boolean)
abbrev mi_X3_firstBehind : mm_Mi := (yX3_firstBehind, cX3_firstBehind, 3, some .int)
abbrev mi_X3_firstSuspect : mm_Mi := (yX3_firstSuspect, cX3_firstSuspect, 3, some .int)
abbrev mi_X3_init : mm_Mi := (yX3_init, cX3_init, 1, none)
abbrev mi_X3_isBroken : mm_Mi := (yX3_isBroken, cX3_isBroken, 3, some .boolean)
abbrev mi_X3_latestLook : mm_Mi := (yX3_latestLook, cX3_latestLook, 4, some .int)
abbrev mi_X3_suspects : mm_Mi := (yX3_suspects, cX3_suspects, 4, some .int)
abbrev mi_X4_addRace : mm_Mi := (yX4_addRace, cX4_addRace, 4, some .int)
abbrev mi_X4_addToRow : mm_Mi := (yX4_addToRow, cX4_addToRow, 4, none)
abbrev mi_X4_clearCell : mm_Mi := (yX4_clearCell, cX4_clearCell, 12, none)
abbrev mi_X4_eliminate : mm_Mi := (yX4_eliminate, cX4_eliminate, 8, some .boolean)
abbrev mi_X4_fillCells : mm_Mi := (yX4_fillCells, cX4_fillCells, 5, none)
abbrev mi_X4_groupOf : mm_Mi := (yX4_groupOf, cX4_groupOf, 7, some .int)
abbrev mi_X4_init : mm_Mi := (yX4_init, cX4_init, 1, none)
abbrev mi_X4_leadOver : mm_Mi := (yX4_leadOver, cX4_leadOver, 4, some .int)
abbrev mi_X4_misfitAbove : mm_Mi := (yX4_misfitAbove, cX4_misfitAbove, 5, some .long)
abbrev mi_X4_numberRows : mm_Mi := (yX4_numberRows, cX4_numberRows, 4, none)
abbrev mi_X4_solve : mm_Mi := (yX4_solve, cX4_solve, 4, some .boolean)
abbrev mi_X4_whoIsSurelyBetter : mm_Mi := (yX4_whoIsSurelyBetter, cX4_whoIsSurelyBetter, 7, some .int)
abbrev mi_X5_init : mm_Mi := (yX5_init, cX5_init, 1, none)
abbrev mi_X5_lay : mm_Mi := (yX5_lay, cX5_lay, 6, none)
abbrev mi_X5_load : mm_Mi := (yX5_load, cX5_load, 4, some .int)
abbrev mi_X5_longestRow : mm_Mi := (yX5_longestRow, cX5_longestRow, 1, some .int)
abbrev mi_X6_init : mm_Mi := (yX6_init, cX6_init, 1, none)
abbrev mi_X7_asked : mm_Mi := (yX7_asked, cX7_asked, 3, some .int)
abbrev mi_X7_init : mm_Mi := (yX7_init, cX7_init, 1, none)
abbrev mi_X7_isSo : mm_Mi := (yX7_isSo, cX7_isSo, 3, some .boolean)
abbrev mi_X7_keepRead : mm_Mi := (yX7_keepRead, cX7_keepRead, 1, some .int)
abbrev mi_X7_read : mm_Mi := (yX7_read, cX7_read, 2, some .boolean)
abbrev mi_X7_readTest : mm_Mi := (yX7_readTest, cX7_readTest, 3, some .boolean)
abbrev mi_X7_readTests : mm_Mi := (yX7_readTests, cX7_readTests, 3, some .boolean)
abbrev mi_X7_testsHold : mm_Mi := (yX7_testsHold, cX7_testsHold, 4, some .boolean)
abbrev mi_X8_append : mm_Mi := (yX8_append, cX8_append, 5, some .int)
abbrev mi_X8_countSame : mm_Mi := (yX8_countSame, cX8_countSame, 6, some .int)
abbrev mi_X8_init : mm_Mi := (yX8_init, cX8_init, 1, none)
abbrev mi_X8_isAtEnd : mm_Mi := (yX8_isAtEnd, cX8_isAtEnd, 1, some .boolean)
abbrev mi_X8_skip : mm_Mi := (yX8_skip, cX8_skip, 2, some .boolean)
abbrev mi_X8_takeNumber : mm_Mi := (yX8_takeNumber, cX8_takeNumber, 3, some .int)
abbrev mi_X8_takeWord : mm_Mi := (yX8_takeWord, cX8_takeWord, 7, some .int)
abbrev mi_X9_about : mm_Mi := (yX9_about, cX9_about, 3, some .int)
abbrev mi_X9_askedRule : mm_Mi := (yX9_askedRule, cX9_askedRule, 6, some .int)
abbrev mi_X9_between : mm_Mi := (yX9_between, cX9_between, 5, some .long)
abbrev mi_X9_boat : mm_Mi := (yX9_boat, cX9_boat, 5, some .int)
abbrev mi_X9_broke : mm_Mi := (yX9_broke, cX9_broke, 4, some .int)
abbrev mi_X9_clashes : mm_Mi := (yX9_clashes, cX9_clashes, 1, some .int)
abbrev mi_X9_commonDivisor : mm_Mi := (yX9_commonDivisor, cX9_commonDivisor, 11, some .long)
abbrev mi_X9_count : mm_Mi := (yX9_count, cX9_count, 2, some .int)
abbrev mi_X9_crew : mm_Mi := (yX9_crew, cX9_crew, 5, some .int)
abbrev mi_X9_day : mm_Mi := (yX9_day, cX9_day, 3, some .int)
abbrev mi_X9_feed : mm_Mi := (yX9_feed, cX9_feed, 4, some .int)
abbrev mi_X9_group : mm_Mi := (yX9_group, cX9_group, 2, some .int)
abbrev mi_X9_has : mm_Mi := (yX9_has, cX9_has, 2, some .boolean)
abbrev mi_X9_heat : mm_Mi := (yX9_heat, cX9_heat, 3, some .int)
abbrev mi_X9_ill : mm_Mi := (yX9_ill, cX9_ill, 4, some .int)
abbrev mi_X9_init : mm_Mi := (yX9_init, cX9_init, 1, none)
abbrev mi_X9_isHour : mm_Mi := (yX9_isHour, cX9_isHour, 1, some .boolean)
abbrev mi_X9_leastOf : mm_Mi := (yX9_leastOf, cX9_leastOf, 2, some .int)
abbrev mi_X9_look : mm_Mi := (yX9_look, cX9_look, 3, some .int)
abbrev mi_X9_may : mm_Mi := (yX9_may, cX9_may, 3, some .int)
abbrev mi_X9_misfit : mm_Mi := (yX9_misfit, cX9_misfit, 4, some .long)
abbrev mi_X9_near : mm_Mi := (yX9_near, cX9_near, 3, some .int)
abbrev mi_X9_oar : mm_Mi := (yX9_oar, cX9_oar, 3, some .int)
abbrev mi_X9_out : mm_Mi := (yX9_out, cX9_out, 3, some .int)
abbrev mi_X9_outing : mm_Mi := (yX9_outing, cX9_outing, 3, some .int)
abbrev mi_X9_partOf : mm_Mi := (yX9_partOf, cX9_partOf, 7, some .long)
abbrev mi_X9_race : mm_Mi := (yX9_race, cX9_race, 4, some .int)
abbrev mi_X9_rack : mm_Mi := (yX9_rack, cX9_rack, 2, some .int)
abbrev mi_X9_rule : mm_Mi := (yX9_rule, cX9_rule, 2, some .int)
abbrev mi_X9_ruled : mm_Mi := (yX9_ruled, cX9_ruled, 3, some .int)
abbrev mi_X9_seat : mm_Mi := (yX9_seat, cX9_seat, 3, some .int)
abbrev mi_X9_shift : mm_Mi := (yX9_shift, cX9_shift, 3, some .int)
abbrev mi_X9_sit : mm_Mi := (yX9_sit, cX9_sit, 4, some .int)
abbrev mi_X9_strength : mm_Mi := (yX9_strength, cX9_strength, 3, some .long)
abbrev mi_X9_sure : mm_Mi := (yX9_sure, cX9_sure, 3, some .int)
abbrev mi_X9_trailer : mm_Mi := (yX9_trailer, cX9_trailer, 4, some .int)
abbrev mi_X9_unrace : mm_Mi := (yX9_unrace, cX9_unrace, 1, some .int)
abbrev mi_X9_water : mm_Mi := (yX9_water, cX9_water, 4, some .int)
abbrev mi_X9_whyAshore : mm_Mi := (yX9_whyAshore, cX9_whyAshore, 4, some .int)
abbrev mi_X9_within : mm_Mi := (yX9_within, cX9_within, 3, some .boolean)
abbrev mi_L_law : mm_Mi := (yL_law, cL_law, 4, some .boolean)
end
section
theorem wd_1_0 : Cond.initialized RL ∈ mm_tbl := wq_1 _ (List.mem_of_getElem? (i := 0) (by decide +kernel)) rfl
theorem wd_1_1 : Cond.initialized RX9 ∈ mm_tbl := wq_1 _ (List.mem_of_getElem? (i := 1) (by decide +kernel)) rfl
theorem wd_1_2 : Cond.initialized RX0 ∈ mm_tbl := wq_1 _ (List.mem_of_getElem? (i := 2) (by decide +kernel)) rfl
theorem wd_1_3 : Cond.initialized RX4 ∈ mm_tbl := wq_1 _ (List.mem_of_getElem? (i := 3) (by decide +kernel)) rfl
theorem wd_1_4 : Cond.initialized RX1 ∈ mm_tbl := wq_1 _ (List.mem_of_getElem? (i := 4) (by decide +kernel)) rfl
theorem wd_1_5 : Cond.initialized RX6 ∈ mm_tbl := wq_1 _ (List.mem_of_getElem? (i := 5) (by decide +kernel)) rfl
theorem wd_1_6 : Cond.initialized RX8 ∈ mm_tbl := wq_1 _ (List.mem_of_getElem? (i := 6) (by decide +kernel)) rfl
theorem wd_1_7 : Cond.initialized RX7 ∈ mm_tbl := wq_1 _ (List.mem_of_getElem? (i := 7) (by decide +kernel)) rfl
theorem wd_1_8 : Cond.initialized RX3 ∈ mm_tbl := wq_1 _ (List.mem_of_getElem? (i := 8) (by decide +kernel)) rfl
theorem wd_1_9 : Cond.initialized RX2 ∈ mm_tbl := wq_1 _ (List.mem_of_getElem? (i := 9) (by decide +kernel)) rfl
theorem wd_1_10 : Cond.initialized RX5 ∈ mm_tbl := wq_1 _ (List.mem_of_getElem? (i := 10) (by decide +kernel)) rfl
theorem wd_1_11 : Cond.initialized RJ7 ∈ mm_tbl := wq_1 _ (List.mem_of_getElem? (i := 11) (by decide +kernel)) rfl
theorem wd_1_12 : Cond.initialized RX10 ∈ mm_tbl := wq_1 _ (List.mem_of_getElem? (i := 12) (by decide +kernel)) rfl
theorem wd_1_13 : Cond.initialized RJ6 ∈ mm_tbl := wq_1 _ (List.mem_of_getElem? (i := 13) (by decide +kernel)) rfl
theorem wd_1_14 : Cond.initialized RJ9 ∈ mm_tbl := wq_1 _ (List.mem_of_getElem? (i := 14) (by decide +kernel)) rfl
theorem wd_1_15 : Cond.initialized RJ10 ∈ mm_tbl := wq_1 _ (List.mem_of_getElem? (i := 15) (by decide +kernel)) rfl
theorem wd_1_16 : Cond.initialized RJ0 ∈ mm_tbl := wq_1 _ (List.mem_of_getElem? (i := 16) (by decide +kernel)) rfl
theorem wd_1_17 : Cond.initialized RJ1 ∈ mm_tbl := wq_1 _ (List.mem_of_getElem? (i := 17) (by decide +kernel)) rfl
theorem wd_1_18 : Cond.initialized RJ3 ∈ mm_tbl := wq_1 _ (List.mem_of_getElem? (i := 18) (by decide +kernel)) rfl
theorem wd_1_19 : Cond.initialized RJ2 ∈ mm_tbl := wq_1 _ (List.mem_of_getElem? (i := 19) (by decide +kernel)) rfl
theorem wd_1_20 : Cond.classLink RL (7) RX9 ∈ mm_tbl := wq_1 _ (List.mem_of_getElem? (i := 20) (by decide +kernel)) rfl
theorem wd_1_21 : Cond.instantiable RX9 (10) ∈ mm_tbl := wq_1 _ (List.mem_of_getElem? (i := 21) (by decide +kernel)) rfl
theorem wd_1_22 : Cond.methodLink RL (9) yX9_init ∈ mm_tbl := wq_1 _ (List.mem_of_getElem? (i := 22) (by decide +kernel)) rfl
theorem wd_1_23 : Cond.instanceMethod yX9_init ∈ mm_tbl := wq_1 _ (List.mem_of_getElem? (i := 23) (by decide +kernel)) rfl
theorem wd_1_24 : Cond.code yX9_init cX9_init (1) none ∈ mm_tbl := wq_1 _ (List.mem_of_getElem? (i := 24) (by decide +kernel)) rfl
theorem wd_1_25 : Cond.methodLink RX9 (3) objectInit ∈ mm_tbl := wq_1 _ (List.mem_of_getElem? (i := 25) (by decide +kernel)) rfl
theorem wd_1_26 : Cond.instanceMethod objectInit ∈ mm_tbl := wq_1 _ (List.mem_of_getElem? (i := 26) (by decide +kernel)) rfl
theorem wd_1_27 : Cond.code objectInit object_method_1_code (1) none ∈ mm_tbl := wq_1 _ (List.mem_of_getElem? (i := 27) (by decide +kernel)) rfl
theorem wd_1_28 : Cond.classLink RX9 (9) RX0 ∈ mm_tbl := wq_1 _ (List.mem_of_getElem? (i := 28) (by decide +kernel)) rfl
theorem wd_1_29 : Cond.instantiable RX0 (10) ∈ mm_tbl := wq_1 _ (List.mem_of_getElem? (i := 29) (by decide +kernel)) rfl
theorem wd_1_31 : Cond.instanceMethod yX0_init ∈ mm_tbl := wq_1 _ (List.mem_of_getElem? (i := 31) (by decide +kernel)) rfl
theorem wd_1_32 : Cond.code yX0_init cX0_init (1) none ∈ mm_tbl := wq_1 _ (List.mem_of_getElem? (i := 32) (by decide +kernel)) rfl
theorem wd_1_33 : Cond.methodLink RX0 (3) objectInit ∈ mm_tbl := wq_1 _ (List.mem_of_getElem? (i := 33) (by decide +kernel)) rfl
theorem wd_1_34 : Cond.fieldLink RX0 (9) RX0 "oars" "I" ∈ mm_tbl := wq_1 _ (List.mem_of_getElem? (i := 34) (by decide +kernel)) rfl
theorem wd_1_35 : Cond.fieldLink RX1 (27) RX0 "oars" "I" ∈ mm_tbl := wq_1 _ (List.mem_of_getElem? (i := 35) (by decide +kernel)) rfl
theorem wd_1_36 : Cond.fieldLink RX9 (82) RX0 "oars" "I" ∈ mm_tbl := wq_1 _ (List.mem_of_getElem? (i := 36) (by decide +kernel)) rfl
theorem wd_1_37 : Cond.fieldLink RX0 (15) RX0 "oarKind" "[I" ∈ mm_tbl := wq_1 _ (List.mem_of_getElem? (i := 37) (by decide +kernel)) rfl
theorem wd_1_38 : Cond.fieldLink RX9 (118) RX0 "oarKind" "[I" ∈ mm_tbl := wq_1 _ (List.mem_of_getElem? (i := 38) (by decide +kernel)) rfl
theorem wd_1_39 : Cond.fieldLink RX0 (19) RX0 "weight" "[I" ∈ mm_tbl := wq_1 _ (List.mem_of_getElem? (i := 39) (by decide +kernel)) rfl
theorem wd_1_40 : Cond.fieldLink RX9 (121) RX0 "weight" "[I" ∈ mm_tbl := wq_1 _ (List.mem_of_getElem? (i := 40) (by decide +kernel)) rfl
theorem wd_1_41 : Cond.fieldLink RX0 (22) RX0 "sick" "[I" ∈ mm_tbl := wq_1 _ (List.mem_of_getElem? (i := 41) (by decide +kernel)) rfl
theorem wd_1_42 : Cond.fieldLink RX9 (100) RX0 "sick" "[I" ∈ mm_tbl := wq_1 _ (List.mem_of_getElem? (i := 42) (by decide +kernel)) rfl
theorem wd_1_43 : Cond.fieldLink RX0 (25) RX0 "place" "[I" ∈ mm_tbl := wq_1 _ (List.mem_of_getElem? (i := 43) (by decide +kernel)) rfl
theorem wd_1_44 : Cond.fieldLink RX1 (66) RX0 "place" "[I" ∈ mm_tbl := wq_1 _ (List.mem_of_getElem? (i := 44) (by decide +kernel)) rfl
theorem wd_1_45 : Cond.fieldLink RX9 (124) RX0 "place" "[I" ∈ mm_tbl := wq_1 _ (List.mem_of_getElem? (i := 45) (by decide +kernel)) rfl
theorem wd_1_46 : Cond.fieldLink RX0 (28) RX0 "boats" "I" ∈ mm_tbl := wq_1 _ (List.mem_of_getElem? (i := 46) (by decide +kernel)) rfl
theorem wd_1_47 : Cond.fieldLink RX9 (89) RX0 "boats" "I" ∈ mm_tbl := wq_1 _ (List.mem_of_getElem? (i := 47) (by decide +kernel)) rfl
theorem wd_1_48 : Cond.fieldLink RX0 (31) RX0 "boatKind" "[I" ∈ mm_tbl := wq_1 _ (List.mem_of_getElem? (i := 48) (by decide +kernel)) rfl
theorem wd_1_49 : Cond.fieldLink RX9 (310) RX0 "boatKind" "[I" ∈ mm_tbl := wq_1 _ (List.mem_of_getElem? (i := 49) (by decide +kernel)) rfl
theorem wd_1_50 : Cond.fieldLink RX0 (34) RX0 "least" "[I" ∈ mm_tbl := wq_1 _ (List.mem_of_getElem? (i := 50) (by decide +kernel)) rfl
theorem wd_1_51 : Cond.fieldLink RX9 (289) RX0 "least" "[I" ∈ mm_tbl := wq_1 _ (List.mem_of_getElem? (i := 51) (by decide +kernel)) rfl
theorem wd_1_52 : Cond.fieldLink RX0 (37) RX0 "most" "[I" ∈ mm_tbl := wq_1 _ (List.mem_of_getElem? (i := 52) (by decide +kernel)) rfl
theorem wd_1_53 : Cond.fieldLink RX9 (292) RX0 "most" "[I" ∈ mm_tbl := wq_1 _ (List.mem_of_getElem? (i := 53) (by decide +kernel)) rfl
theorem wd_1_54 : Cond.fieldLink RX0 (40) RX0 "length" "[I" ∈ mm_tbl := wq_1 _ (List.mem_of_getElem? (i := 54) (by decide +kernel)) rfl
theorem wd_1_55 : Cond.fieldLink RX9 (261) RX0 "length" "[I" ∈ mm_tbl := wq_1 _ (List.mem_of_getElem? (i := 55) (by decide +kernel)) rfl
theorem wd_1_77 : Cond.arrayClass .int ∈ mm_tbl := wq_1 _ (List.mem_of_getElem? (i := 77) (by decide +kernel)) rfl
theorem wd_1_78 : Cond.classLink RX9 (18) RX4 ∈ mm_tbl := wq_1 _ (List.mem_of_getElem? (i := 78) (by decide +kernel)) rfl
theorem wd_1_79 : Cond.instantiable RX4 (8) ∈ mm_tbl := wq_1 _ (List.mem_of_getElem? (i := 79) (by decide +kernel)) rfl
theorem wd_1_81 : Cond.instanceMethod yX4_init ∈ mm_tbl := wq_1 _ (List.mem_of_getElem? (i := 81) (by decide +kernel)) rfl
theorem wd_1_82 : Cond.code yX4_init cX4_init (1) none ∈ mm_tbl := wq_1 _ (List.mem_of_getElem? (i := 82) (by decide +kernel)) rfl
theorem wd_1_83 : Cond.methodLink RX4 (5) objectInit ∈ mm_tbl := wq_1 _ (List.mem_of_getElem? (i := 83) (by decide +kernel)) rfl
theorem wd_1_84 : Cond.fieldLink RX4 (11) RX4 "count" "I" ∈ mm_tbl := wq_1 _ (List.mem_of_getElem? (i := 84) (by decide +kernel)) rfl
theorem wd_1_85 : Cond.fieldLink RX9 (127) RX4 "count" "I" ∈ mm_tbl := wq_1 _ (List.mem_of_getElem? (i := 85) (by decide +kernel)) rfl
theorem wd_1_86 : Cond.fieldLink RX4 (15) RX4 "first" "[I" ∈ mm_tbl := wq_1 _ (List.mem_of_getElem? (i := 86) (by decide +kernel)) rfl
theorem wd_1_87 : Cond.fieldLink RX4 (19) RX4 "second" "[I" ∈ mm_tbl := wq_1 _ (List.mem_of_getElem? (i := 87) (by decide +kernel)) rfl
theorem wd_1_88 : Cond.fieldLink RX4 (22) RX4 "lead" "[I" ∈ mm_tbl := wq_1 _ (List.mem_of_getElem? (i := 88) (by decide +kernel)) rfl
theorem wd_1_89 : Cond.fieldLink RX4 (27) RX4 "above" "[J" ∈ mm_tbl := wq_1 _ (List.mem_of_getElem? (i := 89) (by decide +kernel)) rfl
theorem wd_1_90 : Cond.fieldLink RX9 (145) RX4 "above" "[J" ∈ mm_tbl := wq_1 _ (List.mem_of_getElem? (i := 90) (by decide +kernel)) rfl
theorem wd_1_91 : Cond.fieldLink RX4 (31) RX4 "below" "J" ∈ mm_tbl := wq_1 _ (List.mem_of_getElem? (i := 91) (by decide +kernel)) rfl
theorem wd_1_92 : Cond.fieldLink RX9 (149) RX4 "below" "J" ∈ mm_tbl := wq_1 _ (List.mem_of_getElem? (i := 92) (by decide +kernel)) rfl
theorem wd_1_93 : Cond.fieldLink RX4 (35) RX4 "rowOf" "[I" ∈ mm_tbl := wq_1 _ (List.mem_of_getElem? (i := 93) (by decide +kernel)) rfl
theorem wd_1_94 : Cond.fieldLink RX4 (38) RX4 "cells" "[J" ∈ mm_tbl := wq_1 _ (List.mem_of_getElem? (i := 94) (by decide +kernel)) rfl
theorem wd_1_112 : Cond.arrayClass .long ∈ mm_tbl := wq_1 _ (List.mem_of_getElem? (i := 112) (by decide +kernel)) rfl
theorem wd_1_113 : Cond.classLink RX9 (25) RX1 ∈ mm_tbl := wq_1 _ (List.mem_of_getElem? (i := 113) (by decide +kernel)) rfl
theorem wd_1_114 : Cond.instantiable RX1 (3) ∈ mm_tbl := wq_1 _ (List.mem_of_getElem? (i := 114) (by decide +kernel)) rfl
theorem wd_1_116 : Cond.instanceMethod yX1_init ∈ mm_tbl := wq_1 _ (List.mem_of_getElem? (i := 116) (by decide +kernel)) rfl
theorem wd_1_117 : Cond.code yX1_init cX1_init (1) none ∈ mm_tbl := wq_1 _ (List.mem_of_getElem? (i := 117) (by decide +kernel)) rfl
theorem wd_1_118 : Cond.methodLink RX1 (5) objectInit ∈ mm_tbl := wq_1 _ (List.mem_of_getElem? (i := 118) (by decide +kernel)) rfl
theorem wd_1_119 : Cond.fieldLink RX1 (13) RX1 "costs" "[I" ∈ mm_tbl := wq_1 _ (List.mem_of_getElem? (i := 119) (by decide +kernel)) rfl
theorem wd_1_120 : Cond.fieldLink RX1 (17) RX1 "price" "[I" ∈ mm_tbl := wq_1 _ (List.mem_of_getElem? (i := 120) (by decide +kernel)) rfl
theorem wd_1_121 : Cond.fieldLink RX1 (20) RX1 "chosen" "[I" ∈ mm_tbl := wq_1 _ (List.mem_of_getElem? (i := 121) (by decide +kernel)) rfl
theorem wd_1_129 : Cond.classLink RX9 (32) RX6 ∈ mm_tbl := wq_1 _ (List.mem_of_getElem? (i := 129) (by decide +kernel)) rfl
theorem wd_1_130 : Cond.instantiable RX6 (2) ∈ mm_tbl := wq_1 _ (List.mem_of_getElem? (i := 130) (by decide +kernel)) rfl
theorem wd_1_132 : Cond.instanceMethod yX6_init ∈ mm_tbl := wq_1 _ (List.mem_of_getElem? (i := 132) (by decide +kernel)) rfl
theorem wd_1_133 : Cond.code yX6_init cX6_init (1) none ∈ mm_tbl := wq_1 _ (List.mem_of_getElem? (i := 133) (by decide +kernel)) rfl
theorem wd_1_134 : Cond.methodLink RX6 (1) objectInit ∈ mm_tbl := wq_1 _ (List.mem_of_getElem? (i := 134) (by decide +kernel)) rfl
theorem wd_1_135 : Cond.fieldLink RX6 (9) RX6 "stream" "[I" ∈ mm_tbl := wq_1 _ (List.mem_of_getElem? (i := 135) (by decide +kernel)) rfl
theorem wd_1_136 : Cond.fieldLink RX9 (181) RX6 "stream" "[I" ∈ mm_tbl := wq_1 _ (List.mem_of_getElem? (i := 136) (by decide +kernel)) rfl
theorem wd_1_137 : Cond.fieldLink RX6 (13) RX6 "wind" "[I" ∈ mm_tbl := wq_1 _ (List.mem_of_getElem? (i := 137) (by decide +kernel)) rfl
theorem wd_1_138 : Cond.fieldLink RX9 (184) RX6 "wind" "[I" ∈ mm_tbl := wq_1 _ (List.mem_of_getElem? (i := 138) (by decide +kernel)) rfl
theorem wd_1_144 : Cond.classLink RX9 (39) RX8 ∈ mm_tbl := wq_1 _ (List.mem_of_getElem? (i := 144) (by decide +kernel)) rfl
theorem wd_1_145 : Cond.instantiable RX8 (3) ∈ mm_tbl := wq_1 _ (List.mem_of_getElem? (i := 145) (by decide +kernel)) rfl
theorem wd_1_147 : Cond.instanceMethod yX8_init ∈ mm_tbl := wq_1 _ (List.mem_of_getElem? (i := 147) (by decide +kernel)) rfl
theorem wd_1_148 : Cond.code yX8_init cX8_init (1) none ∈ mm_tbl := wq_1 _ (List.mem_of_getElem? (i := 148) (by decide +kernel)) rfl
theorem wd_1_149 : Cond.methodLink RX8 (3) objectInit ∈ mm_tbl := wq_1 _ (List.mem_of_getElem? (i := 149) (by decide +kernel)) rfl
theorem wd_1_150 : Cond.fieldLink RX8 (9) RX8 "length" "I" ∈ mm_tbl := wq_1 _ (List.mem_of_getElem? (i := 150) (by decide +kernel)) rfl
theorem wd_1_151 : Cond.fieldLink RX9 (187) RX8 "length" "I" ∈ mm_tbl := wq_1 _ (List.mem_of_getElem? (i := 151) (by decide +kernel)) rfl
theorem wd_1_152 : Cond.fieldLink RX8 (15) RX8 "at" "I" ∈ mm_tbl := wq_1 _ (List.mem_of_getElem? (i := 152) (by decide +kernel)) rfl
theorem wd_1_153 : Cond.fieldLink RX7 (41) RX8 "at" "I" ∈ mm_tbl := wq_1 _ (List.mem_of_getElem? (i := 153) (by decide +kernel)) rfl
theorem wd_1_154 : Cond.fieldLink RX9 (203) RX8 "at" "I" ∈ mm_tbl := wq_1 _ (List.mem_of_getElem? (i := 154) (by decide +kernel)) rfl
theorem wd_1_155 : Cond.fieldLink RX8 (18) RX8 "bytes" "[I" ∈ mm_tbl := wq_1 _ (List.mem_of_getElem? (i := 155) (by decide +kernel)) rfl
theorem wd_1_163 : Cond.classLink RX9 (46) RX7 ∈ mm_tbl := wq_1 _ (List.mem_of_getElem? (i := 163) (by decide +kernel)) rfl
theorem wd_1_164 : Cond.instantiable RX7 (9) ∈ mm_tbl := wq_1 _ (List.mem_of_getElem? (i := 164) (by decide +kernel)) rfl
theorem wd_1_166 : Cond.instanceMethod yX7_init ∈ mm_tbl := wq_1 _ (List.mem_of_getElem? (i := 166) (by decide +kernel)) rfl
theorem wd_1_167 : Cond.code yX7_init cX7_init (1) none ∈ mm_tbl := wq_1 _ (List.mem_of_getElem? (i := 167) (by decide +kernel)) rfl
theorem wd_1_168 : Cond.methodLink RX7 (3) objectInit ∈ mm_tbl := wq_1 _ (List.mem_of_getElem? (i := 168) (by decide +kernel)) rfl
theorem wd_1_169 : Cond.fieldLink RX7 (9) RX7 "count" "I" ∈ mm_tbl := wq_1 _ (List.mem_of_getElem? (i := 169) (by decide +kernel)) rfl
theorem wd_1_170 : Cond.fieldLink RX9 (194) RX7 "count" "I" ∈ mm_tbl := wq_1 _ (List.mem_of_getElem? (i := 170) (by decide +kernel)) rfl
theorem wd_1_171 : Cond.fieldLink RX7 (15) RX7 "bars" "[I" ∈ mm_tbl := wq_1 _ (List.mem_of_getElem? (i := 171) (by decide +kernel)) rfl
theorem wd_1_172 : Cond.fieldLink RX9 (298) RX7 "bars" "[I" ∈ mm_tbl := wq_1 _ (List.mem_of_getElem? (i := 172) (by decide +kernel)) rfl
theorem wd_1_173 : Cond.fieldLink RX7 (19) RX7 "kind" "[I" ∈ mm_tbl := wq_1 _ (List.mem_of_getElem? (i := 173) (by decide +kernel)) rfl
theorem wd_1_174 : Cond.fieldLink RX7 (22) RX7 "tests" "[I" ∈ mm_tbl := wq_1 _ (List.mem_of_getElem? (i := 174) (by decide +kernel)) rfl
theorem wd_1_175 : Cond.fieldLink RX7 (25) RX7 "denied" "[Z" ∈ mm_tbl := wq_1 _ (List.mem_of_getElem? (i := 175) (by decide +kernel)) rfl
theorem wd_1_176 : Cond.fieldLink RX7 (29) RX7 "field" "[I" ∈ mm_tbl := wq_1 _ (List.mem_of_getElem? (i := 176) (by decide +kernel)) rfl
theorem wd_1_177 : Cond.fieldLink RX7 (32) RX7 "sign" "[I" ∈ mm_tbl := wq_1 _ (List.mem_of_getElem? (i := 177) (by decide +kernel)) rfl
theorem wd_1_178 : Cond.fieldLink RX7 (35) RX7 "number" "[I" ∈ mm_tbl := wq_1 _ (List.mem_of_getElem? (i := 178) (by decide +kernel)) rfl
theorem wd_1_179 : Cond.fieldLink RX7 (38) RX7 "now" "[I" ∈ mm_tbl := wq_1 _ (List.mem_of_getElem? (i := 179) (by decide +kernel)) rfl
theorem wd_1_180 : Cond.fieldLink RX9 (301) RX7 "now" "[I" ∈ mm_tbl := wq_1 _ (List.mem_of_getElem? (i := 180) (by decide +kernel)) rfl
theorem wd_1_200 : Cond.arrayClass .boolean ∈ mm_tbl := wq_1 _ (List.mem_of_getElem? (i := 200) (by decide +kernel)) rfl
theorem wd_1_201 : Cond.classLink RX9 (53) RX3 ∈ mm_tbl := wq_1 _ (List.mem_of_getElem? (i := 201) (by decide +kernel)) rfl
theorem wd_1_202 : Cond.instantiable RX3 (9) ∈ mm_tbl := wq_1 _ (List.mem_of_getElem? (i := 202) (by decide +kernel)) rfl
theorem wd_1_204 : Cond.instanceMethod yX3_init ∈ mm_tbl := wq_1 _ (List.mem_of_getElem? (i := 204) (by decide +kernel)) rfl
theorem wd_1_205 : Cond.code yX3_init cX3_init (1) none ∈ mm_tbl := wq_1 _ (List.mem_of_getElem? (i := 205) (by decide +kernel)) rfl
theorem wd_1_206 : Cond.methodLink RX3 (3) objectInit ∈ mm_tbl := wq_1 _ (List.mem_of_getElem? (i := 206) (by decide +kernel)) rfl
theorem wd_1_207 : Cond.fieldLink RX3 (9) RX3 "outings" "I" ∈ mm_tbl := wq_1 _ (List.mem_of_getElem? (i := 207) (by decide +kernel)) rfl
theorem wd_1_208 : Cond.fieldLink RX9 (212) RX3 "outings" "I" ∈ mm_tbl := wq_1 _ (List.mem_of_getElem? (i := 208) (by decide +kernel)) rfl
theorem wd_1_209 : Cond.fieldLink RX3 (15) RX3 "outBoat" "[I" ∈ mm_tbl := wq_1 _ (List.mem_of_getElem? (i := 209) (by decide +kernel)) rfl
theorem wd_1_210 : Cond.fieldLink RX9 (239) RX3 "outBoat" "[I" ∈ mm_tbl := wq_1 _ (List.mem_of_getElem? (i := 210) (by decide +kernel)) rfl
theorem wd_1_211 : Cond.fieldLink RX3 (19) RX3 "outDay" "[I" ∈ mm_tbl := wq_1 _ (List.mem_of_getElem? (i := 211) (by decide +kernel)) rfl
theorem wd_1_212 : Cond.fieldLink RX9 (242) RX3 "outDay" "[I" ∈ mm_tbl := wq_1 _ (List.mem_of_getElem? (i := 212) (by decide +kernel)) rfl
theorem wd_1_213 : Cond.fieldLink RX3 (22) RX3 "outHour" "[I" ∈ mm_tbl := wq_1 _ (List.mem_of_getElem? (i := 213) (by decide +kernel)) rfl
theorem wd_1_214 : Cond.fieldLink RX9 (245) RX3 "outHour" "[I" ∈ mm_tbl := wq_1 _ (List.mem_of_getElem? (i := 214) (by decide +kernel)) rfl
theorem wd_1_215 : Cond.fieldLink RX3 (25) RX3 "who" "[I" ∈ mm_tbl := wq_1 _ (List.mem_of_getElem? (i := 215) (by decide +kernel)) rfl
theorem wd_1_216 : Cond.fieldLink RX9 (236) RX3 "who" "[I" ∈ mm_tbl := wq_1 _ (List.mem_of_getElem? (i := 216) (by decide +kernel)) rfl
theorem wd_1_217 : Cond.fieldLink RX3 (28) RX3 "looks" "I" ∈ mm_tbl := wq_1 _ (List.mem_of_getElem? (i := 217) (by decide +kernel)) rfl
theorem wd_1_218 : Cond.fieldLink RX9 (221) RX3 "looks" "I" ∈ mm_tbl := wq_1 _ (List.mem_of_getElem? (i := 218) (by decide +kernel)) rfl
theorem wd_1_219 : Cond.fieldLink RX3 (31) RX3 "lookBoat" "[I" ∈ mm_tbl := wq_1 _ (List.mem_of_getElem? (i := 219) (by decide +kernel)) rfl
theorem wd_1_220 : Cond.fieldLink RX3 (34) RX3 "wasWhole" "[I" ∈ mm_tbl := wq_1 _ (List.mem_of_getElem? (i := 220) (by decide +kernel)) rfl
theorem wd_1_221 : Cond.fieldLink RX3 (37) RX3 "ahead" "[I" ∈ mm_tbl := wq_1 _ (List.mem_of_getElem? (i := 221) (by decide +kernel)) rfl
theorem wd_2_1 : Cond.classLink RX9 (60) RX2 ∈ mm_tbl := wq_2 _ (List.mem_of_getElem? (i := 1) (by decide +kernel)) rfl
theorem wd_2_2 : Cond.instantiable RX2 (4) ∈ mm_tbl := wq_2 _ (List.mem_of_getElem? (i := 2) (by decide +kernel)) rfl
theorem wd_2_4 : Cond.instanceMethod yX2_init ∈ mm_tbl := wq_2 _ (List.mem_of_getElem? (i := 4) (by decide +kernel)) rfl
theorem wd_2_5 : Cond.code yX2_init cX2_init (1) none ∈ mm_tbl := wq_2 _ (List.mem_of_getElem? (i := 5) (by decide +kernel)) rfl
theorem wd_2_6 : Cond.methodLink RX2 (3) objectInit ∈ mm_tbl := wq_2 _ (List.mem_of_getElem? (i := 6) (by decide +kernel)) rfl
theorem wd_2_7 : Cond.fieldLink RX2 (9) RX2 "count" "I" ∈ mm_tbl := wq_2 _ (List.mem_of_getElem? (i := 7) (by decide +kernel)) rfl
theorem wd_2_8 : Cond.fieldLink RX9 (248) RX2 "count" "I" ∈ mm_tbl := wq_2 _ (List.mem_of_getElem? (i := 8) (by decide +kernel)) rfl
theorem wd_2_9 : Cond.fieldLink RX2 (15) RX2 "apart" "I" ∈ mm_tbl := wq_2 _ (List.mem_of_getElem? (i := 9) (by decide +kernel)) rfl
theorem wd_2_10 : Cond.fieldLink RX9 (252) RX2 "apart" "I" ∈ mm_tbl := wq_2 _ (List.mem_of_getElem? (i := 10) (by decide +kernel)) rfl
theorem wd_2_11 : Cond.fieldLink RX2 (18) RX2 "boatOf" "[I" ∈ mm_tbl := wq_2 _ (List.mem_of_getElem? (i := 11) (by decide +kernel)) rfl
theorem wd_2_12 : Cond.fieldLink RX2 (22) RX2 "start" "[I" ∈ mm_tbl := wq_2 _ (List.mem_of_getElem? (i := 12) (by decide +kernel)) rfl
theorem wd_2_22 : Cond.classLink RX9 (67) RX5 ∈ mm_tbl := wq_2 _ (List.mem_of_getElem? (i := 22) (by decide +kernel)) rfl
theorem wd_2_23 : Cond.instantiable RX5 (4) ∈ mm_tbl := wq_2 _ (List.mem_of_getElem? (i := 23) (by decide +kernel)) rfl
theorem wd_2_24 : Cond.methodLink RX9 (69) yX5_init ∈ mm_tbl := wq_2 _ (List.mem_of_getElem? (i := 24) (by decide +kernel)) rfl
theorem wd_2_25 : Cond.instanceMethod yX5_init ∈ mm_tbl := wq_2 _ (List.mem_of_getElem? (i := 25) (by decide +kernel)) rfl
theorem wd_2_26 : Cond.code yX5_init cX5_init (1) none ∈ mm_tbl := wq_2 _ (List.mem_of_getElem? (i := 26) (by decide +kernel)) rfl
theorem wd_2_27 : Cond.methodLink RX5 (3) objectInit ∈ mm_tbl := wq_2 _ (List.mem_of_getElem? (i := 27) (by decide +kernel)) rfl
theorem wd_2_28 : Cond.methodLink RX5 (27) yJ7_fill_53178 ∈ mm_tbl := wq_2 _ (List.mem_of_getElem? (i := 28) (by decide +kernel)) rfl
theorem wd_2_29 : Cond.static yJ7_fill_53178 ∈ mm_tbl := wq_2 _ (List.mem_of_getElem? (i := 29) (by decide +kernel)) rfl
theorem wd_2_30 : Cond.code yJ7_fill_53178 cJ7_fill_53178 (4) none ∈ mm_tbl := wq_2 _ (List.mem_of_getElem? (i := 30) (by decide +kernel)) rfl
theorem wd_2_31 : Cond.fieldLink RX5 (11) RX5 "rackOf" "[I" ∈ mm_tbl := wq_2 _ (List.mem_of_getElem? (i := 31) (by decide +kernel)) rfl
theorem wd_2_32 : Cond.fieldLink RX9 (267) RX5 "rackOf" "[I" ∈ mm_tbl := wq_2 _ (List.mem_of_getElem? (i := 32) (by decide +kernel)) rfl
theorem wd_2_33 : Cond.fieldLink RX5 (17) RX5 "trial" "[I" ∈ mm_tbl := wq_2 _ (List.mem_of_getElem? (i := 33) (by decide +kernel)) rfl
theorem wd_2_34 : Cond.fieldLink RX5 (20) RX5 "row" "[I" ∈ mm_tbl := wq_2 _ (List.mem_of_getElem? (i := 34) (by decide +kernel)) rfl
theorem wd_2_35 : Cond.fieldLink RX5 (23) RX5 "best" "I" ∈ mm_tbl := wq_2 _ (List.mem_of_getElem? (i := 35) (by decide +kernel)) rfl
theorem wd_2_45 : Cond.fieldLink RX9 (12) RX9 "club" "LDawnEights$Club;" ∈ mm_tbl := wq_2 _ (List.mem_of_getElem? (i := 45) (by decide +kernel)) rfl
theorem wd_2_46 : Cond.fieldLink RX9 (21) RX9 "races" "LDawnEights$Races;" ∈ mm_tbl := wq_2 _ (List.mem_of_getElem? (i := 46) (by decide +kernel)) rfl
theorem wd_2_47 : Cond.fieldLink RX9 (28) RX9 "plan" "LDawnEights$CrewPlan;" ∈ mm_tbl := wq_2 _ (List.mem_of_getElem? (i := 47) (by decide +kernel)) rfl
theorem wd_2_48 : Cond.fieldLink RX9 (35) RX9 "river" "LDawnEights$River;" ∈ mm_tbl := wq_2 _ (List.mem_of_getElem? (i := 48) (by decide +kernel)) rfl
theorem wd_2_49 : Cond.fieldLink RX9 (42) RX9 "tape" "LDawnEights$Tape;" ∈ mm_tbl := wq_2 _ (List.mem_of_getElem? (i := 49) (by decide +kernel)) rfl
theorem wd_2_50 : Cond.fieldLink RX9 (49) RX9 "rules" "LDawnEights$RuleBook;" ∈ mm_tbl := wq_2 _ (List.mem_of_getElem? (i := 50) (by decide +kernel)) rfl
theorem wd_2_51 : Cond.fieldLink RX9 (56) RX9 "log" "LDawnEights$Logbook;" ∈ mm_tbl := wq_2 _ (List.mem_of_getElem? (i := 51) (by decide +kernel)) rfl
theorem wd_2_52 : Cond.fieldLink RX9 (63) RX9 "heats" "LDawnEights$Heats;" ∈ mm_tbl := wq_2 _ (List.mem_of_getElem? (i := 52) (by decide +kernel)) rfl
theorem wd_2_53 : Cond.fieldLink RX9 (70) RX9 "racks" "LDawnEights$Racks;" ∈ mm_tbl := wq_2 _ (List.mem_of_getElem? (i := 53) (by decide +kernel)) rfl
theorem wd_2_54 : Cond.fieldLink RX9 (74) RX9 "today" "I" ∈ mm_tbl := wq_2 _ (List.mem_of_getElem? (i := 54) (by decide +kernel)) rfl
theorem wd_2_76 : Cond.methodLink RL (13) yX9_oar ∈ mm_tbl := wq_2 _ (List.mem_of_getElem? (i := 76) (by decide +kernel)) rfl
theorem wd_2_77 : Cond.instanceMethod yX9_oar ∈ mm_tbl := wq_2 _ (List.mem_of_getElem? (i := 77) (by decide +kernel)) rfl
theorem wd_2_78 : Cond.selects RX9 yX9_oar yX9_oar ∈ mm_tbl := wq_2 _ (List.mem_of_getElem? (i := 78) (by decide +kernel)) rfl
theorem wd_2_79 : Cond.code yX9_oar cX9_oar (3) (some .int) ∈ mm_tbl := wq_2 _ (List.mem_of_getElem? (i := 79) (by decide +kernel)) rfl
theorem wd_2_80 : Cond.methodLink RX9 (78) yX9_within ∈ mm_tbl := wq_2 _ (List.mem_of_getElem? (i := 80) (by decide +kernel)) rfl
theorem wd_2_81 : Cond.static yX9_within ∈ mm_tbl := wq_2 _ (List.mem_of_getElem? (i := 81) (by decide +kernel)) rfl
theorem wd_2_82 : Cond.code yX9_within cX9_within (3) (some .boolean) ∈ mm_tbl := wq_2 _ (List.mem_of_getElem? (i := 82) (by decide +kernel)) rfl
theorem wd_2_83 : Cond.methodLink RX9 (85) yX0_addOar ∈ mm_tbl := wq_2 _ (List.mem_of_getElem? (i := 83) (by decide +kernel)) rfl
theorem wd_2_84 : Cond.instanceMethod yX0_addOar ∈ mm_tbl := wq_2 _ (List.mem_of_getElem? (i := 84) (by decide +kernel)) rfl
theorem wd_2_85 : Cond.selects RX0 yX0_addOar yX0_addOar ∈ mm_tbl := wq_2 _ (List.mem_of_getElem? (i := 85) (by decide +kernel)) rfl
theorem wd_2_86 : Cond.code yX0_addOar cX0_addOar (3) (some .int) ∈ mm_tbl := wq_2 _ (List.mem_of_getElem? (i := 86) (by decide +kernel)) rfl
theorem wd_2_87 : Cond.methodLink RL (18) yX9_boat ∈ mm_tbl := wq_2 _ (List.mem_of_getElem? (i := 87) (by decide +kernel)) rfl
theorem wd_2_88 : Cond.instanceMethod yX9_boat ∈ mm_tbl := wq_2 _ (List.mem_of_getElem? (i := 88) (by decide +kernel)) rfl
theorem wd_2_89 : Cond.selects RX9 yX9_boat yX9_boat ∈ mm_tbl := wq_2 _ (List.mem_of_getElem? (i := 89) (by decide +kernel)) rfl
theorem wd_2_90 : Cond.code yX9_boat cX9_boat (5) (some .int) ∈ mm_tbl := wq_2 _ (List.mem_of_getElem? (i := 90) (by decide +kernel)) rfl
theorem wd_2_91 : Cond.methodLink RX9 (92) yX0_addBoat ∈ mm_tbl := wq_2 _ (List.mem_of_getElem? (i := 91) (by decide +kernel)) rfl
theorem wd_2_92 : Cond.instanceMethod yX0_addBoat ∈ mm_tbl := wq_2 _ (List.mem_of_getElem? (i := 92) (by decide +kernel)) rfl
theorem wd_2_93 : Cond.selects RX0 yX0_addBoat yX0_addBoat ∈ mm_tbl := wq_2 _ (List.mem_of_getElem? (i := 93) (by decide +kernel)) rfl
theorem wd_2_94 : Cond.code yX0_addBoat cX0_addBoat (5) (some .int) ∈ mm_tbl := wq_2 _ (List.mem_of_getElem? (i := 94) (by decide +kernel)) rfl
theorem wd_2_95 : Cond.methodLink RL (23) yX9_ill ∈ mm_tbl := wq_2 _ (List.mem_of_getElem? (i := 95) (by decide +kernel)) rfl
theorem wd_2_96 : Cond.instanceMethod yX9_ill ∈ mm_tbl := wq_2 _ (List.mem_of_getElem? (i := 96) (by decide +kernel)) rfl
theorem wd_2_97 : Cond.selects RX9 yX9_ill yX9_ill ∈ mm_tbl := wq_2 _ (List.mem_of_getElem? (i := 97) (by decide +kernel)) rfl
theorem wd_2_98 : Cond.code yX9_ill cX9_ill (4) (some .int) ∈ mm_tbl := wq_2 _ (List.mem_of_getElem? (i := 98) (by decide +kernel)) rfl
theorem wd_2_99 : Cond.methodLink RX9 (96) yX0_hasOar ∈ mm_tbl := wq_2 _ (List.mem_of_getElem? (i := 99) (by decide +kernel)) rfl
theorem wd_2_100 : Cond.instanceMethod yX0_hasOar ∈ mm_tbl := wq_2 _ (List.mem_of_getElem? (i := 100) (by decide +kernel)) rfl
theorem wd_2_101 : Cond.selects RX0 yX0_hasOar yX0_hasOar ∈ mm_tbl := wq_2 _ (List.mem_of_getElem? (i := 101) (by decide +kernel)) rfl
theorem wd_2_102 : Cond.code yX0_hasOar cX0_hasOar (2) (some .boolean) ∈ mm_tbl := wq_2 _ (List.mem_of_getElem? (i := 102) (by decide +kernel)) rfl
theorem wd_2_103 : Cond.methodLink RL (27) yX9_sit ∈ mm_tbl := wq_2 _ (List.mem_of_getElem? (i := 103) (by decide +kernel)) rfl
theorem wd_2_104 : Cond.instanceMethod yX9_sit ∈ mm_tbl := wq_2 _ (List.mem_of_getElem? (i := 104) (by decide +kernel)) rfl
theorem wd_2_105 : Cond.selects RX9 yX9_sit yX9_sit ∈ mm_tbl := wq_2 _ (List.mem_of_getElem? (i := 105) (by decide +kernel)) rfl
theorem wd_2_106 : Cond.code yX9_sit cX9_sit (4) (some .int) ∈ mm_tbl := wq_2 _ (List.mem_of_getElem? (i := 106) (by decide +kernel)) rfl
theorem wd_2_107 : Cond.methodLink RX9 (104) yX0_hasSeat ∈ mm_tbl := wq_2 _ (List.mem_of_getElem? (i := 107) (by decide +kernel)) rfl
theorem wd_2_108 : Cond.instanceMethod yX0_hasSeat ∈ mm_tbl := wq_2 _ (List.mem_of_getElem? (i := 108) (by decide +kernel)) rfl
theorem wd_2_109 : Cond.selects RX0 yX0_hasSeat yX0_hasSeat ∈ mm_tbl := wq_2 _ (List.mem_of_getElem? (i := 109) (by decide +kernel)) rfl
theorem wd_2_110 : Cond.code yX0_hasSeat cX0_hasSeat (3) (some .boolean) ∈ mm_tbl := wq_2 _ (List.mem_of_getElem? (i := 110) (by decide +kernel)) rfl
theorem wd_2_111 : Cond.methodLink RX0 (43) yX0_hasBoat ∈ mm_tbl := wq_2 _ (List.mem_of_getElem? (i := 111) (by decide +kernel)) rfl
theorem wd_2_112 : Cond.instanceMethod yX0_hasBoat ∈ mm_tbl := wq_2 _ (List.mem_of_getElem? (i := 112) (by decide +kernel)) rfl
theorem wd_2_113 : Cond.selects RX0 yX0_hasBoat yX0_hasBoat ∈ mm_tbl := wq_2 _ (List.mem_of_getElem? (i := 113) (by decide +kernel)) rfl
theorem wd_2_114 : Cond.code yX0_hasBoat cX0_hasBoat (2) (some .boolean) ∈ mm_tbl := wq_2 _ (List.mem_of_getElem? (i := 114) (by decide +kernel)) rfl
theorem wd_2_115 : Cond.methodLink RX0 (47) yX0_hasCox ∈ mm_tbl := wq_2 _ (List.mem_of_getElem? (i := 115) (by decide +kernel)) rfl
theorem wd_2_116 : Cond.instanceMethod yX0_hasCox ∈ mm_tbl := wq_2 _ (List.mem_of_getElem? (i := 116) (by decide +kernel)) rfl
theorem wd_2_117 : Cond.selects RX0 yX0_hasCox yX0_hasCox ∈ mm_tbl := wq_2 _ (List.mem_of_getElem? (i := 117) (by decide +kernel)) rfl
theorem wd_2_118 : Cond.code yX0_hasCox cX0_hasCox (2) (some .boolean) ∈ mm_tbl := wq_2 _ (List.mem_of_getElem? (i := 118) (by decide +kernel)) rfl
theorem wd_2_119 : Cond.methodLink RX0 (50) yX0_seats ∈ mm_tbl := wq_2 _ (List.mem_of_getElem? (i := 119) (by decide +kernel)) rfl
theorem wd_2_120 : Cond.instanceMethod yX0_seats ∈ mm_tbl := wq_2 _ (List.mem_of_getElem? (i := 120) (by decide +kernel)) rfl
theorem wd_2_121 : Cond.selects RX0 yX0_seats yX0_seats ∈ mm_tbl := wq_2 _ (List.mem_of_getElem? (i := 121) (by decide +kernel)) rfl
theorem wd_2_122 : Cond.code yX0_seats cX0_seats (2) (some .int) ∈ mm_tbl := wq_2 _ (List.mem_of_getElem? (i := 122) (by decide +kernel)) rfl
theorem wd_2_123 : Cond.fieldLink RX0 (58) RX0 "SEATS" "[I" ∈ mm_tbl := wq_2 _ (List.mem_of_getElem? (i := 123) (by decide +kernel)) rfl
theorem wd_2_126 : Cond.methodLink RX9 (108) yX0_maySit ∈ mm_tbl := wq_2 _ (List.mem_of_getElem? (i := 126) (by decide +kernel)) rfl
theorem wd_2_127 : Cond.instanceMethod yX0_maySit ∈ mm_tbl := wq_2 _ (List.mem_of_getElem? (i := 127) (by decide +kernel)) rfl
theorem wd_2_128 : Cond.selects RX0 yX0_maySit yX0_maySit ∈ mm_tbl := wq_2 _ (List.mem_of_getElem? (i := 128) (by decide +kernel)) rfl
theorem wd_2_129 : Cond.code yX0_maySit cX0_maySit (3) (some .boolean) ∈ mm_tbl := wq_2 _ (List.mem_of_getElem? (i := 129) (by decide +kernel)) rfl
theorem wd_2_130 : Cond.methodLink RX9 (111) yX0_putOn ∈ mm_tbl := wq_2 _ (List.mem_of_getElem? (i := 130) (by decide +kernel)) rfl
theorem wd_2_131 : Cond.instanceMethod yX0_putOn ∈ mm_tbl := wq_2 _ (List.mem_of_getElem? (i := 131) (by decide +kernel)) rfl
theorem wd_2_132 : Cond.selects RX0 yX0_putOn yX0_putOn ∈ mm_tbl := wq_2 _ (List.mem_of_getElem? (i := 132) (by decide +kernel)) rfl
theorem wd_2_133 : Cond.code yX0_putOn cX0_putOn (5) (some .int) ∈ mm_tbl := wq_2 _ (List.mem_of_getElem? (i := 133) (by decide +kernel)) rfl
theorem wd_2_134 : Cond.methodLink RX0 (61) yX0_whoSits ∈ mm_tbl := wq_2 _ (List.mem_of_getElem? (i := 134) (by decide +kernel)) rfl
theorem wd_2_135 : Cond.instanceMethod yX0_whoSits ∈ mm_tbl := wq_2 _ (List.mem_of_getElem? (i := 135) (by decide +kernel)) rfl
theorem wd_2_136 : Cond.selects RX0 yX0_whoSits yX0_whoSits ∈ mm_tbl := wq_2 _ (List.mem_of_getElem? (i := 136) (by decide +kernel)) rfl
theorem wd_2_137 : Cond.code yX0_whoSits cX0_whoSits (4) (some .int) ∈ mm_tbl := wq_2 _ (List.mem_of_getElem? (i := 137) (by decide +kernel)) rfl
theorem wd_2_138 : Cond.methodLink RL (32) yX9_seat ∈ mm_tbl := wq_2 _ (List.mem_of_getElem? (i := 138) (by decide +kernel)) rfl
theorem wd_2_139 : Cond.instanceMethod yX9_seat ∈ mm_tbl := wq_2 _ (List.mem_of_getElem? (i := 139) (by decide +kernel)) rfl
theorem wd_2_140 : Cond.selects RX9 yX9_seat yX9_seat ∈ mm_tbl := wq_2 _ (List.mem_of_getElem? (i := 140) (by decide +kernel)) rfl
theorem wd_2_141 : Cond.code yX9_seat cX9_seat (3) (some .int) ∈ mm_tbl := wq_2 _ (List.mem_of_getElem? (i := 141) (by decide +kernel)) rfl
theorem wd_2_142 : Cond.methodLink RX9 (115) yX0_whoSits ∈ mm_tbl := wq_2 _ (List.mem_of_getElem? (i := 142) (by decide +kernel)) rfl
theorem wd_2_143 : Cond.methodLink RL (36) yX9_about ∈ mm_tbl := wq_2 _ (List.mem_of_getElem? (i := 143) (by decide +kernel)) rfl
theorem wd_2_144 : Cond.instanceMethod yX9_about ∈ mm_tbl := wq_2 _ (List.mem_of_getElem? (i := 144) (by decide +kernel)) rfl
theorem wd_2_145 : Cond.selects RX9 yX9_about yX9_about ∈ mm_tbl := wq_2 _ (List.mem_of_getElem? (i := 145) (by decide +kernel)) rfl
theorem wd_2_146 : Cond.code yX9_about cX9_about (3) (some .int) ∈ mm_tbl := wq_2 _ (List.mem_of_getElem? (i := 146) (by decide +kernel)) rfl
theorem wd_2_147 : Cond.methodLink RL (40) yX9_race ∈ mm_tbl := wq_2 _ (List.mem_of_getElem? (i := 147) (by decide +kernel)) rfl
theorem wd_2_148 : Cond.instanceMethod yX9_race ∈ mm_tbl := wq_2 _ (List.mem_of_getElem? (i := 148) (by decide +kernel)) rfl
theorem wd_2_149 : Cond.selects RX9 yX9_race yX9_race ∈ mm_tbl := wq_2 _ (List.mem_of_getElem? (i := 149) (by decide +kernel)) rfl
theorem wd_2_150 : Cond.code yX9_race cX9_race (4) (some .int) ∈ mm_tbl := wq_2 _ (List.mem_of_getElem? (i := 150) (by decide +kernel)) rfl
theorem wd_2_151 : Cond.methodLink RX9 (130) yX4_addRace ∈ mm_tbl := wq_2 _ (List.mem_of_getElem? (i := 151) (by decide +kernel)) rfl
theorem wd_2_152 : Cond.instanceMethod yX4_addRace ∈ mm_tbl := wq_2 _ (List.mem_of_getElem? (i := 152) (by decide +kernel)) rfl
theorem wd_2_153 : Cond.selects RX4 yX4_addRace yX4_addRace ∈ mm_tbl := wq_2 _ (List.mem_of_getElem? (i := 153) (by decide +kernel)) rfl
theorem wd_2_154 : Cond.code yX4_addRace cX4_addRace (4) (some .int) ∈ mm_tbl := wq_2 _ (List.mem_of_getElem? (i := 154) (by decide +kernel)) rfl
theorem wd_2_155 : Cond.methodLink RL (44) yX9_unrace ∈ mm_tbl := wq_2 _ (List.mem_of_getElem? (i := 155) (by decide +kernel)) rfl
theorem wd_2_156 : Cond.instanceMethod yX9_unrace ∈ mm_tbl := wq_2 _ (List.mem_of_getElem? (i := 156) (by decide +kernel)) rfl
theorem wd_2_157 : Cond.selects RX9 yX9_unrace yX9_unrace ∈ mm_tbl := wq_2 _ (List.mem_of_getElem? (i := 157) (by decide +kernel)) rfl
theorem wd_2_158 : Cond.code yX9_unrace cX9_unrace (1) (some .int) ∈ mm_tbl := wq_2 _ (List.mem_of_getElem? (i := 158) (by decide +kernel)) rfl
theorem wd_2_159 : Cond.methodLink RL (49) yX9_group ∈ mm_tbl := wq_2 _ (List.mem_of_getElem? (i := 159) (by decide +kernel)) rfl
theorem wd_2_160 : Cond.instanceMethod yX9_group ∈ mm_tbl := wq_2 _ (List.mem_of_getElem? (i := 160) (by decide +kernel)) rfl
theorem wd_2_161 : Cond.selects RX9 yX9_group yX9_group ∈ mm_tbl := wq_2 _ (List.mem_of_getElem? (i := 161) (by decide +kernel)) rfl
theorem wd_2_162 : Cond.code yX9_group cX9_group (2) (some .int) ∈ mm_tbl := wq_2 _ (List.mem_of_getElem? (i := 162) (by decide +kernel)) rfl
theorem wd_2_163 : Cond.methodLink RX9 (133) yX4_groupOf ∈ mm_tbl := wq_2 _ (List.mem_of_getElem? (i := 163) (by decide +kernel)) rfl
theorem wd_2_164 : Cond.instanceMethod yX4_groupOf ∈ mm_tbl := wq_2 _ (List.mem_of_getElem? (i := 164) (by decide +kernel)) rfl
theorem wd_2_165 : Cond.selects RX4 yX4_groupOf yX4_groupOf ∈ mm_tbl := wq_2 _ (List.mem_of_getElem? (i := 165) (by decide +kernel)) rfl
theorem wd_2_166 : Cond.code yX4_groupOf cX4_groupOf (7) (some .int) ∈ mm_tbl := wq_2 _ (List.mem_of_getElem? (i := 166) (by decide +kernel)) rfl
theorem wd_2_167 : Cond.methodLink RX9 (137) yX9_leastOf ∈ mm_tbl := wq_2 _ (List.mem_of_getElem? (i := 167) (by decide +kernel)) rfl
theorem wd_2_168 : Cond.static yX9_leastOf ∈ mm_tbl := wq_2 _ (List.mem_of_getElem? (i := 168) (by decide +kernel)) rfl
theorem wd_2_169 : Cond.code yX9_leastOf cX9_leastOf (2) (some .int) ∈ mm_tbl := wq_2 _ (List.mem_of_getElem? (i := 169) (by decide +kernel)) rfl
theorem wd_2_170 : Cond.methodLink RX9 (157) yX9_has ∈ mm_tbl := wq_2 _ (List.mem_of_getElem? (i := 170) (by decide +kernel)) rfl
theorem wd_2_171 : Cond.static yX9_has ∈ mm_tbl := wq_2 _ (List.mem_of_getElem? (i := 171) (by decide +kernel)) rfl
theorem wd_2_172 : Cond.code yX9_has cX9_has (2) (some .boolean) ∈ mm_tbl := wq_2 _ (List.mem_of_getElem? (i := 172) (by decide +kernel)) rfl
theorem wd_2_173 : Cond.methodLink RL (54) yX9_strength ∈ mm_tbl := wq_2 _ (List.mem_of_getElem? (i := 173) (by decide +kernel)) rfl
theorem wd_2_174 : Cond.instanceMethod yX9_strength ∈ mm_tbl := wq_2 _ (List.mem_of_getElem? (i := 174) (by decide +kernel)) rfl
theorem wd_2_175 : Cond.selects RX9 yX9_strength yX9_strength ∈ mm_tbl := wq_2 _ (List.mem_of_getElem? (i := 175) (by decide +kernel)) rfl
theorem wd_2_176 : Cond.code yX9_strength cX9_strength (3) (some .long) ∈ mm_tbl := wq_2 _ (List.mem_of_getElem? (i := 176) (by decide +kernel)) rfl
theorem wd_2_177 : Cond.methodLink RX9 (140) yX4_solve ∈ mm_tbl := wq_2 _ (List.mem_of_getElem? (i := 177) (by decide +kernel)) rfl
theorem wd_2_178 : Cond.instanceMethod yX4_solve ∈ mm_tbl := wq_2 _ (List.mem_of_getElem? (i := 178) (by decide +kernel)) rfl
theorem wd_2_179 : Cond.selects RX4 yX4_solve yX4_solve ∈ mm_tbl := wq_2 _ (List.mem_of_getElem? (i := 179) (by decide +kernel)) rfl
theorem wd_2_180 : Cond.code yX4_solve cX4_solve (4) (some .boolean) ∈ mm_tbl := wq_2 _ (List.mem_of_getElem? (i := 180) (by decide +kernel)) rfl
theorem wd_2_181 : Cond.methodLink RX4 (41) yJ6_bitCount_0f7a4 ∈ mm_tbl := wq_2 _ (List.mem_of_getElem? (i := 181) (by decide +kernel)) rfl
theorem wd_2_182 : Cond.static yJ6_bitCount_0f7a4 ∈ mm_tbl := wq_2 _ (List.mem_of_getElem? (i := 182) (by decide +kernel)) rfl
theorem wd_2_183 : Cond.code yJ6_bitCount_0f7a4 cJ6_bitCount_0f7a4 (1) (some .int) ∈ mm_tbl := wq_2 _ (List.mem_of_getElem? (i := 183) (by decide +kernel)) rfl
theorem wd_2_184 : Cond.constant RJ6 (265) (1431655765) ∈ mm_tbl := wq_2 _ (List.mem_of_getElem? (i := 184) (by decide +kernel)) rfl
theorem wd_2_185 : Cond.constant RJ6 (266) (858993459) ∈ mm_tbl := wq_2 _ (List.mem_of_getElem? (i := 185) (by decide +kernel)) rfl
theorem wd_2_186 : Cond.constant RJ6 (267) (252645135) ∈ mm_tbl := wq_2 _ (List.mem_of_getElem? (i := 186) (by decide +kernel)) rfl
theorem wd_2_187 : Cond.methodLink RX4 (47) yX4_numberRows ∈ mm_tbl := wq_2 _ (List.mem_of_getElem? (i := 187) (by decide +kernel)) rfl
theorem wd_2_189 : Cond.instanceMethod yX4_numberRows ∈ mm_tbl := wq_2 _ (List.mem_of_getElem? (i := 189) (by decide +kernel)) rfl
theorem wd_2_190 : Cond.code yX4_numberRows cX4_numberRows (4) none ∈ mm_tbl := wq_2 _ (List.mem_of_getElem? (i := 190) (by decide +kernel)) rfl
theorem wd_2_192 : Cond.methodLink RX4 (51) yX4_fillCells ∈ mm_tbl := wq_2 _ (List.mem_of_getElem? (i := 192) (by decide +kernel)) rfl
theorem wd_2_194 : Cond.instanceMethod yX4_fillCells ∈ mm_tbl := wq_2 _ (List.mem_of_getElem? (i := 194) (by decide +kernel)) rfl
theorem wd_2_195 : Cond.code yX4_fillCells cX4_fillCells (5) none ∈ mm_tbl := wq_2 _ (List.mem_of_getElem? (i := 195) (by decide +kernel)) rfl
theorem wd_2_196 : Cond.methodLink RX4 (62) yJ7_fill_d0a16 ∈ mm_tbl := wq_2 _ (List.mem_of_getElem? (i := 196) (by decide +kernel)) rfl
theorem wd_2_197 : Cond.static yJ7_fill_d0a16 ∈ mm_tbl := wq_2 _ (List.mem_of_getElem? (i := 197) (by decide +kernel)) rfl
theorem wd_2_198 : Cond.code yJ7_fill_d0a16 cJ7_fill_d0a16 (5) none ∈ mm_tbl := wq_2 _ (List.mem_of_getElem? (i := 198) (by decide +kernel)) rfl
theorem wd_2_199 : Cond.methodLink RX4 (68) yX4_addToRow ∈ mm_tbl := wq_2 _ (List.mem_of_getElem? (i := 199) (by decide +kernel)) rfl
theorem wd_2_201 : Cond.instanceMethod yX4_addToRow ∈ mm_tbl := wq_2 _ (List.mem_of_getElem? (i := 201) (by decide +kernel)) rfl
theorem wd_2_202 : Cond.code yX4_addToRow cX4_addToRow (4) none ∈ mm_tbl := wq_2 _ (List.mem_of_getElem? (i := 202) (by decide +kernel)) rfl
theorem wd_2_203 : Cond.methodLink RX4 (54) yX4_eliminate ∈ mm_tbl := wq_2 _ (List.mem_of_getElem? (i := 203) (by decide +kernel)) rfl
theorem wd_2_205 : Cond.instanceMethod yX4_eliminate ∈ mm_tbl := wq_2 _ (List.mem_of_getElem? (i := 205) (by decide +kernel)) rfl
theorem wd_2_206 : Cond.code yX4_eliminate cX4_eliminate (8) (some .boolean) ∈ mm_tbl := wq_2 _ (List.mem_of_getElem? (i := 206) (by decide +kernel)) rfl
theorem wd_2_207 : Cond.methodLink RX4 (72) yX4_clearCell ∈ mm_tbl := wq_2 _ (List.mem_of_getElem? (i := 207) (by decide +kernel)) rfl
theorem wd_2_209 : Cond.instanceMethod yX4_clearCell ∈ mm_tbl := wq_2 _ (List.mem_of_getElem? (i := 209) (by decide +kernel)) rfl
theorem wd_2_210 : Cond.code yX4_clearCell cX4_clearCell (12) none ∈ mm_tbl := wq_2 _ (List.mem_of_getElem? (i := 210) (by decide +kernel)) rfl
theorem wd_2_211 : Cond.constantLong RX9 (143) (-9223372036854775808) ∈ mm_tbl := wq_2 _ (List.mem_of_getElem? (i := 211) (by decide +kernel)) rfl
theorem wd_2_212 : Cond.methodLink RX9 (153) yX9_partOf ∈ mm_tbl := wq_2 _ (List.mem_of_getElem? (i := 212) (by decide +kernel)) rfl
theorem wd_2_213 : Cond.static yX9_partOf ∈ mm_tbl := wq_2 _ (List.mem_of_getElem? (i := 213) (by decide +kernel)) rfl
theorem wd_2_214 : Cond.code yX9_partOf cX9_partOf (7) (some .long) ∈ mm_tbl := wq_2 _ (List.mem_of_getElem? (i := 214) (by decide +kernel)) rfl
theorem wd_2_215 : Cond.methodLink RX9 (270) yJ9_abs_067f4 ∈ mm_tbl := wq_2 _ (List.mem_of_getElem? (i := 215) (by decide +kernel)) rfl
theorem wd_2_216 : Cond.static yJ9_abs_067f4 ∈ mm_tbl := wq_2 _ (List.mem_of_getElem? (i := 216) (by decide +kernel)) rfl
theorem wd_2_217 : Cond.code yJ9_abs_067f4 cJ9_abs_067f4 (2) (some .long) ∈ mm_tbl := wq_2 _ (List.mem_of_getElem? (i := 217) (by decide +kernel)) rfl
theorem wd_2_218 : Cond.methodLink RX9 (276) yX9_commonDivisor ∈ mm_tbl := wq_2 _ (List.mem_of_getElem? (i := 218) (by decide +kernel)) rfl
theorem wd_2_219 : Cond.static yX9_commonDivisor ∈ mm_tbl := wq_2 _ (List.mem_of_getElem? (i := 219) (by decide +kernel)) rfl
theorem wd_2_220 : Cond.code yX9_commonDivisor cX9_commonDivisor (11) (some .long) ∈ mm_tbl := wq_2 _ (List.mem_of_getElem? (i := 220) (by decide +kernel)) rfl
theorem wd_2_221 : Cond.methodLink RL (59) yX9_between ∈ mm_tbl := wq_2 _ (List.mem_of_getElem? (i := 221) (by decide +kernel)) rfl
theorem wd_2_222 : Cond.instanceMethod yX9_between ∈ mm_tbl := wq_2 _ (List.mem_of_getElem? (i := 222) (by decide +kernel)) rfl
theorem wd_2_223 : Cond.selects RX9 yX9_between yX9_between ∈ mm_tbl := wq_2 _ (List.mem_of_getElem? (i := 223) (by decide +kernel)) rfl
theorem wd_2_224 : Cond.code yX9_between cX9_between (5) (some .long) ∈ mm_tbl := wq_2 _ (List.mem_of_getElem? (i := 224) (by decide +kernel)) rfl
theorem wd_2_225 : Cond.methodLink RL (64) yX9_misfit ∈ mm_tbl := wq_2 _ (List.mem_of_getElem? (i := 225) (by decide +kernel)) rfl
theorem wd_2_226 : Cond.instanceMethod yX9_misfit ∈ mm_tbl := wq_2 _ (List.mem_of_getElem? (i := 226) (by decide +kernel)) rfl
theorem wd_2_227 : Cond.selects RX9 yX9_misfit yX9_misfit ∈ mm_tbl := wq_2 _ (List.mem_of_getElem? (i := 227) (by decide +kernel)) rfl
theorem wd_2_228 : Cond.code yX9_misfit cX9_misfit (4) (some .long) ∈ mm_tbl := wq_2 _ (List.mem_of_getElem? (i := 228) (by decide +kernel)) rfl
theorem wd_2_229 : Cond.methodLink RX9 (160) yX4_misfitAbove ∈ mm_tbl := wq_2 _ (List.mem_of_getElem? (i := 229) (by decide +kernel)) rfl
theorem wd_2_230 : Cond.instanceMethod yX4_misfitAbove ∈ mm_tbl := wq_2 _ (List.mem_of_getElem? (i := 230) (by decide +kernel)) rfl
theorem wd_2_231 : Cond.selects RX4 yX4_misfitAbove yX4_misfitAbove ∈ mm_tbl := wq_2 _ (List.mem_of_getElem? (i := 231) (by decide +kernel)) rfl
theorem wd_2_232 : Cond.code yX4_misfitAbove cX4_misfitAbove (5) (some .long) ∈ mm_tbl := wq_2 _ (List.mem_of_getElem? (i := 232) (by decide +kernel)) rfl
theorem wd_2_233 : Cond.methodLink RX4 (76) yJ9_abs_067f4 ∈ mm_tbl := wq_2 _ (List.mem_of_getElem? (i := 233) (by decide +kernel)) rfl
theorem wd_2_234 : Cond.methodLink RL (68) yX9_sure ∈ mm_tbl := wq_2 _ (List.mem_of_getElem? (i := 234) (by decide +kernel)) rfl
theorem wd_2_235 : Cond.instanceMethod yX9_sure ∈ mm_tbl := wq_2 _ (List.mem_of_getElem? (i := 235) (by decide +kernel)) rfl
theorem wd_2_236 : Cond.selects RX9 yX9_sure yX9_sure ∈ mm_tbl := wq_2 _ (List.mem_of_getElem? (i := 236) (by decide +kernel)) rfl
theorem wd_2_237 : Cond.code yX9_sure cX9_sure (3) (some .int) ∈ mm_tbl := wq_2 _ (List.mem_of_getElem? (i := 237) (by decide +kernel)) rfl
theorem wd_2_238 : Cond.methodLink RX9 (164) yX4_whoIsSurelyBetter ∈ mm_tbl := wq_2 _ (List.mem_of_getElem? (i := 238) (by decide +kernel)) rfl
theorem wd_2_239 : Cond.instanceMethod yX4_whoIsSurelyBetter ∈ mm_tbl := wq_2 _ (List.mem_of_getElem? (i := 239) (by decide +kernel)) rfl
theorem wd_3_0 : Cond.selects RX4 yX4_whoIsSurelyBetter yX4_whoIsSurelyBetter ∈ mm_tbl := wq_3 _ (List.mem_of_getElem? (i := 0) (by decide +kernel)) rfl
theorem wd_3_1 : Cond.code yX4_whoIsSurelyBetter cX4_whoIsSurelyBetter (7) (some .int) ∈ mm_tbl := wq_3 _ (List.mem_of_getElem? (i := 1) (by decide +kernel)) rfl
theorem wd_3_2 : Cond.methodLink RX4 (82) yX4_leadOver ∈ mm_tbl := wq_3 _ (List.mem_of_getElem? (i := 2) (by decide +kernel)) rfl
theorem wd_3_4 : Cond.instanceMethod yX4_leadOver ∈ mm_tbl := wq_3 _ (List.mem_of_getElem? (i := 4) (by decide +kernel)) rfl
theorem wd_3_5 : Cond.code yX4_leadOver cX4_leadOver (4) (some .int) ∈ mm_tbl := wq_3 _ (List.mem_of_getElem? (i := 5) (by decide +kernel)) rfl
theorem wd_3_6 : Cond.methodLink RL (72) yX9_crew ∈ mm_tbl := wq_3 _ (List.mem_of_getElem? (i := 6) (by decide +kernel)) rfl
theorem wd_3_7 : Cond.instanceMethod yX9_crew ∈ mm_tbl := wq_3 _ (List.mem_of_getElem? (i := 7) (by decide +kernel)) rfl
theorem wd_3_8 : Cond.selects RX9 yX9_crew yX9_crew ∈ mm_tbl := wq_3 _ (List.mem_of_getElem? (i := 8) (by decide +kernel)) rfl
theorem wd_3_9 : Cond.code yX9_crew cX9_crew (5) (some .int) ∈ mm_tbl := wq_3 _ (List.mem_of_getElem? (i := 9) (by decide +kernel)) rfl
theorem wd_3_10 : Cond.methodLink RX9 (167) yX0_hasBoat ∈ mm_tbl := wq_3 _ (List.mem_of_getElem? (i := 10) (by decide +kernel)) rfl
theorem wd_3_11 : Cond.methodLink RX9 (170) yX9_isHour ∈ mm_tbl := wq_3 _ (List.mem_of_getElem? (i := 11) (by decide +kernel)) rfl
theorem wd_3_12 : Cond.static yX9_isHour ∈ mm_tbl := wq_3 _ (List.mem_of_getElem? (i := 12) (by decide +kernel)) rfl
theorem wd_3_13 : Cond.code yX9_isHour cX9_isHour (1) (some .boolean) ∈ mm_tbl := wq_3 _ (List.mem_of_getElem? (i := 13) (by decide +kernel)) rfl
theorem wd_3_14 : Cond.methodLink RX9 (173) yX1_leastCost ∈ mm_tbl := wq_3 _ (List.mem_of_getElem? (i := 14) (by decide +kernel)) rfl
theorem wd_3_15 : Cond.instanceMethod yX1_leastCost ∈ mm_tbl := wq_3 _ (List.mem_of_getElem? (i := 15) (by decide +kernel)) rfl
theorem wd_3_16 : Cond.selects RX1 yX1_leastCost yX1_leastCost ∈ mm_tbl := wq_3 _ (List.mem_of_getElem? (i := 16) (by decide +kernel)) rfl
theorem wd_3_17 : Cond.code yX1_leastCost cX1_leastCost (7) (some .int) ∈ mm_tbl := wq_3 _ (List.mem_of_getElem? (i := 17) (by decide +kernel)) rfl
theorem wd_3_18 : Cond.methodLink RX1 (23) yX0_seats ∈ mm_tbl := wq_3 _ (List.mem_of_getElem? (i := 18) (by decide +kernel)) rfl
theorem wd_3_19 : Cond.methodLink RX1 (31) yX1_fillRow ∈ mm_tbl := wq_3 _ (List.mem_of_getElem? (i := 19) (by decide +kernel)) rfl
theorem wd_3_21 : Cond.instanceMethod yX1_fillRow ∈ mm_tbl := wq_3 _ (List.mem_of_getElem? (i := 21) (by decide +kernel)) rfl
theorem wd_3_22 : Cond.code yX1_fillRow cX1_fillRow (11) none ∈ mm_tbl := wq_3 _ (List.mem_of_getElem? (i := 22) (by decide +kernel)) rfl
theorem wd_3_23 : Cond.methodLink RX1 (35) ⟨"java/lang/System", "arraycopy", "(Ljava/lang/Object;ILjava/lang/Object;II)V"⟩ ∈ mm_tbl := wq_3 _ (List.mem_of_getElem? (i := 23) (by decide +kernel)) rfl
theorem wd_3_24 : Cond.static ⟨"java/lang/System", "arraycopy", "(Ljava/lang/Object;ILjava/lang/Object;II)V"⟩ ∈ mm_tbl := wq_3 _ (List.mem_of_getElem? (i := 24) (by decide +kernel)) rfl
theorem wd_3_25 : Cond.native ⟨"java/lang/System", "arraycopy", "(Ljava/lang/Object;ILjava/lang/Object;II)V"⟩ ∈ mm_tbl := wq_3 _ (List.mem_of_getElem? (i := 25) (by decide +kernel)) rfl
theorem wd_3_26 : Cond.methodLink RX1 (41) yX1_isFree ∈ mm_tbl := wq_3 _ (List.mem_of_getElem? (i := 26) (by decide +kernel)) rfl
theorem wd_3_27 : Cond.static yX1_isFree ∈ mm_tbl := wq_3 _ (List.mem_of_getElem? (i := 27) (by decide +kernel)) rfl
theorem wd_3_28 : Cond.code yX1_isFree cX1_isFree (4) (some .boolean) ∈ mm_tbl := wq_3 _ (List.mem_of_getElem? (i := 28) (by decide +kernel)) rfl
theorem wd_3_29 : Cond.methodLink RX1 (59) yX0_mayBeOut ∈ mm_tbl := wq_3 _ (List.mem_of_getElem? (i := 29) (by decide +kernel)) rfl
theorem wd_3_30 : Cond.instanceMethod yX0_mayBeOut ∈ mm_tbl := wq_3 _ (List.mem_of_getElem? (i := 30) (by decide +kernel)) rfl
theorem wd_3_31 : Cond.selects RX0 yX0_mayBeOut yX0_mayBeOut ∈ mm_tbl := wq_3 _ (List.mem_of_getElem? (i := 31) (by decide +kernel)) rfl
theorem wd_3_32 : Cond.code yX0_mayBeOut cX0_mayBeOut (3) (some .boolean) ∈ mm_tbl := wq_3 _ (List.mem_of_getElem? (i := 32) (by decide +kernel)) rfl
theorem wd_3_33 : Cond.methodLink RX1 (62) yX0_isCox ∈ mm_tbl := wq_3 _ (List.mem_of_getElem? (i := 33) (by decide +kernel)) rfl
theorem wd_3_34 : Cond.instanceMethod yX0_isCox ∈ mm_tbl := wq_3 _ (List.mem_of_getElem? (i := 34) (by decide +kernel)) rfl
theorem wd_3_35 : Cond.selects RX0 yX0_isCox yX0_isCox ∈ mm_tbl := wq_3 _ (List.mem_of_getElem? (i := 35) (by decide +kernel)) rfl
theorem wd_3_36 : Cond.code yX0_isCox cX0_isCox (2) (some .boolean) ∈ mm_tbl := wq_3 _ (List.mem_of_getElem? (i := 36) (by decide +kernel)) rfl
theorem wd_3_37 : Cond.methodLink RX1 (69) yX0_sitsIn ∈ mm_tbl := wq_3 _ (List.mem_of_getElem? (i := 37) (by decide +kernel)) rfl
theorem wd_3_38 : Cond.instanceMethod yX0_sitsIn ∈ mm_tbl := wq_3 _ (List.mem_of_getElem? (i := 38) (by decide +kernel)) rfl
theorem wd_3_39 : Cond.selects RX0 yX0_sitsIn yX0_sitsIn ∈ mm_tbl := wq_3 _ (List.mem_of_getElem? (i := 39) (by decide +kernel)) rfl
theorem wd_3_40 : Cond.code yX0_sitsIn cX0_sitsIn (3) (some .boolean) ∈ mm_tbl := wq_3 _ (List.mem_of_getElem? (i := 40) (by decide +kernel)) rfl
theorem wd_3_41 : Cond.methodLink RX1 (45) yX1_setPrices ∈ mm_tbl := wq_3 _ (List.mem_of_getElem? (i := 41) (by decide +kernel)) rfl
theorem wd_3_43 : Cond.instanceMethod yX1_setPrices ∈ mm_tbl := wq_3 _ (List.mem_of_getElem? (i := 43) (by decide +kernel)) rfl
theorem wd_3_44 : Cond.code yX1_setPrices cX1_setPrices (7) none ∈ mm_tbl := wq_3 _ (List.mem_of_getElem? (i := 44) (by decide +kernel)) rfl
theorem wd_3_45 : Cond.methodLink RX1 (72) yX0_dislike ∈ mm_tbl := wq_3 _ (List.mem_of_getElem? (i := 45) (by decide +kernel)) rfl
theorem wd_3_46 : Cond.instanceMethod yX0_dislike ∈ mm_tbl := wq_3 _ (List.mem_of_getElem? (i := 46) (by decide +kernel)) rfl
theorem wd_3_47 : Cond.selects RX0 yX0_dislike yX0_dislike ∈ mm_tbl := wq_3 _ (List.mem_of_getElem? (i := 47) (by decide +kernel)) rfl
theorem wd_3_48 : Cond.code yX0_dislike cX0_dislike (6) (some .int) ∈ mm_tbl := wq_3 _ (List.mem_of_getElem? (i := 48) (by decide +kernel)) rfl
theorem wd_3_49 : Cond.fieldLink RX0 (83) RX0 "DISLIKES" "[I" ∈ mm_tbl := wq_3 _ (List.mem_of_getElem? (i := 49) (by decide +kernel)) rfl
theorem wd_3_52 : Cond.methodLink RX1 (53) yJ9_min_7cf53 ∈ mm_tbl := wq_3 _ (List.mem_of_getElem? (i := 52) (by decide +kernel)) rfl
theorem wd_3_53 : Cond.static yJ9_min_7cf53 ∈ mm_tbl := wq_3 _ (List.mem_of_getElem? (i := 53) (by decide +kernel)) rfl
theorem wd_3_54 : Cond.code yJ9_min_7cf53 cJ9_min_7cf53 (2) (some .int) ∈ mm_tbl := wq_3 _ (List.mem_of_getElem? (i := 54) (by decide +kernel)) rfl
theorem wd_3_55 : Cond.methodLink RX9 (177) yX1_seatThem ∈ mm_tbl := wq_3 _ (List.mem_of_getElem? (i := 55) (by decide +kernel)) rfl
theorem wd_3_56 : Cond.instanceMethod yX1_seatThem ∈ mm_tbl := wq_3 _ (List.mem_of_getElem? (i := 56) (by decide +kernel)) rfl
theorem wd_3_57 : Cond.selects RX1 yX1_seatThem yX1_seatThem ∈ mm_tbl := wq_3 _ (List.mem_of_getElem? (i := 57) (by decide +kernel)) rfl
theorem wd_3_58 : Cond.code yX1_seatThem cX1_seatThem (6) none ∈ mm_tbl := wq_3 _ (List.mem_of_getElem? (i := 58) (by decide +kernel)) rfl
theorem wd_3_59 : Cond.methodLink RX1 (76) yX1_choose ∈ mm_tbl := wq_3 _ (List.mem_of_getElem? (i := 59) (by decide +kernel)) rfl
theorem wd_3_61 : Cond.instanceMethod yX1_choose ∈ mm_tbl := wq_3 _ (List.mem_of_getElem? (i := 61) (by decide +kernel)) rfl
theorem wd_3_62 : Cond.code yX1_choose cX1_choose (6) (some .int) ∈ mm_tbl := wq_3 _ (List.mem_of_getElem? (i := 62) (by decide +kernel)) rfl
theorem wd_3_63 : Cond.methodLink RL (76) yX9_water ∈ mm_tbl := wq_3 _ (List.mem_of_getElem? (i := 63) (by decide +kernel)) rfl
theorem wd_3_64 : Cond.instanceMethod yX9_water ∈ mm_tbl := wq_3 _ (List.mem_of_getElem? (i := 64) (by decide +kernel)) rfl
theorem wd_3_65 : Cond.selects RX9 yX9_water yX9_water ∈ mm_tbl := wq_3 _ (List.mem_of_getElem? (i := 65) (by decide +kernel)) rfl
theorem wd_3_66 : Cond.code yX9_water cX9_water (4) (some .int) ∈ mm_tbl := wq_3 _ (List.mem_of_getElem? (i := 66) (by decide +kernel)) rfl
theorem wd_3_67 : Cond.methodLink RL (82) yX9_feed ∈ mm_tbl := wq_3 _ (List.mem_of_getElem? (i := 67) (by decide +kernel)) rfl
theorem wd_3_68 : Cond.instanceMethod yX9_feed ∈ mm_tbl := wq_3 _ (List.mem_of_getElem? (i := 68) (by decide +kernel)) rfl
theorem wd_3_69 : Cond.selects RX9 yX9_feed yX9_feed ∈ mm_tbl := wq_3 _ (List.mem_of_getElem? (i := 69) (by decide +kernel)) rfl
theorem wd_3_70 : Cond.code yX9_feed cX9_feed (4) (some .int) ∈ mm_tbl := wq_3 _ (List.mem_of_getElem? (i := 70) (by decide +kernel)) rfl
theorem wd_3_71 : Cond.methodLink RX9 (190) yX8_append ∈ mm_tbl := wq_3 _ (List.mem_of_getElem? (i := 71) (by decide +kernel)) rfl
theorem wd_3_72 : Cond.instanceMethod yX8_append ∈ mm_tbl := wq_3 _ (List.mem_of_getElem? (i := 72) (by decide +kernel)) rfl
theorem wd_3_73 : Cond.selects RX8 yX8_append yX8_append ∈ mm_tbl := wq_3 _ (List.mem_of_getElem? (i := 73) (by decide +kernel)) rfl
theorem wd_3_74 : Cond.code yX8_append cX8_append (5) (some .int) ∈ mm_tbl := wq_3 _ (List.mem_of_getElem? (i := 74) (by decide +kernel)) rfl
theorem wd_3_75 : Cond.constantLong RX8 (22) (255) ∈ mm_tbl := wq_3 _ (List.mem_of_getElem? (i := 75) (by decide +kernel)) rfl
theorem wd_3_76 : Cond.methodLink RL (87) yX9_rule ∈ mm_tbl := wq_3 _ (List.mem_of_getElem? (i := 76) (by decide +kernel)) rfl
theorem wd_3_77 : Cond.instanceMethod yX9_rule ∈ mm_tbl := wq_3 _ (List.mem_of_getElem? (i := 77) (by decide +kernel)) rfl
theorem wd_3_78 : Cond.selects RX9 yX9_rule yX9_rule ∈ mm_tbl := wq_3 _ (List.mem_of_getElem? (i := 78) (by decide +kernel)) rfl
theorem wd_3_79 : Cond.code yX9_rule cX9_rule (2) (some .int) ∈ mm_tbl := wq_3 _ (List.mem_of_getElem? (i := 79) (by decide +kernel)) rfl
theorem wd_3_80 : Cond.methodLink RX9 (195) yX7_read ∈ mm_tbl := wq_3 _ (List.mem_of_getElem? (i := 80) (by decide +kernel)) rfl
theorem wd_3_81 : Cond.instanceMethod yX7_read ∈ mm_tbl := wq_3 _ (List.mem_of_getElem? (i := 81) (by decide +kernel)) rfl
theorem wd_3_82 : Cond.selects RX7 yX7_read yX7_read ∈ mm_tbl := wq_3 _ (List.mem_of_getElem? (i := 82) (by decide +kernel)) rfl
theorem wd_3_83 : Cond.code yX7_read cX7_read (2) (some .boolean) ∈ mm_tbl := wq_3 _ (List.mem_of_getElem? (i := 83) (by decide +kernel)) rfl
theorem wd_3_85 : Cond.methodLink RX7 (48) yX8_takeWord ∈ mm_tbl := wq_3 _ (List.mem_of_getElem? (i := 85) (by decide +kernel)) rfl
theorem wd_3_86 : Cond.instanceMethod yX8_takeWord ∈ mm_tbl := wq_3 _ (List.mem_of_getElem? (i := 86) (by decide +kernel)) rfl
theorem wd_3_87 : Cond.selects RX8 yX8_takeWord yX8_takeWord ∈ mm_tbl := wq_3 _ (List.mem_of_getElem? (i := 87) (by decide +kernel)) rfl
theorem wd_3_88 : Cond.code yX8_takeWord cX8_takeWord (7) (some .int) ∈ mm_tbl := wq_3 _ (List.mem_of_getElem? (i := 88) (by decide +kernel)) rfl
theorem wd_3_89 : Cond.methodLink RX8 (24) yJ0_length_8abf5 ∈ mm_tbl := wq_3 _ (List.mem_of_getElem? (i := 89) (by decide +kernel)) rfl
theorem wd_3_90 : Cond.instanceMethod yJ0_length_8abf5 ∈ mm_tbl := wq_3 _ (List.mem_of_getElem? (i := 90) (by decide +kernel)) rfl
theorem wd_3_91 : Cond.selects RJ0 yJ0_length_8abf5 yJ0_length_8abf5 ∈ mm_tbl := wq_3 _ (List.mem_of_getElem? (i := 91) (by decide +kernel)) rfl
theorem wd_3_92 : Cond.code yJ0_length_8abf5 cJ0_length_8abf5 (1) (some .int) ∈ mm_tbl := wq_3 _ (List.mem_of_getElem? (i := 92) (by decide +kernel)) rfl
theorem wd_3_93 : Cond.methodLink RJ0 (335) yJ0_coder_7d493 ∈ mm_tbl := wq_3 _ (List.mem_of_getElem? (i := 93) (by decide +kernel)) rfl
theorem wd_3_94 : Cond.instanceMethod yJ0_coder_7d493 ∈ mm_tbl := wq_3 _ (List.mem_of_getElem? (i := 94) (by decide +kernel)) rfl
theorem wd_3_95 : Cond.selects RJ0 yJ0_coder_7d493 yJ0_coder_7d493 ∈ mm_tbl := wq_3 _ (List.mem_of_getElem? (i := 95) (by decide +kernel)) rfl
theorem wd_3_96 : Cond.code yJ0_coder_7d493 cJ0_coder_7d493 (1) (some .byte) ∈ mm_tbl := wq_3 _ (List.mem_of_getElem? (i := 96) (by decide +kernel)) rfl
theorem wd_3_97 : Cond.fieldLink RJ0 (38) RJ0 "COMPACT_STRINGS" "Z" ∈ mm_tbl := wq_3 _ (List.mem_of_getElem? (i := 97) (by decide +kernel)) rfl
theorem wd_3_99 : Cond.methodLink RX8 (29) yJ0_charAt_5068e ∈ mm_tbl := wq_3 _ (List.mem_of_getElem? (i := 99) (by decide +kernel)) rfl
theorem wd_3_100 : Cond.instanceMethod yJ0_charAt_5068e ∈ mm_tbl := wq_3 _ (List.mem_of_getElem? (i := 100) (by decide +kernel)) rfl
theorem wd_3_101 : Cond.selects RJ0 yJ0_charAt_5068e yJ0_charAt_5068e ∈ mm_tbl := wq_3 _ (List.mem_of_getElem? (i := 101) (by decide +kernel)) rfl
theorem wd_3_102 : Cond.code yJ0_charAt_5068e cJ0_charAt_5068e (2) (some .char) ∈ mm_tbl := wq_3 _ (List.mem_of_getElem? (i := 102) (by decide +kernel)) rfl
theorem wd_3_103 : Cond.methodLink RJ0 (492) yJ0_isLatin1_aae02 ∈ mm_tbl := wq_3 _ (List.mem_of_getElem? (i := 103) (by decide +kernel)) rfl
theorem wd_3_104 : Cond.instanceMethod yJ0_isLatin1_aae02 ∈ mm_tbl := wq_3 _ (List.mem_of_getElem? (i := 104) (by decide +kernel)) rfl
theorem wd_3_105 : Cond.selects RJ0 yJ0_isLatin1_aae02 yJ0_isLatin1_aae02 ∈ mm_tbl := wq_3 _ (List.mem_of_getElem? (i := 105) (by decide +kernel)) rfl
theorem wd_3_106 : Cond.code yJ0_isLatin1_aae02 cJ0_isLatin1_aae02 (1) (some .boolean) ∈ mm_tbl := wq_3 _ (List.mem_of_getElem? (i := 106) (by decide +kernel)) rfl
theorem wd_3_107 : Cond.methodLink RJ0 (495) yJ1_charAt_3b067 ∈ mm_tbl := wq_3 _ (List.mem_of_getElem? (i := 107) (by decide +kernel)) rfl
theorem wd_3_108 : Cond.static yJ1_charAt_3b067 ∈ mm_tbl := wq_3 _ (List.mem_of_getElem? (i := 108) (by decide +kernel)) rfl
theorem wd_3_109 : Cond.code yJ1_charAt_3b067 cJ1_charAt_3b067 (2) (some .char) ∈ mm_tbl := wq_3 _ (List.mem_of_getElem? (i := 109) (by decide +kernel)) rfl
theorem wd_3_110 : Cond.methodLink RJ1 (9) yJ0_checkIndex_df160 ∈ mm_tbl := wq_3 _ (List.mem_of_getElem? (i := 110) (by decide +kernel)) rfl
theorem wd_3_111 : Cond.static yJ0_checkIndex_df160 ∈ mm_tbl := wq_3 _ (List.mem_of_getElem? (i := 111) (by decide +kernel)) rfl
theorem wd_3_112 : Cond.code yJ0_checkIndex_df160 cJ0_checkIndex_df160 (2) none ∈ mm_tbl := wq_3 _ (List.mem_of_getElem? (i := 112) (by decide +kernel)) rfl
theorem wd_3_113 : Cond.fieldLink RJ0 (1053) RJ3 "SIOOBE_FORMATTER" "Ljava/util/function/BiFunction;" ∈ mm_tbl := wq_3 _ (List.mem_of_getElem? (i := 113) (by decide +kernel)) rfl
theorem wd_3_115 : Cond.methodLink RJ0 (1059) yJ3_checkIndex_8e157 ∈ mm_tbl := wq_3 _ (List.mem_of_getElem? (i := 115) (by decide +kernel)) rfl
theorem wd_3_116 : Cond.static yJ3_checkIndex_8e157 ∈ mm_tbl := wq_3 _ (List.mem_of_getElem? (i := 116) (by decide +kernel)) rfl
theorem wd_3_117 : Cond.code yJ3_checkIndex_8e157 cJ3_checkIndex_8e157 (3) (some .int) ∈ mm_tbl := wq_3 _ (List.mem_of_getElem? (i := 117) (by decide +kernel)) rfl
theorem wd_3_118 : Cond.methodLink RJ0 (498) yJ2_charAt_3b067 ∈ mm_tbl := wq_3 _ (List.mem_of_getElem? (i := 118) (by decide +kernel)) rfl
theorem wd_3_119 : Cond.static yJ2_charAt_3b067 ∈ mm_tbl := wq_3 _ (List.mem_of_getElem? (i := 119) (by decide +kernel)) rfl
theorem wd_3_120 : Cond.code yJ2_charAt_3b067 cJ2_charAt_3b067 (2) (some .char) ∈ mm_tbl := wq_3 _ (List.mem_of_getElem? (i := 120) (by decide +kernel)) rfl
theorem wd_3_121 : Cond.methodLink RJ2 (67) yJ2_checkIndex_2214a ∈ mm_tbl := wq_3 _ (List.mem_of_getElem? (i := 121) (by decide +kernel)) rfl
theorem wd_3_122 : Cond.static yJ2_checkIndex_2214a ∈ mm_tbl := wq_3 _ (List.mem_of_getElem? (i := 122) (by decide +kernel)) rfl
theorem wd_3_123 : Cond.code yJ2_checkIndex_2214a cJ2_checkIndex_2214a (2) none ∈ mm_tbl := wq_3 _ (List.mem_of_getElem? (i := 123) (by decide +kernel)) rfl
theorem wd_3_124 : Cond.methodLink RJ2 (48) yJ2_length_9d52b ∈ mm_tbl := wq_3 _ (List.mem_of_getElem? (i := 124) (by decide +kernel)) rfl
theorem wd_3_125 : Cond.static yJ2_length_9d52b ∈ mm_tbl := wq_3 _ (List.mem_of_getElem? (i := 125) (by decide +kernel)) rfl
theorem wd_3_126 : Cond.code yJ2_length_9d52b cJ2_length_9d52b (1) (some .int) ∈ mm_tbl := wq_3 _ (List.mem_of_getElem? (i := 126) (by decide +kernel)) rfl
theorem wd_3_127 : Cond.methodLink RJ2 (414) yJ0_checkIndex_df160 ∈ mm_tbl := wq_3 _ (List.mem_of_getElem? (i := 127) (by decide +kernel)) rfl
theorem wd_3_128 : Cond.methodLink RJ2 (71) yJ2_getChar_3b067 ∈ mm_tbl := wq_3 _ (List.mem_of_getElem? (i := 128) (by decide +kernel)) rfl
theorem wd_3_129 : Cond.static yJ2_getChar_3b067 ∈ mm_tbl := wq_3 _ (List.mem_of_getElem? (i := 129) (by decide +kernel)) rfl
theorem wd_3_130 : Cond.code yJ2_getChar_3b067 cJ2_getChar_3b067 (2) (some .char) ∈ mm_tbl := wq_3 _ (List.mem_of_getElem? (i := 130) (by decide +kernel)) rfl
theorem wd_3_131 : Cond.fieldLink RJ2 (44) RJ2 "$assertionsDisabled" "Z" ∈ mm_tbl := wq_3 _ (List.mem_of_getElem? (i := 131) (by decide +kernel)) rfl
theorem wd_3_133 : Cond.fieldLink RJ2 (59) RJ2 "HI_BYTE_SHIFT" "I" ∈ mm_tbl := wq_3 _ (List.mem_of_getElem? (i := 133) (by decide +kernel)) rfl
theorem wd_3_135 : Cond.fieldLink RJ2 (63) RJ2 "LO_BYTE_SHIFT" "I" ∈ mm_tbl := wq_3 _ (List.mem_of_getElem? (i := 135) (by decide +kernel)) rfl
theorem wd_3_137 : Cond.methodLink RX8 (33) yX8_countSame ∈ mm_tbl := wq_3 _ (List.mem_of_getElem? (i := 137) (by decide +kernel)) rfl
theorem wd_3_139 : Cond.instanceMethod yX8_countSame ∈ mm_tbl := wq_3 _ (List.mem_of_getElem? (i := 139) (by decide +kernel)) rfl
theorem wd_3_140 : Cond.code yX8_countSame cX8_countSame (6) (some .int) ∈ mm_tbl := wq_3 _ (List.mem_of_getElem? (i := 140) (by decide +kernel)) rfl
theorem wd_3_141 : Cond.methodLink RX8 (37) yJ9_max_7cf53 ∈ mm_tbl := wq_3 _ (List.mem_of_getElem? (i := 141) (by decide +kernel)) rfl
theorem wd_3_142 : Cond.static yJ9_max_7cf53 ∈ mm_tbl := wq_3 _ (List.mem_of_getElem? (i := 142) (by decide +kernel)) rfl
theorem wd_3_143 : Cond.code yJ9_max_7cf53 cJ9_max_7cf53 (2) (some .int) ∈ mm_tbl := wq_3 _ (List.mem_of_getElem? (i := 143) (by decide +kernel)) rfl
theorem wd_3_145 : Cond.methodLink RX7 (54) yX8_isAtEnd ∈ mm_tbl := wq_3 _ (List.mem_of_getElem? (i := 145) (by decide +kernel)) rfl
theorem wd_3_146 : Cond.instanceMethod yX8_isAtEnd ∈ mm_tbl := wq_3 _ (List.mem_of_getElem? (i := 146) (by decide +kernel)) rfl
theorem wd_3_147 : Cond.selects RX8 yX8_isAtEnd yX8_isAtEnd ∈ mm_tbl := wq_3 _ (List.mem_of_getElem? (i := 147) (by decide +kernel)) rfl
theorem wd_3_148 : Cond.code yX8_isAtEnd cX8_isAtEnd (1) (some .boolean) ∈ mm_tbl := wq_3 _ (List.mem_of_getElem? (i := 148) (by decide +kernel)) rfl
theorem wd_3_150 : Cond.methodLink RX7 (60) yX7_readTests ∈ mm_tbl := wq_3 _ (List.mem_of_getElem? (i := 150) (by decide +kernel)) rfl
theorem wd_3_152 : Cond.instanceMethod yX7_readTests ∈ mm_tbl := wq_3 _ (List.mem_of_getElem? (i := 152) (by decide +kernel)) rfl
theorem wd_3_153 : Cond.code yX7_readTests cX7_readTests (3) (some .boolean) ∈ mm_tbl := wq_3 _ (List.mem_of_getElem? (i := 153) (by decide +kernel)) rfl
theorem wd_3_154 : Cond.methodLink RX7 (64) yX7_readTest ∈ mm_tbl := wq_3 _ (List.mem_of_getElem? (i := 154) (by decide +kernel)) rfl
theorem wd_3_156 : Cond.instanceMethod yX7_readTest ∈ mm_tbl := wq_3 _ (List.mem_of_getElem? (i := 156) (by decide +kernel)) rfl
theorem wd_3_157 : Cond.code yX7_readTest cX7_readTest (3) (some .boolean) ∈ mm_tbl := wq_3 _ (List.mem_of_getElem? (i := 157) (by decide +kernel)) rfl
theorem wd_3_158 : Cond.methodLink RX7 (68) yX8_skip ∈ mm_tbl := wq_3 _ (List.mem_of_getElem? (i := 158) (by decide +kernel)) rfl
theorem wd_3_159 : Cond.instanceMethod yX8_skip ∈ mm_tbl := wq_3 _ (List.mem_of_getElem? (i := 159) (by decide +kernel)) rfl
theorem wd_3_160 : Cond.selects RX8 yX8_skip yX8_skip ∈ mm_tbl := wq_3 _ (List.mem_of_getElem? (i := 160) (by decide +kernel)) rfl
theorem wd_3_161 : Cond.code yX8_skip cX8_skip (2) (some .boolean) ∈ mm_tbl := wq_3 _ (List.mem_of_getElem? (i := 161) (by decide +kernel)) rfl
theorem wd_3_162 : Cond.methodLink RX8 (43) yX8_isAtEnd ∈ mm_tbl := wq_3 _ (List.mem_of_getElem? (i := 162) (by decide +kernel)) rfl
theorem wd_3_165 : Cond.methodLink RX7 (76) yX8_takeNumber ∈ mm_tbl := wq_3 _ (List.mem_of_getElem? (i := 165) (by decide +kernel)) rfl
theorem wd_3_166 : Cond.instanceMethod yX8_takeNumber ∈ mm_tbl := wq_3 _ (List.mem_of_getElem? (i := 166) (by decide +kernel)) rfl
theorem wd_3_167 : Cond.selects RX8 yX8_takeNumber yX8_takeNumber ∈ mm_tbl := wq_3 _ (List.mem_of_getElem? (i := 167) (by decide +kernel)) rfl
theorem wd_3_168 : Cond.code yX8_takeNumber cX8_takeNumber (3) (some .int) ∈ mm_tbl := wq_3 _ (List.mem_of_getElem? (i := 168) (by decide +kernel)) rfl
theorem wd_3_170 : Cond.methodLink RX9 (199) yX7_keepRead ∈ mm_tbl := wq_3 _ (List.mem_of_getElem? (i := 170) (by decide +kernel)) rfl
theorem wd_3_171 : Cond.instanceMethod yX7_keepRead ∈ mm_tbl := wq_3 _ (List.mem_of_getElem? (i := 171) (by decide +kernel)) rfl
theorem wd_3_172 : Cond.selects RX7 yX7_keepRead yX7_keepRead ∈ mm_tbl := wq_3 _ (List.mem_of_getElem? (i := 172) (by decide +kernel)) rfl
theorem wd_3_173 : Cond.code yX7_keepRead cX7_keepRead (1) (some .int) ∈ mm_tbl := wq_3 _ (List.mem_of_getElem? (i := 173) (by decide +kernel)) rfl
theorem wd_3_174 : Cond.arrayClass .byte ∈ mm_tbl := wq_3 _ (List.mem_of_getElem? (i := 174) (by decide +kernel)) rfl
theorem wd_3_175 : Cond.methodLink RL (91) yX9_ruled ∈ mm_tbl := wq_3 _ (List.mem_of_getElem? (i := 175) (by decide +kernel)) rfl
theorem wd_3_176 : Cond.instanceMethod yX9_ruled ∈ mm_tbl := wq_3 _ (List.mem_of_getElem? (i := 176) (by decide +kernel)) rfl
theorem wd_3_177 : Cond.selects RX9 yX9_ruled yX9_ruled ∈ mm_tbl := wq_3 _ (List.mem_of_getElem? (i := 177) (by decide +kernel)) rfl
theorem wd_3_178 : Cond.code yX9_ruled cX9_ruled (3) (some .int) ∈ mm_tbl := wq_3 _ (List.mem_of_getElem? (i := 178) (by decide +kernel)) rfl
theorem wd_3_179 : Cond.methodLink RX9 (206) yX9_askedRule ∈ mm_tbl := wq_3 _ (List.mem_of_getElem? (i := 179) (by decide +kernel)) rfl
theorem wd_3_181 : Cond.instanceMethod yX9_askedRule ∈ mm_tbl := wq_3 _ (List.mem_of_getElem? (i := 181) (by decide +kernel)) rfl
theorem wd_3_182 : Cond.code yX9_askedRule cX9_askedRule (6) (some .int) ∈ mm_tbl := wq_3 _ (List.mem_of_getElem? (i := 182) (by decide +kernel)) rfl
theorem wd_3_183 : Cond.methodLink RX9 (304) yX0_seats ∈ mm_tbl := wq_3 _ (List.mem_of_getElem? (i := 183) (by decide +kernel)) rfl
theorem wd_3_184 : Cond.methodLink RX9 (307) yX0_isYoungAboard ∈ mm_tbl := wq_3 _ (List.mem_of_getElem? (i := 184) (by decide +kernel)) rfl
theorem wd_3_185 : Cond.instanceMethod yX0_isYoungAboard ∈ mm_tbl := wq_3 _ (List.mem_of_getElem? (i := 185) (by decide +kernel)) rfl
theorem wd_3_186 : Cond.selects RX0 yX0_isYoungAboard yX0_isYoungAboard ∈ mm_tbl := wq_3 _ (List.mem_of_getElem? (i := 186) (by decide +kernel)) rfl
theorem wd_3_187 : Cond.code yX0_isYoungAboard cX0_isYoungAboard (3) (some .boolean) ∈ mm_tbl := wq_3 _ (List.mem_of_getElem? (i := 187) (by decide +kernel)) rfl
theorem wd_3_188 : Cond.methodLink RX0 (65) yX0_sitsIn ∈ mm_tbl := wq_3 _ (List.mem_of_getElem? (i := 188) (by decide +kernel)) rfl
theorem wd_3_189 : Cond.methodLink RX9 (313) yX7_asked ∈ mm_tbl := wq_3 _ (List.mem_of_getElem? (i := 189) (by decide +kernel)) rfl
theorem wd_3_190 : Cond.instanceMethod yX7_asked ∈ mm_tbl := wq_3 _ (List.mem_of_getElem? (i := 190) (by decide +kernel)) rfl
theorem wd_3_191 : Cond.selects RX7 yX7_asked yX7_asked ∈ mm_tbl := wq_3 _ (List.mem_of_getElem? (i := 191) (by decide +kernel)) rfl
theorem wd_3_192 : Cond.code yX7_asked cX7_asked (3) (some .int) ∈ mm_tbl := wq_3 _ (List.mem_of_getElem? (i := 192) (by decide +kernel)) rfl
theorem wd_3_193 : Cond.methodLink RX7 (80) yX7_testsHold ∈ mm_tbl := wq_3 _ (List.mem_of_getElem? (i := 193) (by decide +kernel)) rfl
end
section
theorem wd_3_195 : Cond.instanceMethod yX7_testsHold ∈ mm_tbl := wq_3 _ (List.mem_of_getElem? (i := 195) (by decide +kernel)) rfl
theorem wd_3_196 : Cond.code yX7_testsHold cX7_testsHold (4) (some .boolean) ∈ mm_tbl := wq_3 _ (List.mem_of_getElem? (i := 196) (by decide +kernel)) rfl
theorem wd_3_197 : Cond.methodLink RX7 (84) yX7_isSo ∈ mm_tbl := wq_3 _ (List.mem_of_getElem? (i := 197) (by decide +kernel)) rfl
theorem wd_3_199 : Cond.instanceMethod yX7_isSo ∈ mm_tbl := wq_3 _ (List.mem_of_getElem? (i := 199) (by decide +kernel)) rfl
theorem wd_3_200 : Cond.code yX7_isSo cX7_isSo (3) (some .boolean) ∈ mm_tbl := wq_3 _ (List.mem_of_getElem? (i := 200) (by decide +kernel)) rfl
theorem wd_3_201 : Cond.methodLink RL (95) yX9_may ∈ mm_tbl := wq_3 _ (List.mem_of_getElem? (i := 201) (by decide +kernel)) rfl
theorem wd_3_202 : Cond.instanceMethod yX9_may ∈ mm_tbl := wq_3 _ (List.mem_of_getElem? (i := 202) (by decide +kernel)) rfl
theorem wd_3_203 : Cond.selects RX9 yX9_may yX9_may ∈ mm_tbl := wq_3 _ (List.mem_of_getElem? (i := 203) (by decide +kernel)) rfl
theorem wd_3_204 : Cond.code yX9_may cX9_may (3) (some .int) ∈ mm_tbl := wq_3 _ (List.mem_of_getElem? (i := 204) (by decide +kernel)) rfl
theorem wd_3_205 : Cond.methodLink RX9 (209) yX9_whyAshore ∈ mm_tbl := wq_3 _ (List.mem_of_getElem? (i := 205) (by decide +kernel)) rfl
theorem wd_3_207 : Cond.instanceMethod yX9_whyAshore ∈ mm_tbl := wq_3 _ (List.mem_of_getElem? (i := 207) (by decide +kernel)) rfl
theorem wd_3_208 : Cond.code yX9_whyAshore cX9_whyAshore (4) (some .int) ∈ mm_tbl := wq_3 _ (List.mem_of_getElem? (i := 208) (by decide +kernel)) rfl
theorem wd_3_209 : Cond.methodLink RX9 (280) yX3_isBroken ∈ mm_tbl := wq_3 _ (List.mem_of_getElem? (i := 209) (by decide +kernel)) rfl
theorem wd_3_210 : Cond.instanceMethod yX3_isBroken ∈ mm_tbl := wq_3 _ (List.mem_of_getElem? (i := 210) (by decide +kernel)) rfl
theorem wd_3_211 : Cond.selects RX3 yX3_isBroken yX3_isBroken ∈ mm_tbl := wq_3 _ (List.mem_of_getElem? (i := 211) (by decide +kernel)) rfl
theorem wd_3_212 : Cond.code yX3_isBroken cX3_isBroken (3) (some .boolean) ∈ mm_tbl := wq_3 _ (List.mem_of_getElem? (i := 212) (by decide +kernel)) rfl
theorem wd_3_213 : Cond.methodLink RX3 (40) yX3_latestLook ∈ mm_tbl := wq_3 _ (List.mem_of_getElem? (i := 213) (by decide +kernel)) rfl
theorem wd_3_215 : Cond.instanceMethod yX3_latestLook ∈ mm_tbl := wq_3 _ (List.mem_of_getElem? (i := 215) (by decide +kernel)) rfl
theorem wd_3_216 : Cond.code yX3_latestLook cX3_latestLook (4) (some .int) ∈ mm_tbl := wq_3 _ (List.mem_of_getElem? (i := 216) (by decide +kernel)) rfl
theorem wd_3_217 : Cond.methodLink RX9 (283) yX0_isManned ∈ mm_tbl := wq_3 _ (List.mem_of_getElem? (i := 217) (by decide +kernel)) rfl
theorem wd_3_218 : Cond.instanceMethod yX0_isManned ∈ mm_tbl := wq_3 _ (List.mem_of_getElem? (i := 218) (by decide +kernel)) rfl
theorem wd_3_219 : Cond.selects RX0 yX0_isManned yX0_isManned ∈ mm_tbl := wq_3 _ (List.mem_of_getElem? (i := 219) (by decide +kernel)) rfl
theorem wd_3_220 : Cond.code yX0_isManned cX0_isManned (2) (some .boolean) ∈ mm_tbl := wq_3 _ (List.mem_of_getElem? (i := 220) (by decide +kernel)) rfl
theorem wd_3_221 : Cond.methodLink RX0 (69) yX0_aboard ∈ mm_tbl := wq_3 _ (List.mem_of_getElem? (i := 221) (by decide +kernel)) rfl
theorem wd_3_222 : Cond.instanceMethod yX0_aboard ∈ mm_tbl := wq_3 _ (List.mem_of_getElem? (i := 222) (by decide +kernel)) rfl
theorem wd_3_223 : Cond.selects RX0 yX0_aboard yX0_aboard ∈ mm_tbl := wq_3 _ (List.mem_of_getElem? (i := 223) (by decide +kernel)) rfl
theorem wd_3_224 : Cond.code yX0_aboard cX0_aboard (4) (some .int) ∈ mm_tbl := wq_3 _ (List.mem_of_getElem? (i := 224) (by decide +kernel)) rfl
theorem wd_3_225 : Cond.methodLink RX0 (72) yJ6_bitCount_0f7a4 ∈ mm_tbl := wq_3 _ (List.mem_of_getElem? (i := 225) (by decide +kernel)) rfl
theorem wd_3_226 : Cond.methodLink RX9 (286) yX0_meanWeight ∈ mm_tbl := wq_3 _ (List.mem_of_getElem? (i := 226) (by decide +kernel)) rfl
theorem wd_3_227 : Cond.instanceMethod yX0_meanWeight ∈ mm_tbl := wq_3 _ (List.mem_of_getElem? (i := 227) (by decide +kernel)) rfl
theorem wd_3_228 : Cond.selects RX0 yX0_meanWeight yX0_meanWeight ∈ mm_tbl := wq_3 _ (List.mem_of_getElem? (i := 228) (by decide +kernel)) rfl
theorem wd_3_229 : Cond.code yX0_meanWeight cX0_meanWeight (4) (some .int) ∈ mm_tbl := wq_3 _ (List.mem_of_getElem? (i := 229) (by decide +kernel)) rfl
theorem wd_3_230 : Cond.methodLink RX0 (77) yX0_isCox ∈ mm_tbl := wq_3 _ (List.mem_of_getElem? (i := 230) (by decide +kernel)) rfl
theorem wd_3_231 : Cond.methodLink RX9 (295) yX0_allMayBeOut ∈ mm_tbl := wq_3 _ (List.mem_of_getElem? (i := 231) (by decide +kernel)) rfl
theorem wd_3_232 : Cond.instanceMethod yX0_allMayBeOut ∈ mm_tbl := wq_3 _ (List.mem_of_getElem? (i := 232) (by decide +kernel)) rfl
theorem wd_3_233 : Cond.selects RX0 yX0_allMayBeOut yX0_allMayBeOut ∈ mm_tbl := wq_3 _ (List.mem_of_getElem? (i := 233) (by decide +kernel)) rfl
theorem wd_3_234 : Cond.code yX0_allMayBeOut cX0_allMayBeOut (4) (some .boolean) ∈ mm_tbl := wq_3 _ (List.mem_of_getElem? (i := 234) (by decide +kernel)) rfl
theorem wd_3_235 : Cond.methodLink RX0 (80) yX0_mayBeOut ∈ mm_tbl := wq_3 _ (List.mem_of_getElem? (i := 235) (by decide +kernel)) rfl
theorem wd_3_236 : Cond.methodLink RL (99) yX9_day ∈ mm_tbl := wq_3 _ (List.mem_of_getElem? (i := 236) (by decide +kernel)) rfl
theorem wd_3_237 : Cond.instanceMethod yX9_day ∈ mm_tbl := wq_3 _ (List.mem_of_getElem? (i := 237) (by decide +kernel)) rfl
theorem wd_3_238 : Cond.selects RX9 yX9_day yX9_day ∈ mm_tbl := wq_3 _ (List.mem_of_getElem? (i := 238) (by decide +kernel)) rfl
theorem wd_3_239 : Cond.code yX9_day cX9_day (3) (some .int) ∈ mm_tbl := wq_3 _ (List.mem_of_getElem? (i := 239) (by decide +kernel)) rfl
theorem wd_4_0 : Cond.methodLink RL (103) yX9_out ∈ mm_tbl := wq_4 _ (List.mem_of_getElem? (i := 0) (by decide +kernel)) rfl
theorem wd_4_1 : Cond.instanceMethod yX9_out ∈ mm_tbl := wq_4 _ (List.mem_of_getElem? (i := 1) (by decide +kernel)) rfl
theorem wd_4_2 : Cond.selects RX9 yX9_out yX9_out ∈ mm_tbl := wq_4 _ (List.mem_of_getElem? (i := 2) (by decide +kernel)) rfl
theorem wd_4_3 : Cond.code yX9_out cX9_out (3) (some .int) ∈ mm_tbl := wq_4 _ (List.mem_of_getElem? (i := 3) (by decide +kernel)) rfl
theorem wd_4_4 : Cond.methodLink RX9 (215) yX0_aboard ∈ mm_tbl := wq_4 _ (List.mem_of_getElem? (i := 4) (by decide +kernel)) rfl
theorem wd_4_5 : Cond.methodLink RX9 (218) yX3_addOuting ∈ mm_tbl := wq_4 _ (List.mem_of_getElem? (i := 5) (by decide +kernel)) rfl
theorem wd_4_6 : Cond.instanceMethod yX3_addOuting ∈ mm_tbl := wq_4 _ (List.mem_of_getElem? (i := 6) (by decide +kernel)) rfl
theorem wd_4_7 : Cond.selects RX3 yX3_addOuting yX3_addOuting ∈ mm_tbl := wq_4 _ (List.mem_of_getElem? (i := 7) (by decide +kernel)) rfl
theorem wd_4_8 : Cond.code yX3_addOuting cX3_addOuting (5) (some .int) ∈ mm_tbl := wq_4 _ (List.mem_of_getElem? (i := 8) (by decide +kernel)) rfl
theorem wd_4_9 : Cond.methodLink RL (107) yX9_look ∈ mm_tbl := wq_4 _ (List.mem_of_getElem? (i := 9) (by decide +kernel)) rfl
theorem wd_4_10 : Cond.instanceMethod yX9_look ∈ mm_tbl := wq_4 _ (List.mem_of_getElem? (i := 10) (by decide +kernel)) rfl
theorem wd_4_11 : Cond.selects RX9 yX9_look yX9_look ∈ mm_tbl := wq_4 _ (List.mem_of_getElem? (i := 11) (by decide +kernel)) rfl
theorem wd_4_12 : Cond.code yX9_look cX9_look (3) (some .int) ∈ mm_tbl := wq_4 _ (List.mem_of_getElem? (i := 12) (by decide +kernel)) rfl
theorem wd_4_13 : Cond.methodLink RX9 (224) yX3_addLook ∈ mm_tbl := wq_4 _ (List.mem_of_getElem? (i := 13) (by decide +kernel)) rfl
theorem wd_4_14 : Cond.instanceMethod yX3_addLook ∈ mm_tbl := wq_4 _ (List.mem_of_getElem? (i := 14) (by decide +kernel)) rfl
theorem wd_4_15 : Cond.selects RX3 yX3_addLook yX3_addLook ∈ mm_tbl := wq_4 _ (List.mem_of_getElem? (i := 15) (by decide +kernel)) rfl
theorem wd_4_16 : Cond.code yX3_addLook cX3_addLook (3) (some .int) ∈ mm_tbl := wq_4 _ (List.mem_of_getElem? (i := 16) (by decide +kernel)) rfl
theorem wd_4_17 : Cond.methodLink RL (111) yX9_broke ∈ mm_tbl := wq_4 _ (List.mem_of_getElem? (i := 17) (by decide +kernel)) rfl
theorem wd_4_18 : Cond.instanceMethod yX9_broke ∈ mm_tbl := wq_4 _ (List.mem_of_getElem? (i := 18) (by decide +kernel)) rfl
theorem wd_4_19 : Cond.selects RX9 yX9_broke yX9_broke ∈ mm_tbl := wq_4 _ (List.mem_of_getElem? (i := 19) (by decide +kernel)) rfl
theorem wd_4_20 : Cond.code yX9_broke cX9_broke (4) (some .int) ∈ mm_tbl := wq_4 _ (List.mem_of_getElem? (i := 20) (by decide +kernel)) rfl
theorem wd_4_21 : Cond.methodLink RX9 (227) yX3_brokeAt ∈ mm_tbl := wq_4 _ (List.mem_of_getElem? (i := 21) (by decide +kernel)) rfl
theorem wd_4_22 : Cond.instanceMethod yX3_brokeAt ∈ mm_tbl := wq_4 _ (List.mem_of_getElem? (i := 22) (by decide +kernel)) rfl
theorem wd_4_23 : Cond.selects RX3 yX3_brokeAt yX3_brokeAt ∈ mm_tbl := wq_4 _ (List.mem_of_getElem? (i := 23) (by decide +kernel)) rfl
theorem wd_4_24 : Cond.code yX3_brokeAt cX3_brokeAt (3) (some .boolean) ∈ mm_tbl := wq_4 _ (List.mem_of_getElem? (i := 24) (by decide +kernel)) rfl
theorem wd_4_25 : Cond.methodLink RX9 (230) yX3_suspects ∈ mm_tbl := wq_4 _ (List.mem_of_getElem? (i := 25) (by decide +kernel)) rfl
theorem wd_4_26 : Cond.instanceMethod yX3_suspects ∈ mm_tbl := wq_4 _ (List.mem_of_getElem? (i := 26) (by decide +kernel)) rfl
theorem wd_4_27 : Cond.selects RX3 yX3_suspects yX3_suspects ∈ mm_tbl := wq_4 _ (List.mem_of_getElem? (i := 27) (by decide +kernel)) rfl
theorem wd_4_28 : Cond.code yX3_suspects cX3_suspects (4) (some .int) ∈ mm_tbl := wq_4 _ (List.mem_of_getElem? (i := 28) (by decide +kernel)) rfl
theorem wd_4_29 : Cond.methodLink RX3 (44) yX3_firstBehind ∈ mm_tbl := wq_4 _ (List.mem_of_getElem? (i := 29) (by decide +kernel)) rfl
theorem wd_4_31 : Cond.instanceMethod yX3_firstBehind ∈ mm_tbl := wq_4 _ (List.mem_of_getElem? (i := 31) (by decide +kernel)) rfl
theorem wd_4_32 : Cond.code yX3_firstBehind cX3_firstBehind (3) (some .int) ∈ mm_tbl := wq_4 _ (List.mem_of_getElem? (i := 32) (by decide +kernel)) rfl
theorem wd_4_33 : Cond.methodLink RX9 (233) yX3_firstSuspect ∈ mm_tbl := wq_4 _ (List.mem_of_getElem? (i := 33) (by decide +kernel)) rfl
theorem wd_4_34 : Cond.instanceMethod yX3_firstSuspect ∈ mm_tbl := wq_4 _ (List.mem_of_getElem? (i := 34) (by decide +kernel)) rfl
theorem wd_4_35 : Cond.selects RX3 yX3_firstSuspect yX3_firstSuspect ∈ mm_tbl := wq_4 _ (List.mem_of_getElem? (i := 35) (by decide +kernel)) rfl
theorem wd_4_36 : Cond.code yX3_firstSuspect cX3_firstSuspect (3) (some .int) ∈ mm_tbl := wq_4 _ (List.mem_of_getElem? (i := 36) (by decide +kernel)) rfl
theorem wd_4_37 : Cond.methodLink RL (115) yX9_outing ∈ mm_tbl := wq_4 _ (List.mem_of_getElem? (i := 37) (by decide +kernel)) rfl
theorem wd_4_38 : Cond.instanceMethod yX9_outing ∈ mm_tbl := wq_4 _ (List.mem_of_getElem? (i := 38) (by decide +kernel)) rfl
theorem wd_4_39 : Cond.selects RX9 yX9_outing yX9_outing ∈ mm_tbl := wq_4 _ (List.mem_of_getElem? (i := 39) (by decide +kernel)) rfl
theorem wd_4_40 : Cond.code yX9_outing cX9_outing (3) (some .int) ∈ mm_tbl := wq_4 _ (List.mem_of_getElem? (i := 40) (by decide +kernel)) rfl
theorem wd_4_41 : Cond.methodLink RL (119) yX9_heat ∈ mm_tbl := wq_4 _ (List.mem_of_getElem? (i := 41) (by decide +kernel)) rfl
theorem wd_4_42 : Cond.instanceMethod yX9_heat ∈ mm_tbl := wq_4 _ (List.mem_of_getElem? (i := 42) (by decide +kernel)) rfl
theorem wd_4_43 : Cond.selects RX9 yX9_heat yX9_heat ∈ mm_tbl := wq_4 _ (List.mem_of_getElem? (i := 43) (by decide +kernel)) rfl
theorem wd_4_44 : Cond.code yX9_heat cX9_heat (3) (some .int) ∈ mm_tbl := wq_4 _ (List.mem_of_getElem? (i := 44) (by decide +kernel)) rfl
theorem wd_4_45 : Cond.methodLink RX9 (249) yX2_addHeat ∈ mm_tbl := wq_4 _ (List.mem_of_getElem? (i := 45) (by decide +kernel)) rfl
theorem wd_4_46 : Cond.instanceMethod yX2_addHeat ∈ mm_tbl := wq_4 _ (List.mem_of_getElem? (i := 46) (by decide +kernel)) rfl
theorem wd_4_47 : Cond.selects RX2 yX2_addHeat yX2_addHeat ∈ mm_tbl := wq_4 _ (List.mem_of_getElem? (i := 47) (by decide +kernel)) rfl
theorem wd_4_48 : Cond.code yX2_addHeat cX2_addHeat (3) (some .int) ∈ mm_tbl := wq_4 _ (List.mem_of_getElem? (i := 48) (by decide +kernel)) rfl
theorem wd_4_49 : Cond.methodLink RL (123) yX9_near ∈ mm_tbl := wq_4 _ (List.mem_of_getElem? (i := 49) (by decide +kernel)) rfl
theorem wd_4_50 : Cond.instanceMethod yX9_near ∈ mm_tbl := wq_4 _ (List.mem_of_getElem? (i := 50) (by decide +kernel)) rfl
theorem wd_4_51 : Cond.selects RX9 yX9_near yX9_near ∈ mm_tbl := wq_4 _ (List.mem_of_getElem? (i := 51) (by decide +kernel)) rfl
theorem wd_4_52 : Cond.code yX9_near cX9_near (3) (some .int) ∈ mm_tbl := wq_4 _ (List.mem_of_getElem? (i := 52) (by decide +kernel)) rfl
theorem wd_4_53 : Cond.methodLink RL (127) yX9_clashes ∈ mm_tbl := wq_4 _ (List.mem_of_getElem? (i := 53) (by decide +kernel)) rfl
theorem wd_4_54 : Cond.instanceMethod yX9_clashes ∈ mm_tbl := wq_4 _ (List.mem_of_getElem? (i := 54) (by decide +kernel)) rfl
theorem wd_4_55 : Cond.selects RX9 yX9_clashes yX9_clashes ∈ mm_tbl := wq_4 _ (List.mem_of_getElem? (i := 55) (by decide +kernel)) rfl
theorem wd_4_56 : Cond.code yX9_clashes cX9_clashes (1) (some .int) ∈ mm_tbl := wq_4 _ (List.mem_of_getElem? (i := 56) (by decide +kernel)) rfl
theorem wd_4_57 : Cond.methodLink RX9 (255) yX2_clashingPairs ∈ mm_tbl := wq_4 _ (List.mem_of_getElem? (i := 57) (by decide +kernel)) rfl
theorem wd_4_58 : Cond.instanceMethod yX2_clashingPairs ∈ mm_tbl := wq_4 _ (List.mem_of_getElem? (i := 58) (by decide +kernel)) rfl
theorem wd_4_59 : Cond.selects RX2 yX2_clashingPairs yX2_clashingPairs ∈ mm_tbl := wq_4 _ (List.mem_of_getElem? (i := 59) (by decide +kernel)) rfl
theorem wd_4_60 : Cond.code yX2_clashingPairs cX2_clashingPairs (4) (some .int) ∈ mm_tbl := wq_4 _ (List.mem_of_getElem? (i := 60) (by decide +kernel)) rfl
theorem wd_4_61 : Cond.methodLink RX2 (31) yX2_wouldClash ∈ mm_tbl := wq_4 _ (List.mem_of_getElem? (i := 61) (by decide +kernel)) rfl
theorem wd_4_63 : Cond.instanceMethod yX2_wouldClash ∈ mm_tbl := wq_4 _ (List.mem_of_getElem? (i := 63) (by decide +kernel)) rfl
theorem wd_4_64 : Cond.code yX2_wouldClash cX2_wouldClash (4) (some .boolean) ∈ mm_tbl := wq_4 _ (List.mem_of_getElem? (i := 64) (by decide +kernel)) rfl
theorem wd_4_65 : Cond.methodLink RX2 (25) yJ9_abs_0f7a4 ∈ mm_tbl := wq_4 _ (List.mem_of_getElem? (i := 65) (by decide +kernel)) rfl
theorem wd_4_66 : Cond.static yJ9_abs_0f7a4 ∈ mm_tbl := wq_4 _ (List.mem_of_getElem? (i := 66) (by decide +kernel)) rfl
theorem wd_4_67 : Cond.code yJ9_abs_0f7a4 cJ9_abs_0f7a4 (1) (some .int) ∈ mm_tbl := wq_4 _ (List.mem_of_getElem? (i := 67) (by decide +kernel)) rfl
theorem wd_4_68 : Cond.methodLink RL (131) yX9_shift ∈ mm_tbl := wq_4 _ (List.mem_of_getElem? (i := 68) (by decide +kernel)) rfl
theorem wd_4_69 : Cond.instanceMethod yX9_shift ∈ mm_tbl := wq_4 _ (List.mem_of_getElem? (i := 69) (by decide +kernel)) rfl
theorem wd_4_70 : Cond.selects RX9 yX9_shift yX9_shift ∈ mm_tbl := wq_4 _ (List.mem_of_getElem? (i := 70) (by decide +kernel)) rfl
theorem wd_4_71 : Cond.code yX9_shift cX9_shift (3) (some .int) ∈ mm_tbl := wq_4 _ (List.mem_of_getElem? (i := 71) (by decide +kernel)) rfl
theorem wd_4_72 : Cond.methodLink RX9 (258) yX2_freeMinute ∈ mm_tbl := wq_4 _ (List.mem_of_getElem? (i := 72) (by decide +kernel)) rfl
theorem wd_4_73 : Cond.instanceMethod yX2_freeMinute ∈ mm_tbl := wq_4 _ (List.mem_of_getElem? (i := 73) (by decide +kernel)) rfl
theorem wd_4_74 : Cond.selects RX2 yX2_freeMinute yX2_freeMinute ∈ mm_tbl := wq_4 _ (List.mem_of_getElem? (i := 74) (by decide +kernel)) rfl
theorem wd_4_75 : Cond.code yX2_freeMinute cX2_freeMinute (5) (some .int) ∈ mm_tbl := wq_4 _ (List.mem_of_getElem? (i := 75) (by decide +kernel)) rfl
theorem wd_4_76 : Cond.methodLink RX2 (35) yX2_firstClash ∈ mm_tbl := wq_4 _ (List.mem_of_getElem? (i := 76) (by decide +kernel)) rfl
theorem wd_4_78 : Cond.instanceMethod yX2_firstClash ∈ mm_tbl := wq_4 _ (List.mem_of_getElem? (i := 78) (by decide +kernel)) rfl
theorem wd_4_79 : Cond.code yX2_firstClash cX2_firstClash (4) (some .int) ∈ mm_tbl := wq_4 _ (List.mem_of_getElem? (i := 79) (by decide +kernel)) rfl
theorem wd_4_80 : Cond.methodLink RL (135) yX9_trailer ∈ mm_tbl := wq_4 _ (List.mem_of_getElem? (i := 80) (by decide +kernel)) rfl
theorem wd_4_81 : Cond.instanceMethod yX9_trailer ∈ mm_tbl := wq_4 _ (List.mem_of_getElem? (i := 81) (by decide +kernel)) rfl
theorem wd_4_82 : Cond.selects RX9 yX9_trailer yX9_trailer ∈ mm_tbl := wq_4 _ (List.mem_of_getElem? (i := 82) (by decide +kernel)) rfl
theorem wd_4_83 : Cond.code yX9_trailer cX9_trailer (4) (some .int) ∈ mm_tbl := wq_4 _ (List.mem_of_getElem? (i := 83) (by decide +kernel)) rfl
theorem wd_4_84 : Cond.methodLink RX9 (263) yX5_load ∈ mm_tbl := wq_4 _ (List.mem_of_getElem? (i := 84) (by decide +kernel)) rfl
theorem wd_4_85 : Cond.instanceMethod yX5_load ∈ mm_tbl := wq_4 _ (List.mem_of_getElem? (i := 85) (by decide +kernel)) rfl
theorem wd_4_86 : Cond.selects RX5 yX5_load yX5_load ∈ mm_tbl := wq_4 _ (List.mem_of_getElem? (i := 86) (by decide +kernel)) rfl
theorem wd_4_87 : Cond.code yX5_load cX5_load (4) (some .int) ∈ mm_tbl := wq_4 _ (List.mem_of_getElem? (i := 87) (by decide +kernel)) rfl
theorem wd_4_88 : Cond.methodLink RX5 (33) yX5_lay ∈ mm_tbl := wq_4 _ (List.mem_of_getElem? (i := 88) (by decide +kernel)) rfl
theorem wd_4_89 : Cond.static yX5_lay ∈ mm_tbl := wq_4 _ (List.mem_of_getElem? (i := 89) (by decide +kernel)) rfl
theorem wd_4_90 : Cond.code yX5_lay cX5_lay (6) none ∈ mm_tbl := wq_4 _ (List.mem_of_getElem? (i := 90) (by decide +kernel)) rfl
theorem wd_4_91 : Cond.methodLink RX5 (37) yX5_longestRow ∈ mm_tbl := wq_4 _ (List.mem_of_getElem? (i := 91) (by decide +kernel)) rfl
theorem wd_4_93 : Cond.instanceMethod yX5_longestRow ∈ mm_tbl := wq_4 _ (List.mem_of_getElem? (i := 93) (by decide +kernel)) rfl
theorem wd_4_94 : Cond.code yX5_longestRow cX5_longestRow (1) (some .int) ∈ mm_tbl := wq_4 _ (List.mem_of_getElem? (i := 94) (by decide +kernel)) rfl
theorem wd_4_95 : Cond.methodLink RX5 (51) yJ9_max_7cf53 ∈ mm_tbl := wq_4 _ (List.mem_of_getElem? (i := 95) (by decide +kernel)) rfl
theorem wd_4_96 : Cond.methodLink RX5 (41) ⟨"java/lang/System", "arraycopy", "(Ljava/lang/Object;ILjava/lang/Object;II)V"⟩ ∈ mm_tbl := wq_4 _ (List.mem_of_getElem? (i := 96) (by decide +kernel)) rfl
theorem wd_4_98 : Cond.methodLink RL (139) yX9_rack ∈ mm_tbl := wq_4 _ (List.mem_of_getElem? (i := 98) (by decide +kernel)) rfl
theorem wd_4_99 : Cond.instanceMethod yX9_rack ∈ mm_tbl := wq_4 _ (List.mem_of_getElem? (i := 99) (by decide +kernel)) rfl
theorem wd_4_100 : Cond.selects RX9 yX9_rack yX9_rack ∈ mm_tbl := wq_4 _ (List.mem_of_getElem? (i := 100) (by decide +kernel)) rfl
theorem wd_4_101 : Cond.code yX9_rack cX9_rack (2) (some .int) ∈ mm_tbl := wq_4 _ (List.mem_of_getElem? (i := 101) (by decide +kernel)) rfl
theorem wd_4_102 : Cond.methodLink RL (143) yX9_count ∈ mm_tbl := wq_4 _ (List.mem_of_getElem? (i := 102) (by decide +kernel)) rfl
theorem wd_4_103 : Cond.instanceMethod yX9_count ∈ mm_tbl := wq_4 _ (List.mem_of_getElem? (i := 103) (by decide +kernel)) rfl
theorem wd_4_104 : Cond.selects RX9 yX9_count yX9_count ∈ mm_tbl := wq_4 _ (List.mem_of_getElem? (i := 104) (by decide +kernel)) rfl
theorem wd_4_105 : Cond.code yX9_count cX9_count (2) (some .int) ∈ mm_tbl := wq_4 _ (List.mem_of_getElem? (i := 105) (by decide +kernel)) rfl
theorem wd_4_106 : Cond.classLink RL (10) RX10 ∈ mm_tbl := wq_4 _ (List.mem_of_getElem? (i := 106) (by decide +kernel)) rfl
theorem wd_4_107 : Cond.instantiable RX10 (53) ∈ mm_tbl := wq_4 _ (List.mem_of_getElem? (i := 107) (by decide +kernel)) rfl
theorem wd_4_108 : Cond.methodLink RL (12) yX10_init ∈ mm_tbl := wq_4 _ (List.mem_of_getElem? (i := 108) (by decide +kernel)) rfl
theorem wd_4_109 : Cond.instanceMethod yX10_init ∈ mm_tbl := wq_4 _ (List.mem_of_getElem? (i := 109) (by decide +kernel)) rfl
theorem wd_4_110 : Cond.code yX10_init cX10_init (2) none ∈ mm_tbl := wq_4 _ (List.mem_of_getElem? (i := 110) (by decide +kernel)) rfl
theorem wd_4_111 : Cond.methodLink RX10 (1) objectInit ∈ mm_tbl := wq_4 _ (List.mem_of_getElem? (i := 111) (by decide +kernel)) rfl
theorem wd_4_112 : Cond.fieldLink RX10 (7) RX10 "kindOf" "[I" ∈ mm_tbl := wq_4 _ (List.mem_of_getElem? (i := 112) (by decide +kernel)) rfl
theorem wd_4_113 : Cond.fieldLink RX10 (13) RX10 "weightOf" "[I" ∈ mm_tbl := wq_4 _ (List.mem_of_getElem? (i := 113) (by decide +kernel)) rfl
theorem wd_4_114 : Cond.fieldLink RX10 (16) RX10 "boatOf" "[I" ∈ mm_tbl := wq_4 _ (List.mem_of_getElem? (i := 114) (by decide +kernel)) rfl
theorem wd_4_115 : Cond.fieldLink RX10 (19) RX10 "seatOf" "[I" ∈ mm_tbl := wq_4 _ (List.mem_of_getElem? (i := 115) (by decide +kernel)) rfl
theorem wd_4_116 : Cond.fieldLink RX10 (22) RX10 "isIll" "[Z" ∈ mm_tbl := wq_4 _ (List.mem_of_getElem? (i := 116) (by decide +kernel)) rfl
theorem wd_4_117 : Cond.fieldLink RX10 (26) RX10 "isBroken" "[Z" ∈ mm_tbl := wq_4 _ (List.mem_of_getElem? (i := 117) (by decide +kernel)) rfl
theorem wd_4_118 : Cond.fieldLink RX10 (29) RX10 "boatKind" "[I" ∈ mm_tbl := wq_4 _ (List.mem_of_getElem? (i := 118) (by decide +kernel)) rfl
theorem wd_4_119 : Cond.fieldLink RX10 (32) RX10 "least" "[I" ∈ mm_tbl := wq_4 _ (List.mem_of_getElem? (i := 119) (by decide +kernel)) rfl
theorem wd_4_120 : Cond.fieldLink RX10 (35) RX10 "most" "[I" ∈ mm_tbl := wq_4 _ (List.mem_of_getElem? (i := 120) (by decide +kernel)) rfl
theorem wd_4_121 : Cond.fieldLink RX10 (38) RX10 "longOf" "[I" ∈ mm_tbl := wq_4 _ (List.mem_of_getElem? (i := 121) (by decide +kernel)) rfl
theorem wd_4_122 : Cond.fieldLink RX10 (136) RX10 "oars" "I" ∈ mm_tbl := wq_4 _ (List.mem_of_getElem? (i := 122) (by decide +kernel)) rfl
theorem wd_4_123 : Cond.fieldLink RX10 (139) RX10 "boats" "I" ∈ mm_tbl := wq_4 _ (List.mem_of_getElem? (i := 123) (by decide +kernel)) rfl
theorem wd_4_124 : Cond.fieldLink RX10 (41) RX10 "first" "[I" ∈ mm_tbl := wq_4 _ (List.mem_of_getElem? (i := 124) (by decide +kernel)) rfl
theorem wd_4_125 : Cond.fieldLink RX10 (44) RX10 "second" "[I" ∈ mm_tbl := wq_4 _ (List.mem_of_getElem? (i := 125) (by decide +kernel)) rfl
theorem wd_4_126 : Cond.fieldLink RX10 (47) RX10 "byHow" "[I" ∈ mm_tbl := wq_4 _ (List.mem_of_getElem? (i := 126) (by decide +kernel)) rfl
theorem wd_4_127 : Cond.fieldLink RX10 (50) RX10 "groupOf" "[I" ∈ mm_tbl := wq_4 _ (List.mem_of_getElem? (i := 127) (by decide +kernel)) rfl
theorem wd_4_128 : Cond.fieldLink RX10 (180) RX10 "races" "I" ∈ mm_tbl := wq_4 _ (List.mem_of_getElem? (i := 128) (by decide +kernel)) rfl
theorem wd_4_129 : Cond.fieldLink RX10 (53) RX10 "placeOf" "[I" ∈ mm_tbl := wq_4 _ (List.mem_of_getElem? (i := 129) (by decide +kernel)) rfl
theorem wd_4_130 : Cond.fieldLink RX10 (56) RX10 "table" "[J" ∈ mm_tbl := wq_4 _ (List.mem_of_getElem? (i := 130) (by decide +kernel)) rfl
theorem wd_4_131 : Cond.fieldLink RX10 (60) RX10 "right" "[J" ∈ mm_tbl := wq_4 _ (List.mem_of_getElem? (i := 131) (by decide +kernel)) rfl
theorem wd_4_132 : Cond.fieldLink RX10 (63) RX10 "used" "[J" ∈ mm_tbl := wq_4 _ (List.mem_of_getElem? (i := 132) (by decide +kernel)) rfl
theorem wd_4_133 : Cond.fieldLink RX10 (66) RX10 "strength" "[J" ∈ mm_tbl := wq_4 _ (List.mem_of_getElem? (i := 133) (by decide +kernel)) rfl
theorem wd_4_134 : Cond.fieldLink RX10 (186) RX10 "others" "I" ∈ mm_tbl := wq_4 _ (List.mem_of_getElem? (i := 134) (by decide +kernel)) rfl
theorem wd_4_135 : Cond.fieldLink RX10 (200) RX10 "line" "J" ∈ mm_tbl := wq_4 _ (List.mem_of_getElem? (i := 135) (by decide +kernel)) rfl
theorem wd_4_136 : Cond.fieldLink RX10 (69) RX10 "cost" "[I" ∈ mm_tbl := wq_4 _ (List.mem_of_getElem? (i := 136) (by decide +kernel)) rfl
theorem wd_4_137 : Cond.fieldLink RX10 (72) RX10 "given" "[I" ∈ mm_tbl := wq_4 _ (List.mem_of_getElem? (i := 137) (by decide +kernel)) rfl
theorem wd_4_138 : Cond.fieldLink RX10 (75) RX10 "stream" "[I" ∈ mm_tbl := wq_4 _ (List.mem_of_getElem? (i := 138) (by decide +kernel)) rfl
theorem wd_4_139 : Cond.fieldLink RX10 (78) RX10 "wind" "[I" ∈ mm_tbl := wq_4 _ (List.mem_of_getElem? (i := 139) (by decide +kernel)) rfl
theorem wd_4_140 : Cond.fieldLink RX10 (81) RX10 "tape" "[I" ∈ mm_tbl := wq_4 _ (List.mem_of_getElem? (i := 140) (by decide +kernel)) rfl
theorem wd_4_141 : Cond.fieldLink RX10 (246) RX10 "taped" "I" ∈ mm_tbl := wq_4 _ (List.mem_of_getElem? (i := 141) (by decide +kernel)) rfl
theorem wd_4_142 : Cond.fieldLink RX10 (284) RX10 "rules" "I" ∈ mm_tbl := wq_4 _ (List.mem_of_getElem? (i := 142) (by decide +kernel)) rfl
theorem wd_4_143 : Cond.fieldLink RX10 (293) RX10 "day" "I" ∈ mm_tbl := wq_4 _ (List.mem_of_getElem? (i := 143) (by decide +kernel)) rfl
theorem wd_4_144 : Cond.fieldLink RX10 (84) RX10 "isBar" "[Z" ∈ mm_tbl := wq_4 _ (List.mem_of_getElem? (i := 144) (by decide +kernel)) rfl
theorem wd_4_145 : Cond.fieldLink RX10 (87) RX10 "ruleKind" "[I" ∈ mm_tbl := wq_4 _ (List.mem_of_getElem? (i := 145) (by decide +kernel)) rfl
theorem wd_4_146 : Cond.fieldLink RX10 (90) RX10 "tests" "[I" ∈ mm_tbl := wq_4 _ (List.mem_of_getElem? (i := 146) (by decide +kernel)) rfl
theorem wd_4_147 : Cond.fieldLink RX10 (93) RX10 "test" "[I" ∈ mm_tbl := wq_4 _ (List.mem_of_getElem? (i := 147) (by decide +kernel)) rfl
theorem wd_4_148 : Cond.fieldLink RX10 (251) RX10 "at" "I" ∈ mm_tbl := wq_4 _ (List.mem_of_getElem? (i := 148) (by decide +kernel)) rfl
theorem wd_4_149 : Cond.fieldLink RX10 (96) RX10 "outBoat" "[I" ∈ mm_tbl := wq_4 _ (List.mem_of_getElem? (i := 149) (by decide +kernel)) rfl
theorem wd_4_150 : Cond.fieldLink RX10 (99) RX10 "outDay" "[I" ∈ mm_tbl := wq_4 _ (List.mem_of_getElem? (i := 150) (by decide +kernel)) rfl
theorem wd_4_151 : Cond.fieldLink RX10 (102) RX10 "outHour" "[I" ∈ mm_tbl := wq_4 _ (List.mem_of_getElem? (i := 151) (by decide +kernel)) rfl
theorem wd_4_152 : Cond.fieldLink RX10 (105) RX10 "outWho" "[I" ∈ mm_tbl := wq_4 _ (List.mem_of_getElem? (i := 152) (by decide +kernel)) rfl
theorem wd_4_153 : Cond.fieldLink RX10 (108) RX10 "lookBoat" "[I" ∈ mm_tbl := wq_4 _ (List.mem_of_getElem? (i := 153) (by decide +kernel)) rfl
theorem wd_4_154 : Cond.fieldLink RX10 (111) RX10 "lookAt" "[I" ∈ mm_tbl := wq_4 _ (List.mem_of_getElem? (i := 154) (by decide +kernel)) rfl
theorem wd_4_155 : Cond.fieldLink RX10 (114) RX10 "isWhole" "[Z" ∈ mm_tbl := wq_4 _ (List.mem_of_getElem? (i := 155) (by decide +kernel)) rfl
theorem wd_4_156 : Cond.fieldLink RX10 (308) RX10 "outings" "I" ∈ mm_tbl := wq_4 _ (List.mem_of_getElem? (i := 156) (by decide +kernel)) rfl
theorem wd_4_157 : Cond.fieldLink RX10 (314) RX10 "looks" "I" ∈ mm_tbl := wq_4 _ (List.mem_of_getElem? (i := 157) (by decide +kernel)) rfl
theorem wd_4_158 : Cond.fieldLink RX10 (117) RX10 "heatBoat" "[I" ∈ mm_tbl := wq_4 _ (List.mem_of_getElem? (i := 158) (by decide +kernel)) rfl
theorem wd_4_159 : Cond.fieldLink RX10 (120) RX10 "heatAt" "[I" ∈ mm_tbl := wq_4 _ (List.mem_of_getElem? (i := 159) (by decide +kernel)) rfl
theorem wd_4_160 : Cond.fieldLink RX10 (321) RX10 "heats" "I" ∈ mm_tbl := wq_4 _ (List.mem_of_getElem? (i := 160) (by decide +kernel)) rfl
theorem wd_4_161 : Cond.fieldLink RX10 (123) RX10 "near" "I" ∈ mm_tbl := wq_4 _ (List.mem_of_getElem? (i := 161) (by decide +kernel)) rfl
theorem wd_4_162 : Cond.fieldLink RX10 (127) RX10 "rackOf" "[I" ∈ mm_tbl := wq_4 _ (List.mem_of_getElem? (i := 162) (by decide +kernel)) rfl
theorem wd_4_163 : Cond.fieldLink RX10 (130) RX10 "lies" "[I" ∈ mm_tbl := wq_4 _ (List.mem_of_getElem? (i := 163) (by decide +kernel)) rfl
theorem wd_4_164 : Cond.fieldLink RX10 (133) RX10 "long3" "[I" ∈ mm_tbl := wq_4 _ (List.mem_of_getElem? (i := 164) (by decide +kernel)) rfl
theorem wd_5_32 : Cond.methodLink RL (17) yX10_oar ∈ mm_tbl := wq_5 _ (List.mem_of_getElem? (i := 32) (by decide +kernel)) rfl
theorem wd_5_33 : Cond.instanceMethod yX10_oar ∈ mm_tbl := wq_5 _ (List.mem_of_getElem? (i := 33) (by decide +kernel)) rfl
theorem wd_5_34 : Cond.selects RX10 yX10_oar yX10_oar ∈ mm_tbl := wq_5 _ (List.mem_of_getElem? (i := 34) (by decide +kernel)) rfl
theorem wd_5_35 : Cond.code yX10_oar cX10_oar (3) (some .int) ∈ mm_tbl := wq_5 _ (List.mem_of_getElem? (i := 35) (by decide +kernel)) rfl
theorem wd_5_36 : Cond.constantLong RX10 (153) (4) ∈ mm_tbl := wq_5 _ (List.mem_of_getElem? (i := 36) (by decide +kernel)) rfl
theorem wd_5_37 : Cond.methodLink RX10 (155) yX10_isIn ∈ mm_tbl := wq_5 _ (List.mem_of_getElem? (i := 37) (by decide +kernel)) rfl
theorem wd_5_38 : Cond.static yX10_isIn ∈ mm_tbl := wq_5 _ (List.mem_of_getElem? (i := 38) (by decide +kernel)) rfl
theorem wd_5_39 : Cond.code yX10_isIn cX10_isIn (6) (some .boolean) ∈ mm_tbl := wq_5 _ (List.mem_of_getElem? (i := 39) (by decide +kernel)) rfl
theorem wd_5_40 : Cond.constantLong RX10 (159) (30) ∈ mm_tbl := wq_5 _ (List.mem_of_getElem? (i := 40) (by decide +kernel)) rfl
theorem wd_5_41 : Cond.constantLong RX10 (161) (150) ∈ mm_tbl := wq_5 _ (List.mem_of_getElem? (i := 41) (by decide +kernel)) rfl
theorem wd_5_42 : Cond.methodLink RL (22) yX10_boat ∈ mm_tbl := wq_5 _ (List.mem_of_getElem? (i := 42) (by decide +kernel)) rfl
theorem wd_5_43 : Cond.instanceMethod yX10_boat ∈ mm_tbl := wq_5 _ (List.mem_of_getElem? (i := 43) (by decide +kernel)) rfl
theorem wd_5_44 : Cond.selects RX10 yX10_boat yX10_boat ∈ mm_tbl := wq_5 _ (List.mem_of_getElem? (i := 44) (by decide +kernel)) rfl
theorem wd_5_45 : Cond.code yX10_boat cX10_boat (5) (some .int) ∈ mm_tbl := wq_5 _ (List.mem_of_getElem? (i := 45) (by decide +kernel)) rfl
theorem wd_5_46 : Cond.constantLong RX10 (163) (99) ∈ mm_tbl := wq_5 _ (List.mem_of_getElem? (i := 46) (by decide +kernel)) rfl
theorem wd_5_47 : Cond.methodLink RL (26) yX10_ill ∈ mm_tbl := wq_5 _ (List.mem_of_getElem? (i := 47) (by decide +kernel)) rfl
theorem wd_5_48 : Cond.instanceMethod yX10_ill ∈ mm_tbl := wq_5 _ (List.mem_of_getElem? (i := 48) (by decide +kernel)) rfl
theorem wd_5_49 : Cond.selects RX10 yX10_ill yX10_ill ∈ mm_tbl := wq_5 _ (List.mem_of_getElem? (i := 49) (by decide +kernel)) rfl
theorem wd_5_50 : Cond.code yX10_ill cX10_ill (4) (some .int) ∈ mm_tbl := wq_5 _ (List.mem_of_getElem? (i := 50) (by decide +kernel)) rfl
theorem wd_5_51 : Cond.methodLink RX10 (165) yX10_isOar ∈ mm_tbl := wq_5 _ (List.mem_of_getElem? (i := 51) (by decide +kernel)) rfl
theorem wd_5_53 : Cond.instanceMethod yX10_isOar ∈ mm_tbl := wq_5 _ (List.mem_of_getElem? (i := 53) (by decide +kernel)) rfl
theorem wd_5_54 : Cond.code yX10_isOar cX10_isOar (2) (some .boolean) ∈ mm_tbl := wq_5 _ (List.mem_of_getElem? (i := 54) (by decide +kernel)) rfl
theorem wd_5_55 : Cond.methodLink RL (31) yX10_sit ∈ mm_tbl := wq_5 _ (List.mem_of_getElem? (i := 55) (by decide +kernel)) rfl
theorem wd_5_56 : Cond.instanceMethod yX10_sit ∈ mm_tbl := wq_5 _ (List.mem_of_getElem? (i := 56) (by decide +kernel)) rfl
theorem wd_5_57 : Cond.selects RX10 yX10_sit yX10_sit ∈ mm_tbl := wq_5 _ (List.mem_of_getElem? (i := 57) (by decide +kernel)) rfl
theorem wd_5_58 : Cond.code yX10_sit cX10_sit (5) (some .int) ∈ mm_tbl := wq_5 _ (List.mem_of_getElem? (i := 58) (by decide +kernel)) rfl
theorem wd_5_59 : Cond.methodLink RX10 (168) yX10_isSeat ∈ mm_tbl := wq_5 _ (List.mem_of_getElem? (i := 59) (by decide +kernel)) rfl
theorem wd_5_61 : Cond.instanceMethod yX10_isSeat ∈ mm_tbl := wq_5 _ (List.mem_of_getElem? (i := 61) (by decide +kernel)) rfl
theorem wd_5_62 : Cond.code yX10_isSeat cX10_isSeat (3) (some .boolean) ∈ mm_tbl := wq_5 _ (List.mem_of_getElem? (i := 62) (by decide +kernel)) rfl
theorem wd_5_63 : Cond.methodLink RX10 (142) yX10_isBoat ∈ mm_tbl := wq_5 _ (List.mem_of_getElem? (i := 63) (by decide +kernel)) rfl
theorem wd_5_65 : Cond.instanceMethod yX10_isBoat ∈ mm_tbl := wq_5 _ (List.mem_of_getElem? (i := 65) (by decide +kernel)) rfl
theorem wd_5_66 : Cond.code yX10_isBoat cX10_isBoat (2) (some .boolean) ∈ mm_tbl := wq_5 _ (List.mem_of_getElem? (i := 66) (by decide +kernel)) rfl
theorem wd_5_67 : Cond.methodLink RX10 (146) yX10_seatsOf ∈ mm_tbl := wq_5 _ (List.mem_of_getElem? (i := 67) (by decide +kernel)) rfl
theorem wd_5_69 : Cond.instanceMethod yX10_seatsOf ∈ mm_tbl := wq_5 _ (List.mem_of_getElem? (i := 69) (by decide +kernel)) rfl
theorem wd_5_70 : Cond.code yX10_seatsOf cX10_seatsOf (3) (some .int) ∈ mm_tbl := wq_5 _ (List.mem_of_getElem? (i := 70) (by decide +kernel)) rfl
theorem wd_5_71 : Cond.methodLink RX10 (150) yX10_hasCox ∈ mm_tbl := wq_5 _ (List.mem_of_getElem? (i := 71) (by decide +kernel)) rfl
theorem wd_5_73 : Cond.instanceMethod yX10_hasCox ∈ mm_tbl := wq_5 _ (List.mem_of_getElem? (i := 73) (by decide +kernel)) rfl
theorem wd_5_74 : Cond.code yX10_hasCox cX10_hasCox (2) (some .boolean) ∈ mm_tbl := wq_5 _ (List.mem_of_getElem? (i := 74) (by decide +kernel)) rfl
theorem wd_5_75 : Cond.methodLink RX10 (172) yX10_sitter ∈ mm_tbl := wq_5 _ (List.mem_of_getElem? (i := 75) (by decide +kernel)) rfl
theorem wd_5_77 : Cond.instanceMethod yX10_sitter ∈ mm_tbl := wq_5 _ (List.mem_of_getElem? (i := 77) (by decide +kernel)) rfl
theorem wd_5_78 : Cond.code yX10_sitter cX10_sitter (5) (some .int) ∈ mm_tbl := wq_5 _ (List.mem_of_getElem? (i := 78) (by decide +kernel)) rfl
theorem wd_5_79 : Cond.methodLink RL (35) yX10_seat ∈ mm_tbl := wq_5 _ (List.mem_of_getElem? (i := 79) (by decide +kernel)) rfl
theorem wd_5_80 : Cond.instanceMethod yX10_seat ∈ mm_tbl := wq_5 _ (List.mem_of_getElem? (i := 80) (by decide +kernel)) rfl
theorem wd_5_81 : Cond.selects RX10 yX10_seat yX10_seat ∈ mm_tbl := wq_5 _ (List.mem_of_getElem? (i := 81) (by decide +kernel)) rfl
theorem wd_5_82 : Cond.code yX10_seat cX10_seat (3) (some .int) ∈ mm_tbl := wq_5 _ (List.mem_of_getElem? (i := 82) (by decide +kernel)) rfl
theorem wd_5_83 : Cond.methodLink RL (39) yX10_about ∈ mm_tbl := wq_5 _ (List.mem_of_getElem? (i := 83) (by decide +kernel)) rfl
theorem wd_5_84 : Cond.instanceMethod yX10_about ∈ mm_tbl := wq_5 _ (List.mem_of_getElem? (i := 84) (by decide +kernel)) rfl
theorem wd_5_85 : Cond.selects RX10 yX10_about yX10_about ∈ mm_tbl := wq_5 _ (List.mem_of_getElem? (i := 85) (by decide +kernel)) rfl
theorem wd_5_86 : Cond.code yX10_about cX10_about (3) (some .int) ∈ mm_tbl := wq_5 _ (List.mem_of_getElem? (i := 86) (by decide +kernel)) rfl
theorem wd_5_87 : Cond.methodLink RL (43) yX10_race ∈ mm_tbl := wq_5 _ (List.mem_of_getElem? (i := 87) (by decide +kernel)) rfl
theorem wd_5_88 : Cond.instanceMethod yX10_race ∈ mm_tbl := wq_5 _ (List.mem_of_getElem? (i := 88) (by decide +kernel)) rfl
theorem wd_5_89 : Cond.selects RX10 yX10_race yX10_race ∈ mm_tbl := wq_5 _ (List.mem_of_getElem? (i := 89) (by decide +kernel)) rfl
theorem wd_5_90 : Cond.code yX10_race cX10_race (4) (some .int) ∈ mm_tbl := wq_5 _ (List.mem_of_getElem? (i := 90) (by decide +kernel)) rfl
theorem wd_5_91 : Cond.constantLong RX10 (176) (-999) ∈ mm_tbl := wq_5 _ (List.mem_of_getElem? (i := 91) (by decide +kernel)) rfl
theorem wd_5_92 : Cond.constantLong RX10 (178) (999) ∈ mm_tbl := wq_5 _ (List.mem_of_getElem? (i := 92) (by decide +kernel)) rfl
theorem wd_5_93 : Cond.methodLink RL (48) yX10_unrace ∈ mm_tbl := wq_5 _ (List.mem_of_getElem? (i := 93) (by decide +kernel)) rfl
theorem wd_5_94 : Cond.instanceMethod yX10_unrace ∈ mm_tbl := wq_5 _ (List.mem_of_getElem? (i := 94) (by decide +kernel)) rfl
theorem wd_5_95 : Cond.selects RX10 yX10_unrace yX10_unrace ∈ mm_tbl := wq_5 _ (List.mem_of_getElem? (i := 95) (by decide +kernel)) rfl
theorem wd_5_96 : Cond.code yX10_unrace cX10_unrace (1) (some .int) ∈ mm_tbl := wq_5 _ (List.mem_of_getElem? (i := 96) (by decide +kernel)) rfl
theorem wd_5_97 : Cond.methodLink RL (53) yX10_group ∈ mm_tbl := wq_5 _ (List.mem_of_getElem? (i := 97) (by decide +kernel)) rfl
theorem wd_5_98 : Cond.instanceMethod yX10_group ∈ mm_tbl := wq_5 _ (List.mem_of_getElem? (i := 98) (by decide +kernel)) rfl
theorem wd_5_99 : Cond.selects RX10 yX10_group yX10_group ∈ mm_tbl := wq_5 _ (List.mem_of_getElem? (i := 99) (by decide +kernel)) rfl
theorem wd_5_100 : Cond.code yX10_group cX10_group (2) (some .int) ∈ mm_tbl := wq_5 _ (List.mem_of_getElem? (i := 100) (by decide +kernel)) rfl
theorem wd_5_101 : Cond.methodLink RX10 (183) yX10_findGroups ∈ mm_tbl := wq_5 _ (List.mem_of_getElem? (i := 101) (by decide +kernel)) rfl
theorem wd_5_103 : Cond.instanceMethod yX10_findGroups ∈ mm_tbl := wq_5 _ (List.mem_of_getElem? (i := 103) (by decide +kernel)) rfl
theorem wd_5_104 : Cond.code yX10_findGroups cX10_findGroups (5) none ∈ mm_tbl := wq_5 _ (List.mem_of_getElem? (i := 104) (by decide +kernel)) rfl
theorem wd_5_105 : Cond.methodLink RL (58) yX10_strength ∈ mm_tbl := wq_5 _ (List.mem_of_getElem? (i := 105) (by decide +kernel)) rfl
theorem wd_5_106 : Cond.instanceMethod yX10_strength ∈ mm_tbl := wq_5 _ (List.mem_of_getElem? (i := 106) (by decide +kernel)) rfl
theorem wd_5_107 : Cond.selects RX10 yX10_strength yX10_strength ∈ mm_tbl := wq_5 _ (List.mem_of_getElem? (i := 107) (by decide +kernel)) rfl
theorem wd_5_108 : Cond.code yX10_strength cX10_strength (3) (some .long) ∈ mm_tbl := wq_5 _ (List.mem_of_getElem? (i := 108) (by decide +kernel)) rfl
theorem wd_5_109 : Cond.methodLink RX10 (208) yX10_solves ∈ mm_tbl := wq_5 _ (List.mem_of_getElem? (i := 109) (by decide +kernel)) rfl
theorem wd_5_111 : Cond.instanceMethod yX10_solves ∈ mm_tbl := wq_5 _ (List.mem_of_getElem? (i := 111) (by decide +kernel)) rfl
theorem wd_5_112 : Cond.code yX10_solves cX10_solves (4) (some .boolean) ∈ mm_tbl := wq_5 _ (List.mem_of_getElem? (i := 112) (by decide +kernel)) rfl
theorem wd_5_113 : Cond.methodLink RX10 (192) yX10_tells ∈ mm_tbl := wq_5 _ (List.mem_of_getElem? (i := 113) (by decide +kernel)) rfl
theorem wd_5_115 : Cond.instanceMethod yX10_tells ∈ mm_tbl := wq_5 _ (List.mem_of_getElem? (i := 115) (by decide +kernel)) rfl
theorem wd_5_116 : Cond.code yX10_tells cX10_tells (4) none ∈ mm_tbl := wq_5 _ (List.mem_of_getElem? (i := 116) (by decide +kernel)) rfl
theorem wd_5_117 : Cond.methodLink RX10 (196) yX10_determinant ∈ mm_tbl := wq_5 _ (List.mem_of_getElem? (i := 117) (by decide +kernel)) rfl
theorem wd_5_119 : Cond.instanceMethod yX10_determinant ∈ mm_tbl := wq_5 _ (List.mem_of_getElem? (i := 119) (by decide +kernel)) rfl
theorem wd_5_120 : Cond.code yX10_determinant cX10_determinant (7) (some .long) ∈ mm_tbl := wq_5 _ (List.mem_of_getElem? (i := 120) (by decide +kernel)) rfl
theorem wd_5_121 : Cond.methodLink RX10 (189) yX10_bits ∈ mm_tbl := wq_5 _ (List.mem_of_getElem? (i := 121) (by decide +kernel)) rfl
theorem wd_5_122 : Cond.static yX10_bits ∈ mm_tbl := wq_5 _ (List.mem_of_getElem? (i := 122) (by decide +kernel)) rfl
theorem wd_5_123 : Cond.code yX10_bits cX10_bits (3) (some .int) ∈ mm_tbl := wq_5 _ (List.mem_of_getElem? (i := 123) (by decide +kernel)) rfl
theorem wd_5_124 : Cond.constantLong RX10 (211) (-9223372036854775808) ∈ mm_tbl := wq_5 _ (List.mem_of_getElem? (i := 124) (by decide +kernel)) rfl
theorem wd_5_125 : Cond.methodLink RX10 (213) yX10_part ∈ mm_tbl := wq_5 _ (List.mem_of_getElem? (i := 125) (by decide +kernel)) rfl
theorem wd_5_126 : Cond.static yX10_part ∈ mm_tbl := wq_5 _ (List.mem_of_getElem? (i := 126) (by decide +kernel)) rfl
theorem wd_5_127 : Cond.code yX10_part cX10_part (7) (some .long) ∈ mm_tbl := wq_5 _ (List.mem_of_getElem? (i := 127) (by decide +kernel)) rfl
theorem wd_5_128 : Cond.methodLink RX10 (204) yX10_divisor ∈ mm_tbl := wq_5 _ (List.mem_of_getElem? (i := 128) (by decide +kernel)) rfl
theorem wd_5_129 : Cond.static yX10_divisor ∈ mm_tbl := wq_5 _ (List.mem_of_getElem? (i := 129) (by decide +kernel)) rfl
theorem wd_5_130 : Cond.code yX10_divisor cX10_divisor (10) (some .long) ∈ mm_tbl := wq_5 _ (List.mem_of_getElem? (i := 130) (by decide +kernel)) rfl
theorem wd_5_131 : Cond.methodLink RL (63) yX10_between ∈ mm_tbl := wq_5 _ (List.mem_of_getElem? (i := 131) (by decide +kernel)) rfl
theorem wd_5_132 : Cond.instanceMethod yX10_between ∈ mm_tbl := wq_5 _ (List.mem_of_getElem? (i := 132) (by decide +kernel)) rfl
theorem wd_5_133 : Cond.selects RX10 yX10_between yX10_between ∈ mm_tbl := wq_5 _ (List.mem_of_getElem? (i := 133) (by decide +kernel)) rfl
theorem wd_5_134 : Cond.code yX10_between cX10_between (4) (some .long) ∈ mm_tbl := wq_5 _ (List.mem_of_getElem? (i := 134) (by decide +kernel)) rfl
theorem wd_5_135 : Cond.methodLink RL (67) yX10_misfit ∈ mm_tbl := wq_5 _ (List.mem_of_getElem? (i := 135) (by decide +kernel)) rfl
theorem wd_5_136 : Cond.instanceMethod yX10_misfit ∈ mm_tbl := wq_5 _ (List.mem_of_getElem? (i := 136) (by decide +kernel)) rfl
theorem wd_5_137 : Cond.selects RX10 yX10_misfit yX10_misfit ∈ mm_tbl := wq_5 _ (List.mem_of_getElem? (i := 137) (by decide +kernel)) rfl
theorem wd_5_138 : Cond.code yX10_misfit cX10_misfit (8) (some .long) ∈ mm_tbl := wq_5 _ (List.mem_of_getElem? (i := 138) (by decide +kernel)) rfl
theorem wd_5_139 : Cond.methodLink RL (71) yX10_sure ∈ mm_tbl := wq_5 _ (List.mem_of_getElem? (i := 139) (by decide +kernel)) rfl
theorem wd_5_140 : Cond.instanceMethod yX10_sure ∈ mm_tbl := wq_5 _ (List.mem_of_getElem? (i := 140) (by decide +kernel)) rfl
theorem wd_5_141 : Cond.selects RX10 yX10_sure yX10_sure ∈ mm_tbl := wq_5 _ (List.mem_of_getElem? (i := 141) (by decide +kernel)) rfl
theorem wd_5_142 : Cond.code yX10_sure cX10_sure (7) (some .int) ∈ mm_tbl := wq_5 _ (List.mem_of_getElem? (i := 142) (by decide +kernel)) rfl
theorem wd_5_143 : Cond.methodLink RL (75) yX10_crew ∈ mm_tbl := wq_5 _ (List.mem_of_getElem? (i := 143) (by decide +kernel)) rfl
theorem wd_5_144 : Cond.instanceMethod yX10_crew ∈ mm_tbl := wq_5 _ (List.mem_of_getElem? (i := 144) (by decide +kernel)) rfl
theorem wd_5_145 : Cond.selects RX10 yX10_crew yX10_crew ∈ mm_tbl := wq_5 _ (List.mem_of_getElem? (i := 145) (by decide +kernel)) rfl
theorem wd_5_146 : Cond.code yX10_crew cX10_crew (8) (some .int) ∈ mm_tbl := wq_5 _ (List.mem_of_getElem? (i := 146) (by decide +kernel)) rfl
theorem wd_5_147 : Cond.constantLong RX10 (232) (23) ∈ mm_tbl := wq_5 _ (List.mem_of_getElem? (i := 147) (by decide +kernel)) rfl
theorem wd_5_148 : Cond.methodLink RX10 (234) yX10_fillCost ∈ mm_tbl := wq_5 _ (List.mem_of_getElem? (i := 148) (by decide +kernel)) rfl
theorem wd_5_150 : Cond.instanceMethod yX10_fillCost ∈ mm_tbl := wq_5 _ (List.mem_of_getElem? (i := 150) (by decide +kernel)) rfl
theorem wd_5_151 : Cond.code yX10_fillCost cX10_fillCost (10) none ∈ mm_tbl := wq_5 _ (List.mem_of_getElem? (i := 151) (by decide +kernel)) rfl
theorem wd_5_152 : Cond.constant RX10 (224) (1000000) ∈ mm_tbl := wq_5 _ (List.mem_of_getElem? (i := 152) (by decide +kernel)) rfl
theorem wd_5_153 : Cond.methodLink RX10 (225) yX10_canSit ∈ mm_tbl := wq_5 _ (List.mem_of_getElem? (i := 153) (by decide +kernel)) rfl
theorem wd_5_155 : Cond.instanceMethod yX10_canSit ∈ mm_tbl := wq_5 _ (List.mem_of_getElem? (i := 155) (by decide +kernel)) rfl
theorem wd_5_156 : Cond.code yX10_canSit cX10_canSit (5) (some .boolean) ∈ mm_tbl := wq_5 _ (List.mem_of_getElem? (i := 156) (by decide +kernel)) rfl
theorem wd_5_157 : Cond.methodLink RX10 (221) yX10_mayBeOut ∈ mm_tbl := wq_5 _ (List.mem_of_getElem? (i := 157) (by decide +kernel)) rfl
theorem wd_5_159 : Cond.instanceMethod yX10_mayBeOut ∈ mm_tbl := wq_5 _ (List.mem_of_getElem? (i := 159) (by decide +kernel)) rfl
theorem wd_5_160 : Cond.code yX10_mayBeOut cX10_mayBeOut (3) (some .boolean) ∈ mm_tbl := wq_5 _ (List.mem_of_getElem? (i := 160) (by decide +kernel)) rfl
theorem wd_5_161 : Cond.methodLink RX10 (229) yX10_costOf ∈ mm_tbl := wq_5 _ (List.mem_of_getElem? (i := 161) (by decide +kernel)) rfl
theorem wd_5_163 : Cond.instanceMethod yX10_costOf ∈ mm_tbl := wq_5 _ (List.mem_of_getElem? (i := 163) (by decide +kernel)) rfl
theorem wd_5_164 : Cond.code yX10_costOf cX10_costOf (5) (some .int) ∈ mm_tbl := wq_5 _ (List.mem_of_getElem? (i := 164) (by decide +kernel)) rfl
theorem wd_5_165 : Cond.methodLink RX10 (217) yX10_dislikes ∈ mm_tbl := wq_5 _ (List.mem_of_getElem? (i := 165) (by decide +kernel)) rfl
theorem wd_5_167 : Cond.instanceMethod yX10_dislikes ∈ mm_tbl := wq_5 _ (List.mem_of_getElem? (i := 167) (by decide +kernel)) rfl
theorem wd_5_168 : Cond.code yX10_dislikes cX10_dislikes (6) (some .int) ∈ mm_tbl := wq_5 _ (List.mem_of_getElem? (i := 168) (by decide +kernel)) rfl
theorem wd_5_169 : Cond.methodLink RL (79) yX10_water ∈ mm_tbl := wq_5 _ (List.mem_of_getElem? (i := 169) (by decide +kernel)) rfl
theorem wd_5_170 : Cond.instanceMethod yX10_water ∈ mm_tbl := wq_5 _ (List.mem_of_getElem? (i := 170) (by decide +kernel)) rfl
theorem wd_5_171 : Cond.selects RX10 yX10_water yX10_water ∈ mm_tbl := wq_5 _ (List.mem_of_getElem? (i := 171) (by decide +kernel)) rfl
theorem wd_5_172 : Cond.code yX10_water cX10_water (4) (some .int) ∈ mm_tbl := wq_5 _ (List.mem_of_getElem? (i := 172) (by decide +kernel)) rfl
theorem wd_5_173 : Cond.constantLong RX10 (238) (29) ∈ mm_tbl := wq_5 _ (List.mem_of_getElem? (i := 173) (by decide +kernel)) rfl
theorem wd_5_174 : Cond.constantLong RX10 (240) (200) ∈ mm_tbl := wq_5 _ (List.mem_of_getElem? (i := 174) (by decide +kernel)) rfl
theorem wd_5_175 : Cond.constantLong RX10 (242) (12) ∈ mm_tbl := wq_5 _ (List.mem_of_getElem? (i := 175) (by decide +kernel)) rfl
theorem wd_5_176 : Cond.methodLink RL (86) yX10_feed ∈ mm_tbl := wq_5 _ (List.mem_of_getElem? (i := 176) (by decide +kernel)) rfl
theorem wd_5_177 : Cond.instanceMethod yX10_feed ∈ mm_tbl := wq_5 _ (List.mem_of_getElem? (i := 177) (by decide +kernel)) rfl
theorem wd_5_178 : Cond.selects RX10 yX10_feed yX10_feed ∈ mm_tbl := wq_5 _ (List.mem_of_getElem? (i := 178) (by decide +kernel)) rfl
theorem wd_5_179 : Cond.code yX10_feed cX10_feed (5) (some .int) ∈ mm_tbl := wq_5 _ (List.mem_of_getElem? (i := 179) (by decide +kernel)) rfl
theorem wd_5_180 : Cond.constantLong RX10 (244) (8) ∈ mm_tbl := wq_5 _ (List.mem_of_getElem? (i := 180) (by decide +kernel)) rfl
theorem wd_5_181 : Cond.constantLong RX10 (249) (255) ∈ mm_tbl := wq_5 _ (List.mem_of_getElem? (i := 181) (by decide +kernel)) rfl
theorem wd_5_182 : Cond.methodLink RL (90) yX10_rule ∈ mm_tbl := wq_5 _ (List.mem_of_getElem? (i := 182) (by decide +kernel)) rfl
theorem wd_5_183 : Cond.instanceMethod yX10_rule ∈ mm_tbl := wq_5 _ (List.mem_of_getElem? (i := 183) (by decide +kernel)) rfl
theorem wd_5_184 : Cond.selects RX10 yX10_rule yX10_rule ∈ mm_tbl := wq_5 _ (List.mem_of_getElem? (i := 184) (by decide +kernel)) rfl
theorem wd_5_185 : Cond.code yX10_rule cX10_rule (2) (some .int) ∈ mm_tbl := wq_5 _ (List.mem_of_getElem? (i := 185) (by decide +kernel)) rfl
theorem wd_5_186 : Cond.methodLink RX10 (289) yX10_parses ∈ mm_tbl := wq_5 _ (List.mem_of_getElem? (i := 186) (by decide +kernel)) rfl
theorem wd_5_188 : Cond.instanceMethod yX10_parses ∈ mm_tbl := wq_5 _ (List.mem_of_getElem? (i := 188) (by decide +kernel)) rfl
theorem wd_5_189 : Cond.code yX10_parses cX10_parses (3) (some .boolean) ∈ mm_tbl := wq_5 _ (List.mem_of_getElem? (i := 189) (by decide +kernel)) rfl
theorem wd_5_190 : Cond.methodLink RX10 (278) yX10_word ∈ mm_tbl := wq_5 _ (List.mem_of_getElem? (i := 190) (by decide +kernel)) rfl
theorem wd_5_192 : Cond.instanceMethod yX10_word ∈ mm_tbl := wq_5 _ (List.mem_of_getElem? (i := 192) (by decide +kernel)) rfl
theorem wd_5_193 : Cond.code yX10_word cX10_word (7) (some .int) ∈ mm_tbl := wq_5 _ (List.mem_of_getElem? (i := 193) (by decide +kernel)) rfl
theorem wd_5_194 : Cond.methodLink RX10 (265) yX10_fits ∈ mm_tbl := wq_5 _ (List.mem_of_getElem? (i := 194) (by decide +kernel)) rfl
theorem wd_5_196 : Cond.instanceMethod yX10_fits ∈ mm_tbl := wq_5 _ (List.mem_of_getElem? (i := 196) (by decide +kernel)) rfl
theorem wd_5_197 : Cond.code yX10_fits cX10_fits (5) (some .boolean) ∈ mm_tbl := wq_5 _ (List.mem_of_getElem? (i := 197) (by decide +kernel)) rfl
theorem wd_5_198 : Cond.methodLink RX10 (268) yX10_letter ∈ mm_tbl := wq_5 _ (List.mem_of_getElem? (i := 198) (by decide +kernel)) rfl
theorem wd_5_199 : Cond.static yX10_letter ∈ mm_tbl := wq_5 _ (List.mem_of_getElem? (i := 199) (by decide +kernel)) rfl
theorem wd_5_200 : Cond.code yX10_letter cX10_letter (8) (some .int) ∈ mm_tbl := wq_5 _ (List.mem_of_getElem? (i := 200) (by decide +kernel)) rfl
theorem wd_5_201 : Cond.methodLink RX10 (254) yX10_wordOf ∈ mm_tbl := wq_5 _ (List.mem_of_getElem? (i := 201) (by decide +kernel)) rfl
theorem wd_5_202 : Cond.static yX10_wordOf ∈ mm_tbl := wq_5 _ (List.mem_of_getElem? (i := 202) (by decide +kernel)) rfl
theorem wd_5_203 : Cond.code yX10_wordOf cX10_wordOf (1) (some .long) ∈ mm_tbl := wq_5 _ (List.mem_of_getElem? (i := 203) (by decide +kernel)) rfl
theorem wd_5_204 : Cond.methodLink RX10 (259) yX10_spelled ∈ mm_tbl := wq_5 _ (List.mem_of_getElem? (i := 204) (by decide +kernel)) rfl
theorem wd_5_205 : Cond.static yX10_spelled ∈ mm_tbl := wq_5 _ (List.mem_of_getElem? (i := 205) (by decide +kernel)) rfl
theorem wd_5_206 : Cond.code yX10_spelled cX10_spelled (8) (some .long) ∈ mm_tbl := wq_5 _ (List.mem_of_getElem? (i := 206) (by decide +kernel)) rfl
theorem wd_5_207 : Cond.constantLong RX10 (263) (27) ∈ mm_tbl := wq_5 _ (List.mem_of_getElem? (i := 207) (by decide +kernel)) rfl
theorem wd_5_208 : Cond.constantLong RX10 (257) (31) ∈ mm_tbl := wq_5 _ (List.mem_of_getElem? (i := 208) (by decide +kernel)) rfl
theorem wd_5_209 : Cond.methodLink RX10 (271) yX10_sign ∈ mm_tbl := wq_5 _ (List.mem_of_getElem? (i := 209) (by decide +kernel)) rfl
theorem wd_5_211 : Cond.instanceMethod yX10_sign ∈ mm_tbl := wq_5 _ (List.mem_of_getElem? (i := 211) (by decide +kernel)) rfl
theorem wd_5_212 : Cond.code yX10_sign cX10_sign (1) (some .int) ∈ mm_tbl := wq_5 _ (List.mem_of_getElem? (i := 212) (by decide +kernel)) rfl
theorem wd_5_213 : Cond.methodLink RX10 (275) yX10_takes ∈ mm_tbl := wq_5 _ (List.mem_of_getElem? (i := 213) (by decide +kernel)) rfl
theorem wd_5_215 : Cond.instanceMethod yX10_takes ∈ mm_tbl := wq_5 _ (List.mem_of_getElem? (i := 215) (by decide +kernel)) rfl
theorem wd_5_216 : Cond.code yX10_takes cX10_takes (2) (some .boolean) ∈ mm_tbl := wq_5 _ (List.mem_of_getElem? (i := 216) (by decide +kernel)) rfl
theorem wd_5_217 : Cond.methodLink RX10 (287) yX10_test ∈ mm_tbl := wq_5 _ (List.mem_of_getElem? (i := 217) (by decide +kernel)) rfl
theorem wd_5_219 : Cond.instanceMethod yX10_test ∈ mm_tbl := wq_5 _ (List.mem_of_getElem? (i := 219) (by decide +kernel)) rfl
theorem wd_5_220 : Cond.code yX10_test cX10_test (7) (some .boolean) ∈ mm_tbl := wq_5 _ (List.mem_of_getElem? (i := 220) (by decide +kernel)) rfl
theorem wd_5_221 : Cond.methodLink RX10 (281) yX10_isDigit ∈ mm_tbl := wq_5 _ (List.mem_of_getElem? (i := 221) (by decide +kernel)) rfl
theorem wd_5_222 : Cond.static yX10_isDigit ∈ mm_tbl := wq_5 _ (List.mem_of_getElem? (i := 222) (by decide +kernel)) rfl
theorem wd_5_223 : Cond.code yX10_isDigit cX10_isDigit (1) (some .boolean) ∈ mm_tbl := wq_5 _ (List.mem_of_getElem? (i := 223) (by decide +kernel)) rfl
theorem wd_5_224 : Cond.methodLink RL (94) yX10_ruled ∈ mm_tbl := wq_5 _ (List.mem_of_getElem? (i := 224) (by decide +kernel)) rfl
theorem wd_5_225 : Cond.instanceMethod yX10_ruled ∈ mm_tbl := wq_5 _ (List.mem_of_getElem? (i := 225) (by decide +kernel)) rfl
theorem wd_5_226 : Cond.selects RX10 yX10_ruled yX10_ruled ∈ mm_tbl := wq_5 _ (List.mem_of_getElem? (i := 226) (by decide +kernel)) rfl
theorem wd_5_227 : Cond.code yX10_ruled cX10_ruled (3) (some .int) ∈ mm_tbl := wq_5 _ (List.mem_of_getElem? (i := 227) (by decide +kernel)) rfl
theorem wd_5_228 : Cond.methodLink RX10 (302) yX10_asked ∈ mm_tbl := wq_5 _ (List.mem_of_getElem? (i := 228) (by decide +kernel)) rfl
theorem wd_5_230 : Cond.instanceMethod yX10_asked ∈ mm_tbl := wq_5 _ (List.mem_of_getElem? (i := 230) (by decide +kernel)) rfl
theorem wd_5_231 : Cond.code yX10_asked cX10_asked (7) (some .int) ∈ mm_tbl := wq_5 _ (List.mem_of_getElem? (i := 231) (by decide +kernel)) rfl
theorem wd_5_232 : Cond.methodLink RX10 (299) yX10_isSo ∈ mm_tbl := wq_5 _ (List.mem_of_getElem? (i := 232) (by decide +kernel)) rfl
theorem wd_5_234 : Cond.instanceMethod yX10_isSo ∈ mm_tbl := wq_5 _ (List.mem_of_getElem? (i := 234) (by decide +kernel)) rfl
theorem wd_5_235 : Cond.code yX10_isSo cX10_isSo (6) (some .boolean) ∈ mm_tbl := wq_5 _ (List.mem_of_getElem? (i := 235) (by decide +kernel)) rfl
theorem wd_5_236 : Cond.methodLink RX10 (296) yX10_field ∈ mm_tbl := wq_5 _ (List.mem_of_getElem? (i := 236) (by decide +kernel)) rfl
theorem wd_5_238 : Cond.instanceMethod yX10_field ∈ mm_tbl := wq_5 _ (List.mem_of_getElem? (i := 238) (by decide +kernel)) rfl
theorem wd_5_239 : Cond.code yX10_field cX10_field (8) (some .int) ∈ mm_tbl := wq_5 _ (List.mem_of_getElem? (i := 239) (by decide +kernel)) rfl
theorem wd_6_0 : Cond.methodLink RL (98) yX10_may ∈ mm_tbl := wq_6 _ (List.mem_of_getElem? (i := 0) (by decide +kernel)) rfl
theorem wd_6_1 : Cond.instanceMethod yX10_may ∈ mm_tbl := wq_6 _ (List.mem_of_getElem? (i := 1) (by decide +kernel)) rfl
theorem wd_6_2 : Cond.selects RX10 yX10_may yX10_may ∈ mm_tbl := wq_6 _ (List.mem_of_getElem? (i := 2) (by decide +kernel)) rfl
theorem wd_6_3 : Cond.code yX10_may cX10_may (3) (some .int) ∈ mm_tbl := wq_6 _ (List.mem_of_getElem? (i := 3) (by decide +kernel)) rfl
theorem wd_6_4 : Cond.methodLink RX10 (305) yX10_ashore ∈ mm_tbl := wq_6 _ (List.mem_of_getElem? (i := 4) (by decide +kernel)) rfl
theorem wd_6_6 : Cond.instanceMethod yX10_ashore ∈ mm_tbl := wq_6 _ (List.mem_of_getElem? (i := 6) (by decide +kernel)) rfl
theorem wd_6_7 : Cond.code yX10_ashore cX10_ashore (6) (some .int) ∈ mm_tbl := wq_6 _ (List.mem_of_getElem? (i := 7) (by decide +kernel)) rfl
theorem wd_6_8 : Cond.methodLink RL (102) yX10_day ∈ mm_tbl := wq_6 _ (List.mem_of_getElem? (i := 8) (by decide +kernel)) rfl
theorem wd_6_9 : Cond.instanceMethod yX10_day ∈ mm_tbl := wq_6 _ (List.mem_of_getElem? (i := 9) (by decide +kernel)) rfl
theorem wd_6_10 : Cond.selects RX10 yX10_day yX10_day ∈ mm_tbl := wq_6 _ (List.mem_of_getElem? (i := 10) (by decide +kernel)) rfl
theorem wd_6_11 : Cond.code yX10_day cX10_day (3) (some .int) ∈ mm_tbl := wq_6 _ (List.mem_of_getElem? (i := 11) (by decide +kernel)) rfl
theorem wd_6_12 : Cond.methodLink RL (106) yX10_out ∈ mm_tbl := wq_6 _ (List.mem_of_getElem? (i := 12) (by decide +kernel)) rfl
theorem wd_6_13 : Cond.instanceMethod yX10_out ∈ mm_tbl := wq_6 _ (List.mem_of_getElem? (i := 13) (by decide +kernel)) rfl
theorem wd_6_14 : Cond.selects RX10 yX10_out yX10_out ∈ mm_tbl := wq_6 _ (List.mem_of_getElem? (i := 14) (by decide +kernel)) rfl
theorem wd_6_15 : Cond.code yX10_out cX10_out (3) (some .int) ∈ mm_tbl := wq_6 _ (List.mem_of_getElem? (i := 15) (by decide +kernel)) rfl
theorem wd_6_16 : Cond.methodLink RX10 (311) yX10_whoIn ∈ mm_tbl := wq_6 _ (List.mem_of_getElem? (i := 16) (by decide +kernel)) rfl
theorem wd_6_18 : Cond.instanceMethod yX10_whoIn ∈ mm_tbl := wq_6 _ (List.mem_of_getElem? (i := 18) (by decide +kernel)) rfl
theorem wd_6_19 : Cond.code yX10_whoIn cX10_whoIn (4) (some .int) ∈ mm_tbl := wq_6 _ (List.mem_of_getElem? (i := 19) (by decide +kernel)) rfl
theorem wd_6_20 : Cond.methodLink RL (110) yX10_look ∈ mm_tbl := wq_6 _ (List.mem_of_getElem? (i := 20) (by decide +kernel)) rfl
theorem wd_6_21 : Cond.instanceMethod yX10_look ∈ mm_tbl := wq_6 _ (List.mem_of_getElem? (i := 21) (by decide +kernel)) rfl
theorem wd_6_22 : Cond.selects RX10 yX10_look yX10_look ∈ mm_tbl := wq_6 _ (List.mem_of_getElem? (i := 22) (by decide +kernel)) rfl
theorem wd_6_23 : Cond.code yX10_look cX10_look (3) (some .int) ∈ mm_tbl := wq_6 _ (List.mem_of_getElem? (i := 23) (by decide +kernel)) rfl
theorem wd_6_24 : Cond.methodLink RL (114) yX10_broke ∈ mm_tbl := wq_6 _ (List.mem_of_getElem? (i := 24) (by decide +kernel)) rfl
theorem wd_6_25 : Cond.instanceMethod yX10_broke ∈ mm_tbl := wq_6 _ (List.mem_of_getElem? (i := 25) (by decide +kernel)) rfl
theorem wd_6_26 : Cond.selects RX10 yX10_broke yX10_broke ∈ mm_tbl := wq_6 _ (List.mem_of_getElem? (i := 26) (by decide +kernel)) rfl
theorem wd_6_27 : Cond.code yX10_broke cX10_broke (8) (some .int) ∈ mm_tbl := wq_6 _ (List.mem_of_getElem? (i := 27) (by decide +kernel)) rfl
theorem wd_6_28 : Cond.constantLong RX10 (317) (2) ∈ mm_tbl := wq_6 _ (List.mem_of_getElem? (i := 28) (by decide +kernel)) rfl
theorem wd_6_29 : Cond.methodLink RL (118) yX10_outing ∈ mm_tbl := wq_6 _ (List.mem_of_getElem? (i := 29) (by decide +kernel)) rfl
theorem wd_6_30 : Cond.instanceMethod yX10_outing ∈ mm_tbl := wq_6 _ (List.mem_of_getElem? (i := 30) (by decide +kernel)) rfl
theorem wd_6_31 : Cond.selects RX10 yX10_outing yX10_outing ∈ mm_tbl := wq_6 _ (List.mem_of_getElem? (i := 31) (by decide +kernel)) rfl
theorem wd_6_32 : Cond.code yX10_outing cX10_outing (3) (some .int) ∈ mm_tbl := wq_6 _ (List.mem_of_getElem? (i := 32) (by decide +kernel)) rfl
theorem wd_6_33 : Cond.methodLink RL (122) yX10_heat ∈ mm_tbl := wq_6 _ (List.mem_of_getElem? (i := 33) (by decide +kernel)) rfl
theorem wd_6_34 : Cond.instanceMethod yX10_heat ∈ mm_tbl := wq_6 _ (List.mem_of_getElem? (i := 34) (by decide +kernel)) rfl
theorem wd_6_35 : Cond.selects RX10 yX10_heat yX10_heat ∈ mm_tbl := wq_6 _ (List.mem_of_getElem? (i := 35) (by decide +kernel)) rfl
theorem wd_6_36 : Cond.code yX10_heat cX10_heat (3) (some .int) ∈ mm_tbl := wq_6 _ (List.mem_of_getElem? (i := 36) (by decide +kernel)) rfl
theorem wd_6_37 : Cond.constantLong RX10 (319) (1439) ∈ mm_tbl := wq_6 _ (List.mem_of_getElem? (i := 37) (by decide +kernel)) rfl
theorem wd_6_38 : Cond.methodLink RL (126) yX10_near ∈ mm_tbl := wq_6 _ (List.mem_of_getElem? (i := 38) (by decide +kernel)) rfl
theorem wd_6_39 : Cond.instanceMethod yX10_near ∈ mm_tbl := wq_6 _ (List.mem_of_getElem? (i := 39) (by decide +kernel)) rfl
theorem wd_6_40 : Cond.selects RX10 yX10_near yX10_near ∈ mm_tbl := wq_6 _ (List.mem_of_getElem? (i := 40) (by decide +kernel)) rfl
theorem wd_6_41 : Cond.code yX10_near cX10_near (3) (some .int) ∈ mm_tbl := wq_6 _ (List.mem_of_getElem? (i := 41) (by decide +kernel)) rfl
theorem wd_6_42 : Cond.methodLink RL (130) yX10_clashes ∈ mm_tbl := wq_6 _ (List.mem_of_getElem? (i := 42) (by decide +kernel)) rfl
theorem wd_6_43 : Cond.instanceMethod yX10_clashes ∈ mm_tbl := wq_6 _ (List.mem_of_getElem? (i := 43) (by decide +kernel)) rfl
theorem wd_6_44 : Cond.selects RX10 yX10_clashes yX10_clashes ∈ mm_tbl := wq_6 _ (List.mem_of_getElem? (i := 44) (by decide +kernel)) rfl
theorem wd_6_45 : Cond.code yX10_clashes cX10_clashes (4) (some .int) ∈ mm_tbl := wq_6 _ (List.mem_of_getElem? (i := 45) (by decide +kernel)) rfl
theorem wd_6_46 : Cond.methodLink RX10 (324) yX10_clash ∈ mm_tbl := wq_6 _ (List.mem_of_getElem? (i := 46) (by decide +kernel)) rfl
theorem wd_6_48 : Cond.instanceMethod yX10_clash ∈ mm_tbl := wq_6 _ (List.mem_of_getElem? (i := 48) (by decide +kernel)) rfl
theorem wd_6_49 : Cond.code yX10_clash cX10_clash (5) (some .boolean) ∈ mm_tbl := wq_6 _ (List.mem_of_getElem? (i := 49) (by decide +kernel)) rfl
theorem wd_6_50 : Cond.methodLink RL (134) yX10_shift ∈ mm_tbl := wq_6 _ (List.mem_of_getElem? (i := 50) (by decide +kernel)) rfl
theorem wd_6_51 : Cond.instanceMethod yX10_shift ∈ mm_tbl := wq_6 _ (List.mem_of_getElem? (i := 51) (by decide +kernel)) rfl
theorem wd_6_52 : Cond.selects RX10 yX10_shift yX10_shift ∈ mm_tbl := wq_6 _ (List.mem_of_getElem? (i := 52) (by decide +kernel)) rfl
theorem wd_6_53 : Cond.code yX10_shift cX10_shift (5) (some .int) ∈ mm_tbl := wq_6 _ (List.mem_of_getElem? (i := 53) (by decide +kernel)) rfl
theorem wd_6_54 : Cond.methodLink RL (138) yX10_trailer ∈ mm_tbl := wq_6 _ (List.mem_of_getElem? (i := 54) (by decide +kernel)) rfl
theorem wd_6_55 : Cond.instanceMethod yX10_trailer ∈ mm_tbl := wq_6 _ (List.mem_of_getElem? (i := 55) (by decide +kernel)) rfl
theorem wd_6_56 : Cond.selects RX10 yX10_trailer yX10_trailer ∈ mm_tbl := wq_6 _ (List.mem_of_getElem? (i := 56) (by decide +kernel)) rfl
theorem wd_6_57 : Cond.code yX10_trailer cX10_trailer (8) (some .int) ∈ mm_tbl := wq_6 _ (List.mem_of_getElem? (i := 57) (by decide +kernel)) rfl
theorem wd_6_58 : Cond.methodLink RX10 (327) yX10_longest ∈ mm_tbl := wq_6 _ (List.mem_of_getElem? (i := 58) (by decide +kernel)) rfl
theorem wd_6_60 : Cond.instanceMethod yX10_longest ∈ mm_tbl := wq_6 _ (List.mem_of_getElem? (i := 60) (by decide +kernel)) rfl
theorem wd_6_61 : Cond.code yX10_longest cX10_longest (5) (some .int) ∈ mm_tbl := wq_6 _ (List.mem_of_getElem? (i := 61) (by decide +kernel)) rfl
theorem wd_6_62 : Cond.methodLink RL (142) yX10_rack ∈ mm_tbl := wq_6 _ (List.mem_of_getElem? (i := 62) (by decide +kernel)) rfl
theorem wd_6_63 : Cond.instanceMethod yX10_rack ∈ mm_tbl := wq_6 _ (List.mem_of_getElem? (i := 63) (by decide +kernel)) rfl
theorem wd_6_64 : Cond.selects RX10 yX10_rack yX10_rack ∈ mm_tbl := wq_6 _ (List.mem_of_getElem? (i := 64) (by decide +kernel)) rfl
theorem wd_6_65 : Cond.code yX10_rack cX10_rack (2) (some .int) ∈ mm_tbl := wq_6 _ (List.mem_of_getElem? (i := 65) (by decide +kernel)) rfl
theorem wd_6_66 : Cond.methodLink RL (146) yX10_count ∈ mm_tbl := wq_6 _ (List.mem_of_getElem? (i := 66) (by decide +kernel)) rfl
theorem wd_6_67 : Cond.instanceMethod yX10_count ∈ mm_tbl := wq_6 _ (List.mem_of_getElem? (i := 67) (by decide +kernel)) rfl
theorem wd_6_68 : Cond.selects RX10 yX10_count yX10_count ∈ mm_tbl := wq_6 _ (List.mem_of_getElem? (i := 68) (by decide +kernel)) rfl
theorem wd_6_69 : Cond.code yX10_count cX10_count (2) (some .int) ∈ mm_tbl := wq_6 _ (List.mem_of_getElem? (i := 69) (by decide +kernel)) rfl
theorem wd_6_70 : Cond.constantLong RL (80) (4294967295) ∈ mm_tbl := wq_6 _ (List.mem_of_getElem? (i := 70) (by decide +kernel)) rfl
theorem wd_6_71 : Cond.fieldLink RJ0 (9) RJ0 "value" "[B" ∈ mm_tbl := wq_6 _ (List.mem_of_getElem? (i := 71) (by decide +kernel)) rfl
theorem wd_6_72 : Cond.fieldLink RJ0 (15) RJ0 "coder" "B" ∈ mm_tbl := wq_6 _ (List.mem_of_getElem? (i := 72) (by decide +kernel)) rfl
theorem wd_p_0 : Cond.selects RX4 yX4_numberRows yX4_numberRows ∈ mm_tbl := wq_p _ (List.mem_of_getElem? (i := 0) (by decide +kernel)) rfl
theorem wd_p_1 : Cond.selects RX4 yX4_fillCells yX4_fillCells ∈ mm_tbl := wq_p _ (List.mem_of_getElem? (i := 1) (by decide +kernel)) rfl
theorem wd_p_2 : Cond.selects RX4 yX4_addToRow yX4_addToRow ∈ mm_tbl := wq_p _ (List.mem_of_getElem? (i := 2) (by decide +kernel)) rfl
theorem wd_p_3 : Cond.selects RX4 yX4_eliminate yX4_eliminate ∈ mm_tbl := wq_p _ (List.mem_of_getElem? (i := 3) (by decide +kernel)) rfl
theorem wd_p_4 : Cond.selects RX4 yX4_clearCell yX4_clearCell ∈ mm_tbl := wq_p _ (List.mem_of_getElem? (i := 4) (by decide +kernel)) rfl
theorem wd_p_5 : Cond.selects RX4 yX4_leadOver yX4_leadOver ∈ mm_tbl := wq_p _ (List.mem_of_getElem? (i := 5) (by decide +kernel)) rfl
theorem wd_p_6 : Cond.selects RX1 yX1_fillRow yX1_fillRow ∈ mm_tbl := wq_p _ (List.mem_of_getElem? (i := 6) (by decide +kernel)) rfl
theorem wd_p_7 : Cond.selects RX1 yX1_setPrices yX1_setPrices ∈ mm_tbl := wq_p _ (List.mem_of_getElem? (i := 7) (by decide +kernel)) rfl
theorem wd_p_8 : Cond.selects RX1 yX1_choose yX1_choose ∈ mm_tbl := wq_p _ (List.mem_of_getElem? (i := 8) (by decide +kernel)) rfl
theorem wd_p_9 : Cond.selects RX8 yX8_countSame yX8_countSame ∈ mm_tbl := wq_p _ (List.mem_of_getElem? (i := 9) (by decide +kernel)) rfl
theorem wd_p_10 : Cond.selects RX7 yX7_readTests yX7_readTests ∈ mm_tbl := wq_p _ (List.mem_of_getElem? (i := 10) (by decide +kernel)) rfl
theorem wd_p_11 : Cond.selects RX7 yX7_readTest yX7_readTest ∈ mm_tbl := wq_p _ (List.mem_of_getElem? (i := 11) (by decide +kernel)) rfl
theorem wd_p_12 : Cond.selects RX9 yX9_askedRule yX9_askedRule ∈ mm_tbl := wq_p _ (List.mem_of_getElem? (i := 12) (by decide +kernel)) rfl
theorem wd_p_13 : Cond.selects RX7 yX7_testsHold yX7_testsHold ∈ mm_tbl := wq_p _ (List.mem_of_getElem? (i := 13) (by decide +kernel)) rfl
theorem wd_p_14 : Cond.selects RX7 yX7_isSo yX7_isSo ∈ mm_tbl := wq_p _ (List.mem_of_getElem? (i := 14) (by decide +kernel)) rfl
theorem wd_p_15 : Cond.selects RX9 yX9_whyAshore yX9_whyAshore ∈ mm_tbl := wq_p _ (List.mem_of_getElem? (i := 15) (by decide +kernel)) rfl
theorem wd_p_16 : Cond.selects RX3 yX3_latestLook yX3_latestLook ∈ mm_tbl := wq_p _ (List.mem_of_getElem? (i := 16) (by decide +kernel)) rfl
theorem wd_p_17 : Cond.selects RX3 yX3_firstBehind yX3_firstBehind ∈ mm_tbl := wq_p _ (List.mem_of_getElem? (i := 17) (by decide +kernel)) rfl
theorem wd_p_18 : Cond.selects RX2 yX2_wouldClash yX2_wouldClash ∈ mm_tbl := wq_p _ (List.mem_of_getElem? (i := 18) (by decide +kernel)) rfl
theorem wd_p_19 : Cond.selects RX2 yX2_firstClash yX2_firstClash ∈ mm_tbl := wq_p _ (List.mem_of_getElem? (i := 19) (by decide +kernel)) rfl
theorem wd_p_20 : Cond.selects RX5 yX5_longestRow yX5_longestRow ∈ mm_tbl := wq_p _ (List.mem_of_getElem? (i := 20) (by decide +kernel)) rfl
theorem wd_p_21 : Cond.selects RX10 yX10_isOar yX10_isOar ∈ mm_tbl := wq_p _ (List.mem_of_getElem? (i := 21) (by decide +kernel)) rfl
theorem wd_p_22 : Cond.selects RX10 yX10_isSeat yX10_isSeat ∈ mm_tbl := wq_p _ (List.mem_of_getElem? (i := 22) (by decide +kernel)) rfl
theorem wd_p_23 : Cond.selects RX10 yX10_isBoat yX10_isBoat ∈ mm_tbl := wq_p _ (List.mem_of_getElem? (i := 23) (by decide +kernel)) rfl
theorem wd_p_24 : Cond.selects RX10 yX10_seatsOf yX10_seatsOf ∈ mm_tbl := wq_p _ (List.mem_of_getElem? (i := 24) (by decide +kernel)) rfl
theorem wd_p_25 : Cond.selects RX10 yX10_hasCox yX10_hasCox ∈ mm_tbl := wq_p _ (List.mem_of_getElem? (i := 25) (by decide +kernel)) rfl
theorem wd_p_26 : Cond.selects RX10 yX10_sitter yX10_sitter ∈ mm_tbl := wq_p _ (List.mem_of_getElem? (i := 26) (by decide +kernel)) rfl
theorem wd_p_27 : Cond.selects RX10 yX10_findGroups yX10_findGroups ∈ mm_tbl := wq_p _ (List.mem_of_getElem? (i := 27) (by decide +kernel)) rfl
theorem wd_p_28 : Cond.selects RX10 yX10_solves yX10_solves ∈ mm_tbl := wq_p _ (List.mem_of_getElem? (i := 28) (by decide +kernel)) rfl
theorem wd_p_29 : Cond.selects RX10 yX10_tells yX10_tells ∈ mm_tbl := wq_p _ (List.mem_of_getElem? (i := 29) (by decide +kernel)) rfl
theorem wd_p_30 : Cond.selects RX10 yX10_determinant yX10_determinant ∈ mm_tbl := wq_p _ (List.mem_of_getElem? (i := 30) (by decide +kernel)) rfl
theorem wd_p_31 : Cond.selects RX10 yX10_fillCost yX10_fillCost ∈ mm_tbl := wq_p _ (List.mem_of_getElem? (i := 31) (by decide +kernel)) rfl
theorem wd_p_32 : Cond.selects RX10 yX10_canSit yX10_canSit ∈ mm_tbl := wq_p _ (List.mem_of_getElem? (i := 32) (by decide +kernel)) rfl
theorem wd_p_33 : Cond.selects RX10 yX10_mayBeOut yX10_mayBeOut ∈ mm_tbl := wq_p _ (List.mem_of_getElem? (i := 33) (by decide +kernel)) rfl
theorem wd_p_34 : Cond.selects RX10 yX10_costOf yX10_costOf ∈ mm_tbl := wq_p _ (List.mem_of_getElem? (i := 34) (by decide +kernel)) rfl
theorem wd_p_35 : Cond.selects RX10 yX10_dislikes yX10_dislikes ∈ mm_tbl := wq_p _ (List.mem_of_getElem? (i := 35) (by decide +kernel)) rfl
theorem wd_p_36 : Cond.selects RX10 yX10_parses yX10_parses ∈ mm_tbl := wq_p _ (List.mem_of_getElem? (i := 36) (by decide +kernel)) rfl
theorem wd_p_37 : Cond.selects RX10 yX10_word yX10_word ∈ mm_tbl := wq_p _ (List.mem_of_getElem? (i := 37) (by decide +kernel)) rfl
theorem wd_p_38 : Cond.selects RX10 yX10_fits yX10_fits ∈ mm_tbl := wq_p _ (List.mem_of_getElem? (i := 38) (by decide +kernel)) rfl
theorem wd_p_39 : Cond.selects RX10 yX10_sign yX10_sign ∈ mm_tbl := wq_p _ (List.mem_of_getElem? (i := 39) (by decide +kernel)) rfl
theorem wd_p_40 : Cond.selects RX10 yX10_takes yX10_takes ∈ mm_tbl := wq_p _ (List.mem_of_getElem? (i := 40) (by decide +kernel)) rfl
theorem wd_p_41 : Cond.selects RX10 yX10_test yX10_test ∈ mm_tbl := wq_p _ (List.mem_of_getElem? (i := 41) (by decide +kernel)) rfl
theorem wd_p_42 : Cond.selects RX10 yX10_asked yX10_asked ∈ mm_tbl := wq_p _ (List.mem_of_getElem? (i := 42) (by decide +kernel)) rfl
theorem wd_p_43 : Cond.selects RX10 yX10_isSo yX10_isSo ∈ mm_tbl := wq_p _ (List.mem_of_getElem? (i := 43) (by decide +kernel)) rfl
theorem wd_p_44 : Cond.selects RX10 yX10_field yX10_field ∈ mm_tbl := wq_p _ (List.mem_of_getElem? (i := 44) (by decide +kernel)) rfl
theorem wd_p_45 : Cond.selects RX10 yX10_ashore yX10_ashore ∈ mm_tbl := wq_p _ (List.mem_of_getElem? (i := 45) (by decide +kernel)) rfl
theorem wd_p_46 : Cond.selects RX10 yX10_whoIn yX10_whoIn ∈ mm_tbl := wq_p _ (List.mem_of_getElem? (i := 46) (by decide +kernel)) rfl
theorem wd_p_47 : Cond.selects RX10 yX10_clash yX10_clash ∈ mm_tbl := wq_p _ (List.mem_of_getElem? (i := 47) (by decide +kernel)) rfl
theorem wd_p_48 : Cond.selects RX10 yX10_longest yX10_longest ∈ mm_tbl := wq_p _ (List.mem_of_getElem? (i := 48) (by decide +kernel)) rfl
end
section
/-! THE ABSTRACT MACHINE. Values are whole numbers; a cell is a row of whole numbers; a reference is the number of a cell.
Cells below 1000 are the program's own; from 1000 on stand cells that nobody writes (static arrays, texts, the script). -/
abbrev mm_V : Type := Int ⊕ (Int ⊕ Option Nat)
abbrev v_i (z : Int) : mm_V := Sum.inl z
abbrev v_l (z : Int) : mm_V := Sum.inr (Sum.inl z)
abbrev v_r (a : Nat) : mm_V := Sum.inr (Sum.inr (some a))
abbrev v_n : mm_V := Sum.inr (Sum.inr none)
def mm_cv (ad : Nat → Nat) : mm_V → Value
  | .inl z => .int (Int32.ofInt z)
  | .inr (.inl z) => .long (Int64.ofInt z)
  | .inr (.inr none) => .null
  | .inr (.inr (some a)) => .ref (ad a)
abbrev mm_S : Type := (FieldType × Nat) ⊕ (Nat × List mm_V)
abbrev mm_M : Type := Nat → Nat → Int
def mm_fv (ad : Nat → Nat) (f : Nat → Int) (k : Nat) : mm_V → Value
  | .inl _ => .int (Int32.ofInt (f k))
  | .inr (.inl _) => .long (Int64.ofInt (f k))
  | .inr (.inr none) => .null
  | .inr (.inr (some a)) => .ref (ad a)
def mm_ar (n : Nat) (t : FieldType) (f : Nat → Int) : vp_A := match t with
  | .long => (n, .inr (.inl (fun j => Int64.ofInt (f j))))
  | _ => (n, .inl (fun j => Int32.ofInt (f j)))
def mm_ce (ty : FieldType → ClassId) (ad : Nat → Nat) (f : Nat → Int) : mm_S → va_E
  | .inl q => .inl (ty q.1, mm_ar q.2 q.1 f)
  | .inr q => .inr (q.1, q.2.mapIdx (mm_fv ad f))
def mm_ws (ty : FieldType → ClassId) (ad : Nat → Nat) (La : List mm_S) (M : mm_M) : va_W := La.mapIdx (fun i s => (ad i, mm_ce ty ad (M i) s))
def mm_up (M : mm_M) (i k : Nat) (v : Int) : mm_M := fun i' k' => if i' = i ∧ k' = k then v else M i' k'
theorem mm_up_ne {M : mm_M} {i k : Nat} {v : Int} {j : Nat} (h : ¬ j = i) : mm_up M i k v j = M j := by
  funext q
  simp [mm_up, h]
theorem mm_up_eq {M : mm_M} {i k : Nat} {v : Int} : mm_up M i k v i k = v := by simp [mm_up]
theorem mm_up_k {M : mm_M} {i k j : Nat} {v : Int} (h : ¬ j = k) : mm_up M i k v i j = M i j := by simp [mm_up, h]
theorem mm_ws_at {ty : FieldType → ClassId} {ad : Nat → Nat} {La : List mm_S} {M : mm_M} {i : Nat} {q : mm_S} (h : La[i]? = some q) : (mm_ws ty ad La M)[i]? = some (ad i, mm_ce ty ad (M i) q) := by
  simp [mm_ws, List.getElem?_mapIdx, h]
theorem mm_ws_up {ty : FieldType → ClassId} {ad : Nat → Nat} {La : List mm_S} {M : mm_M} {i k : Nat} {v : Int} {q : mm_S} (h : La[i]? = some q) :
    (mm_ws ty ad La M).set i (ad i, mm_ce ty ad (mm_up M i k v i) q) = mm_ws ty ad La (mm_up M i k v) := by
  have hi : i < La.length := (List.getElem?_eq_some_iff.mp h).1
  apply List.ext_getElem?
  intro j
  by_cases hj : j = i
  · subst hj
    rw [List.getElem?_set_self (by simpa [mm_ws] using hi), mm_ws_at h]
  · rw [List.getElem?_set_ne (Ne.symm hj)]
    simp only [mm_ws, List.getElem?_mapIdx, mm_up_ne hj]
/-- the same with a cell's own row: what the heap has after a store -/
theorem mm_ws_set {ty : FieldType → ClassId} {ad : Nat → Nat} {La : List mm_S} {M : mm_M} {i k : Nat} {v : Int} {q : mm_S} {x : va_E} (h : La[i]? = some q) (hx : x = mm_ce ty ad (mm_up M i k v i) q) :
    (mm_ws ty ad La M).set i (ad i, x) = mm_ws ty ad La (mm_up M i k v) := by rw [hx]; exact mm_ws_up h
def mm_tys (ty : FieldType → ClassId) : List (ClassId × FieldType) := [(ty .int, .int), (ty .long, .long), (ty .boolean, .boolean)]
/-! what nobody writes -/
def mm_seats : Nat → Int := fun j => ([2, 4, 8, 1, 4] : List Int).getD j 0
def mm_disl : Nat → Int := fun j => ([0, 2, 3, 2, 0, 3, 0, 0, 1, 2, 2, 0, 0, 0, 1] : List Int).getD j 0
def mm_str : List (Nat × String × List Int) := [
  (46, "let |bar ", [108, 101, 116, 32, 124, 98, 97, 114, 32]),
  (52, "pair|four|eight|single|quad|*", [112, 97, 105, 114, 124, 102, 111, 117, 114, 124, 101, 105, 103, 104, 116, 124, 115, 105, 110, 103, 108, 101, 124, 113, 117, 97, 100, 124, 42]),
  (58, " if ", [32, 105, 102, 32]),
  (72, "stream|wind|hour|month|size|young|ice", [115, 116, 114, 101, 97, 109, 124, 119, 105, 110, 100, 124, 104, 111, 117, 114, 124, 109, 111, 110, 116, 104, 124, 115, 105, 122, 101, 124, 121, 111, 117, 110, 103, 124, 105, 99, 101]),
  (74, "=|<|>", [61, 124, 60, 124, 62])]
def mm_slen : List Nat := mm_str.map (fun q => q.2.2.length)
def mm_sbyt : List (List Int32) := mm_str.map (fun q => q.2.2.map Int32.ofInt)
def mm_nest : List (String × Nat × MethodName × String) := [
  (RX9, 11, yX0_init, RX9), (RX9, 20, yX4_init, RX9), (RX9, 27, yX1_init, RX9), (RX9, 34, yX6_init, RX9), (RX9, 41, yX8_init, RX9), (RX9, 48, yX7_init, RX9), (RX9, 55, yX3_init, RX9), (RX9, 62, yX2_init, RX9),
  (RX0, 54, yX9_within, RX9), (RX4, 58, yX9_has, RX9), (RX1, 49, yX9_has, RX9), (RX8, 47, yX9_within, RX9), (RX5, 47, yX9_has, RX9)]
def mm_RO (X : Nat × (Nat → Int)) (ad : Nat → Nat) (A : Nat → Prop) (U : State) (H : Heap) : Prop :=
  (va_T .int (ad 1000) 5 (fun j => .int (Int32.ofInt (mm_seats j))) A U H ∧ va_Z RX0 "SEATS" "[I" (.ref (ad 1000)) A U H) ∧
  (va_T .int (ad 1001) 15 (fun j => .int (Int32.ofInt (mm_disl j))) A U H ∧ va_Z RX0 "DISLIKES" "[I" (.ref (ad 1001)) A U H) ∧
  va_Z RJ0 "COMPACT_STRINGS" "Z" (.int 1) A U H ∧
  vk_S 5 mm_slen mm_sbyt (fun i => ad (1002 + i)) (fun i => ad (1007 + i)) A U H ∧
  (∀ (i : Nat) (q : Nat × String × List Int), mm_str[i]? = some q → vk_R RX7 q.1 q.2.1 (ad (1002 + i)) U) ∧
  va_T .int (ad 1012) X.1 (fun j => .int (Int32.ofInt (X.2 j))) A U H ∧
  (∀ q ∈ mm_nest, va_Nw (.methodLinkNest q.1 q.2.1 q.2.2.1 q.2.2.2) U)
theorem mm_RO.move {X : Nat × (Nat → Int)} {ad : Nat → Nat} {A B : Nat → Prop} {s U : State} {H : Heap} (h : mm_RO X ad A s s.heap) (hW : s.WarmedH U.vm) (hk : ∀ a : Nat, a < s.heap.size → ¬ A a → H[a]? = s.heap[a]?) (hU : U.heap = H) (hAB : ∀ q, B q → A q) : mm_RO X ad B U U.heap := by
  obtain ⟨⟨h1, h2⟩, ⟨h3, h4⟩, h5, h6, h7, h8, h9⟩ := h
  rw [hU]
  exact ⟨⟨((h1.kept hk).moved hW.alike).narrow hAB, ((h2.kept hk).moved hW.alike).narrow hAB⟩, ⟨((h3.kept hk).moved hW.alike).narrow hAB, ((h4.kept hk).moved hW.alike).narrow hAB⟩, ((h5.kept hk).moved hW.alike).narrow hAB, ((h6.kept hk).moved hW.alike).narrow hAB, fun i q hq => (h7 i q hq).warm hW, ((h8.kept hk).moved hW.alike).narrow hAB, fun q hq => (h9 q hq).warmM hW⟩
theorem mm_RO.ad {X : Nat × (Nat → Int)} {ad ad' : Nat → Nat} {A : Nat → Prop} {s : State} {H : Heap} (h : mm_RO X ad A s H) (hq : ∀ i, 1000 ≤ i → ad' i = ad i) : mm_RO X ad' A s H := by
  have e1 : (fun i => ad' (1002 + i)) = (fun i => ad (1002 + i)) := funext fun i => hq _ (by omega)
  have e2 : (fun i => ad' (1007 + i)) = (fun i => ad (1007 + i)) := funext fun i => hq _ (by omega)
  obtain ⟨h1, h3, h5, h6, h7, h8, h9⟩ := h
  refine ⟨?_, ?_, h5, ?_, fun i q hi => ?_, ?_, h9⟩
  · rw [hq 1000 (by omega)]; exact h1
  · rw [hq 1001 (by omega)]; exact h3
  · rw [e1, e2]; exact h6
  · rw [hq (1002 + i) (by omega)]; exact h7 i q hi
  · rw [hq 1012 (by omega)]; exact h8
/-! the judgement -/
abbrev mm_Po : Type := Option mm_V → List mm_S → mm_M → Prop
def mm_At (X : Nat × (Nat → Int)) (d mc ms : Nat) (mi : mm_Mi) (p : Program) (R : Room) (s : State) (m : MethodId) (args : Array Value) (meth : Method) (c : Code) (A : Nat → Prop) (ad : Nat → Nat) (ty : FieldType → ClassId) (D : va_G) : Prop :=
  p.tables.exec = Jvm.exec ∧ c.code = mi.2.1 ∧ c.maxLocals = mi.2.2.1 ∧ s.vm.findClass mi.1.cls = some m.cls ∧ (∀ w ∈ mm_tbl, w.before args s = true) ∧ (d + 1 ≤ R.frames ∧ 60 * (d + 1) ≤ R.locals ∧ mc ≤ R.cells ∧ ms ≤ R.slots) ∧ mm_RO X ad A s s.heap ∧ va_K D vwCl (mm_tys ty) s ∧ (∀ q, s.heap.size ≤ q → A q) ∧ (mi.1.name = "<init>" → meth.name = "<init>")
def mm_Wd (A : Nat → Prop) (ad : Nat → Nat) (ty : FieldType → ClassId) (D : va_G) (La : List mm_S) (M : mm_M) (H0 H : Heap) (locs : List Loc) : Prop :=
  va_P D vwCl (mm_ws ty ad La M) H ∧ va_D A (mm_ws ty ad La M) ∧ va_S A H0 H locs
def mm_rt (mi : mm_Mi) (pc : Nat) (r : Option mm_V) : Prop := match r with
  | none => decode mi.2.1 pc = .ok (.return_, 1) ∧ mi.2.2.2 = none
  | some (.inl z) => decode mi.2.1 pc = .ok (.ireturn, 1) ∧ ∃ t, mi.2.2.2 = some t ∧ narrow t (.int (Int32.ofInt z)) = .int (Int32.ofInt z)
  | some (.inr (.inl _)) => decode mi.2.1 pc = .ok (.lreturn, 1) ∧ mi.2.2.2 = some .long
  | some (.inr (.inr _)) => False
def mm_lo (ad : Nat → Nat) (L : List (Nat × mm_V)) : List (Nat × Value) := L.map (fun q => (q.1, mm_cv ad q.2))
def mm_G (X : Nat × (Nat → Int)) (d mc ms : Nat) (mi : mm_Mi) (Po : mm_Po) (pc : Nat) (L : List (Nat × mm_V)) (st : List mm_V) (La : List mm_S) (M : mm_M) (ck cs : Nat) : Prop :=
  ∀ (p : Program) (l : Launch) (e : Env) (R : Room) (s : State) (m : MethodId) (args : Array Value) (below : List Frame) (meth : Method) (c : Code) (A : Nat → Prop) (ad : Nat → Nat) (ty : FieldType → ClassId) (D : va_G) (H : Heap) (locs : List Loc) (ls : Array Slot) (Q : State → Prop),
    mm_At X d mc ms mi p R s m args meth c A ad ty D → mm_Wd A ad ty D La M s.heap H locs → lv_has ls mi.2.2.1 (mm_lo ad L) →
    (∀ (r : Option mm_V) (La' : List mm_S) (M' : mm_M) (ad' : Nat → Nat) (H' : Heap) (locs' : List Loc) (ls' : Array Slot) (pc' ck' cs' : Nat), Po r La' M' → mm_rt mi pc' r → (∀ i, i < La.length ∨ 1000 ≤ i → ad' i = ad i) → mm_Wd A ad' ty D La' M' s.heap H' locs' → ck' ≤ mc → cs' ≤ ms → W p l e R s m args below meth c H' locs' ck' cs' Q (F0 m pc' ls' (r.toList.map (mm_cv ad')))) →
    ck ≤ mc → cs ≤ ms → W p l e R s m args below meth c H locs ck cs Q (F0 m pc ls (st.map (mm_cv ad)))
def mm_la : Nat → List mm_V → List (Nat × mm_V)
  | _, [] => []
  | i, .inl z :: vs => (i, .inl z) :: mm_la (i + 1) vs
  | i, .inr (.inl z) :: vs => (i, .inr (.inl z)) :: mm_la (i + 2) vs
  | i, .inr (.inr a) :: vs => (i, .inr (.inr a)) :: mm_la (i + 1) vs
theorem mm_la_eq (ad : Nat → Nat) : ∀ (vs : List mm_V) (i : Nat), mm_lo ad (mm_la i vs) = lv_args i (vs.map (mm_cv ad))
  | [], i => rfl
  | .inl z :: vs, i => congrArg (List.cons (i, Value.int (Int32.ofInt z))) (mm_la_eq ad vs (i + 1))
  | .inr (.inl z) :: vs, i => congrArg (List.cons (i, Value.long (Int64.ofInt z))) (mm_la_eq ad vs (i + 2))
  | .inr (.inr none) :: vs, i => congrArg (List.cons (i, Value.null)) (mm_la_eq ad vs (i + 1))
  | .inr (.inr (some a)) :: vs, i => congrArg (List.cons (i, Value.ref (ad a))) (mm_la_eq ad vs (i + 1))
/-- how many words values take -/
def mm_wd : List mm_V → Nat
  | [] => 0
  | .inl _ :: vs => 1 + mm_wd vs
  | .inr (.inl _) :: vs => 2 + mm_wd vs
  | .inr (.inr _) :: vs => 1 + mm_wd vs
theorem mm_wd_sl (ad : Nat → Nat) : ∀ vs : List mm_V, (lg_sl (vs.map (mm_cv ad))).length = mm_wd vs
  | [] => rfl
  | .inl z :: vs => by
    show (([Slot.val (Value.int (Int32.ofInt z))] : List Slot) ++ lg_sl (vs.map (mm_cv ad))).length = 1 + mm_wd vs
    rw [List.length_append, mm_wd_sl ad vs]; rfl
  | .inr (.inl z) :: vs => by
    show (([Slot.val (Value.long (Int64.ofInt z)), Slot.second] : List Slot) ++ lg_sl (vs.map (mm_cv ad))).length = 2 + mm_wd vs
    rw [List.length_append, mm_wd_sl ad vs]; rfl
  | .inr (.inr none) :: vs => by
    show (([Slot.val Value.null] : List Slot) ++ lg_sl (vs.map (mm_cv ad))).length = 1 + mm_wd vs
    rw [List.length_append, mm_wd_sl ad vs]; rfl
  | .inr (.inr (some a)) :: vs => by
    show (([Slot.val (Value.ref (ad a))] : List Slot) ++ lg_sl (vs.map (mm_cv ad))).length = 1 + mm_wd vs
    rw [List.length_append, mm_wd_sl ad vs]; rfl
theorem mm_wd_cat (ad : Nat → Nat) : ∀ vs : List mm_V, ((vs.map (mm_cv ad)).map fun v => v.category).sum = mm_wd vs
  | [] => rfl
  | .inl z :: vs => congrArg (fun n => 1 + n) (mm_wd_cat ad vs)
  | .inr (.inl z) :: vs => congrArg (fun n => 2 + n) (mm_wd_cat ad vs)
  | .inr (.inr none) :: vs => congrArg (fun n => 1 + n) (mm_wd_cat ad vs)
  | .inr (.inr (some a)) :: vs => congrArg (fun n => 1 + n) (mm_wd_cat ad vs)
/-- references among values lie below n, or among what nobody writes -/
def mm_vk (n : Nat) : List mm_V → Bool
  | [] => true
  | .inr (.inr (some a)) :: vs => (decide (a < n) || decide (1000 ≤ a)) && mm_vk n vs
  | _ :: vs => mm_vk n vs
theorem mm_vk_map {n : Nat} {ad ad' : Nat → Nat} (had : ∀ i, i < n ∨ 1000 ≤ i → ad' i = ad i) : ∀ (vs : List mm_V), mm_vk n vs = true → vs.map (mm_cv ad') = vs.map (mm_cv ad)
  | [], _ => rfl
  | .inl z :: vs, h => by
    have h2 := mm_vk_map had vs h
    simp [mm_cv, h2]
  | .inr (.inl z) :: vs, h => by
    have h2 := mm_vk_map had vs h
    simp [mm_cv, h2]
  | .inr (.inr none) :: vs, h => by
    have h2 := mm_vk_map had vs h
    simp [mm_cv, h2]
  | .inr (.inr (some a)) :: vs, h => by
    simp only [mm_vk, Bool.and_eq_true, Bool.or_eq_true, decide_eq_true_eq] at h
    have h2 := mm_vk_map had vs h.2
    simp [mm_cv, h2, had a h.1]
theorem mm_vk_lo {n : Nat} {ad ad' : Nat → Nat} (had : ∀ i, i < n ∨ 1000 ≤ i → ad' i = ad i) (L : List (Nat × mm_V)) (h : mm_vk n (L.map (fun q => q.2)) = true) : mm_lo ad' L = mm_lo ad L := by
  have h2 := mm_vk_map had _ h
  rw [List.map_map, List.map_map] at h2
  simp only [mm_lo]
  apply List.ext_getElem?
  intro j
  have h3 := congrArg (fun l => l[j]?) h2
  simp only [List.getElem?_map, Function.comp] at h3 ⊢
  cases hq : L[j]? with
  | none => rfl
  | some q =>
    rw [hq] at h3
    simp only [Option.map_some, Option.some.injEq] at h3 ⊢
    exact congrArg (fun v => (q.1, v)) h3
def mm_rm (d mc ms : Nat) : Room := { frames := d + 1, cells := mc, slots := ms, locals := 60 * (d + 1) }
def mm_E (X : Nat × (Nat → Int)) (d mc ms : Nat) (mi : mm_Mi) (As : List mm_V) (Po : mm_Po) (La : List mm_S) (M : mm_M) : Prop := mm_G X d mc ms mi Po 0 (mm_la 0 As) [] La M 0 0
def mm_Pc (X : Nat × (Nat → Int)) (As : List mm_V) (La : List mm_S) (M : mm_M) (ad : Nat → Nat) (ty : FieldType → ClassId) (D : va_G) (sz : Nat) : Array Value → State → Prop :=
  va_Pc (As.map (mm_cv ad)) (fun U => U.heap.size = sz ∧ mm_RO X ad (va_A (mm_ws ty ad La M) sz) U U.heap ∧ va_K D vwCl (mm_tys ty) U ∧ va_P D vwCl (mm_ws ty ad La M) U.heap ∧ va_D (fun _ => True) (mm_ws ty ad La M))
def mm_Qc (Po : mm_Po) (La : List mm_S) (M : mm_M) (ad : Nat → Nat) (ty : FieldType → ClassId) (D : va_G) (sz : Nat) : Array Value → State → Outcome → State → Prop := fun _ st o t =>
  ∃ (r : Option mm_V) (La' : List mm_S) (M' : mm_M) (ad' : Nat → Nat), o = .returned (r.map (mm_cv ad')) ∧ Po r La' M' ∧ (∀ i, i < La.length ∨ 1000 ≤ i → ad' i = ad i) ∧ va_P D vwCl (mm_ws ty ad' La' M') t.heap ∧ va_D (va_A (mm_ws ty ad La M) sz) (mm_ws ty ad' La' M') ∧ va_F (va_A (mm_ws ty ad La M) sz) st t
def mm_wz (mi : mm_Mi) : List Cond := Cond.code mi.1 mi.2.1 mi.2.2.1 mi.2.2.2 :: mm_tbl
set_option maxHeartbeats 4000000 in
theorem mm_met {X : Nat × (Nat → Int)} {d mc ms : Nat} {mi : mm_Mi} {As : List mm_V} {Po : mm_Po} {La : List mm_S} {M : mm_M} (hy : plainName mi.1.cls = true) (hn : mm_wd As ≤ mi.2.2.1) (hE : mm_E X d mc ms mi As Po La M) (l : Launch) (ad : Nat → Nat) (ty : FieldType → ClassId) (D : va_G) (sz : Nat) :
    Met l mi.1 (mm_wz mi) (mm_rm d mc ms) (mm_Pc X As La M ad ty D sz) (mm_Qc Po La M ad ty D sz) mc ms (va_A (mm_ws ty ad La M) sz) := by
  refine Met.ofW (cc := mi.2.1) (maxL := mi.2.2.1) (ret := mi.2.2.2) hy rfl ?_
  intro p e s m args below meth c s₁ B hml hv
  obtain ⟨rfl, hsz, hRO, hK, hP, hD0⟩ := hv
  have hx := B.exec
  have hb := B.bytes
  have hr := B.returns
  have hts := atoms_spec (ws := mm_wz mi) B.pre
  have hown : s.vm.findClass mi.1.cls = some m.cls := findClass_of_methodNamed B.named
  have hlocks := B.notSynchronized
  have hnm : meth.name = mi.1.name := (name_of_methodNamed B.named B.method).1
  subst hsz
  have hD := hD0.self (sz := s.heap.size)
  have hl := lv_entry (As.map (mm_cv ad)) (n := mi.2.2.1) (by rw [mm_wd_sl]; exact hn)
  rw [lg_entry_eq]
  rw [← mm_la_eq] at hl
  refine hE p l e (mm_rm d mc ms) s m _ below meth c (va_A (mm_ws ty ad La M) s.heap.size) ad ty D s.heap [] _ _ ⟨hx, hb, hml, hown, fun w hw => hts w (List.mem_cons_of_mem _ hw), ⟨Nat.le_refl _, Nat.le_refl _, Nat.le_refl _, Nat.le_refl _⟩, hRO, hK, fun q h => Or.inr h, fun h => hnm.trans h⟩ ⟨hP, hD, va_S.rf⟩ hl ?_ (Nat.zero_le _) (Nat.zero_le _)
  intro r La' M' ad' H' locs' ls' pc' ck' cs' hPo hrt had hWd h1 h2
  refine W.widen h1 h2 ?_
  have post : ∀ t : State, t.heap = H' → mm_Qc Po La M ad ty D s.heap.size (As.map (mm_cv ad)).toArray s (.returned (r.map (mm_cv ad'))) t := by
    intro t ht
    exact ⟨r, La', M', ad', rfl, hPo, had, by rw [ht]; exact hWd.1, hWd.2.1, hWd.2.2.F ht⟩
  match r, hrt with
  | none, hrt => exact W.vret hx hb (hr.trans hrt.2) (fun t ht _ => post t ht) hWd.2.2.2.2 hrt.1
  | some (.inl z), hrt =>
    obtain ⟨h3, t0, h4, h5⟩ := hrt
    exact W.zret hx hb (hr.trans h4) h5 (fun t ht _ => post t ht) hWd.2.2.2.2 h3
  | some (.inr (.inl z)), hrt => exact W.lret hx hb (hr.trans hrt.2) (fun t ht _ => post t ht) hWd.2.2.2.2 hrt.1
end
section
theorem mm_dc {b : ByteArray} {ops : List (Nat × Instr × Nat)} (h : ∀ q ∈ ops, decode b q.1 = .ok q.2) (k : Nat) {pc : Nat} {i : Instr × Nat} (hk : ops[k]? = some (pc, i)) : decode b pc = .ok i := h (pc, i) (List.mem_of_getElem? hk)
def mm_lk : List (Nat × mm_V) → Nat → Option mm_V
  | [], _ => none
  | (j, v) :: t, i => if j = i then some v else mm_lk t i
theorem mm_lk_mem : ∀ {L : List (Nat × mm_V)} {i : Nat} {v : mm_V}, mm_lk L i = some v → (i, v) ∈ L
  | [], _, _, h => by cases h
  | (j, w) :: t, i, v, h => by
    unfold mm_lk at h
    by_cases hj : j = i
    · rw [if_pos hj] at h
      cases h
      subst hj
      exact List.mem_cons_self
    · rw [if_neg hj] at h
      exact List.mem_cons_of_mem _ (mm_lk_mem h)
theorem mm_lv {ad : Nat → Nat} {ls : Array Slot} {n : Nat} {L : List (Nat × mm_V)} {i : Nat} {v : mm_V} (h : lv_has ls n (mm_lo ad L)) (hl : mm_lk L i = some v) : ls[i]? = some (.val (mm_cv ad v)) := h.2.2 (i, mm_cv ad v) (List.mem_map.mpr ⟨(i, v), mm_lk_mem hl, rfl⟩)
def mm_two : mm_V → Bool
  | .inr (.inl _) => true
  | _ => false
theorem mm_two_cat (ad : Nat → Nat) (v : mm_V) : ((mm_cv ad v).category == 2) = mm_two v := by
  rcases v with z | z | _ | a <;> rfl
def mm_in : List (Nat × mm_V) → Nat → mm_V → List (Nat × mm_V)
  | [], i, v => [(i, v)]
  | (j, w) :: t, i, v => if i < j then (i, v) :: (j, w) :: t else (j, w) :: mm_in t i v
theorem mm_in_mem {i : Nat} {v : mm_V} : ∀ {L : List (Nat × mm_V)} {q : Nat × mm_V}, q ∈ mm_in L i v → q = (i, v) ∨ q ∈ L
  | [], q, h => Or.inl (List.mem_singleton.mp h)
  | (j, w) :: t, q, h => by
    unfold mm_in at h
    by_cases hj : i < j
    · rw [if_pos hj] at h
      rcases List.mem_cons.mp h with h | h
      · exact Or.inl h
      · exact Or.inr h
    · rw [if_neg hj] at h
      rcases List.mem_cons.mp h with h | h
      · exact Or.inr (h ▸ List.mem_cons_self)
      · rcases mm_in_mem h with h | h
        · exact Or.inl h
        · exact Or.inr (List.mem_cons_of_mem _ h)
/-- a store into the locals: of a value of one word, of two -/
def mm_s1 (L : List (Nat × mm_V)) (i : Nat) (v : mm_V) : List (Nat × mm_V) := mm_in (L.filter (fun q => !(q.1 == i) && !(q.1 + 1 == i && mm_two q.2))) i v
def mm_s2 (L : List (Nat × mm_V)) (i : Nat) (v : mm_V) : List (Nat × mm_V) := mm_in (L.filter (fun q => !(q.1 == i) && (!(q.1 == i + 1) && !(q.1 + 1 == i && mm_two q.2)))) i v
theorem mm_h1 {ad : Nat → Nat} {ls : Array Slot} {n i : Nat} {L : List (Nat × mm_V)} {v : mm_V} (h : lv_has ls n ((i, mm_cv ad v) :: (mm_lo ad L).filter (fun q => !(q.1 == i) && !(q.1 + 1 == i && q.2.category == 2)))) : lv_has ls n (mm_lo ad (mm_s1 L i v)) := by
  refine ⟨h.1, h.2.1, fun q hq => h.2.2 q ?_⟩
  obtain ⟨w, hw, rfl⟩ := List.mem_map.mp hq
  rcases mm_in_mem hw with rfl | hw
  · exact List.mem_cons_self
  · obtain ⟨h3, h4⟩ := List.mem_filter.mp hw
    refine List.mem_cons_of_mem _ (List.mem_filter.mpr ⟨List.mem_map.mpr ⟨w, h3, rfl⟩, ?_⟩)
    simpa only [mm_two_cat] using h4
theorem mm_h2 {ad : Nat → Nat} {ls : Array Slot} {n i : Nat} {L : List (Nat × mm_V)} {v : mm_V} (h : lv_has ls n ((i, mm_cv ad v) :: (mm_lo ad L).filter (fun q => !(q.1 == i) && (!(q.1 == i + 1) && !(q.1 + 1 == i && q.2.category == 2))))) : lv_has ls n (mm_lo ad (mm_s2 L i v)) := by
  refine ⟨h.1, h.2.1, fun q hq => h.2.2 q ?_⟩
  obtain ⟨w, hw, rfl⟩ := List.mem_map.mp hq
  rcases mm_in_mem hw with rfl | hw
  · exact List.mem_cons_self
  · obtain ⟨h3, h4⟩ := List.mem_filter.mp hw
    refine List.mem_cons_of_mem _ (List.mem_filter.mpr ⟨List.mem_map.mpr ⟨w, h3, rfl⟩, ?_⟩)
    simpa only [mm_two_cat] using h4
abbrev mm_r32 (z : Int) : Prop := -2147483648 ≤ z ∧ z < 2147483648
abbrev mm_r64 (z : Int) : Prop := -9223372036854775808 ≤ z ∧ z < 9223372036854775808
theorem mm_o32 {z : Int} (h : mm_r32 z) : (Int32.ofInt z).toInt = z := Int32.toInt_ofInt_of_le (by omega) (by omega)
theorem mm_o64 {z : Int} (h : mm_r64 z) : (Int64.ofInt z).toInt = z := Int64.toInt_ofInt_of_le (by omega) (by omega)
theorem mm_lt32 {a b : Int} (ha : mm_r32 a) (hb : mm_r32 b) : Int32.ofInt a < Int32.ofInt b ↔ a < b := by rw [Int32.lt_iff_toInt_lt, mm_o32 ha, mm_o32 hb]
theorem mm_le32 {a b : Int} (ha : mm_r32 a) (hb : mm_r32 b) : Int32.ofInt a ≤ Int32.ofInt b ↔ a ≤ b := by rw [Int32.le_iff_toInt_le, mm_o32 ha, mm_o32 hb]
theorem mm_eq32 {a b : Int} (ha : mm_r32 a) (hb : mm_r32 b) : Int32.ofInt a = Int32.ofInt b ↔ a = b := by rw [← Int32.toInt_inj, mm_o32 ha, mm_o32 hb]
theorem mm_lt64 {a b : Int} (ha : mm_r64 a) (hb : mm_r64 b) : Int64.ofInt a < Int64.ofInt b ↔ a < b := by rw [Int64.lt_iff_toInt_lt, mm_o64 ha, mm_o64 hb]
theorem mm_eq64 {a b : Int} (ha : mm_r64 a) (hb : mm_r64 b) : Int64.ofInt a = Int64.ofInt b ↔ a = b := by rw [← Int64.toInt_inj, mm_o64 ha, mm_o64 hb]
theorem mm_ix {j : Int} {n : Nat} (h0 : 0 ≤ j) (h1 : j < n) (hn : n < 2147483648) : vp_in (Int32.ofInt j) n ∧ (Int32.ofInt j).toNatClampNeg = j.toNat := by
  have hj : (Int32.ofInt j).toInt = j := mm_o32 (by omega)
  refine ⟨vp_in_iff.mpr (by rw [hj]; exact ⟨h0, h1⟩), ?_⟩
  show (Int32.ofInt j).toInt.toNat = _
  rw [hj]
def mm_cmp (x y : Int) : Int := if y < x then 1 else if x = y then 0 else -1
theorem mm_cmp64 {x y : Int} (hx : mm_r64 x) (hy : mm_r64 y) : lg_cmp (Int64.ofInt x) (Int64.ofInt y) = Int32.ofInt (mm_cmp x y) := by
  unfold lg_cmp mm_cmp
  by_cases h1 : y < x
  · rw [if_pos ((mm_lt64 hy hx).mpr h1), if_pos h1]; rfl
  · rw [if_neg (fun h => h1 ((mm_lt64 hy hx).mp h)), if_neg h1]
    by_cases h2 : x = y
    · rw [if_pos (by rw [h2]), if_pos h2]; rfl
    · rw [if_neg (fun h => h2 ((mm_eq64 hx hy).mp h)), if_neg h2]; rfl
/-! numbers' words: what no ring gives -/
def fx_shl (x y : Int) : Int := (Int32.ofInt x <<< (Int32.ofInt y &&& 31)).toInt
def fx_shr (x y : Int) : Int := (Int32.ofInt x >>> (Int32.ofInt y &&& 31)).toInt
def fx_ushr (x y : Int) : Int := ((Int32.ofInt x).toUInt32 >>> ((Int32.ofInt y).toUInt32 &&& Int32.toUInt32 31)).toInt32.toInt
def fx_and (x y : Int) : Int := (Int32.ofInt x &&& Int32.ofInt y).toInt
def fx_or (x y : Int) : Int := (Int32.ofInt x ||| Int32.ofInt y).toInt
def fx_xor (x y : Int) : Int := (Int32.ofInt x ^^^ Int32.ofInt y).toInt
def fx_lshl (x y : Int) : Int := (Int64.ofInt x <<< ((Int32.ofInt y).toInt64 &&& 63)).toInt
def fx_lshr (x y : Int) : Int := (Int64.ofInt x >>> ((Int32.ofInt y).toInt64 &&& 63)).toInt
def fx_lushr (x y : Int) : Int := ((Int64.ofInt x).toUInt64 >>> ((Int32.ofInt y).toInt64.toUInt64 &&& Int64.toUInt64 63)).toInt64.toInt
def fx_land (x y : Int) : Int := (Int64.ofInt x &&& Int64.ofInt y).toInt
def fx_lor (x y : Int) : Int := (Int64.ofInt x ||| Int64.ofInt y).toInt
section MMR
variable {X : Nat × (Nat → Int)} {d mc ms : Nat} {mi : mm_Mi} {Po : mm_Po} {pc : Nat} {L : List (Nat × mm_V)} {st : List mm_V} {La : List mm_S} {M : mm_M} {ck cs : Nat}
theorem mm_topi {z : Int} (k : ∀ y : Int, y = z → mm_G X d mc ms mi Po pc L (v_i y :: st) La M ck cs) : mm_G X d mc ms mi Po pc L (v_i z :: st) La M ck cs := k z rfl
theorem mm_topl {z : Int} (k : ∀ y : Int, y = z → mm_G X d mc ms mi Po pc L (v_l y :: st) La M ck cs) : mm_G X d mc ms mi Po pc L (v_l z :: st) La M ck cs := k z rfl
theorem mm_nm (k : ∀ N : mm_M, N = M → mm_G X d mc ms mi Po pc L st La N ck cs) : mm_G X d mc ms mi Po pc L st La M ck cs := k M rfl
theorem mm_mo {Po' : mm_Po} (h : ∀ r La' M', Po' r La' M' → Po r La' M') (k : mm_G X d mc ms mi Po' pc L st La M ck cs) : mm_G X d mc ms mi Po pc L st La M ck cs :=
  fun p l e R s m args below meth c A ad ty D H locs ls Q hAt hWd hL hK h1 h2 => k p l e R s m args below meth c A ad ty D H locs ls Q hAt hWd hL (fun r La' M' ad' H' locs' ls' pc' ck' cs' hPo => hK r La' M' ad' H' locs' ls' pc' ck' cs' (h r La' M' hPo)) h1 h2
def mm_pk (L : List (Nat × mm_V)) (ks : List Nat) : List (Nat × mm_V) := ks.filterMap (fun k => L[k]?)
/-- fewer locals -/
theorem mm_less {L' : List (Nat × mm_V)} (ks : List Nat) (hl : mm_pk L ks = L') (k : mm_G X d mc ms mi Po pc L' st La M ck cs) : mm_G X d mc ms mi Po pc L st La M ck cs := by
  intro p l e R s m args below meth c A ad ty D H locs ls Q hAt hWd hL hK h1 h2
  refine k p l e R s m args below meth c A ad ty D H locs ls Q hAt hWd ⟨hL.1, hL.2.1, fun q hq => hL.2.2 q ?_⟩ hK h1 h2
  obtain ⟨w, hw, rfl⟩ := List.mem_map.mp hq
  rw [← hl] at hw
  obtain ⟨j, -, hj⟩ := List.mem_filterMap.mp hw
  exact List.mem_map.mpr ⟨w, List.mem_of_getElem? hj, rfl⟩
theorem mm_iconst {n : Int} (hd : decode mi.2.1 pc = .ok (.iconst n, 1))  (k : mm_G X d mc ms mi Po (pc + 1) L (v_i (n) :: st) La M ck cs) : mm_G X d mc ms mi Po pc L (st) La M ck cs := by
  intro p l e R s m args below meth c A ad ty D H locs ls Q hAt hWd hL hK h1 h2
  have hx := hAt.1
  have hb := hAt.2.1
  have kk := k p l e R s m args below meth c A ad ty D H locs ls Q hAt hWd hL hK h1 h2
  change W p l e R s m args below meth c H locs ck cs Q (F0 m (pc + 1) ls (.int (Int32.ofInt (n)) :: st.map (mm_cv ad))) at kk
  show W p l e R s m args below meth c H locs ck cs Q (F0 m pc ls (st.map (mm_cv ad)))
  exact lv_iconst hx hb hd rfl kk
theorem mm_bipush {n : Int} (hd : decode mi.2.1 pc = .ok (.bipush n, 2)) (h : (Int8.ofInt n).toInt32 = Int32.ofInt n) (k : mm_G X d mc ms mi Po (pc + 2) L (v_i (n) :: st) La M ck cs) : mm_G X d mc ms mi Po pc L (st) La M ck cs := by
  intro p l e R s m args below meth c A ad ty D H locs ls Q hAt hWd hL hK h1 h2
  have hx := hAt.1
  have hb := hAt.2.1
  have kk := k p l e R s m args below meth c A ad ty D H locs ls Q hAt hWd hL hK h1 h2
  change W p l e R s m args below meth c H locs ck cs Q (F0 m (pc + 2) ls (.int (Int32.ofInt (n)) :: st.map (mm_cv ad))) at kk
  show W p l e R s m args below meth c H locs ck cs Q (F0 m pc ls (st.map (mm_cv ad)))
  exact lv_bipush hx hb hd h kk
theorem mm_sipush {n : Int} (hd : decode mi.2.1 pc = .ok (.sipush n, 3)) (h : (Int16.ofInt n).toInt32 = Int32.ofInt n) (k : mm_G X d mc ms mi Po (pc + 3) L (v_i (n) :: st) La M ck cs) : mm_G X d mc ms mi Po pc L (st) La M ck cs := by
  intro p l e R s m args below meth c A ad ty D H locs ls Q hAt hWd hL hK h1 h2
  have hx := hAt.1
  have hb := hAt.2.1
  have kk := k p l e R s m args below meth c A ad ty D H locs ls Q hAt hWd hL hK h1 h2
  change W p l e R s m args below meth c H locs ck cs Q (F0 m (pc + 3) ls (.int (Int32.ofInt (n)) :: st.map (mm_cv ad))) at kk
  show W p l e R s m args below meth c H locs ck cs Q (F0 m pc ls (st.map (mm_cv ad)))
  exact lv_sipush hx hb hd h kk
theorem mm_lconst {n : Fin 2} (hd : decode mi.2.1 pc = .ok (.lconst n, 1))  (k : mm_G X d mc ms mi Po (pc + 1) L (v_l (((n : Nat) : Int)) :: st) La M ck cs) : mm_G X d mc ms mi Po pc L (st) La M ck cs := by
  intro p l e R s m args below meth c A ad ty D H locs ls Q hAt hWd hL hK h1 h2
  have hx := hAt.1
  have hb := hAt.2.1
  have kk := k p l e R s m args below meth c A ad ty D H locs ls Q hAt hWd hL hK h1 h2
  change W p l e R s m args below meth c H locs ck cs Q (F0 m (pc + 1) ls (.long (Int64.ofInt (((n : Nat) : Int))) :: st.map (mm_cv ad))) at kk
  show W p l e R s m args below meth c H locs ck cs Q (F0 m pc ls (st.map (mm_cv ad)))
  refine lv_lconst hx hb hd ?_ kk
  rcases n with ⟨_ | _ | n, hn⟩
  · rfl
  · rfl
  · omega
theorem mm_iload_n {j : Fin 4} {z : Int} (hd : decode mi.2.1 pc = .ok (.iload_n j, 1)) (hl : mm_lk L (j : Nat) = some (v_i (z))) (k : mm_G X d mc ms mi Po (pc + 1) L (v_i (z) :: st) La M ck cs) : mm_G X d mc ms mi Po pc L (st) La M ck cs := by
  intro p l e R s m args below meth c A ad ty D H locs ls Q hAt hWd hL hK h1 h2
  have hx := hAt.1
  have hb := hAt.2.1
  have kk := k p l e R s m args below meth c A ad ty D H locs ls Q hAt hWd hL hK h1 h2
  change W p l e R s m args below meth c H locs ck cs Q (F0 m (pc + 1) ls (.int (Int32.ofInt (z)) :: st.map (mm_cv ad))) at kk
  show W p l e R s m args below meth c H locs ck cs Q (F0 m pc ls (st.map (mm_cv ad)))
  exact lv_iload_n hx hb hd rfl (mm_lv hL hl) kk
theorem mm_iload {j : Nat} {z : Int} (hd : decode mi.2.1 pc = .ok (.iload j, 2)) (hl : mm_lk L j = some (v_i (z))) (k : mm_G X d mc ms mi Po (pc + 2) L (v_i (z) :: st) La M ck cs) : mm_G X d mc ms mi Po pc L (st) La M ck cs := by
  intro p l e R s m args below meth c A ad ty D H locs ls Q hAt hWd hL hK h1 h2
  have hx := hAt.1
  have hb := hAt.2.1
  have kk := k p l e R s m args below meth c A ad ty D H locs ls Q hAt hWd hL hK h1 h2
  change W p l e R s m args below meth c H locs ck cs Q (F0 m (pc + 2) ls (.int (Int32.ofInt (z)) :: st.map (mm_cv ad))) at kk
  show W p l e R s m args below meth c H locs ck cs Q (F0 m pc ls (st.map (mm_cv ad)))
  exact lv_iload hx hb hd (mm_lv hL hl) kk
theorem mm_istore_n {j : Fin 4} {z : Int} {L' : List (Nat × mm_V)} (hd : decode mi.2.1 pc = .ok (.istore_n j, 1)) (hn : (j : Nat) < mi.2.2.1) (hl : mm_s1 L (j : Nat) (v_i (z)) = L') (k : mm_G X d mc ms mi Po (pc + 1) L' st La M ck cs) : mm_G X d mc ms mi Po pc L (v_i (z) :: st) La M ck cs := by
  intro p l e R s m args below meth c A ad ty D H locs ls Q hAt hWd hL hK h1 h2
  have hx := hAt.1
  have hb := hAt.2.1
  subst hl
  show W p l e R s m args below meth c H locs ck cs Q (F0 m pc ls (.int (Int32.ofInt (z)) :: st.map (mm_cv ad)))
  refine lv_istore_n hx hb hd rfl hL hn rfl (fun ls hl => ?_)
  exact k p l e R s m args below meth c A ad ty D H locs ls Q hAt hWd (mm_h1 hl) hK h1 h2
theorem mm_istore {j : Nat} {z : Int} {L' : List (Nat × mm_V)} (hd : decode mi.2.1 pc = .ok (.istore j, 2)) (hn : (j : Nat) < mi.2.2.1) (hl : mm_s1 L (j : Nat) (v_i (z)) = L') (k : mm_G X d mc ms mi Po (pc + 2) L' st La M ck cs) : mm_G X d mc ms mi Po pc L (v_i (z) :: st) La M ck cs := by
  intro p l e R s m args below meth c A ad ty D H locs ls Q hAt hWd hL hK h1 h2
  have hx := hAt.1
  have hb := hAt.2.1
  subst hl
  show W p l e R s m args below meth c H locs ck cs Q (F0 m pc ls (.int (Int32.ofInt (z)) :: st.map (mm_cv ad)))
  refine lv_istore hx hb hd hL hn rfl (fun ls hl => ?_)
  exact k p l e R s m args below meth c A ad ty D H locs ls Q hAt hWd (mm_h1 hl) hK h1 h2
theorem mm_lload_n {j : Fin 4} {z : Int} (hd : decode mi.2.1 pc = .ok (.lload_n j, 1)) (hl : mm_lk L (j : Nat) = some (v_l (z))) (k : mm_G X d mc ms mi Po (pc + 1) L (v_l (z) :: st) La M ck cs) : mm_G X d mc ms mi Po pc L (st) La M ck cs := by
  intro p l e R s m args below meth c A ad ty D H locs ls Q hAt hWd hL hK h1 h2
  have hx := hAt.1
  have hb := hAt.2.1
  have kk := k p l e R s m args below meth c A ad ty D H locs ls Q hAt hWd hL hK h1 h2
  change W p l e R s m args below meth c H locs ck cs Q (F0 m (pc + 1) ls (.long (Int64.ofInt (z)) :: st.map (mm_cv ad))) at kk
  show W p l e R s m args below meth c H locs ck cs Q (F0 m pc ls (st.map (mm_cv ad)))
  exact lv_lload_n hx hb hd rfl (mm_lv hL hl) kk
theorem mm_lload {j : Nat} {z : Int} (hd : decode mi.2.1 pc = .ok (.lload j, 2)) (hl : mm_lk L j = some (v_l (z))) (k : mm_G X d mc ms mi Po (pc + 2) L (v_l (z) :: st) La M ck cs) : mm_G X d mc ms mi Po pc L (st) La M ck cs := by
  intro p l e R s m args below meth c A ad ty D H locs ls Q hAt hWd hL hK h1 h2
  have hx := hAt.1
  have hb := hAt.2.1
  have kk := k p l e R s m args below meth c A ad ty D H locs ls Q hAt hWd hL hK h1 h2
  change W p l e R s m args below meth c H locs ck cs Q (F0 m (pc + 2) ls (.long (Int64.ofInt (z)) :: st.map (mm_cv ad))) at kk
  show W p l e R s m args below meth c H locs ck cs Q (F0 m pc ls (st.map (mm_cv ad)))
  exact lv_lload hx hb hd (mm_lv hL hl) kk
theorem mm_lstore_n {j : Fin 4} {z : Int} {L' : List (Nat × mm_V)} (hd : decode mi.2.1 pc = .ok (.lstore_n j, 1)) (hn : (j : Nat) + 1 < mi.2.2.1) (hl : mm_s2 L (j : Nat) (v_l (z)) = L') (k : mm_G X d mc ms mi Po (pc + 1) L' st La M ck cs) : mm_G X d mc ms mi Po pc L (v_l (z) :: st) La M ck cs := by
  intro p l e R s m args below meth c A ad ty D H locs ls Q hAt hWd hL hK h1 h2
  have hx := hAt.1
  have hb := hAt.2.1
  subst hl
  show W p l e R s m args below meth c H locs ck cs Q (F0 m pc ls (.long (Int64.ofInt (z)) :: st.map (mm_cv ad)))
  refine lv_lstore_n hx hb hd rfl hL hn rfl (fun ls hl => ?_)
  exact k p l e R s m args below meth c A ad ty D H locs ls Q hAt hWd (mm_h2 hl) hK h1 h2
theorem mm_lstore {j : Nat} {z : Int} {L' : List (Nat × mm_V)} (hd : decode mi.2.1 pc = .ok (.lstore j, 2)) (hn : (j : Nat) + 1 < mi.2.2.1) (hl : mm_s2 L (j : Nat) (v_l (z)) = L') (k : mm_G X d mc ms mi Po (pc + 2) L' st La M ck cs) : mm_G X d mc ms mi Po pc L (v_l (z) :: st) La M ck cs := by
  intro p l e R s m args below meth c A ad ty D H locs ls Q hAt hWd hL hK h1 h2
  have hx := hAt.1
  have hb := hAt.2.1
  subst hl
  show W p l e R s m args below meth c H locs ck cs Q (F0 m pc ls (.long (Int64.ofInt (z)) :: st.map (mm_cv ad)))
  refine lv_lstore hx hb hd hL hn rfl (fun ls hl => ?_)
  exact k p l e R s m args below meth c A ad ty D H locs ls Q hAt hWd (mm_h2 hl) hK h1 h2
theorem mm_aload_n {j : Fin 4} {z : Nat} (hd : decode mi.2.1 pc = .ok (.aload_n j, 1)) (hl : mm_lk L (j : Nat) = some (v_r (z))) (k : mm_G X d mc ms mi Po (pc + 1) L (v_r (z) :: st) La M ck cs) : mm_G X d mc ms mi Po pc L (st) La M ck cs := by
  intro p l e R s m args below meth c A ad ty D H locs ls Q hAt hWd hL hK h1 h2
  have hx := hAt.1
  have hb := hAt.2.1
  have kk := k p l e R s m args below meth c A ad ty D H locs ls Q hAt hWd hL hK h1 h2
  change W p l e R s m args below meth c H locs ck cs Q (F0 m (pc + 1) ls (.ref (ad (z)) :: st.map (mm_cv ad))) at kk
  show W p l e R s m args below meth c H locs ck cs Q (F0 m pc ls (st.map (mm_cv ad)))
  exact lv_aload_n hx hb hd rfl (mm_lv hL hl) kk
theorem mm_aload {j : Nat} {z : Nat} (hd : decode mi.2.1 pc = .ok (.aload j, 2)) (hl : mm_lk L j = some (v_r (z))) (k : mm_G X d mc ms mi Po (pc + 2) L (v_r (z) :: st) La M ck cs) : mm_G X d mc ms mi Po pc L (st) La M ck cs := by
  intro p l e R s m args below meth c A ad ty D H locs ls Q hAt hWd hL hK h1 h2
  have hx := hAt.1
  have hb := hAt.2.1
  have kk := k p l e R s m args below meth c A ad ty D H locs ls Q hAt hWd hL hK h1 h2
  change W p l e R s m args below meth c H locs ck cs Q (F0 m (pc + 2) ls (.ref (ad (z)) :: st.map (mm_cv ad))) at kk
  show W p l e R s m args below meth c H locs ck cs Q (F0 m pc ls (st.map (mm_cv ad)))
  exact lv_aload hx hb hd (mm_lv hL hl) kk
theorem mm_astore_n {j : Fin 4} {z : Nat} {L' : List (Nat × mm_V)} (hd : decode mi.2.1 pc = .ok (.astore_n j, 1)) (hn : (j : Nat) < mi.2.2.1) (hl : mm_s1 L (j : Nat) (v_r (z)) = L') (k : mm_G X d mc ms mi Po (pc + 1) L' st La M ck cs) : mm_G X d mc ms mi Po pc L (v_r (z) :: st) La M ck cs := by
  intro p l e R s m args below meth c A ad ty D H locs ls Q hAt hWd hL hK h1 h2
  have hx := hAt.1
  have hb := hAt.2.1
  subst hl
  show W p l e R s m args below meth c H locs ck cs Q (F0 m pc ls (.ref (ad (z)) :: st.map (mm_cv ad)))
  refine lv_astore_n hx hb hd rfl hL hn rfl (fun ls hl => ?_)
  exact k p l e R s m args below meth c A ad ty D H locs ls Q hAt hWd (mm_h1 hl) hK h1 h2
theorem mm_astore {j : Nat} {z : Nat} {L' : List (Nat × mm_V)} (hd : decode mi.2.1 pc = .ok (.astore j, 2)) (hn : (j : Nat) < mi.2.2.1) (hl : mm_s1 L (j : Nat) (v_r (z)) = L') (k : mm_G X d mc ms mi Po (pc + 2) L' st La M ck cs) : mm_G X d mc ms mi Po pc L (v_r (z) :: st) La M ck cs := by
  intro p l e R s m args below meth c A ad ty D H locs ls Q hAt hWd hL hK h1 h2
  have hx := hAt.1
  have hb := hAt.2.1
  subst hl
  show W p l e R s m args below meth c H locs ck cs Q (F0 m pc ls (.ref (ad (z)) :: st.map (mm_cv ad)))
  refine lv_astore hx hb hd hL hn rfl (fun ls hl => ?_)
  exact k p l e R s m args below meth c A ad ty D H locs ls Q hAt hWd (mm_h1 hl) hK h1 h2
theorem mm_iinc {j : Nat} {n z : Int} {L' : List (Nat × mm_V)} (hd : decode mi.2.1 pc = .ok (.iinc j n, 3)) (hv : mm_lk L j = some (v_i z)) (hn : j < mi.2.2.1) (hl : mm_s1 L j (v_i (z + n)) = L') (k : mm_G X d mc ms mi Po (pc + 3) L' st La M ck cs) : mm_G X d mc ms mi Po pc L st La M ck cs := by
  intro p l e R s m args below meth c A ad ty D H locs ls Q hAt hWd hL hK h1 h2
  have hx := hAt.1
  have hb := hAt.2.1
  subst hl
  obtain ⟨q, hq⟩ := List.getElem?_of_mem (List.mem_map.mpr ⟨(j, v_i z), mm_lk_mem hv, rfl⟩ : (j, mm_cv ad (v_i z)) ∈ mm_lo ad L)
  refine lv_iinc (v := Int32.ofInt (z + n)) hx hb hd hL hq (by rw [Int32.ofInt_add]) hn rfl (fun ls hl => ?_)
  exact k p l e R s m args below meth c A ad ty D H locs ls Q hAt hWd (mm_h1 hl) hK h1 h2
theorem mm_iadd {x y : Int} (hd : decode mi.2.1 pc = .ok (.iadd, 1))  (k : mm_G X d mc ms mi Po (pc + 1) L (v_i (x + y) :: st) La M ck cs) : mm_G X d mc ms mi Po pc L (v_i (y) :: v_i (x) :: st) La M ck cs := by
  intro p l e R s m args below meth c A ad ty D H locs ls Q hAt hWd hL hK h1 h2
  have hx := hAt.1
  have hb := hAt.2.1
  have kk := k p l e R s m args below meth c A ad ty D H locs ls Q hAt hWd hL hK h1 h2
  change W p l e R s m args below meth c H locs ck cs Q (F0 m (pc + 1) ls (.int (Int32.ofInt (x + y)) :: st.map (mm_cv ad))) at kk
  show W p l e R s m args below meth c H locs ck cs Q (F0 m pc ls (.int (Int32.ofInt (y)) :: .int (Int32.ofInt (x)) :: st.map (mm_cv ad)))
  rw [Int32.ofInt_add] at kk
  exact lv_iadd hx hb hd kk
theorem mm_ladd {x y : Int} (hd : decode mi.2.1 pc = .ok (.ladd, 1))  (k : mm_G X d mc ms mi Po (pc + 1) L (v_l (x + y) :: st) La M ck cs) : mm_G X d mc ms mi Po pc L (v_l (y) :: v_l (x) :: st) La M ck cs := by
  intro p l e R s m args below meth c A ad ty D H locs ls Q hAt hWd hL hK h1 h2
  have hx := hAt.1
  have hb := hAt.2.1
  have kk := k p l e R s m args below meth c A ad ty D H locs ls Q hAt hWd hL hK h1 h2
  change W p l e R s m args below meth c H locs ck cs Q (F0 m (pc + 1) ls (.long (Int64.ofInt (x + y)) :: st.map (mm_cv ad))) at kk
  show W p l e R s m args below meth c H locs ck cs Q (F0 m pc ls (.long (Int64.ofInt (y)) :: .long (Int64.ofInt (x)) :: st.map (mm_cv ad)))
  rw [Int64.ofInt_add] at kk
  exact lv_ladd hx hb hd kk
theorem mm_isub {x y : Int} (hd : decode mi.2.1 pc = .ok (.isub, 1))  (k : mm_G X d mc ms mi Po (pc + 1) L (v_i (x - y) :: st) La M ck cs) : mm_G X d mc ms mi Po pc L (v_i (y) :: v_i (x) :: st) La M ck cs := by
  intro p l e R s m args below meth c A ad ty D H locs ls Q hAt hWd hL hK h1 h2
  have hx := hAt.1
  have hb := hAt.2.1
  have kk := k p l e R s m args below meth c A ad ty D H locs ls Q hAt hWd hL hK h1 h2
  change W p l e R s m args below meth c H locs ck cs Q (F0 m (pc + 1) ls (.int (Int32.ofInt (x - y)) :: st.map (mm_cv ad))) at kk
  show W p l e R s m args below meth c H locs ck cs Q (F0 m pc ls (.int (Int32.ofInt (y)) :: .int (Int32.ofInt (x)) :: st.map (mm_cv ad)))
  rw [Int32.ofInt_sub] at kk
  exact lv_isub hx hb hd kk
theorem mm_lsub {x y : Int} (hd : decode mi.2.1 pc = .ok (.lsub, 1))  (k : mm_G X d mc ms mi Po (pc + 1) L (v_l (x - y) :: st) La M ck cs) : mm_G X d mc ms mi Po pc L (v_l (y) :: v_l (x) :: st) La M ck cs := by
  intro p l e R s m args below meth c A ad ty D H locs ls Q hAt hWd hL hK h1 h2
  have hx := hAt.1
  have hb := hAt.2.1
  have kk := k p l e R s m args below meth c A ad ty D H locs ls Q hAt hWd hL hK h1 h2
  change W p l e R s m args below meth c H locs ck cs Q (F0 m (pc + 1) ls (.long (Int64.ofInt (x - y)) :: st.map (mm_cv ad))) at kk
  show W p l e R s m args below meth c H locs ck cs Q (F0 m pc ls (.long (Int64.ofInt (y)) :: .long (Int64.ofInt (x)) :: st.map (mm_cv ad)))
  rw [Int64.ofInt_sub] at kk
  exact lv_lsub hx hb hd kk
theorem mm_imul {x y : Int} (hd : decode mi.2.1 pc = .ok (.imul, 1))  (k : mm_G X d mc ms mi Po (pc + 1) L (v_i (x * y) :: st) La M ck cs) : mm_G X d mc ms mi Po pc L (v_i (y) :: v_i (x) :: st) La M ck cs := by
  intro p l e R s m args below meth c A ad ty D H locs ls Q hAt hWd hL hK h1 h2
  have hx := hAt.1
  have hb := hAt.2.1
  have kk := k p l e R s m args below meth c A ad ty D H locs ls Q hAt hWd hL hK h1 h2
  change W p l e R s m args below meth c H locs ck cs Q (F0 m (pc + 1) ls (.int (Int32.ofInt (x * y)) :: st.map (mm_cv ad))) at kk
  show W p l e R s m args below meth c H locs ck cs Q (F0 m pc ls (.int (Int32.ofInt (y)) :: .int (Int32.ofInt (x)) :: st.map (mm_cv ad)))
  rw [Int32.ofInt_mul] at kk
  exact lv_imul hx hb hd kk
theorem mm_lmul {x y : Int} (hd : decode mi.2.1 pc = .ok (.lmul, 1))  (k : mm_G X d mc ms mi Po (pc + 1) L (v_l (x * y) :: st) La M ck cs) : mm_G X d mc ms mi Po pc L (v_l (y) :: v_l (x) :: st) La M ck cs := by
  intro p l e R s m args below meth c A ad ty D H locs ls Q hAt hWd hL hK h1 h2
  have hx := hAt.1
  have hb := hAt.2.1
  have kk := k p l e R s m args below meth c A ad ty D H locs ls Q hAt hWd hL hK h1 h2
  change W p l e R s m args below meth c H locs ck cs Q (F0 m (pc + 1) ls (.long (Int64.ofInt (x * y)) :: st.map (mm_cv ad))) at kk
  show W p l e R s m args below meth c H locs ck cs Q (F0 m pc ls (.long (Int64.ofInt (y)) :: .long (Int64.ofInt (x)) :: st.map (mm_cv ad)))
  rw [Int64.ofInt_mul] at kk
  exact lv_lmul hx hb hd kk
theorem mm_ineg {x : Int} (hd : decode mi.2.1 pc = .ok (.ineg, 1))  (k : mm_G X d mc ms mi Po (pc + 1) L (v_i (-x) :: st) La M ck cs) : mm_G X d mc ms mi Po pc L (v_i (x) :: st) La M ck cs := by
  intro p l e R s m args below meth c A ad ty D H locs ls Q hAt hWd hL hK h1 h2
  have hx := hAt.1
  have hb := hAt.2.1
  have kk := k p l e R s m args below meth c A ad ty D H locs ls Q hAt hWd hL hK h1 h2
  change W p l e R s m args below meth c H locs ck cs Q (F0 m (pc + 1) ls (.int (Int32.ofInt (-x)) :: st.map (mm_cv ad))) at kk
  show W p l e R s m args below meth c H locs ck cs Q (F0 m pc ls (.int (Int32.ofInt (x)) :: st.map (mm_cv ad)))
  rw [Int32.ofInt_neg] at kk
  exact lv_ineg hx hb hd kk
theorem mm_lneg {x : Int} (hd : decode mi.2.1 pc = .ok (.lneg, 1))  (k : mm_G X d mc ms mi Po (pc + 1) L (v_l (-x) :: st) La M ck cs) : mm_G X d mc ms mi Po pc L (v_l (x) :: st) La M ck cs := by
  intro p l e R s m args below meth c A ad ty D H locs ls Q hAt hWd hL hK h1 h2
  have hx := hAt.1
  have hb := hAt.2.1
  have kk := k p l e R s m args below meth c A ad ty D H locs ls Q hAt hWd hL hK h1 h2
  change W p l e R s m args below meth c H locs ck cs Q (F0 m (pc + 1) ls (.long (Int64.ofInt (-x)) :: st.map (mm_cv ad))) at kk
  show W p l e R s m args below meth c H locs ck cs Q (F0 m pc ls (.long (Int64.ofInt (x)) :: st.map (mm_cv ad)))
  rw [Int64.ofInt_neg] at kk
  exact lv_lneg hx hb hd kk
theorem mm_iand {x y : Int} (hd : decode mi.2.1 pc = .ok (.iand, 1))  (k : mm_G X d mc ms mi Po (pc + 1) L (v_i (fx_and x y) :: st) La M ck cs) : mm_G X d mc ms mi Po pc L (v_i (y) :: v_i (x) :: st) La M ck cs := by
  intro p l e R s m args below meth c A ad ty D H locs ls Q hAt hWd hL hK h1 h2
  have hx := hAt.1
  have hb := hAt.2.1
  have kk := k p l e R s m args below meth c A ad ty D H locs ls Q hAt hWd hL hK h1 h2
  change W p l e R s m args below meth c H locs ck cs Q (F0 m (pc + 1) ls (.int (Int32.ofInt (fx_and x y)) :: st.map (mm_cv ad))) at kk
  show W p l e R s m args below meth c H locs ck cs Q (F0 m pc ls (.int (Int32.ofInt (y)) :: .int (Int32.ofInt (x)) :: st.map (mm_cv ad)))
  rw [fx_and, Int32.ofInt_toInt] at kk
  exact lv_iand hx hb hd kk
theorem mm_ior {x y : Int} (hd : decode mi.2.1 pc = .ok (.ior, 1))  (k : mm_G X d mc ms mi Po (pc + 1) L (v_i (fx_or x y) :: st) La M ck cs) : mm_G X d mc ms mi Po pc L (v_i (y) :: v_i (x) :: st) La M ck cs := by
  intro p l e R s m args below meth c A ad ty D H locs ls Q hAt hWd hL hK h1 h2
  have hx := hAt.1
  have hb := hAt.2.1
  have kk := k p l e R s m args below meth c A ad ty D H locs ls Q hAt hWd hL hK h1 h2
  change W p l e R s m args below meth c H locs ck cs Q (F0 m (pc + 1) ls (.int (Int32.ofInt (fx_or x y)) :: st.map (mm_cv ad))) at kk
  show W p l e R s m args below meth c H locs ck cs Q (F0 m pc ls (.int (Int32.ofInt (y)) :: .int (Int32.ofInt (x)) :: st.map (mm_cv ad)))
  rw [fx_or, Int32.ofInt_toInt] at kk
  exact lv_ior hx hb hd kk
theorem mm_ixor {x y : Int} (hd : decode mi.2.1 pc = .ok (.ixor, 1))  (k : mm_G X d mc ms mi Po (pc + 1) L (v_i (fx_xor x y) :: st) La M ck cs) : mm_G X d mc ms mi Po pc L (v_i (y) :: v_i (x) :: st) La M ck cs := by
  intro p l e R s m args below meth c A ad ty D H locs ls Q hAt hWd hL hK h1 h2
  have hx := hAt.1
  have hb := hAt.2.1
  have kk := k p l e R s m args below meth c A ad ty D H locs ls Q hAt hWd hL hK h1 h2
  change W p l e R s m args below meth c H locs ck cs Q (F0 m (pc + 1) ls (.int (Int32.ofInt (fx_xor x y)) :: st.map (mm_cv ad))) at kk
  show W p l e R s m args below meth c H locs ck cs Q (F0 m pc ls (.int (Int32.ofInt (y)) :: .int (Int32.ofInt (x)) :: st.map (mm_cv ad)))
  rw [fx_xor, Int32.ofInt_toInt] at kk
  exact lv_ixor hx hb hd kk
theorem mm_ishl {x y : Int} (hd : decode mi.2.1 pc = .ok (.ishl, 1))  (k : mm_G X d mc ms mi Po (pc + 1) L (v_i (fx_shl x y) :: st) La M ck cs) : mm_G X d mc ms mi Po pc L (v_i (y) :: v_i (x) :: st) La M ck cs := by
  intro p l e R s m args below meth c A ad ty D H locs ls Q hAt hWd hL hK h1 h2
  have hx := hAt.1
  have hb := hAt.2.1
  have kk := k p l e R s m args below meth c A ad ty D H locs ls Q hAt hWd hL hK h1 h2
  change W p l e R s m args below meth c H locs ck cs Q (F0 m (pc + 1) ls (.int (Int32.ofInt (fx_shl x y)) :: st.map (mm_cv ad))) at kk
  show W p l e R s m args below meth c H locs ck cs Q (F0 m pc ls (.int (Int32.ofInt (y)) :: .int (Int32.ofInt (x)) :: st.map (mm_cv ad)))
  rw [fx_shl, Int32.ofInt_toInt] at kk
  exact lv_ishl hx hb hd kk
theorem mm_lshl {x y : Int} (hd : decode mi.2.1 pc = .ok (.lshl, 1))  (k : mm_G X d mc ms mi Po (pc + 1) L (v_l (fx_lshl x y) :: st) La M ck cs) : mm_G X d mc ms mi Po pc L (v_i (y) :: v_l (x) :: st) La M ck cs := by
  intro p l e R s m args below meth c A ad ty D H locs ls Q hAt hWd hL hK h1 h2
  have hx := hAt.1
  have hb := hAt.2.1
  have kk := k p l e R s m args below meth c A ad ty D H locs ls Q hAt hWd hL hK h1 h2
  change W p l e R s m args below meth c H locs ck cs Q (F0 m (pc + 1) ls (.long (Int64.ofInt (fx_lshl x y)) :: st.map (mm_cv ad))) at kk
  show W p l e R s m args below meth c H locs ck cs Q (F0 m pc ls (.int (Int32.ofInt (y)) :: .long (Int64.ofInt (x)) :: st.map (mm_cv ad)))
  rw [fx_lshl, Int64.ofInt_toInt] at kk
  exact lv_lshl hx hb hd rfl kk
theorem mm_ishr {x y : Int} (hd : decode mi.2.1 pc = .ok (.ishr, 1))  (k : mm_G X d mc ms mi Po (pc + 1) L (v_i (fx_shr x y) :: st) La M ck cs) : mm_G X d mc ms mi Po pc L (v_i (y) :: v_i (x) :: st) La M ck cs := by
  intro p l e R s m args below meth c A ad ty D H locs ls Q hAt hWd hL hK h1 h2
  have hx := hAt.1
  have hb := hAt.2.1
  have kk := k p l e R s m args below meth c A ad ty D H locs ls Q hAt hWd hL hK h1 h2
  change W p l e R s m args below meth c H locs ck cs Q (F0 m (pc + 1) ls (.int (Int32.ofInt (fx_shr x y)) :: st.map (mm_cv ad))) at kk
  show W p l e R s m args below meth c H locs ck cs Q (F0 m pc ls (.int (Int32.ofInt (y)) :: .int (Int32.ofInt (x)) :: st.map (mm_cv ad)))
  rw [fx_shr, Int32.ofInt_toInt] at kk
  exact lv_ishr hx hb hd kk
theorem mm_lshr {x y : Int} (hd : decode mi.2.1 pc = .ok (.lshr, 1))  (k : mm_G X d mc ms mi Po (pc + 1) L (v_l (fx_lshr x y) :: st) La M ck cs) : mm_G X d mc ms mi Po pc L (v_i (y) :: v_l (x) :: st) La M ck cs := by
  intro p l e R s m args below meth c A ad ty D H locs ls Q hAt hWd hL hK h1 h2
  have hx := hAt.1
  have hb := hAt.2.1
  have kk := k p l e R s m args below meth c A ad ty D H locs ls Q hAt hWd hL hK h1 h2
  change W p l e R s m args below meth c H locs ck cs Q (F0 m (pc + 1) ls (.long (Int64.ofInt (fx_lshr x y)) :: st.map (mm_cv ad))) at kk
  show W p l e R s m args below meth c H locs ck cs Q (F0 m pc ls (.int (Int32.ofInt (y)) :: .long (Int64.ofInt (x)) :: st.map (mm_cv ad)))
  rw [fx_lshr, Int64.ofInt_toInt] at kk
  exact lv_lshr hx hb hd rfl kk
theorem mm_iushr {x y : Int} (hd : decode mi.2.1 pc = .ok (.iushr, 1))  (k : mm_G X d mc ms mi Po (pc + 1) L (v_i (fx_ushr x y) :: st) La M ck cs) : mm_G X d mc ms mi Po pc L (v_i (y) :: v_i (x) :: st) La M ck cs := by
  intro p l e R s m args below meth c A ad ty D H locs ls Q hAt hWd hL hK h1 h2
  have hx := hAt.1
  have hb := hAt.2.1
  have kk := k p l e R s m args below meth c A ad ty D H locs ls Q hAt hWd hL hK h1 h2
  change W p l e R s m args below meth c H locs ck cs Q (F0 m (pc + 1) ls (.int (Int32.ofInt (fx_ushr x y)) :: st.map (mm_cv ad))) at kk
  show W p l e R s m args below meth c H locs ck cs Q (F0 m pc ls (.int (Int32.ofInt (y)) :: .int (Int32.ofInt (x)) :: st.map (mm_cv ad)))
  rw [fx_ushr, Int32.ofInt_toInt] at kk
  exact lv_iushr hx hb hd rfl kk
theorem mm_lushr {x y : Int} (hd : decode mi.2.1 pc = .ok (.lushr, 1))  (k : mm_G X d mc ms mi Po (pc + 1) L (v_l (fx_lushr x y) :: st) La M ck cs) : mm_G X d mc ms mi Po pc L (v_i (y) :: v_l (x) :: st) La M ck cs := by
  intro p l e R s m args below meth c A ad ty D H locs ls Q hAt hWd hL hK h1 h2
  have hx := hAt.1
  have hb := hAt.2.1
  have kk := k p l e R s m args below meth c A ad ty D H locs ls Q hAt hWd hL hK h1 h2
  change W p l e R s m args below meth c H locs ck cs Q (F0 m (pc + 1) ls (.long (Int64.ofInt (fx_lushr x y)) :: st.map (mm_cv ad))) at kk
  show W p l e R s m args below meth c H locs ck cs Q (F0 m pc ls (.int (Int32.ofInt (y)) :: .long (Int64.ofInt (x)) :: st.map (mm_cv ad)))
  rw [fx_lushr, Int64.ofInt_toInt] at kk
  exact lv_lushr hx hb hd rfl kk
theorem mm_land {x y : Int} (hd : decode mi.2.1 pc = .ok (.land, 1))  (k : mm_G X d mc ms mi Po (pc + 1) L (v_l (fx_land x y) :: st) La M ck cs) : mm_G X d mc ms mi Po pc L (v_l (y) :: v_l (x) :: st) La M ck cs := by
  intro p l e R s m args below meth c A ad ty D H locs ls Q hAt hWd hL hK h1 h2
  have hx := hAt.1
  have hb := hAt.2.1
  have kk := k p l e R s m args below meth c A ad ty D H locs ls Q hAt hWd hL hK h1 h2
  change W p l e R s m args below meth c H locs ck cs Q (F0 m (pc + 1) ls (.long (Int64.ofInt (fx_land x y)) :: st.map (mm_cv ad))) at kk
  show W p l e R s m args below meth c H locs ck cs Q (F0 m pc ls (.long (Int64.ofInt (y)) :: .long (Int64.ofInt (x)) :: st.map (mm_cv ad)))
  rw [fx_land, Int64.ofInt_toInt] at kk
  exact lv_land hx hb hd kk
theorem mm_lor {x y : Int} (hd : decode mi.2.1 pc = .ok (.lor, 1))  (k : mm_G X d mc ms mi Po (pc + 1) L (v_l (fx_lor x y) :: st) La M ck cs) : mm_G X d mc ms mi Po pc L (v_l (y) :: v_l (x) :: st) La M ck cs := by
  intro p l e R s m args below meth c A ad ty D H locs ls Q hAt hWd hL hK h1 h2
  have hx := hAt.1
  have hb := hAt.2.1
  have kk := k p l e R s m args below meth c A ad ty D H locs ls Q hAt hWd hL hK h1 h2
  change W p l e R s m args below meth c H locs ck cs Q (F0 m (pc + 1) ls (.long (Int64.ofInt (fx_lor x y)) :: st.map (mm_cv ad))) at kk
  show W p l e R s m args below meth c H locs ck cs Q (F0 m pc ls (.long (Int64.ofInt (y)) :: .long (Int64.ofInt (x)) :: st.map (mm_cv ad)))
  rw [fx_lor, Int64.ofInt_toInt] at kk
  exact lv_lor hx hb hd kk
theorem mm_idiv {x y : Int} (hd : decode mi.2.1 pc = .ok (.idiv, 1)) (ha : mm_r32 x) (hb0 : mm_r32 y) (hne : y ≠ 0) (k : mm_G X d mc ms mi Po (pc + 1) L (v_i (x.tdiv y) :: st) La M ck cs) : mm_G X d mc ms mi Po pc L (v_i (y) :: v_i (x) :: st) La M ck cs := by
  intro p l e R s m args below meth c A ad ty D H locs ls Q hAt hWd hL hK h1 h2
  have hx := hAt.1
  have hb := hAt.2.1
  have kk := k p l e R s m args below meth c A ad ty D H locs ls Q hAt hWd hL hK h1 h2
  change W p l e R s m args below meth c H locs ck cs Q (F0 m (pc + 1) ls (.int (Int32.ofInt (x.tdiv y)) :: st.map (mm_cv ad))) at kk
  show W p l e R s m args below meth c H locs ck cs Q (F0 m pc ls (.int (Int32.ofInt (y)) :: .int (Int32.ofInt (x)) :: st.map (mm_cv ad)))
  rw [Int32.ofInt_tdiv (show (-2147483648 : Int) ≤ x from ha.1) (show x ≤ 2147483647 by omega) (show (-2147483648 : Int) ≤ y from hb0.1) (show y ≤ 2147483647 by omega)] at kk
  exact lv_idiv hx hb hd (fun h => hne ((mm_eq32 hb0 (by omega)).mp h)) kk
theorem mm_irem {x y : Int} (hd : decode mi.2.1 pc = .ok (.irem, 1)) (ha : mm_r32 x) (hb0 : mm_r32 y) (hne : y ≠ 0) (k : mm_G X d mc ms mi Po (pc + 1) L (v_i (x.tmod y) :: st) La M ck cs) : mm_G X d mc ms mi Po pc L (v_i (y) :: v_i (x) :: st) La M ck cs := by
  intro p l e R s m args below meth c A ad ty D H locs ls Q hAt hWd hL hK h1 h2
  have hx := hAt.1
  have hb := hAt.2.1
  have kk := k p l e R s m args below meth c A ad ty D H locs ls Q hAt hWd hL hK h1 h2
  change W p l e R s m args below meth c H locs ck cs Q (F0 m (pc + 1) ls (.int (Int32.ofInt (x.tmod y)) :: st.map (mm_cv ad))) at kk
  show W p l e R s m args below meth c H locs ck cs Q (F0 m pc ls (.int (Int32.ofInt (y)) :: .int (Int32.ofInt (x)) :: st.map (mm_cv ad)))
  have e : Int32.ofInt (x.tmod y) = Int32.ofInt x - Int32.ofInt x / Int32.ofInt y * Int32.ofInt y := by
    rw [← Int32.ofInt_tdiv (show (-2147483648 : Int) ≤ x from ha.1) (show x ≤ 2147483647 by omega) (show (-2147483648 : Int) ≤ y from hb0.1) (show y ≤ 2147483647 by omega), ← Int32.ofInt_mul, ← Int32.ofInt_sub]
    congr 1
    have := Int.tmod_add_mul_tdiv x y
    rw [Int.mul_comm] at this
    omega
  rw [e] at kk
  exact lv_irem hx hb hd (fun h => hne ((mm_eq32 hb0 (by omega)).mp h)) kk
theorem mm_ldiv {x y : Int} (hd : decode mi.2.1 pc = .ok (.ldiv, 1)) (ha : mm_r64 x) (hb0 : mm_r64 y) (hne : y ≠ 0) (k : mm_G X d mc ms mi Po (pc + 1) L (v_l (x.tdiv y) :: st) La M ck cs) : mm_G X d mc ms mi Po pc L (v_l (y) :: v_l (x) :: st) La M ck cs := by
  intro p l e R s m args below meth c A ad ty D H locs ls Q hAt hWd hL hK h1 h2
  have hx := hAt.1
  have hb := hAt.2.1
  have kk := k p l e R s m args below meth c A ad ty D H locs ls Q hAt hWd hL hK h1 h2
  change W p l e R s m args below meth c H locs ck cs Q (F0 m (pc + 1) ls (.long (Int64.ofInt (x.tdiv y)) :: st.map (mm_cv ad))) at kk
  show W p l e R s m args below meth c H locs ck cs Q (F0 m pc ls (.long (Int64.ofInt (y)) :: .long (Int64.ofInt (x)) :: st.map (mm_cv ad)))
  rw [Int64.ofInt_tdiv (show (-9223372036854775808 : Int) ≤ x from ha.1) (show x ≤ 9223372036854775807 by omega) (show (-9223372036854775808 : Int) ≤ y from hb0.1) (show y ≤ 9223372036854775807 by omega)] at kk
  exact lv_ldiv hx hb hd (fun h => hne ((mm_eq64 hb0 (by omega)).mp h)) kk
theorem mm_lrem {x y : Int} (hd : decode mi.2.1 pc = .ok (.lrem, 1)) (ha : mm_r64 x) (hb0 : mm_r64 y) (hne : y ≠ 0) (k : mm_G X d mc ms mi Po (pc + 1) L (v_l (x.tmod y) :: st) La M ck cs) : mm_G X d mc ms mi Po pc L (v_l (y) :: v_l (x) :: st) La M ck cs := by
  intro p l e R s m args below meth c A ad ty D H locs ls Q hAt hWd hL hK h1 h2
  have hx := hAt.1
  have hb := hAt.2.1
  have kk := k p l e R s m args below meth c A ad ty D H locs ls Q hAt hWd hL hK h1 h2
  change W p l e R s m args below meth c H locs ck cs Q (F0 m (pc + 1) ls (.long (Int64.ofInt (x.tmod y)) :: st.map (mm_cv ad))) at kk
  show W p l e R s m args below meth c H locs ck cs Q (F0 m pc ls (.long (Int64.ofInt (y)) :: .long (Int64.ofInt (x)) :: st.map (mm_cv ad)))
  have e : Int64.ofInt (x.tmod y) = Int64.ofInt x - Int64.ofInt x / Int64.ofInt y * Int64.ofInt y := by
    rw [← Int64.ofInt_tdiv (show (-9223372036854775808 : Int) ≤ x from ha.1) (show x ≤ 9223372036854775807 by omega) (show (-9223372036854775808 : Int) ≤ y from hb0.1) (show y ≤ 9223372036854775807 by omega), ← Int64.ofInt_mul, ← Int64.ofInt_sub]
    congr 1
    have := Int.tmod_add_mul_tdiv x y
    rw [Int.mul_comm] at this
    omega
  rw [e] at kk
  exact lv_lrem hx hb hd (fun h => hne ((mm_eq64 hb0 (by omega)).mp h)) kk
theorem mm_i2l {x : Int} (hd : decode mi.2.1 pc = .ok (.i2l, 1)) (ha : mm_r32 x) (k : mm_G X d mc ms mi Po (pc + 1) L (v_l (x) :: st) La M ck cs) : mm_G X d mc ms mi Po pc L (v_i (x) :: st) La M ck cs := by
  intro p l e R s m args below meth c A ad ty D H locs ls Q hAt hWd hL hK h1 h2
  have hx := hAt.1
  have hb := hAt.2.1
  have kk := k p l e R s m args below meth c A ad ty D H locs ls Q hAt hWd hL hK h1 h2
  change W p l e R s m args below meth c H locs ck cs Q (F0 m (pc + 1) ls (.long (Int64.ofInt (x)) :: st.map (mm_cv ad))) at kk
  show W p l e R s m args below meth c H locs ck cs Q (F0 m pc ls (.int (Int32.ofInt (x)) :: st.map (mm_cv ad)))
  exact lv_i2l hx hb hd (Int32.toInt64_ofInt (show (-2147483648 : Int) ≤ x from ha.1) (show x ≤ 2147483647 by omega)) kk
theorem mm_l2i {x : Int} (hd : decode mi.2.1 pc = .ok (.l2i, 1))  (k : mm_G X d mc ms mi Po (pc + 1) L (v_i (x) :: st) La M ck cs) : mm_G X d mc ms mi Po pc L (v_l (x) :: st) La M ck cs := by
  intro p l e R s m args below meth c A ad ty D H locs ls Q hAt hWd hL hK h1 h2
  have hx := hAt.1
  have hb := hAt.2.1
  have kk := k p l e R s m args below meth c A ad ty D H locs ls Q hAt hWd hL hK h1 h2
  change W p l e R s m args below meth c H locs ck cs Q (F0 m (pc + 1) ls (.int (Int32.ofInt (x)) :: st.map (mm_cv ad))) at kk
  show W p l e R s m args below meth c H locs ck cs Q (F0 m pc ls (.long (Int64.ofInt (x)) :: st.map (mm_cv ad)))
  exact lv_l2i hx hb hd Int64.toInt32_ofInt kk
theorem mm_i2c {x : Int} (hd : decode mi.2.1 pc = .ok (.i2c, 1)) (ha : ((Int32.ofInt x).toUInt32 % 65536).toInt32 = Int32.ofInt x) (k : mm_G X d mc ms mi Po (pc + 1) L (v_i (x) :: st) La M ck cs) : mm_G X d mc ms mi Po pc L (v_i (x) :: st) La M ck cs := by
  intro p l e R s m args below meth c A ad ty D H locs ls Q hAt hWd hL hK h1 h2
  have hx := hAt.1
  have hb := hAt.2.1
  have kk := k p l e R s m args below meth c A ad ty D H locs ls Q hAt hWd hL hK h1 h2
  change W p l e R s m args below meth c H locs ck cs Q (F0 m (pc + 1) ls (.int (Int32.ofInt (x)) :: st.map (mm_cv ad))) at kk
  show W p l e R s m args below meth c H locs ck cs Q (F0 m pc ls (.int (Int32.ofInt (x)) :: st.map (mm_cv ad)))
  exact lv_i2c hx hb hd ha kk
theorem mm_lcmp {x y : Int} (hd : decode mi.2.1 pc = .ok (.lcmp, 1)) (ha : mm_r64 x) (hb0 : mm_r64 y) (k : mm_G X d mc ms mi Po (pc + 1) L (v_i (mm_cmp x y) :: st) La M ck cs) : mm_G X d mc ms mi Po pc L (v_l (y) :: v_l (x) :: st) La M ck cs := by
  intro p l e R s m args below meth c A ad ty D H locs ls Q hAt hWd hL hK h1 h2
  have hx := hAt.1
  have hb := hAt.2.1
  have kk := k p l e R s m args below meth c A ad ty D H locs ls Q hAt hWd hL hK h1 h2
  change W p l e R s m args below meth c H locs ck cs Q (F0 m (pc + 1) ls (.int (Int32.ofInt (mm_cmp x y)) :: st.map (mm_cv ad))) at kk
  show W p l e R s m args below meth c H locs ck cs Q (F0 m pc ls (.long (Int64.ofInt (y)) :: .long (Int64.ofInt (x)) :: st.map (mm_cv ad)))
  rw [← mm_cmp64 ha hb0] at kk
  exact W.lcmp hx hb hd kk
theorem mm_dup_i {x : Int} (hd : decode mi.2.1 pc = .ok (.dup, 1))  (k : mm_G X d mc ms mi Po (pc + 1) L (v_i (x) :: v_i (x) :: st) La M ck cs) : mm_G X d mc ms mi Po pc L (v_i (x) :: st) La M ck cs := by
  intro p l e R s m args below meth c A ad ty D H locs ls Q hAt hWd hL hK h1 h2
  have hx := hAt.1
  have hb := hAt.2.1
  have kk := k p l e R s m args below meth c A ad ty D H locs ls Q hAt hWd hL hK h1 h2
  change W p l e R s m args below meth c H locs ck cs Q (F0 m (pc + 1) ls (.int (Int32.ofInt (x)) :: .int (Int32.ofInt (x)) :: st.map (mm_cv ad))) at kk
  show W p l e R s m args below meth c H locs ck cs Q (F0 m pc ls (.int (Int32.ofInt (x)) :: st.map (mm_cv ad)))
  exact lv_dup hx hb hd rfl kk
theorem mm_dup_r {x : Nat} (hd : decode mi.2.1 pc = .ok (.dup, 1))  (k : mm_G X d mc ms mi Po (pc + 1) L (v_r (x) :: v_r (x) :: st) La M ck cs) : mm_G X d mc ms mi Po pc L (v_r (x) :: st) La M ck cs := by
  intro p l e R s m args below meth c A ad ty D H locs ls Q hAt hWd hL hK h1 h2
  have hx := hAt.1
  have hb := hAt.2.1
  have kk := k p l e R s m args below meth c A ad ty D H locs ls Q hAt hWd hL hK h1 h2
  change W p l e R s m args below meth c H locs ck cs Q (F0 m (pc + 1) ls (.ref (ad (x)) :: .ref (ad (x)) :: st.map (mm_cv ad))) at kk
  show W p l e R s m args below meth c H locs ck cs Q (F0 m pc ls (.ref (ad (x)) :: st.map (mm_cv ad)))
  exact lv_dup hx hb hd rfl kk
theorem mm_dup2_ir {x : Int} {y : Nat} (hd : decode mi.2.1 pc = .ok (.dup2, 1))  (k : mm_G X d mc ms mi Po (pc + 1) L (v_i (x) :: v_r (y) :: v_i (x) :: v_r (y) :: st) La M ck cs) : mm_G X d mc ms mi Po pc L (v_i (x) :: v_r (y) :: st) La M ck cs := by
  intro p l e R s m args below meth c A ad ty D H locs ls Q hAt hWd hL hK h1 h2
  have hx := hAt.1
  have hb := hAt.2.1
  have kk := k p l e R s m args below meth c A ad ty D H locs ls Q hAt hWd hL hK h1 h2
  change W p l e R s m args below meth c H locs ck cs Q (F0 m (pc + 1) ls (.int (Int32.ofInt (x)) :: .ref (ad (y)) :: .int (Int32.ofInt (x)) :: .ref (ad (y)) :: st.map (mm_cv ad))) at kk
  show W p l e R s m args below meth c H locs ck cs Q (F0 m pc ls (.int (Int32.ofInt (x)) :: .ref (ad (y)) :: st.map (mm_cv ad)))
  exact lv_dup2_11 hx hb hd rfl rfl kk
theorem mm_pop_i {x : Int} (hd : decode mi.2.1 pc = .ok (.pop, 1))  (k : mm_G X d mc ms mi Po (pc + 1) L (st) La M ck cs) : mm_G X d mc ms mi Po pc L (v_i (x) :: st) La M ck cs := by
  intro p l e R s m args below meth c A ad ty D H locs ls Q hAt hWd hL hK h1 h2
  have hx := hAt.1
  have hb := hAt.2.1
  have kk := k p l e R s m args below meth c A ad ty D H locs ls Q hAt hWd hL hK h1 h2
  change W p l e R s m args below meth c H locs ck cs Q (F0 m (pc + 1) ls (st.map (mm_cv ad))) at kk
  show W p l e R s m args below meth c H locs ck cs Q (F0 m pc ls (.int (Int32.ofInt (x)) :: st.map (mm_cv ad)))
  exact lv_pop hx hb hd rfl kk
theorem mm_goto {off : Int} (tgt : Nat) (hd : decode mi.2.1 pc = .ok (.goto off, 3)) (ht : (pc : Int) + off = (tgt : Int)) (k : mm_G X d mc ms mi Po tgt L st La M ck cs) : mm_G X d mc ms mi Po pc L st La M ck cs := by
  intro p l e R s m args below meth c A ad ty D H locs ls Q hAt hWd hL hK h1 h2
  have hx := hAt.1
  have hb := hAt.2.1
  have kk := k p l e R s m args below meth c A ad ty D H locs ls Q hAt hWd hL hK h1 h2
  exact lv_goto hx hb hd ht kk
theorem mm_icmp_eq {x y off : Int} (tgt : Nat) (hd : decode mi.2.1 pc = .ok (.if_icmp .eq off, 3)) (ht : (pc : Int) + off = (tgt : Int)) (ha : mm_r32 x) (hb0 : mm_r32 y) (kt : x = y → mm_G X d mc ms mi Po tgt L st La M ck cs) (kf : ¬ x = y → mm_G X d mc ms mi Po (pc + 3) L st La M ck cs) : mm_G X d mc ms mi Po pc L (v_i y :: v_i x :: st) La M ck cs := by
  intro p l e R s m args below meth c A ad ty D H locs ls Q hAt hWd hL hK h1 h2
  have hx := hAt.1
  have hb := hAt.2.1
  show W p l e R s m args below meth c H locs ck cs Q (F0 m pc ls (.int (Int32.ofInt y) :: .int (Int32.ofInt x) :: st.map (mm_cv ad)))
  exact lv_icmp_eq hx hb hd ht (fun h => kt ((mm_eq32 ha hb0).mp h) p l e R s m args below meth c A ad ty D H locs ls Q hAt hWd hL hK h1 h2) (fun h => kf (fun h3 => h ((mm_eq32 ha hb0).mpr h3)) p l e R s m args below meth c A ad ty D H locs ls Q hAt hWd hL hK h1 h2)
theorem mm_if_eq {x off : Int} (tgt : Nat) (hd : decode mi.2.1 pc = .ok (.ifCond .eq off, 3)) (ht : (pc : Int) + off = (tgt : Int)) (ha : mm_r32 x) (kt : x = 0 → mm_G X d mc ms mi Po tgt L st La M ck cs) (kf : ¬ x = 0 → mm_G X d mc ms mi Po (pc + 3) L st La M ck cs) : mm_G X d mc ms mi Po pc L (v_i x :: st) La M ck cs := by
  intro p l e R s m args below meth c A ad ty D H locs ls Q hAt hWd hL hK h1 h2
  have hx := hAt.1
  have hb := hAt.2.1
  have hb0 : mm_r32 0 := by decide
  show W p l e R s m args below meth c H locs ck cs Q (F0 m pc ls (.int (Int32.ofInt x) :: st.map (mm_cv ad)))
  exact lv_if_eq hx hb hd ht (fun h => kt ((mm_eq32 ha hb0).mp h) p l e R s m args below meth c A ad ty D H locs ls Q hAt hWd hL hK h1 h2) (fun h => kf (fun h3 => h ((mm_eq32 ha hb0).mpr h3)) p l e R s m args below meth c A ad ty D H locs ls Q hAt hWd hL hK h1 h2)
theorem mm_icmp_ne {x y off : Int} (tgt : Nat) (hd : decode mi.2.1 pc = .ok (.if_icmp .ne off, 3)) (ht : (pc : Int) + off = (tgt : Int)) (ha : mm_r32 x) (hb0 : mm_r32 y) (kt : ¬ x = y → mm_G X d mc ms mi Po tgt L st La M ck cs) (kf : x = y → mm_G X d mc ms mi Po (pc + 3) L st La M ck cs) : mm_G X d mc ms mi Po pc L (v_i y :: v_i x :: st) La M ck cs := by
  intro p l e R s m args below meth c A ad ty D H locs ls Q hAt hWd hL hK h1 h2
  have hx := hAt.1
  have hb := hAt.2.1
  show W p l e R s m args below meth c H locs ck cs Q (F0 m pc ls (.int (Int32.ofInt y) :: .int (Int32.ofInt x) :: st.map (mm_cv ad)))
  exact lv_icmp_ne hx hb hd ht (fun h => kt (fun h3 => h ((mm_eq32 ha hb0).mpr h3)) p l e R s m args below meth c A ad ty D H locs ls Q hAt hWd hL hK h1 h2) (fun h => kf ((mm_eq32 ha hb0).mp h) p l e R s m args below meth c A ad ty D H locs ls Q hAt hWd hL hK h1 h2)
theorem mm_if_ne {x off : Int} (tgt : Nat) (hd : decode mi.2.1 pc = .ok (.ifCond .ne off, 3)) (ht : (pc : Int) + off = (tgt : Int)) (ha : mm_r32 x) (kt : ¬ x = 0 → mm_G X d mc ms mi Po tgt L st La M ck cs) (kf : x = 0 → mm_G X d mc ms mi Po (pc + 3) L st La M ck cs) : mm_G X d mc ms mi Po pc L (v_i x :: st) La M ck cs := by
  intro p l e R s m args below meth c A ad ty D H locs ls Q hAt hWd hL hK h1 h2
  have hx := hAt.1
  have hb := hAt.2.1
  have hb0 : mm_r32 0 := by decide
  show W p l e R s m args below meth c H locs ck cs Q (F0 m pc ls (.int (Int32.ofInt x) :: st.map (mm_cv ad)))
  exact lv_if_ne hx hb hd ht (fun h => kt (fun h3 => h ((mm_eq32 ha hb0).mpr h3)) p l e R s m args below meth c A ad ty D H locs ls Q hAt hWd hL hK h1 h2) (fun h => kf ((mm_eq32 ha hb0).mp h) p l e R s m args below meth c A ad ty D H locs ls Q hAt hWd hL hK h1 h2)
theorem mm_icmp_lt {x y off : Int} (tgt : Nat) (hd : decode mi.2.1 pc = .ok (.if_icmp .lt off, 3)) (ht : (pc : Int) + off = (tgt : Int)) (ha : mm_r32 x) (hb0 : mm_r32 y) (kt : x < y → mm_G X d mc ms mi Po tgt L st La M ck cs) (kf : y ≤ x → mm_G X d mc ms mi Po (pc + 3) L st La M ck cs) : mm_G X d mc ms mi Po pc L (v_i y :: v_i x :: st) La M ck cs := by
  intro p l e R s m args below meth c A ad ty D H locs ls Q hAt hWd hL hK h1 h2
  have hx := hAt.1
  have hb := hAt.2.1
  show W p l e R s m args below meth c H locs ck cs Q (F0 m pc ls (.int (Int32.ofInt y) :: .int (Int32.ofInt x) :: st.map (mm_cv ad)))
  exact lv_icmp_lt hx hb hd ht (fun h => kt ((mm_lt32 ha hb0).mp h) p l e R s m args below meth c A ad ty D H locs ls Q hAt hWd hL hK h1 h2) (fun h => kf (Int.not_lt.mp (fun h3 => h ((mm_lt32 ha hb0).mpr h3))) p l e R s m args below meth c A ad ty D H locs ls Q hAt hWd hL hK h1 h2)
theorem mm_if_lt {x off : Int} (tgt : Nat) (hd : decode mi.2.1 pc = .ok (.ifCond .lt off, 3)) (ht : (pc : Int) + off = (tgt : Int)) (ha : mm_r32 x) (kt : x < 0 → mm_G X d mc ms mi Po tgt L st La M ck cs) (kf : 0 ≤ x → mm_G X d mc ms mi Po (pc + 3) L st La M ck cs) : mm_G X d mc ms mi Po pc L (v_i x :: st) La M ck cs := by
  intro p l e R s m args below meth c A ad ty D H locs ls Q hAt hWd hL hK h1 h2
  have hx := hAt.1
  have hb := hAt.2.1
  have hb0 : mm_r32 0 := by decide
  show W p l e R s m args below meth c H locs ck cs Q (F0 m pc ls (.int (Int32.ofInt x) :: st.map (mm_cv ad)))
  exact lv_if_lt hx hb hd ht (fun h => kt ((mm_lt32 ha hb0).mp h) p l e R s m args below meth c A ad ty D H locs ls Q hAt hWd hL hK h1 h2) (fun h => kf (Int.not_lt.mp (fun h3 => h ((mm_lt32 ha hb0).mpr h3))) p l e R s m args below meth c A ad ty D H locs ls Q hAt hWd hL hK h1 h2)
theorem mm_icmp_ge {x y off : Int} (tgt : Nat) (hd : decode mi.2.1 pc = .ok (.if_icmp .ge off, 3)) (ht : (pc : Int) + off = (tgt : Int)) (ha : mm_r32 x) (hb0 : mm_r32 y) (kt : y ≤ x → mm_G X d mc ms mi Po tgt L st La M ck cs) (kf : x < y → mm_G X d mc ms mi Po (pc + 3) L st La M ck cs) : mm_G X d mc ms mi Po pc L (v_i y :: v_i x :: st) La M ck cs := by
  intro p l e R s m args below meth c A ad ty D H locs ls Q hAt hWd hL hK h1 h2
  have hx := hAt.1
  have hb := hAt.2.1
  show W p l e R s m args below meth c H locs ck cs Q (F0 m pc ls (.int (Int32.ofInt y) :: .int (Int32.ofInt x) :: st.map (mm_cv ad)))
  exact lv_icmp_ge hx hb hd ht (fun h => kt ((mm_le32 hb0 ha).mp h) p l e R s m args below meth c A ad ty D H locs ls Q hAt hWd hL hK h1 h2) (fun h => kf (Int.not_le.mp (fun h3 => h ((mm_le32 hb0 ha).mpr h3))) p l e R s m args below meth c A ad ty D H locs ls Q hAt hWd hL hK h1 h2)
theorem mm_if_ge {x off : Int} (tgt : Nat) (hd : decode mi.2.1 pc = .ok (.ifCond .ge off, 3)) (ht : (pc : Int) + off = (tgt : Int)) (ha : mm_r32 x) (kt : 0 ≤ x → mm_G X d mc ms mi Po tgt L st La M ck cs) (kf : x < 0 → mm_G X d mc ms mi Po (pc + 3) L st La M ck cs) : mm_G X d mc ms mi Po pc L (v_i x :: st) La M ck cs := by
  intro p l e R s m args below meth c A ad ty D H locs ls Q hAt hWd hL hK h1 h2
  have hx := hAt.1
  have hb := hAt.2.1
  have hb0 : mm_r32 0 := by decide
  show W p l e R s m args below meth c H locs ck cs Q (F0 m pc ls (.int (Int32.ofInt x) :: st.map (mm_cv ad)))
  exact lv_if_ge hx hb hd ht (fun h => kt ((mm_le32 hb0 ha).mp h) p l e R s m args below meth c A ad ty D H locs ls Q hAt hWd hL hK h1 h2) (fun h => kf (Int.not_le.mp (fun h3 => h ((mm_le32 hb0 ha).mpr h3))) p l e R s m args below meth c A ad ty D H locs ls Q hAt hWd hL hK h1 h2)
theorem mm_icmp_gt {x y off : Int} (tgt : Nat) (hd : decode mi.2.1 pc = .ok (.if_icmp .gt off, 3)) (ht : (pc : Int) + off = (tgt : Int)) (ha : mm_r32 x) (hb0 : mm_r32 y) (kt : y < x → mm_G X d mc ms mi Po tgt L st La M ck cs) (kf : x ≤ y → mm_G X d mc ms mi Po (pc + 3) L st La M ck cs) : mm_G X d mc ms mi Po pc L (v_i y :: v_i x :: st) La M ck cs := by
  intro p l e R s m args below meth c A ad ty D H locs ls Q hAt hWd hL hK h1 h2
  have hx := hAt.1
  have hb := hAt.2.1
  show W p l e R s m args below meth c H locs ck cs Q (F0 m pc ls (.int (Int32.ofInt y) :: .int (Int32.ofInt x) :: st.map (mm_cv ad)))
  exact lv_icmp_gt hx hb hd ht (fun h => kt ((mm_lt32 hb0 ha).mp h) p l e R s m args below meth c A ad ty D H locs ls Q hAt hWd hL hK h1 h2) (fun h => kf (Int.not_lt.mp (fun h3 => h ((mm_lt32 hb0 ha).mpr h3))) p l e R s m args below meth c A ad ty D H locs ls Q hAt hWd hL hK h1 h2)
theorem mm_if_gt {x off : Int} (tgt : Nat) (hd : decode mi.2.1 pc = .ok (.ifCond .gt off, 3)) (ht : (pc : Int) + off = (tgt : Int)) (ha : mm_r32 x) (kt : 0 < x → mm_G X d mc ms mi Po tgt L st La M ck cs) (kf : x ≤ 0 → mm_G X d mc ms mi Po (pc + 3) L st La M ck cs) : mm_G X d mc ms mi Po pc L (v_i x :: st) La M ck cs := by
  intro p l e R s m args below meth c A ad ty D H locs ls Q hAt hWd hL hK h1 h2
  have hx := hAt.1
  have hb := hAt.2.1
  have hb0 : mm_r32 0 := by decide
  show W p l e R s m args below meth c H locs ck cs Q (F0 m pc ls (.int (Int32.ofInt x) :: st.map (mm_cv ad)))
  exact lv_if_gt hx hb hd ht (fun h => kt ((mm_lt32 hb0 ha).mp h) p l e R s m args below meth c A ad ty D H locs ls Q hAt hWd hL hK h1 h2) (fun h => kf (Int.not_lt.mp (fun h3 => h ((mm_lt32 hb0 ha).mpr h3))) p l e R s m args below meth c A ad ty D H locs ls Q hAt hWd hL hK h1 h2)
theorem mm_icmp_le {x y off : Int} (tgt : Nat) (hd : decode mi.2.1 pc = .ok (.if_icmp .le off, 3)) (ht : (pc : Int) + off = (tgt : Int)) (ha : mm_r32 x) (hb0 : mm_r32 y) (kt : x ≤ y → mm_G X d mc ms mi Po tgt L st La M ck cs) (kf : y < x → mm_G X d mc ms mi Po (pc + 3) L st La M ck cs) : mm_G X d mc ms mi Po pc L (v_i y :: v_i x :: st) La M ck cs := by
  intro p l e R s m args below meth c A ad ty D H locs ls Q hAt hWd hL hK h1 h2
  have hx := hAt.1
  have hb := hAt.2.1
  show W p l e R s m args below meth c H locs ck cs Q (F0 m pc ls (.int (Int32.ofInt y) :: .int (Int32.ofInt x) :: st.map (mm_cv ad)))
  exact lv_icmp_le hx hb hd ht (fun h => kt ((mm_le32 ha hb0).mp h) p l e R s m args below meth c A ad ty D H locs ls Q hAt hWd hL hK h1 h2) (fun h => kf (Int.not_le.mp (fun h3 => h ((mm_le32 ha hb0).mpr h3))) p l e R s m args below meth c A ad ty D H locs ls Q hAt hWd hL hK h1 h2)
theorem mm_if_le {x off : Int} (tgt : Nat) (hd : decode mi.2.1 pc = .ok (.ifCond .le off, 3)) (ht : (pc : Int) + off = (tgt : Int)) (ha : mm_r32 x) (kt : x ≤ 0 → mm_G X d mc ms mi Po tgt L st La M ck cs) (kf : 0 < x → mm_G X d mc ms mi Po (pc + 3) L st La M ck cs) : mm_G X d mc ms mi Po pc L (v_i x :: st) La M ck cs := by
  intro p l e R s m args below meth c A ad ty D H locs ls Q hAt hWd hL hK h1 h2
  have hx := hAt.1
  have hb := hAt.2.1
  have hb0 : mm_r32 0 := by decide
  show W p l e R s m args below meth c H locs ck cs Q (F0 m pc ls (.int (Int32.ofInt x) :: st.map (mm_cv ad)))
  exact lv_if_le hx hb hd ht (fun h => kt ((mm_le32 ha hb0).mp h) p l e R s m args below meth c A ad ty D H locs ls Q hAt hWd hL hK h1 h2) (fun h => kf (Int.not_le.mp (fun h3 => h ((mm_le32 ha hb0).mpr h3))) p l e R s m args below meth c A ad ty D H locs ls Q hAt hWd hL hK h1 h2)
theorem mm_tabOut {x dflt lo hi : Int} {offs : Array Int} {len : Nat} (tgt : Nat) (hd : decode mi.2.1 pc = .ok (.tableswitch dflt lo hi offs, len)) (ha : mm_r32 x) (h : x < lo ∨ hi < x) (ht : (pc : Int) + dflt = (tgt : Int)) (k : mm_G X d mc ms mi Po tgt L st La M ck cs) : mm_G X d mc ms mi Po pc L (v_i x :: st) La M ck cs := by
  intro p l e R s m args below meth c A ad ty D H locs ls Q hAt hWd hL hK h1 h2
  have hx := hAt.1
  have hb := hAt.2.1
  have kk := k p l e R s m args below meth c A ad ty D H locs ls Q hAt hWd hL hK h1 h2
  exact lv_tableOut hx hb hd (by rw [mm_o32 ha]; exact h) ht kk
theorem mm_tabIn {x dflt lo hi off : Int} {offs : Array Int} {len : Nat} (tgt : Nat) (hd : decode mi.2.1 pc = .ok (.tableswitch dflt lo hi offs, len)) (ha : mm_r32 x) (h3 : lo ≤ x) (h4 : x ≤ hi) (ho : offs[(x - lo).toNat]? = some off) (ht : (pc : Int) + off = (tgt : Int)) (k : mm_G X d mc ms mi Po tgt L st La M ck cs) : mm_G X d mc ms mi Po pc L (v_i x :: st) La M ck cs := by
  intro p l e R s m args below meth c A ad ty D H locs ls Q hAt hWd hL hK h1 h2
  have hx := hAt.1
  have hb := hAt.2.1
  have kk := k p l e R s m args below meth c A ad ty D H locs ls Q hAt hWd hL hK h1 h2
  exact lv_tableIn hx hb hd (by rw [mm_o32 ha]; omega) (by rw [mm_o32 ha]; omega) (by rw [mm_o32 ha]; exact ho) ht kk
theorem mm_ret (hd : decode mi.2.1 pc = .ok (.return_, 1)) (hr : mi.2.2.2 = none) (h : Po none La M) : mm_G X d mc ms mi Po pc L [] La M ck cs := by
  intro p l e R s m args below meth c A ad ty D H locs ls Q hAt hWd hL hK h1 h2
  have hx := hAt.1
  have hb := hAt.2.1
  exact hK none La M ad H locs ls pc ck cs h ⟨hd, hr⟩ (fun _ _ => rfl) hWd h1 h2
theorem mm_iret {z : Int} (hd : decode mi.2.1 pc = .ok (.ireturn, 1)) (hr : mi.2.2.2 = some .int) (h : Po (some (v_i z)) La M) : mm_G X d mc ms mi Po pc L [v_i z] La M ck cs := by
  intro p l e R s m args below meth c A ad ty D H locs ls Q hAt hWd hL hK h1 h2
  have hx := hAt.1
  have hb := hAt.2.1
  exact hK (some (v_i z)) La M ad H locs ls pc ck cs h ⟨hd, .int, hr, rfl⟩ (fun _ _ => rfl) hWd h1 h2
theorem mm_zret {z : Int} (t : FieldType) (hd : decode mi.2.1 pc = .ok (.ireturn, 1)) (hr : mi.2.2.2 = some t) (hn : narrow t (.int (Int32.ofInt z)) = .int (Int32.ofInt z)) (h : Po (some (v_i z)) La M) : mm_G X d mc ms mi Po pc L [v_i z] La M ck cs := by
  intro p l e R s m args below meth c A ad ty D H locs ls Q hAt hWd hL hK h1 h2
  have hx := hAt.1
  have hb := hAt.2.1
  exact hK (some (v_i z)) La M ad H locs ls pc ck cs h ⟨hd, t, hr, hn⟩ (fun _ _ => rfl) hWd h1 h2
theorem mm_lret {z : Int} (hd : decode mi.2.1 pc = .ok (.lreturn, 1)) (hr : mi.2.2.2 = some .long) (h : Po (some (v_l z)) La M) : mm_G X d mc ms mi Po pc L [v_l z] La M ck cs := by
  intro p l e R s m args below meth c A ad ty D H locs ls Q hAt hWd hL hK h1 h2
  have hx := hAt.1
  have hb := hAt.2.1
  exact hK (some (v_l z)) La M ad H locs ls pc ck cs h ⟨hd, hr⟩ (fun _ _ => rfl) hWd h1 h2
theorem mm_ldc {i : Nat} {z : Int} (hd : decode mi.2.1 pc = .ok (.ldc i, 2)) (w : Cond.constant mi.1.cls i (Int32.ofInt z) ∈ mm_tbl) (k : mm_G X d mc ms mi Po (pc + 2) L (v_i (z) :: st) La M ck cs) : mm_G X d mc ms mi Po pc L (st) La M ck cs := by
  intro p l e R s m args below meth c A ad ty D H locs ls Q hAt hWd hL hK h1 h2
  have hx := hAt.1
  have hb := hAt.2.1
  have kk := k p l e R s m args below meth c A ad ty D H locs ls Q hAt hWd hL hK h1 h2
  change W p l e R s m args below meth c H locs ck cs Q (F0 m (pc + 2) ls (.int (Int32.ofInt (z)) :: st.map (mm_cv ad))) at kk
  show W p l e R s m args below meth c H locs ck cs Q (F0 m pc ls (st.map (mm_cv ad)))
  exact lv_ldc hx hb hAt.2.2.2.1 (hAt.2.2.2.2.1 _ w) hd kk
theorem mm_ldcw {i : Nat} {z : Int} (hd : decode mi.2.1 pc = .ok (.ldc_w i, 3)) (w : Cond.constant mi.1.cls i (Int32.ofInt z) ∈ mm_tbl) (k : mm_G X d mc ms mi Po (pc + 3) L (v_i (z) :: st) La M ck cs) : mm_G X d mc ms mi Po pc L (st) La M ck cs := by
  intro p l e R s m args below meth c A ad ty D H locs ls Q hAt hWd hL hK h1 h2
  have hx := hAt.1
  have hb := hAt.2.1
  have kk := k p l e R s m args below meth c A ad ty D H locs ls Q hAt hWd hL hK h1 h2
  change W p l e R s m args below meth c H locs ck cs Q (F0 m (pc + 3) ls (.int (Int32.ofInt (z)) :: st.map (mm_cv ad))) at kk
  show W p l e R s m args below meth c H locs ck cs Q (F0 m pc ls (st.map (mm_cv ad)))
  exact lv_ldcw hx hb hAt.2.2.2.1 (hAt.2.2.2.2.1 _ w) hd kk
theorem mm_ldc2 {i : Nat} {z : Int} (hd : decode mi.2.1 pc = .ok (.ldc2_w i, 3)) (w : Cond.constantLong mi.1.cls i (Int64.ofInt z) ∈ mm_tbl) (k : mm_G X d mc ms mi Po (pc + 3) L (v_l (z) :: st) La M ck cs) : mm_G X d mc ms mi Po pc L (st) La M ck cs := by
  intro p l e R s m args below meth c A ad ty D H locs ls Q hAt hWd hL hK h1 h2
  have hx := hAt.1
  have hb := hAt.2.1
  have kk := k p l e R s m args below meth c A ad ty D H locs ls Q hAt hWd hL hK h1 h2
  change W p l e R s m args below meth c H locs ck cs Q (F0 m (pc + 3) ls (.long (Int64.ofInt (z)) :: st.map (mm_cv ad))) at kk
  show W p l e R s m args below meth c H locs ck cs Q (F0 m pc ls (st.map (mm_cv ad)))
  exact lv_ldc2 hx hb hAt.2.2.2.1 (hAt.2.2.2.2.1 _ w) hd kk
end MMR
end
section
section MMH
variable {X : Nat × (Nat → Int)} {d mc ms : Nat} {mi : mm_Mi} {Po : mm_Po} {pc : Nat} {L : List (Nat × mm_V)} {st : List mm_V} {La : List mm_S} {M : mm_M} {ck cs : Nat}
theorem mm_fs_at {ad : Nat → Nat} {f : Nat → Int} {fs : List mm_V} {k : Nat} {v : mm_V} (h : fs[k]? = some v) : (fs.mapIdx (mm_fv ad f))[k]? = some (mm_fv ad f k v) := by
  simp [List.getElem?_mapIdx, h]
theorem mm_getI {idx b ci N k : Nat} {C : String} {T : u_T} {fs : List mm_V} {z : Int} (hd : decode mi.2.1 pc = .ok (.getfield idx, 3)) (hc : vwCl[ci]? = some (C, T, N)) (hin : ∀ w ∈ u_ws C T N, w ∈ mm_tbl) (hk : k < N) (w : Cond.fieldLink mi.1.cls idx (T k).1 (T k).2.1 (T k).2.2.1 ∈ mm_tbl) (hb : La[b]? = some (.inr (ci, fs))) (hf : fs[k]? = some (v_i z)) (K : mm_G X d mc ms mi Po (pc + 3) L (v_i (M b k) :: st) La M ck cs) : mm_G X d mc ms mi Po pc L (v_r b :: st) La M ck cs := by
  intro p l e R s m args below meth c A ad ty D H locs ls Q hAt hWd hL hK h1 h2
  have kk := K p l e R s m args below meth c A ad ty D H locs ls Q hAt hWd hL hK h1 h2
  exact va_get hAt.1 hAt.2.1 hAt.2.2.2.2.1 hin hAt.2.2.2.1 hAt.2.2.2.2.2.2.2.1 hWd.1 b (mm_ws_at hb) hc k hk (hAt.2.2.2.2.1 _ w) (fun _ h => h) (mm_fs_at hf) hd kk
theorem mm_getL {idx b ci N k : Nat} {C : String} {T : u_T} {fs : List mm_V} {z : Int} (hd : decode mi.2.1 pc = .ok (.getfield idx, 3)) (hc : vwCl[ci]? = some (C, T, N)) (hin : ∀ w ∈ u_ws C T N, w ∈ mm_tbl) (hk : k < N) (w : Cond.fieldLink mi.1.cls idx (T k).1 (T k).2.1 (T k).2.2.1 ∈ mm_tbl) (hb : La[b]? = some (.inr (ci, fs))) (hf : fs[k]? = some (v_l z)) (K : mm_G X d mc ms mi Po (pc + 3) L (v_l (M b k) :: st) La M ck cs) : mm_G X d mc ms mi Po pc L (v_r b :: st) La M ck cs := by
  intro p l e R s m args below meth c A ad ty D H locs ls Q hAt hWd hL hK h1 h2
  have kk := K p l e R s m args below meth c A ad ty D H locs ls Q hAt hWd hL hK h1 h2
  exact va_get hAt.1 hAt.2.1 hAt.2.2.2.2.1 hin hAt.2.2.2.1 hAt.2.2.2.2.2.2.2.1 hWd.1 b (mm_ws_at hb) hc k hk (hAt.2.2.2.2.1 _ w) (fun _ h => h) (mm_fs_at hf) hd kk
theorem mm_getR {idx b ci N k a : Nat} {C : String} {T : u_T} {fs : List mm_V} (hd : decode mi.2.1 pc = .ok (.getfield idx, 3)) (hc : vwCl[ci]? = some (C, T, N)) (hin : ∀ w ∈ u_ws C T N, w ∈ mm_tbl) (hk : k < N) (w : Cond.fieldLink mi.1.cls idx (T k).1 (T k).2.1 (T k).2.2.1 ∈ mm_tbl) (hb : La[b]? = some (.inr (ci, fs))) (hf : fs[k]? = some (v_r a)) (K : mm_G X d mc ms mi Po (pc + 3) L (v_r a :: st) La M ck cs) : mm_G X d mc ms mi Po pc L (v_r b :: st) La M ck cs := by
  intro p l e R s m args below meth c A ad ty D H locs ls Q hAt hWd hL hK h1 h2
  have kk := K p l e R s m args below meth c A ad ty D H locs ls Q hAt hWd hL hK h1 h2
  exact va_get hAt.1 hAt.2.1 hAt.2.2.2.2.1 hin hAt.2.2.2.1 hAt.2.2.2.2.2.2.2.1 hWd.1 b (mm_ws_at hb) hc k hk (hAt.2.2.2.2.1 _ w) (fun _ h => h) (mm_fs_at hf) hd kk
theorem mm_fs_up {ad : Nat → Nat} {M : mm_M} {b k : Nat} {v : Int} {fs : List mm_V} {q : mm_V} {w : Value} (h : fs[k]? = some q) (hw : w = mm_fv ad (mm_up M b k v b) k q) : (fs.mapIdx (mm_fv ad (M b))).set k w = fs.mapIdx (mm_fv ad (mm_up M b k v b)) := by
  have hk : k < fs.length := (List.getElem?_eq_some_iff.mp h).1
  apply List.ext_getElem?
  intro j
  by_cases hj : j = k
  · subst hj
    rw [List.getElem?_set_self (by simpa using hk), mm_fs_at h, hw]
  · rw [List.getElem?_set_ne (Ne.symm hj)]
    simp only [List.getElem?_mapIdx]
    congr 1
    funext x
    rcases x with x | x | _ | a <;> simp only [mm_fv, mm_up_k hj]
theorem mm_putI {idx b ci N k : Nat} {C : String} {T : u_T} {fs : List mm_V} {z x : Int} {ty0 : Nat → FieldType} (hd : decode mi.2.1 pc = .ok (.putfield idx, 3)) (hc : vwCl[ci]? = some (C, T, N)) (hin : ∀ w ∈ u_ws C T N, w ∈ mm_tbl) (hty : ∀ k, k < N → parseFieldDescriptor (T k).2.2.1 = some (ty0 k)) (hnm : ∀ a, a < N → ∀ b, b < N → a ≠ b → (T a).2.1 ≠ (T b).2.1) (hk : k < N) (w : Cond.fieldLink mi.1.cls idx (T k).1 (T k).2.1 (T k).2.2.1 ∈ mm_tbl) (hfin : (T k).2.2.2 = false) (ht : ty0 k = .int) (hb : La[b]? = some (.inr (ci, fs))) (hf : fs[k]? = some (v_i z)) (K : mm_G X d mc ms mi Po (pc + 3) L st La (mm_up M b k x) ck cs) : mm_G X d mc ms mi Po pc L (v_i x :: v_r b :: st) La M ck cs := by
  intro p l e R s m args below meth c A ad ty D H locs ls Q hAt hWd hL hK h1 h2
  refine va_put (v := .int (Int32.ofInt x)) (ty := .int) hAt.1 hAt.2.1 hAt.2.2.2.2.1 hin ty0 hty hnm hAt.2.2.2.1 hAt.2.2.2.2.2.2.2.1 hWd.1 hWd.2.1 hWd.2.2 b (mm_ws_at hb) hc k hk (hAt.2.2.2.2.1 _ w) (fun _ h => h) hfin (by rw [hty k hk, ht]) rfl rfl (by simpa using (List.getElem?_eq_some_iff.mp hf).1) hd (fun H1 locs1 hP hD hS => ?_)
  rw [mm_fs_up (v := x) hf (by simp only [mm_fv, mm_up_eq])] at hP hD
  have hP : va_P D vwCl (mm_ws ty ad La (mm_up M b k x)) H1 := by rw [← mm_ws_up (k := k) (v := x) hb]; exact hP
  have hD : va_D A (mm_ws ty ad La (mm_up M b k x)) := by rw [← mm_ws_up (k := k) (v := x) hb]; exact hD
  exact K p l e R s m args below meth c A ad ty D H1 locs1 ls Q hAt ⟨hP, hD, hS⟩ hL hK h1 h2
theorem mm_putL {idx b ci N k : Nat} {C : String} {T : u_T} {fs : List mm_V} {z x : Int} {ty0 : Nat → FieldType} (hd : decode mi.2.1 pc = .ok (.putfield idx, 3)) (hc : vwCl[ci]? = some (C, T, N)) (hin : ∀ w ∈ u_ws C T N, w ∈ mm_tbl) (hty : ∀ k, k < N → parseFieldDescriptor (T k).2.2.1 = some (ty0 k)) (hnm : ∀ a, a < N → ∀ b, b < N → a ≠ b → (T a).2.1 ≠ (T b).2.1) (hk : k < N) (w : Cond.fieldLink mi.1.cls idx (T k).1 (T k).2.1 (T k).2.2.1 ∈ mm_tbl) (hfin : (T k).2.2.2 = false) (ht : ty0 k = .long) (hb : La[b]? = some (.inr (ci, fs))) (hf : fs[k]? = some (v_l z)) (K : mm_G X d mc ms mi Po (pc + 3) L st La (mm_up M b k x) ck cs) : mm_G X d mc ms mi Po pc L (v_l x :: v_r b :: st) La M ck cs := by
  intro p l e R s m args below meth c A ad ty D H locs ls Q hAt hWd hL hK h1 h2
  refine va_put (v := .long (Int64.ofInt x)) (ty := .long) hAt.1 hAt.2.1 hAt.2.2.2.2.1 hin ty0 hty hnm hAt.2.2.2.1 hAt.2.2.2.2.2.2.2.1 hWd.1 hWd.2.1 hWd.2.2 b (mm_ws_at hb) hc k hk (hAt.2.2.2.2.1 _ w) (fun _ h => h) hfin (by rw [hty k hk, ht]) rfl rfl (by simpa using (List.getElem?_eq_some_iff.mp hf).1) hd (fun H1 locs1 hP hD hS => ?_)
  rw [mm_fs_up (v := x) hf (by simp only [mm_fv, mm_up_eq])] at hP hD
  have hP : va_P D vwCl (mm_ws ty ad La (mm_up M b k x)) H1 := by rw [← mm_ws_up (k := k) (v := x) hb]; exact hP
  have hD : va_D A (mm_ws ty ad La (mm_up M b k x)) := by rw [← mm_ws_up (k := k) (v := x) hb]; exact hD
  exact K p l e R s m args below meth c A ad ty D H1 locs1 ls Q hAt ⟨hP, hD, hS⟩ hL hK h1 h2
/-- a final field of references, in a constructor -/
theorem mm_ws_ref {ty : FieldType → ClassId} {ad : Nat → Nat} {M : mm_M} {b k ci a : Nat} {fs : List mm_V} (hb : La[b]? = some (.inr (ci, fs))) (hk : k < fs.length) :
    (mm_ws ty ad La M).set b (ad b, .inr (ci, (fs.mapIdx (mm_fv ad (M b))).set k (.ref (ad a)))) = mm_ws ty ad (La.set b (.inr (ci, fs.set k (v_r a)))) M := by
  have hi : b < La.length := (List.getElem?_eq_some_iff.mp hb).1
  apply List.ext_getElem?
  intro j
  by_cases hj : j = b
  · subst hj
    rw [List.getElem?_set_self (by simpa [mm_ws] using hi), mm_ws_at (List.getElem?_set_self hi)]
    have e : (fs.mapIdx (mm_fv ad (M j))).set k (.ref (ad a)) = (fs.set k (v_r a)).mapIdx (mm_fv ad (M j)) := by
      apply List.ext_getElem?
      intro i
      by_cases hik : i = k
      · subst hik
        rw [List.getElem?_set_self (by simpa using hk), mm_fs_at (List.getElem?_set_self hk)]
        rfl
      · rw [List.getElem?_set_ne (Ne.symm hik)]
        simp only [List.getElem?_mapIdx, List.getElem?_set_ne (Ne.symm hik)]
    rw [e]
    rfl
  · rw [List.getElem?_set_ne (Ne.symm hj)]
    simp only [mm_ws, List.getElem?_mapIdx, List.getElem?_set_ne (Ne.symm hj)]
theorem mm_putR {idx b ci N k a : Nat} {C : String} {T : u_T} {fs : List mm_V} {ty0 : Nat → FieldType} {La' : List mm_S} (hd : decode mi.2.1 pc = .ok (.putfield idx, 3)) (hc : vwCl[ci]? = some (C, T, N)) (hin : ∀ w ∈ u_ws C T N, w ∈ mm_tbl) (hty : ∀ k, k < N → parseFieldDescriptor (T k).2.2.1 = some (ty0 k)) (hnm : ∀ a, a < N → ∀ b, b < N → a ≠ b → (T a).2.1 ≠ (T b).2.1) (hk : k < N) (w : Cond.fieldLink mi.1.cls idx (T k).1 (T k).2.1 (T k).2.2.1 ∈ mm_tbl) (hfin : (T k).2.2.2 = true) (hinit : mi.1.name = "<init>") (hdecl : (T k).1 = mi.1.cls) (hn : ∀ q : Nat, narrow (ty0 k) (.ref q) = .ref q) (hfit : ∀ q : Nat, fits (ty0 k) (.ref q) = true) (hb : La[b]? = some (.inr (ci, fs))) (hf : k < fs.length) (hL' : La.set b (.inr (ci, fs.set k (v_r a))) = La') (K : mm_G X d mc ms mi Po (pc + 3) L st La' M ck cs) : mm_G X d mc ms mi Po pc L (v_r a :: v_r b :: st) La M ck cs := by
  intro p l e R s m args below meth c A ad ty D H locs ls Q hAt hWd hL hK h1 h2
  subst hL'
  refine va_putF (v := .ref (ad a)) (ty := ty0 k) hAt.1 hAt.2.1 hAt.2.2.2.2.1 hin ty0 hty hnm hAt.2.2.2.1 hAt.2.2.2.2.2.2.2.1 hWd.1 hWd.2.1 hWd.2.2 b (mm_ws_at hb) hc k hk (hAt.2.2.2.2.1 _ w) (fun _ h => h) hfin (hAt.2.2.2.2.2.2.2.2.2 hinit) hdecl (hty k hk) (hn _) (hfit _) (by simpa using hf) hd (fun H1 locs1 hP hD hS => ?_)
  rw [mm_ws_ref hb hf] at hP hD
  exact K p l e R s m args below meth c A ad ty D H1 locs1 ls Q hAt ⟨hP, hD, hS⟩ hL (fun r La' M' ad' H' locs' ls' pc' ck' cs' q1 q2 q3 => hK r La' M' ad' H' locs' ls' pc' ck' cs' q1 q2 (fun i hi => q3 i (by rw [List.length_set]; exact hi))) h1 h2
/-! arrays -/
theorem mm_iald {b n : Nat} {j : Int} (hd : decode mi.2.1 pc = .ok (.iaload, 1)) (hb : La[b]? = some (.inl (.int, n))) (h0 : 0 ≤ j) (h3 : j < n) (hn : n < 2147483648) (K : mm_G X d mc ms mi Po (pc + 1) L (v_i (M b j.toNat) :: st) La M ck cs) : mm_G X d mc ms mi Po pc L (v_i j :: v_r b :: st) La M ck cs := by
  intro p l e R s m args below meth c A ad ty D H locs ls Q hAt hWd hL hK h1 h2
  have kk := K p l e R s m args below meth c A ad ty D H locs ls Q hAt hWd hL hK h1 h2
  obtain ⟨q1, q2⟩ := mm_ix h0 h3 hn
  refine va_iald (f := fun j => Int32.ofInt (M b j)) hAt.1 hAt.2.1 hAt.2.2.2.2.2.2.2.1 hWd.1 b 0 (mm_ws_at hb) rfl q1 hd ?_
  rw [q2]
  exact kk
theorem mm_zald {b n : Nat} {j : Int} (hd : decode mi.2.1 pc = .ok (.baload, 1)) (hb : La[b]? = some (.inl (.boolean, n))) (h0 : 0 ≤ j) (h3 : j < n) (hn : n < 2147483648) (K : mm_G X d mc ms mi Po (pc + 1) L (v_i (M b j.toNat) :: st) La M ck cs) : mm_G X d mc ms mi Po pc L (v_i j :: v_r b :: st) La M ck cs := by
  intro p l e R s m args below meth c A ad ty D H locs ls Q hAt hWd hL hK h1 h2
  have kk := K p l e R s m args below meth c A ad ty D H locs ls Q hAt hWd hL hK h1 h2
  obtain ⟨q1, q2⟩ := mm_ix h0 h3 hn
  refine va_zald (f := fun j => Int32.ofInt (M b j)) hAt.1 hAt.2.1 hAt.2.2.2.2.2.2.2.1 hWd.1 b 2 (mm_ws_at hb) rfl q1 hd ?_
  rw [q2]
  exact kk
theorem mm_lald {b n : Nat} {j : Int} (hd : decode mi.2.1 pc = .ok (.laload, 1)) (hb : La[b]? = some (.inl (.long, n))) (h0 : 0 ≤ j) (h3 : j < n) (hn : n < 2147483648) (K : mm_G X d mc ms mi Po (pc + 1) L (v_l (M b j.toNat) :: st) La M ck cs) : mm_G X d mc ms mi Po pc L (v_i j :: v_r b :: st) La M ck cs := by
  intro p l e R s m args below meth c A ad ty D H locs ls Q hAt hWd hL hK h1 h2
  have kk := K p l e R s m args below meth c A ad ty D H locs ls Q hAt hWd hL hK h1 h2
  obtain ⟨q1, q2⟩ := mm_ix h0 h3 hn
  refine va_lald (f := fun j => Int64.ofInt (M b j)) hAt.1 hAt.2.1 hAt.2.2.2.2.2.2.2.1 hWd.1 b 1 (mm_ws_at hb) rfl q1 hd ?_
  rw [q2]
  exact kk
theorem mm_arr_i {ty : FieldType → ClassId} {ad : Nat → Nat} {b n k : Nat} {x : Int} : (Sum.inl (ty .int, n, .inl (upd (fun j => Int32.ofInt (M b j)) k (Int32.ofInt x))) : va_E) = mm_ce ty ad (mm_up M b k x b) (.inl (.int, n)) := by
  have e : upd (fun j => Int32.ofInt (M b j)) k (Int32.ofInt x) = fun j => Int32.ofInt (mm_up M b k x b j) := by
    funext j
    by_cases hj : j = k
    · subst hj; simp [upd, mm_up]
    · simp [upd, mm_up, hj]
  rw [e]; rfl
theorem mm_arr_z {ty : FieldType → ClassId} {ad : Nat → Nat} {b n k : Nat} {x : Int} : (Sum.inl (ty .boolean, n, .inl (upd (fun j => Int32.ofInt (M b j)) k (Int32.ofInt x))) : va_E) = mm_ce ty ad (mm_up M b k x b) (.inl (.boolean, n)) := by
  have e : upd (fun j => Int32.ofInt (M b j)) k (Int32.ofInt x) = fun j => Int32.ofInt (mm_up M b k x b j) := by
    funext j
    by_cases hj : j = k
    · subst hj; simp [upd, mm_up]
    · simp [upd, mm_up, hj]
  rw [e]; rfl
theorem mm_arr_l {ty : FieldType → ClassId} {ad : Nat → Nat} {b n k : Nat} {x : Int} : (Sum.inl (ty .long, n, .inr (.inl (vp_updL (fun j => Int64.ofInt (M b j)) k (Int64.ofInt x)))) : va_E) = mm_ce ty ad (mm_up M b k x b) (.inl (.long, n)) := by
  have e : vp_updL (fun j => Int64.ofInt (M b j)) k (Int64.ofInt x) = fun j => Int64.ofInt (mm_up M b k x b j) := by
    funext j
    by_cases hj : j = k
    · subst hj; simp [vp_updL, mm_up]
    · simp [vp_updL, mm_up, hj]
  rw [e]; rfl
theorem mm_iast {b n : Nat} {j x : Int} (hd : decode mi.2.1 pc = .ok (.iastore, 1)) (hb : La[b]? = some (.inl (.int, n))) (h0 : 0 ≤ j) (h3 : j < n) (hn : n < 2147483648) (K : mm_G X d mc ms mi Po (pc + 1) L st La (mm_up M b j.toNat x) ck cs) : mm_G X d mc ms mi Po pc L (v_i x :: v_i j :: v_r b :: st) La M ck cs := by
  intro p l e R s m args below meth c A ad ty D H locs ls Q hAt hWd hL hK h1 h2
  obtain ⟨q1, q2⟩ := mm_ix h0 h3 hn
  refine va_iast (f := fun j => Int32.ofInt (M b j)) hAt.1 hAt.2.1 hAt.2.2.2.2.2.2.2.1 hWd.1 hWd.2.1 hWd.2.2 b 0 (mm_ws_at hb) rfl q1 hd (fun H1 locs1 hP hD hS => ?_)
  rw [q2, mm_ws_set hb mm_arr_i] at hP hD
  exact K p l e R s m args below meth c A ad ty D H1 locs1 ls Q hAt ⟨hP, hD, hS⟩ hL hK h1 h2
theorem mm_last {b n : Nat} {j x : Int} (hd : decode mi.2.1 pc = .ok (.lastore, 1)) (hb : La[b]? = some (.inl (.long, n))) (h0 : 0 ≤ j) (h3 : j < n) (hn : n < 2147483648) (K : mm_G X d mc ms mi Po (pc + 1) L st La (mm_up M b j.toNat x) ck cs) : mm_G X d mc ms mi Po pc L (v_l x :: v_i j :: v_r b :: st) La M ck cs := by
  intro p l e R s m args below meth c A ad ty D H locs ls Q hAt hWd hL hK h1 h2
  obtain ⟨q1, q2⟩ := mm_ix h0 h3 hn
  refine va_last (f := fun j => Int64.ofInt (M b j)) hAt.1 hAt.2.1 hAt.2.2.2.2.2.2.2.1 hWd.1 hWd.2.1 hWd.2.2 b 1 (mm_ws_at hb) rfl q1 hd (fun H1 locs1 hP hD hS => ?_)
  rw [q2, mm_ws_set hb mm_arr_l] at hP hD
  exact K p l e R s m args below meth c A ad ty D H1 locs1 ls Q hAt ⟨hP, hD, hS⟩ hL hK h1 h2
theorem mm_zast {b n : Nat} {j x : Int} (hd : decode mi.2.1 pc = .ok (.bastore, 1)) (hb : La[b]? = some (.inl (.boolean, n))) (h0 : 0 ≤ j) (h3 : j < n) (hn : n < 2147483648) (hz : x = 0 ∨ x = 1) (K : mm_G X d mc ms mi Po (pc + 1) L st La (mm_up M b j.toNat x) ck cs) : mm_G X d mc ms mi Po pc L (v_i x :: v_i j :: v_r b :: st) La M ck cs := by
  intro p l e R s m args below meth c A ad ty D H locs ls Q hAt hWd hL hK h1 h2
  obtain ⟨q1, q2⟩ := mm_ix h0 h3 hn
  have q3 : vp_nar .boolean (Int32.ofInt x) = Int32.ofInt x := by rcases hz with rfl | rfl <;> rfl
  refine va_zast (f := fun j => Int32.ofInt (M b j)) hAt.1 hAt.2.1 hAt.2.2.2.2.2.2.2.1 hWd.1 hWd.2.1 hWd.2.2 b 2 (mm_ws_at hb) rfl q1 hd (fun H1 locs1 hP hD hS => ?_)
  rw [q2, q3, mm_ws_set hb mm_arr_z] at hP hD
  exact K p l e R s m args below meth c A ad ty D H1 locs1 ls Q hAt ⟨hP, hD, hS⟩ hL hK h1 h2
theorem mm_alen {b n : Nat} {t : FieldType} (hd : decode mi.2.1 pc = .ok (.arraylength, 1)) (hb : La[b]? = some (.inl (t, n))) (ht : t = .int ∨ t = .long ∨ t = .boolean) (K : mm_G X d mc ms mi Po (pc + 1) L (v_i (n : Int) :: st) La M ck cs) : mm_G X d mc ms mi Po pc L (v_r b :: st) La M ck cs := by
  intro p l e R s m args below meth c A ad ty D H locs ls Q hAt hWd hL hK h1 h2
  have kk := K p l e R s m args below meth c A ad ty D H locs ls Q hAt hWd hL hK h1 h2
  rcases ht with rfl | rfl | rfl
  · exact va_alen hAt.1 hAt.2.1 hAt.2.2.2.2.2.2.2.1 hWd.1 b 0 (mm_ws_at hb) rfl rfl hd kk
  · exact va_alen hAt.1 hAt.2.1 hAt.2.2.2.2.2.2.2.1 hWd.1 b 1 (mm_ws_at hb) rfl rfl hd kk
  · exact va_alen hAt.1 hAt.2.1 hAt.2.2.2.2.2.2.2.1 hWd.1 b 2 (mm_ws_at hb) rfl rfl hd kk
/-! what nobody writes -/
theorem mm_getS0 {idx : Nat} (hd : decode mi.2.1 pc = .ok (.getstatic idx, 3)) (w : Cond.fieldLink mi.1.cls idx RX0 "SEATS" "[I" ∈ mm_tbl) (K : mm_G X d mc ms mi Po (pc + 3) L (v_r 1000 :: st) La M ck cs) : mm_G X d mc ms mi Po pc L st La M ck cs := by
  intro p l e R s m args below meth c A ad ty D H locs ls Q hAt hWd hL hK h1 h2
  have kk := K p l e R s m args below meth c A ad ty D H locs ls Q hAt hWd hL hK h1 h2
  exact va_gets hAt.1 hAt.2.1 hAt.2.2.2.2.2.2.1.1.2 hWd.2.2 hAt.2.2.2.1 (hAt.2.2.2.2.1 _ w) (fun _ h => h) hd kk
theorem mm_getS1 {idx : Nat} (hd : decode mi.2.1 pc = .ok (.getstatic idx, 3)) (w : Cond.fieldLink mi.1.cls idx RX0 "DISLIKES" "[I" ∈ mm_tbl) (K : mm_G X d mc ms mi Po (pc + 3) L (v_r 1001 :: st) La M ck cs) : mm_G X d mc ms mi Po pc L st La M ck cs := by
  intro p l e R s m args below meth c A ad ty D H locs ls Q hAt hWd hL hK h1 h2
  have kk := K p l e R s m args below meth c A ad ty D H locs ls Q hAt hWd hL hK h1 h2
  exact va_gets hAt.1 hAt.2.1 hAt.2.2.2.2.2.2.1.2.1.2 hWd.2.2 hAt.2.2.2.1 (hAt.2.2.2.2.1 _ w) (fun _ h => h) hd kk
theorem mm_getS2 {idx : Nat} (hd : decode mi.2.1 pc = .ok (.getstatic idx, 3)) (w : Cond.fieldLink mi.1.cls idx RJ0 "COMPACT_STRINGS" "Z" ∈ mm_tbl) (K : mm_G X d mc ms mi Po (pc + 3) L (v_i 1 :: st) La M ck cs) : mm_G X d mc ms mi Po pc L st La M ck cs := by
  intro p l e R s m args below meth c A ad ty D H locs ls Q hAt hWd hL hK h1 h2
  have kk := K p l e R s m args below meth c A ad ty D H locs ls Q hAt hWd hL hK h1 h2
  exact va_gets hAt.1 hAt.2.1 hAt.2.2.2.2.2.2.1.2.2.1 hWd.2.2 hAt.2.2.2.1 (hAt.2.2.2.2.1 _ w) (fun _ h => h) hd kk
theorem mm_ald0 {j : Int} (hd : decode mi.2.1 pc = .ok (.iaload, 1)) (h0 : 0 ≤ j) (h3 : j < 5) (K : mm_G X d mc ms mi Po (pc + 1) L (v_i (mm_seats j.toNat) :: st) La M ck cs) : mm_G X d mc ms mi Po pc L (v_i j :: v_r 1000 :: st) La M ck cs := by
  intro p l e R s m args below meth c A ad ty D H locs ls Q hAt hWd hL hK h1 h2
  have kk := K p l e R s m args below meth c A ad ty D H locs ls Q hAt hWd hL hK h1 h2
  obtain ⟨q1, q2⟩ := mm_ix (n := 5) h0 (by omega) (by omega)
  exact va_ti hAt.1 hAt.2.1 hAt.2.2.2.2.2.2.1.1.1 hWd.2.2 q1 (by rw [q2]; rfl) hd kk
theorem mm_ald1 {j : Int} (hd : decode mi.2.1 pc = .ok (.iaload, 1)) (h0 : 0 ≤ j) (h3 : j < 15) (K : mm_G X d mc ms mi Po (pc + 1) L (v_i (mm_disl j.toNat) :: st) La M ck cs) : mm_G X d mc ms mi Po pc L (v_i j :: v_r 1001 :: st) La M ck cs := by
  intro p l e R s m args below meth c A ad ty D H locs ls Q hAt hWd hL hK h1 h2
  have kk := K p l e R s m args below meth c A ad ty D H locs ls Q hAt hWd hL hK h1 h2
  obtain ⟨q1, q2⟩ := mm_ix (n := 15) h0 (by omega) (by omega)
  exact va_ti hAt.1 hAt.2.1 hAt.2.2.2.2.2.2.1.2.1.1 hWd.2.2 q1 (by rw [q2]; rfl) hd kk
theorem mm_aldX {j : Int} (hd : decode mi.2.1 pc = .ok (.iaload, 1)) (h0 : 0 ≤ j) (h3 : j < X.1) (hn : X.1 < 2147483648) (K : mm_G X d mc ms mi Po (pc + 1) L (v_i (X.2 j.toNat) :: st) La M ck cs) : mm_G X d mc ms mi Po pc L (v_i j :: v_r 1012 :: st) La M ck cs := by
  intro p l e R s m args below meth c A ad ty D H locs ls Q hAt hWd hL hK h1 h2
  have kk := K p l e R s m args below meth c A ad ty D H locs ls Q hAt hWd hL hK h1 h2
  obtain ⟨q1, q2⟩ := mm_ix h0 h3 hn
  exact va_ti hAt.1 hAt.2.1 hAt.2.2.2.2.2.2.1.2.2.2.2.2.1 hWd.2.2 q1 (by rw [q2]; rfl) hd kk
theorem mm_alenT {t : FieldType} {q N : Nat} {f : (Nat → Nat) → Nat → Value} (hT : ∀ (ad : Nat → Nat) (A : Nat → Prop) (U : State) (H : Heap), mm_RO X ad A U H → va_T t (ad q) N (f ad) A U H) (hd : decode mi.2.1 pc = .ok (.arraylength, 1)) (K : mm_G X d mc ms mi Po (pc + 1) L (v_i (N : Int) :: st) La M ck cs) : mm_G X d mc ms mi Po pc L (v_r q :: st) La M ck cs := by
  intro p l e R s m args below meth c A ad ty D H locs ls Q hAt hWd hL hK h1 h2
  have kk := K p l e R s m args below meth c A ad ty D H locs ls Q hAt hWd hL hK h1 h2
  obtain ⟨cell, g1, g2, g3, g4, g5, g6, g7⟩ := hT ad A s s.heap hAt.2.2.2.2.2.2.1
  exact W.alen (n := Int32.ofNat N) hAt.1 hAt.2.1 (by rw [hWd.2.2.2.1 _ (Array.getElem?_eq_some_iff.mp g1).1 g7]; exact g1) g2 g5 rfl rfl hd kk
theorem mm_alenX (hd : decode mi.2.1 pc = .ok (.arraylength, 1)) (K : mm_G X d mc ms mi Po (pc + 1) L (v_i (X.1 : Int) :: st) La M ck cs) : mm_G X d mc ms mi Po pc L (v_r 1012 :: st) La M ck cs :=
  mm_alenT (fun ad A U H h => h.2.2.2.2.2.1) hd K
/-- a text's bytes -/
theorem mm_sval {i n : Nat} (hn : mm_slen[i]? = some n) : ∀ (ad : Nat → Nat) (A : Nat → Prop) (U : State) (H : Heap), mm_RO X ad A U H → va_T .byte (ad (1007 + i)) n (fun j => .int ((mm_sbyt.getD i []).getD j 0)) A U H := by
  intro ad A U H h
  have hi : i < 5 := by have := (List.getElem?_eq_some_iff.mp hn).1; exact this
  have h2 := (h.2.2.2.1.1 i hi).2.2.2
  have e : mm_slen.getD i 0 = n := by simp [List.getD, hn]
  rw [e] at h2
  exact h2
theorem mm_ldcS {i k : Nat} {tx : String} {bs : List Int} (hd : decode mi.2.1 pc = .ok (.ldc k, 2)) (ho : mi.1.cls = RX7) (hi : mm_str[i]? = some (k, tx, bs)) (K : mm_G X d mc ms mi Po (pc + 2) L (v_r (1002 + i) :: st) La M ck cs) : mm_G X d mc ms mi Po pc L st La M ck cs := by
  intro p l e R s m args below meth c A ad ty D H locs ls Q hAt hWd hL hK h1 h2
  have kk := K p l e R s m args below meth c A ad ty D H locs ls Q hAt hWd hL hK h1 h2
  exact va_ldcS (own := RX7) hAt.1 hAt.2.1 (by rw [← ho]; exact hAt.2.2.2.1) (hAt.2.2.2.2.2.2.1.2.2.2.2.1 i _ hi) hd kk
theorem mm_getC {idx i : Nat} (hi : i < 5) (hd : decode mi.2.1 pc = .ok (.getfield idx, 3)) (w : Cond.fieldLink mi.1.cls idx RJ0 "coder" "B" ∈ mm_tbl) (K : mm_G X d mc ms mi Po (pc + 3) L (v_i 0 :: st) La M ck cs) : mm_G X d mc ms mi Po pc L (v_r (1002 + i) :: st) La M ck cs := by
  intro p l e R s m args below meth c A ad ty D H locs ls Q hAt hWd hL hK h1 h2
  have kk := K p l e R s m args below meth c A ad ty D H locs ls Q hAt hWd hL hK h1 h2
  exact vk_getf hAt.1 hAt.2.1 (hAt.2.2.2.2.2.2.1.2.2.2.1.1 i hi).2.1 hWd.2.2 hAt.2.2.2.1 (hAt.2.2.2.2.1 _ w) (fun _ h => h) hd kk
theorem mm_getV {idx i : Nat} (hi : i < 5) (hd : decode mi.2.1 pc = .ok (.getfield idx, 3)) (w : Cond.fieldLink mi.1.cls idx RJ0 "value" "[B" ∈ mm_tbl) (K : mm_G X d mc ms mi Po (pc + 3) L (v_r (1007 + i) :: st) La M ck cs) : mm_G X d mc ms mi Po pc L (v_r (1002 + i) :: st) La M ck cs := by
  intro p l e R s m args below meth c A ad ty D H locs ls Q hAt hWd hL hK h1 h2
  have kk := K p l e R s m args below meth c A ad ty D H locs ls Q hAt hWd hL hK h1 h2
  exact vk_getf hAt.1 hAt.2.1 (hAt.2.2.2.2.2.2.1.2.2.2.1.1 i hi).2.2.1 hWd.2.2 hAt.2.2.2.1 (hAt.2.2.2.2.1 _ w) (fun _ h => h) hd kk
theorem mm_bald {i n : Nat} {j v : Int} (hn : mm_slen[i]? = some n) (h0 : 0 ≤ j) (h3 : j < n) (hb3 : n < 2147483648) (hv : (mm_sbyt.getD i []).getD j.toNat 0 = Int32.ofInt v) (hd : decode mi.2.1 pc = .ok (.baload, 1)) (K : mm_G X d mc ms mi Po (pc + 1) L (v_i v :: st) La M ck cs) : mm_G X d mc ms mi Po pc L (v_i j :: v_r (1007 + i) :: st) La M ck cs := by
  intro p l e R s m args below meth c A ad ty D H locs ls Q hAt hWd hL hK h1 h2
  have kk := K p l e R s m args below meth c A ad ty D H locs ls Q hAt hWd hL hK h1 h2
  obtain ⟨q1, q2⟩ := mm_ix h0 h3 hb3
  exact va_tb hAt.1 hAt.2.1 (mm_sval hn ad A s s.heap hAt.2.2.2.2.2.2.1) hWd.2.2 q1 (by rw [q2, hv]; rfl) hd kk
theorem mm_alenB {i n : Nat} (hn : mm_slen[i]? = some n) (hd : decode mi.2.1 pc = .ok (.arraylength, 1)) (K : mm_G X d mc ms mi Po (pc + 1) L (v_i (n : Int) :: st) La M ck cs) : mm_G X d mc ms mi Po pc L (v_r (1007 + i) :: st) La M ck cs :=
  mm_alenT (mm_sval hn) hd K
end MMH
end
section
section MMC
variable {X : Nat × (Nat → Int)} {d mc ms : Nat} {mi : mm_Mi} {Po : mm_Po} {pc : Nat} {L : List (Nat × mm_V)} {st : List mm_V} {La : List mm_S} {M : mm_M} {ck cs : Nat}
theorem mm_Pc_blind {As : List mm_V} {ad : Nat → Nat} {ty : FieldType → ClassId} {D : va_G} {sz : Nat} : FrameBlind (mm_Pc X As La M ad ty D sz) := by
  intro a U g mk h
  obtain ⟨h0, h1, h2, h3, h4, h5⟩ := h
  exact ⟨h0, h1, mm_RO.move (s := U) (U := U.calling g mk a) h2 (State.WarmedH.refl U) (fun _ _ _ => rfl) rfl (fun _ h => h), va_K.moved (u := U) (U := U.calling g mk a) (Vm.Alike.refl U.vm) h3, h4, h5⟩
theorem mm_A_sub {A : Nat → Prop} {ad : Nat → Nat} {ty : FieldType → ClassId} {D : va_G} {H0 H : Heap} {locs : List Loc} (hWd : mm_Wd A ad ty D La M H0 H locs) (hA : ∀ q, H0.size ≤ q → A q) : ∀ q, va_A (mm_ws ty ad La M) H.size q → A q := by
  intro q h
  rcases h with ⟨k, e, h⟩ | h
  · exact hWd.2.1.2 k _ h
  · exact hA q (Nat.le_trans hWd.2.2.1 h)
/-- a callee's start -/
theorem mm_pre {As : List mm_V} {p : Program} {R : Room} {s : State} {m : MethodId} {args : Array Value} {meth : Method} {c : Code} {A : Nat → Prop} {ad : Nat → Nat} {ty : FieldType → ClassId} {D : va_G} {H : Heap} {locs : List Loc} (hAt : mm_At X d mc ms mi p R s m args meth c A ad ty D) (hWd : mm_Wd A ad ty D La M s.heap H locs) (U : State) (hU : U.heap = H) (hW : s.WarmedH U.vm) : mm_Pc X As La M ad ty D H.size (As.map (mm_cv ad)).toArray U := by
  refine ⟨rfl, by rw [hU], mm_RO.move hAt.2.2.2.2.2.2.1 hW hWd.2.2.2.1 hU (mm_A_sub hWd hAt.2.2.2.2.2.2.2.2.1), va_K.moved hW.alike hAt.2.2.2.2.2.2.2.1, by rw [hU]; exact hWd.1, hWd.2.1.weaken (fun _ _ _ _ => trivial)⟩
theorem mm_vk_app {n : Nat} {vs : List mm_V} : ∀ {rest : List mm_V}, mm_vk n (rest ++ vs) = true → mm_vk n rest = true ∧ mm_vk n vs = true
  | [], h => ⟨rfl, h⟩
  | .inl x :: rest, h => mm_vk_app (rest := rest) h
  | .inr (.inl x) :: rest, h => mm_vk_app (rest := rest) h
  | .inr (.inr none) :: rest, h => mm_vk_app (rest := rest) h
  | .inr (.inr (some x)) :: rest, h => by
    simp only [List.cons_append, mm_vk, Bool.and_eq_true] at h ⊢
    exact ⟨⟨h.1, (mm_vk_app h.2).1⟩, (mm_vk_app h.2).2⟩
/-- behind a call -/
theorem mm_after {mc' ms' : Nat} {rest : List mm_V} {Po' : mm_Po} {p : Program} {l : Launch} {e : Env} {R : Room} {s : State} {m : MethodId} {args : Array Value} {below : List Frame} {meth : Method} {c : Code} {A : Nat → Prop} {ad : Nat → Nat} {ty : FieldType → ClassId} {D : va_G} {H : Heap} {locs : List Loc} {ls : Array Slot} {Q : State → Prop} {st0 : List Value} {a : Array Value}
    (hAt : mm_At X d mc ms mi p R s m args meth c A ad ty D) (hWd : mm_Wd A ad ty D La M s.heap H locs) (hL : lv_has ls mi.2.2.1 (mm_lo ad L))
    (hK : ∀ (r : Option mm_V) (La' : List mm_S) (M' : mm_M) (ad' : Nat → Nat) (H' : Heap) (locs' : List Loc) (ls' : Array Slot) (pc' ck' cs' : Nat), Po r La' M' → mm_rt mi pc' r → (∀ i, i < La.length ∨ 1000 ≤ i → ad' i = ad i) → mm_Wd A ad' ty D La' M' s.heap H' locs' → ck' ≤ mc → cs' ≤ ms → W p l e R s m args below meth c H' locs' ck' cs' Q (F0 m pc' ls' (r.toList.map (mm_cv ad'))))
    (hv : mm_vk La.length (rest ++ L.map (fun q => q.2)) = true) (hm : ck + mc' ≤ mc ∧ cs + ms' ≤ ms)
    (hr : va_Run p l e R s m args below meth c H locs ck cs mc' ms' (F0 m pc ls st0) (rest.map (mm_cv ad)) (mm_Qc Po' La M ad ty D H.size a) (va_A (mm_ws ty ad La M) H.size))
    (hP : ∀ r La' M', Po' r La' M' → La.length ≤ La'.length ∧ mm_G X d mc ms mi Po (pc + 3) L (r.toList ++ rest) La' M' (ck + mc') (cs + ms')) :
    W p l e R s m args below meth c H locs ck cs Q (F0 m pc ls st0) := by
  intro T hT Z
  obtain ⟨v, st₀, t, T', Lq, h0, Z', hLq, e1, e2, ⟨r, La', M', ad', hv1, hPo, had, hP', hD', hF⟩, go⟩ := hr T hT Z
  obtain ⟨hlen, hG⟩ := hP r La' M' hPo
  have hvv : v = r.map (mm_cv ad') := by injection hv1
  have hF : H.size ≤ t.heap.size ∧ ∀ q : Nat, q < H.size → ¬ va_A (mm_ws ty ad La M) H.size q → t.heap[q]? = H[q]? := by
    unfold va_F at hF
    rw [h0] at hF
    exact hF
  have hAs := mm_A_sub hWd hAt.2.2.2.2.2.2.2.2.1
  have hv2 := mm_vk_app hv
  have hWd' : mm_Wd A ad' ty D La' M' s.heap T'.heap (locs ++ Lq) := by
    rw [e1]
    refine ⟨hP', hD'.weaken (fun _ _ _ h => hAs _ h), Nat.le_trans hWd.2.2.1 hF.1, fun q h3 h4 => ?_, fun q hq => ?_⟩
    · rw [hF.2 q (Nat.lt_of_lt_of_le h3 hWd.2.2.1) (fun z => h4 (hAs q z))]
      exact hWd.2.2.2.1 q h3 h4
    · rcases List.mem_append.mp hq with h | h
      · exact hWd.2.2.2.2 q h
      · exact hAs _ (hLq q h)
  have hAt' : mm_At X d mc ms mi p R s m args meth c A ad' ty D := ⟨hAt.1, hAt.2.1, hAt.2.2.1, hAt.2.2.2.1, hAt.2.2.2.2.1, hAt.2.2.2.2.2.1, hAt.2.2.2.2.2.2.1.ad (fun i hi => had i (Or.inr hi)), hAt.2.2.2.2.2.2.2⟩
  obtain ⟨t2, a1, b1⟩ := hG p l e R s m args below meth c A ad' ty D T'.heap (locs ++ Lq) ls Q hAt' hWd' (by rw [mm_vk_lo had L hv2.2]; exact hL) (fun r2 La2 M2 ad2 H2 locs2 ls2 pc2 ck2 cs2 q1 q2 q3 => hK r2 La2 M2 ad2 H2 locs2 ls2 pc2 ck2 cs2 q1 q2 (fun i hi => (q3 i (hi.imp (fun h => Nat.lt_of_lt_of_le h hlen) id)).trans (had i hi))) hm.1 hm.2 T' rfl Z'
  refine ⟨t2, go t2 ?_, b1⟩
  have hfr : (F0 m (pc + 3) ls ((r.toList ++ rest).map (mm_cv ad'))) = { F0 m pc ls st0 with pc := (F0 m pc ls st0).pc + 3, stack := v.toList ++ rest.map (mm_cv ad) } := by
    rw [hvv, List.map_append, mm_vk_map had rest hv2.1]
    cases r <;> rfl
  rw [hfr] at a1
  exact a1
/-- what a callee must be: no special class, so many arguments, so many locals -/
def mm_yk (mi' : mm_Mi) (n w : Nat) : Bool := plainName mi'.1.cls && !(mi'.1.cls == "java/lang/invoke/MethodHandle") && !(mi'.1.cls == "java/lang/invoke/VarHandle") && ((parseMethodDescriptor mi'.1.desc).map (fun q => q.parameters.length) == some n) && decide (mi'.2.2.1 ≤ 41) && decide (w ≤ mi'.2.2.1)
theorem mm_yk_of {mi' : mm_Mi} {n w : Nat} (h : mm_yk mi' n w = true) : plainName mi'.1.cls = true ∧ (mi'.1.cls ≠ "java/lang/invoke/MethodHandle" ∧ mi'.1.cls ≠ "java/lang/invoke/VarHandle" ∧ (parseMethodDescriptor mi'.1.desc).map (fun q => q.parameters.length) = some n) ∧ mi'.2.2.1 ≤ 41 ∧ w ≤ mi'.2.2.1 := by
  simp only [mm_yk, Bool.and_eq_true, Bool.not_eq_true', beq_eq_false_iff_ne, beq_iff_eq, decide_eq_true_eq] at h
  exact ⟨h.1.1.1.1.1, ⟨h.1.1.1.1.2, h.1.1.1.2, h.1.1.2⟩, h.1.2, h.2⟩
theorem mm_gz {mi' : mm_Mi} (wc : Cond.code mi'.1 mi'.2.1 mi'.2.2.1 mi'.2.2.2 ∈ mm_tbl) : GoodIn mm_tbl (mm_wz mi') := fun w h => (List.mem_cons.mp h).elim (fun e => e ▸ mm_gg _ wc) (fun h => mm_gg w h)
theorem mm_mono {mi' : mm_Mi} {mc' ms' : Nat} {As : List mm_V} {Po' Po2 : mm_Po} (h : ∀ r La' M', Po' r La' M' → Po2 r La' M') (E : mm_E X d mc' ms' mi' As Po' La M) : mm_E X d mc' ms' mi' As Po2 La M := mm_mo h E
/-- the post of a callee, with: cells only come -/
def mm_Pn (La : List mm_S) (P : mm_Po) : mm_Po := fun r La' M' => La.length ≤ La'.length ∧ P r La' M'
theorem mm_callV {idx b ci mc' ms' : Nat} {mi' : mm_Mi} {q : vw_C} {fs : List mm_V} (As rest : List mm_V) (hd : decode mi.2.1 pc = .ok (.invokevirtual idx, 3)) (hst : st = As.reverse ++ v_r b :: rest)
    (wl : Cond.methodLink mi.1.cls idx mi'.1 ∈ mm_tbl) (wi : Cond.instanceMethod mi'.1 ∈ mm_tbl) (wv : Cond.selects mi'.1.cls mi'.1 mi'.1 ∈ mm_tbl) (wn : Cond.initialized mi'.1.cls ∈ mm_tbl) (wc : Cond.code mi'.1 mi'.2.1 mi'.2.2.1 mi'.2.2.2 ∈ mm_tbl)
    (hy : mm_yk mi' As.length (mm_wd (v_r b :: As)) = true) (hb : La[b]? = some (.inr (ci, fs))) (hc : vwCl[ci]? = some q) (hq : q.1 = mi'.1.cls) (hcat : mm_wd rest ≤ 8) (hv : mm_vk La.length (rest ++ L.map (fun q => q.2)) = true) (hm : ck + mc' ≤ mc ∧ cs + ms' ≤ ms)
    (E : mm_E X d mc' ms' mi' (v_r b :: As) (mm_Pn La (fun r La' M' => mm_G X (d + 1) mc ms mi Po (pc + 3) L (r.toList ++ rest) La' M' (ck + mc') (cs + ms'))) La M) : mm_G X (d + 1) mc ms mi Po pc L st La M ck cs := by
  intro p l e R s m args below meth c A ad ty D H locs ls Q hAt hWd hL hK h1 h2
  obtain ⟨y1, y2, y3, y4⟩ := mm_yk_of hy
  obtain ⟨r1, r2, r3, r4⟩ := hAt.2.2.2.2.2.1
  have hts := hAt.2.2.2.2.1
  have hM := mm_met y1 y4 E l ad ty D H.size
  have cb := callB_of (own := mi.1.cls) (index := idx) (y := mi'.1) (bytes := mi'.2.1) (maxL := mi'.2.2.1) (ret := mi'.2.2.2) (ws := mm_wz mi') (R := R) (rm := mm_rm d mc' ms') (mc := mc') (ms := ms') As.length hts (mm_gz wc) rfl rfl rfl (hts _ wn) (hts _ wl) y2 (by simp only [mm_rm]; omega)
  have hrun := va_runV (e := e) (below := below) (meth := meth) (g := F0 m pc ls (st.map (mm_cv ad))) (As := As.map (mm_cv ad)) (rest := rest.map (mm_cv ad)) (b := ad b) (C := mi'.1.cls) (cells := ck) (slots := cs) (locs := locs) ⟨hAt.1, hAt.2.1, hAt.2.2.1, hAt.2.2.2.1, hts⟩ hM ⟨cb, hts _ wi, hts _ wv⟩ ⟨mm_Pc_blind, by rw [← hq]; exact va_recv hAt.2.2.2.2.2.2.2.1 hWd.1 hc (mm_ws_at hb), fun U hU hW => mm_pre (As := v_r b :: As) hAt hWd U hU hW⟩ rfl (by simp) hL.1 (by rw [hst]; simp [mm_cv]) (lv_room (by rw [mm_wd_cat]; exact hcat)) hd ⟨Nat.le_trans hm.1 r3, Nat.le_trans hm.2 r4⟩
  exact mm_after hAt hWd hL hK hv hm hrun (fun _ _ _ h => h)
theorem mm_callS {idx mc' ms' : Nat} {mi' : mm_Mi} (As rest : List mm_V) (hd : decode mi.2.1 pc = .ok (.invokestatic idx, 3)) (hst : st = As.reverse ++ rest)
    (wl : Cond.methodLink mi.1.cls idx mi'.1 ∈ mm_tbl) (wi : Cond.static mi'.1 ∈ mm_tbl) (wn : Cond.initialized mi'.1.cls ∈ mm_tbl) (wc : Cond.code mi'.1 mi'.2.1 mi'.2.2.1 mi'.2.2.2 ∈ mm_tbl)
    (hy : mm_yk mi' As.length (mm_wd As) = true) (hcat : mm_wd rest ≤ 8) (hv : mm_vk La.length (rest ++ L.map (fun q => q.2)) = true) (hm : ck + mc' ≤ mc ∧ cs + ms' ≤ ms)
    (E : mm_E X d mc' ms' mi' As (mm_Pn La (fun r La' M' => mm_G X (d + 1) mc ms mi Po (pc + 3) L (r.toList ++ rest) La' M' (ck + mc') (cs + ms'))) La M) : mm_G X (d + 1) mc ms mi Po pc L st La M ck cs := by
  intro p l e R s m args below meth c A ad ty D H locs ls Q hAt hWd hL hK h1 h2
  obtain ⟨y1, y2, y3, y4⟩ := mm_yk_of hy
  obtain ⟨r1, r2, r3, r4⟩ := hAt.2.2.2.2.2.1
  have hts := hAt.2.2.2.2.1
  have hM := mm_met y1 y4 E l ad ty D H.size
  have cb := callB_of (own := mi.1.cls) (index := idx) (y := mi'.1) (bytes := mi'.2.1) (maxL := mi'.2.2.1) (ret := mi'.2.2.2) (ws := mm_wz mi') (R := R) (rm := mm_rm d mc' ms') (mc := mc') (ms := ms') As.length hts (mm_gz wc) rfl rfl rfl (hts _ wn) (hts _ wl) y2 (by simp only [mm_rm]; omega)
  have hrun := va_runS (e := e) (below := below) (meth := meth) (g := F0 m pc ls (st.map (mm_cv ad))) (As := As.map (mm_cv ad)) (rest := rest.map (mm_cv ad)) (cells := ck) (slots := cs) (locs := locs) ⟨hAt.1, hAt.2.1, hAt.2.2.1, hAt.2.2.2.1, hts⟩ hM ⟨cb, hts _ wi⟩ ⟨mm_Pc_blind, fun U hU hW => mm_pre (As := As) hAt hWd U hU hW⟩ rfl (by simp) hL.1 (by rw [hst]; simp) (lv_room (by rw [mm_wd_cat]; exact hcat)) hd ⟨Nat.le_trans hm.1 r3, Nat.le_trans hm.2 r4⟩
  exact mm_after hAt hWd hL hK hv hm hrun (fun _ _ _ h => h)
/-- a nest mate's static method -/
theorem mm_callN {idx mc' ms' : Nat} {mi' : mm_Mi} (As rest : List mm_V) (hd : decode mi.2.1 pc = .ok (.invokestatic idx, 3)) (hst : st = As.reverse ++ rest)
    (wl : (mi.1.cls, idx, mi'.1, RX9) ∈ mm_nest) (wi : Cond.static mi'.1 ∈ mm_tbl) (wn : Cond.initialized mi'.1.cls ∈ mm_tbl) (wc : Cond.code mi'.1 mi'.2.1 mi'.2.2.1 mi'.2.2.2 ∈ mm_tbl)
    (hy : mm_yk mi' As.length (mm_wd As) = true) (hcat : mm_wd rest ≤ 8) (hv : mm_vk La.length (rest ++ L.map (fun q => q.2)) = true) (hm : ck + mc' ≤ mc ∧ cs + ms' ≤ ms)
    (E : mm_E X d mc' ms' mi' As (mm_Pn La (fun r La' M' => mm_G X (d + 1) mc ms mi Po (pc + 3) L (r.toList ++ rest) La' M' (ck + mc') (cs + ms'))) La M) : mm_G X (d + 1) mc ms mi Po pc L st La M ck cs := by
  intro p l e R s m args below meth c A ad ty D H locs ls Q hAt hWd hL hK h1 h2
  obtain ⟨y1, y2, y3, y4⟩ := mm_yk_of hy
  obtain ⟨r1, r2, r3, r4⟩ := hAt.2.2.2.2.2.1
  have hts := hAt.2.2.2.2.1
  have hM := mm_met y1 y4 E l ad ty D H.size
  have cb := va_cnB (args := args) (s := s) (R := R) (own := mi.1.cls) (host := RX9) (index := idx) (y := mi'.1) (bytes := mi'.2.1) (maxL := mi'.2.2.1) (ret := mi'.2.2.2) (ws := mm_wz mi') (rm := mm_rm d mc' ms') (mc := mc') (ms := ms') As.length hts (mm_gz wc) rfl rfl rfl (hAt.2.2.2.2.2.2.1.2.2.2.2.2.2 _ wl) (hts _ wn) y2 (by simp only [mm_rm]; omega)
  have hrun := va_runSN (e := e) (below := below) (meth := meth) (g := F0 m pc ls (st.map (mm_cv ad))) (As := As.map (mm_cv ad)) (rest := rest.map (mm_cv ad)) (cells := ck) (slots := cs) (locs := locs) ⟨hAt.1, hAt.2.1, hAt.2.2.1, hAt.2.2.2.1, hts⟩ hM ⟨cb, hts _ wi, trivial⟩ ⟨mm_Pc_blind, fun U hU hW => mm_pre (As := As) hAt hWd U hU hW⟩ rfl (by simp) hL.1 (by rw [hst]; simp) (lv_room (by rw [mm_wd_cat]; exact hcat)) hd ⟨Nat.le_trans hm.1 r3, Nat.le_trans hm.2 r4⟩
  exact mm_after hAt hWd hL hK hv hm hrun (fun _ _ _ h => h)
/-- a constructor; a nest mate's -/
theorem mm_callI {idx b mc' ms' : Nat} {mi' : mm_Mi} (As rest : List mm_V) (hd : decode mi.2.1 pc = .ok (.invokespecial idx, 3)) (hst : st = As.reverse ++ v_r b :: rest)
    (wl : Cond.methodLink mi.1.cls idx mi'.1 ∈ mm_tbl) (wi : Cond.instanceMethod mi'.1 ∈ mm_tbl) (wn : Cond.initialized mi'.1.cls ∈ mm_tbl) (wc : Cond.code mi'.1 mi'.2.1 mi'.2.2.1 mi'.2.2.2 ∈ mm_tbl) (hi : mi'.1.name = "<init>") (hret : mi'.2.2.2 = none)
    (hy : mm_yk mi' As.length (mm_wd (v_r b :: As)) = true) (hcat : mm_wd rest ≤ 8) (hv : mm_vk La.length (rest ++ L.map (fun q => q.2)) = true) (hm : ck + mc' ≤ mc ∧ cs + ms' ≤ ms)
    (E : mm_E X d mc' ms' mi' (v_r b :: As) (mm_Pn La (fun r La' M' => mm_G X (d + 1) mc ms mi Po (pc + 3) L (r.toList ++ rest) La' M' (ck + mc') (cs + ms'))) La M) : mm_G X (d + 1) mc ms mi Po pc L st La M ck cs := by
  intro p l e R s m args below meth c A ad ty D H locs ls Q hAt hWd hL hK h1 h2
  obtain ⟨y1, y2, y3, y4⟩ := mm_yk_of hy
  obtain ⟨r1, r2, r3, r4⟩ := hAt.2.2.2.2.2.1
  have hts := hAt.2.2.2.2.1
  have hM := mm_met y1 y4 E l ad ty D H.size
  have cb := callB_of (own := mi.1.cls) (index := idx) (y := mi'.1) (bytes := mi'.2.1) (maxL := mi'.2.2.1) (ret := none) (ws := mm_wz mi') (R := R) (rm := mm_rm d mc' ms') (mc := mc') (ms := ms') As.length hts (mm_gz wc) (by rw [mm_wz, hret]) rfl rfl (hts _ wn) (hts _ wl) y2 (by simp only [mm_rm]; omega)
  have hrun := va_runI (e := e) (below := below) (meth := meth) (g := F0 m pc ls (st.map (mm_cv ad))) (As := As.map (mm_cv ad)) (rest := rest.map (mm_cv ad)) (b := ad b) (cells := ck) (slots := cs) (locs := locs) ⟨hAt.1, hAt.2.1, hAt.2.2.1, hAt.2.2.2.1, hts⟩ hM ⟨cb, hi, hts _ wi⟩ ⟨mm_Pc_blind, fun U hU hW => mm_pre (As := v_r b :: As) hAt hWd U hU hW⟩ rfl (by simp) hL.1 (by rw [hst]; simp [mm_cv]) (lv_room (by rw [mm_wd_cat]; exact hcat)) hd ⟨Nat.le_trans hm.1 r3, Nat.le_trans hm.2 r4⟩
  exact mm_after hAt hWd hL hK hv hm hrun (fun _ _ _ h => h)
theorem mm_callJ {idx b mc' ms' : Nat} {mi' : mm_Mi} (As rest : List mm_V) (hd : decode mi.2.1 pc = .ok (.invokespecial idx, 3)) (hst : st = As.reverse ++ v_r b :: rest)
    (wl : (mi.1.cls, idx, mi'.1, RX9) ∈ mm_nest) (wi : Cond.instanceMethod mi'.1 ∈ mm_tbl) (wn : Cond.initialized mi'.1.cls ∈ mm_tbl) (wc : Cond.code mi'.1 mi'.2.1 mi'.2.2.1 mi'.2.2.2 ∈ mm_tbl) (hi : mi'.1.name = "<init>") (hret : mi'.2.2.2 = none)
    (hy : mm_yk mi' As.length (mm_wd (v_r b :: As)) = true) (hcat : mm_wd rest ≤ 8) (hv : mm_vk La.length (rest ++ L.map (fun q => q.2)) = true) (hm : ck + mc' ≤ mc ∧ cs + ms' ≤ ms)
    (E : mm_E X d mc' ms' mi' (v_r b :: As) (mm_Pn La (fun r La' M' => mm_G X (d + 1) mc ms mi Po (pc + 3) L (r.toList ++ rest) La' M' (ck + mc') (cs + ms'))) La M) : mm_G X (d + 1) mc ms mi Po pc L st La M ck cs := by
  intro p l e R s m args below meth c A ad ty D H locs ls Q hAt hWd hL hK h1 h2
  obtain ⟨y1, y2, y3, y4⟩ := mm_yk_of hy
  obtain ⟨r1, r2, r3, r4⟩ := hAt.2.2.2.2.2.1
  have hts := hAt.2.2.2.2.1
  have hM := mm_met y1 y4 E l ad ty D H.size
  have cb := va_cnB (args := args) (s := s) (R := R) (own := mi.1.cls) (host := RX9) (index := idx) (y := mi'.1) (bytes := mi'.2.1) (maxL := mi'.2.2.1) (ret := none) (ws := mm_wz mi') (rm := mm_rm d mc' ms') (mc := mc') (ms := ms') As.length hts (mm_gz wc) (by rw [mm_wz, hret]) rfl rfl (hAt.2.2.2.2.2.2.1.2.2.2.2.2.2 _ wl) (hts _ wn) y2 (by simp only [mm_rm]; omega)
  have hrun := va_runIN (e := e) (below := below) (meth := meth) (g := F0 m pc ls (st.map (mm_cv ad))) (As := As.map (mm_cv ad)) (rest := rest.map (mm_cv ad)) (b := ad b) (cells := ck) (slots := cs) (locs := locs) ⟨hAt.1, hAt.2.1, hAt.2.2.1, hAt.2.2.2.1, hts⟩ hM ⟨cb, hi, hts _ wi⟩ ⟨mm_Pc_blind, fun U hU hW => mm_pre (As := v_r b :: As) hAt hWd U hU hW⟩ rfl (by simp) hL.1 (by rw [hst]; simp [mm_cv]) (lv_room (by rw [mm_wd_cat]; exact hcat)) hd ⟨Nat.le_trans hm.1 r3, Nat.le_trans hm.2 r4⟩
  exact mm_after hAt hWd hL hK hv hm hrun (fun _ _ _ h => h)
theorem mm_oinit {idx b : Nat} (hd : decode mi.2.1 pc = .ok (.invokespecial idx, 3)) (wl : Cond.methodLink mi.1.cls idx objectInit ∈ mm_tbl) (wi : Cond.instanceMethod objectInit ∈ mm_tbl) (wc : Cond.code objectInit ⟨#[0xb1]⟩ 1 none ∈ mm_tbl) (hcat : mm_wd st ≤ 8) (K : mm_G X d mc ms mi Po (pc + 3) L st La M ck cs) : mm_G X d mc ms mi Po pc L (v_r b :: st) La M ck cs := by
  intro p l e R s m args below meth c A ad ty D H locs ls Q hAt hWd hL hK h1 h2
  have kk := K p l e R s m args below meth c A ad ty D H locs ls Q hAt hWd hL hK h1 h2
  obtain ⟨r1, r2, r3, r4⟩ := hAt.2.2.2.2.2.1
  have hts := hAt.2.2.2.2.1
  have h8 : 2 * (F0 m pc ls (mm_cv ad (v_r b) :: st.map (mm_cv ad))).monitorRoom + ((st.map (mm_cv ad)).map fun v => v.category).sum ≤ 8 := lv_room (by rw [mm_wd_cat]; exact hcat)
  exact W.objInit hAt.1 hAt.2.1 hAt.2.2.2.1 (hts _ wl) (hts _ wi) (hts _ wc) (g := F0 m pc ls (mm_cv ad (v_r b) :: st.map (mm_cv ad))) rfl (by rw [hAt.2.2.1]; exact hL.1) rfl hd (by omega) (by omega) kk
end MMC
end
section
section MMN
variable {X : Nat × (Nat → Int)} {d mc ms : Nat} {mi : mm_Mi} {Po : mm_Po} {pc : Nat} {L : List (Nat × mm_V)} {st : List mm_V} {La : List mm_S} {M : mm_M} {ck cs : Nat}
/-- the references in the cells lie below n, or among what nobody writes -/
def mm_nk (n : Nat) : List mm_S → Bool
  | [] => true
  | .inl _ :: t => mm_nk n t
  | .inr q :: t => mm_vk n q.2 && mm_nk n t
theorem mm_nk_at {n : Nat} : ∀ {La : List mm_S} {i c : Nat} {fs : List mm_V}, mm_nk n La = true → La[i]? = some (.inr (c, fs)) → mm_vk n fs = true
  | [], i, c, fs, _, h => by simp at h
  | .inl q :: t, 0, c, fs, _, h => by simp at h
  | .inr q :: t, 0, c, fs, hk, h => by
    simp only [mm_nk, Bool.and_eq_true] at hk
    simp only [List.getElem?_cons_zero, Option.some.injEq, Sum.inr.injEq] at h
    rw [h] at hk
    exact hk.1
  | .inl q :: t, i + 1, c, fs, hk, h => mm_nk_at (La := t) (i := i) hk (by simpa using h)
  | .inr q :: t, i + 1, c, fs, hk, h => by
    simp only [mm_nk, Bool.and_eq_true] at hk
    exact mm_nk_at (La := t) (i := i) hk.2 (by simpa using h)
theorem mm_vk_at {n : Nat} : ∀ {fs : List mm_V} {k a : Nat}, mm_vk n fs = true → fs[k]? = some (v_r a) → a < n ∨ 1000 ≤ a
  | [], k, a, _, h => by simp at h
  | v :: t, 0, a, hk, h => by
    simp only [List.getElem?_cons_zero, Option.some.injEq] at h
    subst h
    simp only [mm_vk, Bool.and_eq_true, Bool.or_eq_true, decide_eq_true_eq] at hk
    exact hk.1
  | v :: t, k + 1, a, hk, h => by
    have hk2 : mm_vk n t = true := by
      rcases v with v | v | _ | v
      · exact hk
      · exact hk
      · exact hk
      · simp only [mm_vk, Bool.and_eq_true] at hk
        exact hk.2
    exact mm_vk_at (fs := t) (k := k) hk2 (by simpa using h)
def mm_ad (ad : Nat → Nat) (n q : Nat) : Nat → Nat := fun i => if i = n then q else ad i
theorem mm_ad_ok {ad : Nat → Nat} {n q : Nat} (hn : n < 1000) : ∀ i, i < n ∨ 1000 ≤ i → mm_ad ad n q i = ad i := fun i h => if_neg (by omega)
theorem mm_ws_new {ty : FieldType → ClassId} {ad : Nat → Nat} {q : Nat} {sh : mm_S} (hl : La.length < 1000) (hc : mm_nk La.length La = true) :
    mm_ws ty (mm_ad ad La.length q) (La ++ [sh]) M = mm_ws ty ad La M ++ [(q, mm_ce ty (mm_ad ad La.length q) (M La.length) sh)] := by
  apply List.ext_getElem?
  intro j
  have hz : (mm_ws ty ad La M).length = La.length := by simp [mm_ws]
  by_cases hj : j < La.length
  · rw [List.getElem?_append_left (by rw [hz]; exact hj)]
    simp only [mm_ws, List.getElem?_mapIdx, List.getElem?_append_left hj]
    have hsome : La[j]? = some La[j] := List.getElem?_eq_getElem hj
    rw [hsome]
    simp only [Option.map_some, mm_ad_ok hl j (Or.inl hj)]
    congr 2
    cases hs : La[j] with
    | inl x => rfl
    | inr x =>
      obtain ⟨c, fs⟩ := x
      rw [hs] at hsome
      have hv := mm_nk_at hc hsome
      simp only [mm_ce]
      congr 2
      apply List.ext_getElem?
      intro k
      simp only [List.getElem?_mapIdx]
      cases hf : fs[k]? with
      | none => rfl
      | some v =>
        rcases v with v | v | _ | a
        · rfl
        · rfl
        · rfl
        · simp only [Option.map_some, mm_fv, mm_ad_ok hl a (mm_vk_at hv hf)]
  · by_cases hj2 : j = La.length
    · subst hj2
      rw [List.getElem?_append_right (by rw [hz]; exact Nat.le_refl _), hz, Nat.sub_self]
      simp [mm_ws, List.getElem?_mapIdx, mm_ad]
    · have h3 : La.length + 1 ≤ j := by omega
      rw [List.getElem?_eq_none (by simp [mm_ws]; omega), List.getElem?_eq_none (by simp [hz]; omega)]
theorem mm_grow {sh : mm_S} {p : Program} {l : Launch} {e : Env} {R : Room} {s : State} {m : MethodId} {args : Array Value} {below : List Frame} {meth : Method} {c : Code} {A : Nat → Prop} {ad : Nat → Nat} {ty : FieldType → ClassId} {D : va_G} {H1 : Heap} {locs : List Loc} {ls : Array Slot} {Q : State → Prop} {q pc2 ck2 cs2 : Nat} (hAt : mm_At X d mc ms mi p R s m args meth c A ad ty D) (hL : lv_has ls mi.2.2.1 (mm_lo ad L))
    (hK : ∀ (r : Option mm_V) (La' : List mm_S) (M' : mm_M) (ad' : Nat → Nat) (H' : Heap) (locs' : List Loc) (ls' : Array Slot) (pc' ck' cs' : Nat), Po r La' M' → mm_rt mi pc' r → (∀ i, i < La.length ∨ 1000 ≤ i → ad' i = ad i) → mm_Wd A ad' ty D La' M' s.heap H' locs' → ck' ≤ mc → cs' ≤ ms → W p l e R s m args below meth c H' locs' ck' cs' Q (F0 m pc' ls' (r.toList.map (mm_cv ad'))))
    (hl : La.length < 1000) (hc : mm_nk La.length La = true) (hv : mm_vk La.length (st ++ L.map (fun q => q.2)) = true) (hm : ck2 ≤ mc ∧ cs2 ≤ ms)
    (hP : va_P D vwCl (mm_ws ty ad La M ++ [(q, mm_ce ty (mm_ad ad La.length q) (M La.length) sh)]) H1) (hD : va_D A (mm_ws ty ad La M ++ [(q, mm_ce ty (mm_ad ad La.length q) (M La.length) sh)])) (hS : va_S A s.heap H1 locs)
    (K : mm_G X d mc ms mi Po pc2 L (v_r La.length :: st) (La ++ [sh]) M ck2 cs2) : W p l e R s m args below meth c H1 locs ck2 cs2 Q (F0 m pc2 ls (.ref q :: st.map (mm_cv ad))) := by
  have had := mm_ad_ok (ad := ad) (q := q) hl
  have hv2 := mm_vk_app hv
  rw [← mm_ws_new hl hc] at hP hD
  have kk := K p l e R s m args below meth c A (mm_ad ad La.length q) ty D H1 locs ls Q ⟨hAt.1, hAt.2.1, hAt.2.2.1, hAt.2.2.2.1, hAt.2.2.2.2.1, hAt.2.2.2.2.2.1, hAt.2.2.2.2.2.2.1.ad (fun i hi => had i (Or.inr hi)), hAt.2.2.2.2.2.2.2⟩ ⟨hP, hD, hS⟩ (by rw [mm_vk_lo had L hv2.2]; exact hL) (fun r2 La2 M2 ad2 H2 locs2 ls2 pc2 ck2 cs2 q1 q2 q3 => hK r2 La2 M2 ad2 H2 locs2 ls2 pc2 ck2 cs2 q1 q2 (fun i hi => (q3 i (by simp; omega)).trans (had i hi))) hm.1 hm.2
  have e1 : (v_r La.length :: st).map (mm_cv (mm_ad ad La.length q)) = .ref q :: st.map (mm_cv ad) := by
    rw [List.map_cons, mm_vk_map had st hv2.1]
    simp [mm_cv, mm_ad]
  rw [e1] at kk
  exact kk
theorem mm_newa {at0 : ArrayType} {t : FieldType} {n : Nat} (hd : decode mi.2.1 pc = .ok (.newarray at0, 2)) (w : Cond.arrayClass (newarray.typeOf at0) ∈ mm_tbl) (ht : newarray.typeOf at0 = t) (hk : t = .int ∨ t = .long ∨ t = .boolean) (hn : n ≤ 5000) (hm : ck + 1 ≤ mc ∧ cs + n ≤ ms) (hl : La.length < 1000) (hc : mm_nk La.length La = true) (hv : mm_vk La.length (st ++ L.map (fun q => q.2)) = true) (hz : ∀ k, M La.length k = 0)
    (K : mm_G X d mc ms mi Po (pc + 2) L (v_r La.length :: st) (La ++ [.inl (t, n)]) M (ck + 1) (cs + n)) : mm_G X d mc ms mi Po pc L (v_i (n : Int) :: st) La M ck cs := by
  intro p l e R s m args below meth c A ad ty D H locs ls Q hAt hWd hL hK h1 h2
  obtain ⟨r1, r2, r3, r4⟩ := hAt.2.2.2.2.2.1
  have hts := hAt.2.2.2.2.1
  have hKK := hAt.2.2.2.2.2.2.2.1
  have hMz : M La.length = fun _ => 0 := funext hz
  have hnn : (Int32.ofInt (n : Int)).toNatClampNeg = n ∧ ¬ Int32.ofInt (n : Int) < 0 := by
    have h3 : (Int32.ofInt (n : Int)).toInt = n := mm_o32 (by omega)
    refine ⟨?_, fun h => ?_⟩
    · show (Int32.ofInt (n : Int)).toInt.toNat = n
      rw [h3]; simp
    · have h4 := Int32.lt_iff_toInt_lt.mp h
      rw [h3] at h4
      have h5 : (0 : Int32).toInt = 0 := rfl
      omega
  have key : ∀ (cA : ClassId), va_K D vwCl (mm_tys ty ++ [(cA, t)]) s → cA = ty t := by
    intro cA hk2
    have g1 := (hk2.2 3 (cA, t) rfl).2
    rcases hk with rfl | rfl | rfl
    · have g2 := (hKK.2 0 (ty .int, .int) rfl).2
      exact Option.some.inj (g1.symm.trans g2)
    · have g2 := (hKK.2 1 (ty .long, .long) rfl).2
      exact Option.some.inj (g1.symm.trans g2)
    · have g2 := (hKK.2 2 (ty .boolean, .boolean) rfl).2
      exact Option.some.inj (g1.symm.trans g2)
  refine va_newa (a0 := mm_ar n t (M La.length)) hAt.1 hAt.2.1 (hts _ w) ht hKK hWd.1 hWd.2.1 hWd.2.2 hAt.2.2.2.2.2.2.2.2.1 (n := Int32.ofInt (n : Int)) (N' := n) ?_ hnn.2 hnn.1 ?_ (by omega) (by omega) hd (fun q cA H1 hK2 hP hD hS => ?_)
  · intro cA
    rw [hMz]
    rcases hk with rfl | rfl | rfl <;> rfl
  · rcases hk with rfl | rfl | rfl <;> simp [componentBytes] <;> omega
  · have hcA := key cA hK2
    subst hcA
    exact mm_grow (sh := .inl (t, n)) hAt hL hK hl hc hv ⟨hm.1, hm.2⟩ hP hD hS K
def mm_dv : FieldType → mm_V
  | .int => v_i 0
  | .long => v_l 0
  | _ => v_n
def mm_dt : FieldType → Bool
  | .int => true
  | .long => true
  | .array _ => true
  | .object _ => true
  | _ => false
theorem mm_dv_ok {t : FieldType} {ad : Nat → Nat} {f : Nat → Int} {k : Nat} (hf : ∀ k, f k = 0) (h : mm_dt t = true) : defaultValue t = mm_fv ad f k (mm_dv t) := by
  cases t <;> first | (simp only [mm_dv, mm_fv, hf]; rfl) | (cases h)
theorem mm_new {idx ci N : Nat} {C : String} {T : u_T} {ty0 : Nat → FieldType} {fs : List mm_V} (hd : decode mi.2.1 pc = .ok (.new idx, 3)) (hci : vwCl[ci]? = some (C, T, N)) (hin : ∀ w ∈ u_ws C T N, w ∈ mm_tbl) (hty : ∀ k, k < N → parseFieldDescriptor (T k).2.2.1 = some (ty0 k)) (w1 : Cond.classLink mi.1.cls idx C ∈ mm_tbl) (w2 : Cond.instantiable C N ∈ mm_tbl) (w3 : Cond.initialized C ∈ mm_tbl)
    (hdt : (List.range N).all (fun k => mm_dt (ty0 k)) = true) (hfs : (List.range N).map (fun k => mm_dv (ty0 k)) = fs) (hm : ck + 1 ≤ mc ∧ cs + N ≤ ms) (hl : La.length < 1000) (hc : mm_nk La.length La = true) (hv : mm_vk La.length (st ++ L.map (fun q => q.2)) = true) (hz : ∀ k, M La.length k = 0)
    (K : mm_G X d mc ms mi Po (pc + 3) L (v_r La.length :: st) (La ++ [.inr (ci, fs)]) M (ck + 1) (cs + N)) : mm_G X d mc ms mi Po pc L st La M ck cs := by
  intro p l e R s m args below meth c A ad ty D H locs ls Q hAt hWd hL hK h1 h2
  obtain ⟨r1, r2, r3, r4⟩ := hAt.2.2.2.2.2.1
  have hts := hAt.2.2.2.2.1
  subst hfs
  refine W.of (H' := H) (locs' := locs) (cells' := ck) (slots' := cs) (g2 := F0 m pc ls (st.map (mm_cv ad))) (fun T0 hT0 Z => ⟨T0, hT0, Z, fun _ h => h⟩) ?_
  by_cases hq0 : True
  · have hfree : ∀ q : Nat, ∀ j, j < N → defaultValue (ty0 j) = vp_V (((List.range N).map (fun k => mm_dv (ty0 k))).mapIdx (mm_fv (mm_ad ad La.length q) (M La.length))) j := by
      intro q j hj
      have h3 : ((List.range N).map (fun k => mm_dv (ty0 k)))[j]? = some (mm_dv (ty0 j)) := by simp [hj]
      simp only [vp_V, List.getD, mm_fs_at h3, Option.getD_some]
      exact mm_dv_ok hz (List.all_eq_true.mp hdt j (List.mem_range.mpr hj))
    refine va_new (fs := ((List.range N).map (fun k => mm_dv (ty0 k))).mapIdx (mm_fv (mm_ad ad La.length 0) (M La.length))) hAt.1 hAt.2.1 hts hin ty0 hty hAt.2.2.2.1 (hts _ w1) (hts _ w2) (hts _ w3) hAt.2.2.2.2.2.2.2.1 hWd.1 hWd.2.1 hWd.2.2 hAt.2.2.2.2.2.2.2.2.1 hci (hfree 0) (by omega) (by omega) hd (fun q H1 hP hD hS => ?_)
    have e2 : ((List.range N).map (fun k => mm_dv (ty0 k))).mapIdx (mm_fv (mm_ad ad La.length 0) (M La.length)) = ((List.range N).map (fun k => mm_dv (ty0 k))).mapIdx (mm_fv (mm_ad ad La.length q) (M La.length)) := by
      apply List.ext_getElem?
      intro j
      simp only [List.getElem?_mapIdx, List.getElem?_map]
      cases hr : (List.range N)[j]? with
      | none => rfl
      | some k =>
        simp only [Option.map_some]
        cases ty0 k <;> rfl
    rw [e2] at hP hD
    exact mm_grow (sh := .inr (ci, (List.range N).map (fun k => mm_dv (ty0 k)))) hAt hL hK hl hc hv ⟨hm.1, hm.2⟩ hP hD hS K
  · exact absurd trivial hq0
end MMN
end
section
theorem i_vc : Claimed_1_1 ∧ Claimed_1_2 := sorry
end
