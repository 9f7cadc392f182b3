section
-- ===== PART A: goes FIRST, ahead of the names: the tables' words, and 'selects' of the private methods out of them =====
/-- a private method of a class that the tables say can be made, by its rows of tables_1 -/
def lw_okq (q : MethodName × Nat) : Prop := (q.1.cls ≠ "java/lang/invoke/MethodHandle" ∧ q.1.cls ≠ "java/lang/invoke/VarHandle") ∧ Cond.instantiable q.1.cls q.2 ∈ tables_1 ∧ Cond.privateMethod q.1 ∈ tables_1 ∧ Cond.instanceMethod q.1 ∈ tables_1
theorem lw_p0 : lw_okq (⟨"DawnEights$Races", "numberRows", "(I)V"⟩, 8) := ⟨⟨by decide +kernel, by decide +kernel⟩, List.mem_of_getElem? (i := 79) (by decide +kernel), List.mem_of_getElem? (i := 428) (by decide +kernel), List.mem_of_getElem? (i := 429) (by decide +kernel)⟩
theorem lw_p1 : lw_okq (⟨"DawnEights$Races", "fillCells", "(I)V"⟩, 8) := ⟨⟨by decide +kernel, by decide +kernel⟩, List.mem_of_getElem? (i := 79) (by decide +kernel), List.mem_of_getElem? (i := 433) (by decide +kernel), List.mem_of_getElem? (i := 434) (by decide +kernel)⟩
theorem lw_p2 : lw_okq (⟨"DawnEights$Races", "addToRow", "(III)V"⟩, 8) := ⟨⟨by decide +kernel, by decide +kernel⟩, List.mem_of_getElem? (i := 79) (by decide +kernel), List.mem_of_getElem? (i := 440) (by decide +kernel), List.mem_of_getElem? (i := 441) (by decide +kernel)⟩
theorem lw_p3 : lw_okq (⟨"DawnEights$Races", "eliminate", "(I)Z"⟩, 8) := ⟨⟨by decide +kernel, by decide +kernel⟩, List.mem_of_getElem? (i := 79) (by decide +kernel), List.mem_of_getElem? (i := 444) (by decide +kernel), List.mem_of_getElem? (i := 445) (by decide +kernel)⟩
theorem lw_p4 : lw_okq (⟨"DawnEights$Races", "clearCell", "(IIJJ)V"⟩, 8) := ⟨⟨by decide +kernel, by decide +kernel⟩, List.mem_of_getElem? (i := 79) (by decide +kernel), List.mem_of_getElem? (i := 448) (by decide +kernel), List.mem_of_getElem? (i := 449) (by decide +kernel)⟩
theorem lw_p5 : lw_okq (⟨"DawnEights$Races", "leadOver", "(III)I"⟩, 8) := ⟨⟨by decide +kernel, by decide +kernel⟩, List.mem_of_getElem? (i := 79) (by decide +kernel), List.mem_of_getElem? (i := 483) (by decide +kernel), List.mem_of_getElem? (i := 484) (by decide +kernel)⟩
theorem lw_p6 : lw_okq (⟨"DawnEights$CrewPlan", "fillRow", "(LDawnEights$Club;III)V"⟩, 3) := ⟨⟨by decide +kernel, by decide +kernel⟩, List.mem_of_getElem? (i := 114) (by decide +kernel), List.mem_of_getElem? (i := 500) (by decide +kernel), List.mem_of_getElem? (i := 501) (by decide +kernel)⟩
theorem lw_p7 : lw_okq (⟨"DawnEights$CrewPlan", "setPrices", "(LDawnEights$Club;II)V"⟩, 3) := ⟨⟨by decide +kernel, by decide +kernel⟩, List.mem_of_getElem? (i := 114) (by decide +kernel), List.mem_of_getElem? (i := 522) (by decide +kernel), List.mem_of_getElem? (i := 523) (by decide +kernel)⟩
theorem lw_p8 : lw_okq (⟨"DawnEights$CrewPlan", "choose", "(III)I"⟩, 3) := ⟨⟨by decide +kernel, by decide +kernel⟩, List.mem_of_getElem? (i := 114) (by decide +kernel), List.mem_of_getElem? (i := 540) (by decide +kernel), List.mem_of_getElem? (i := 541) (by decide +kernel)⟩
theorem lw_p9 : lw_okq (⟨"DawnEights$Tape", "countSame", "(Ljava/lang/String;II)I"⟩, 3) := ⟨⟨by decide +kernel, by decide +kernel⟩, List.mem_of_getElem? (i := 145) (by decide +kernel), List.mem_of_getElem? (i := 618) (by decide +kernel), List.mem_of_getElem? (i := 619) (by decide +kernel)⟩
theorem lw_p10 : lw_okq (⟨"DawnEights$RuleBook", "readTests", "(LDawnEights$Tape;)Z"⟩, 9) := ⟨⟨by decide +kernel, by decide +kernel⟩, List.mem_of_getElem? (i := 164) (by decide +kernel), List.mem_of_getElem? (i := 631) (by decide +kernel), List.mem_of_getElem? (i := 632) (by decide +kernel)⟩
theorem lw_p11 : lw_okq (⟨"DawnEights$RuleBook", "readTest", "(LDawnEights$Tape;I)Z"⟩, 9) := ⟨⟨by decide +kernel, by decide +kernel⟩, List.mem_of_getElem? (i := 164) (by decide +kernel), List.mem_of_getElem? (i := 635) (by decide +kernel), List.mem_of_getElem? (i := 636) (by decide +kernel)⟩
theorem lw_p12 : lw_okq (⟨"DawnEights", "askedRule", "(II)I"⟩, 10) := ⟨⟨by decide +kernel, by decide +kernel⟩, List.mem_of_getElem? (i := 21) (by decide +kernel), List.mem_of_getElem? (i := 660) (by decide +kernel), List.mem_of_getElem? (i := 661) (by decide +kernel)⟩
theorem lw_p13 : lw_okq (⟨"DawnEights$RuleBook", "testsHold", "(I)Z"⟩, 9) := ⟨⟨by decide +kernel, by decide +kernel⟩, List.mem_of_getElem? (i := 164) (by decide +kernel), List.mem_of_getElem? (i := 674) (by decide +kernel), List.mem_of_getElem? (i := 675) (by decide +kernel)⟩
theorem lw_p14 : lw_okq (⟨"DawnEights$RuleBook", "isSo", "(I)Z"⟩, 9) := ⟨⟨by decide +kernel, by decide +kernel⟩, List.mem_of_getElem? (i := 164) (by decide +kernel), List.mem_of_getElem? (i := 678) (by decide +kernel), List.mem_of_getElem? (i := 679) (by decide +kernel)⟩
theorem lw_p15 : lw_okq (⟨"DawnEights", "whyAshore", "(II)I"⟩, 10) := ⟨⟨by decide +kernel, by decide +kernel⟩, List.mem_of_getElem? (i := 21) (by decide +kernel), List.mem_of_getElem? (i := 686) (by decide +kernel), List.mem_of_getElem? (i := 687) (by decide +kernel)⟩
def lw_privs_1 : List (MethodName × Nat) := [(⟨"DawnEights$Races", "numberRows", "(I)V"⟩, 8), (⟨"DawnEights$Races", "fillCells", "(I)V"⟩, 8), (⟨"DawnEights$Races", "addToRow", "(III)V"⟩, 8), (⟨"DawnEights$Races", "eliminate", "(I)Z"⟩, 8), (⟨"DawnEights$Races", "clearCell", "(IIJJ)V"⟩, 8), (⟨"DawnEights$Races", "leadOver", "(III)I"⟩, 8), (⟨"DawnEights$CrewPlan", "fillRow", "(LDawnEights$Club;III)V"⟩, 3), (⟨"DawnEights$CrewPlan", "setPrices", "(LDawnEights$Club;II)V"⟩, 3), (⟨"DawnEights$CrewPlan", "choose", "(III)I"⟩, 3), (⟨"DawnEights$Tape", "countSame", "(Ljava/lang/String;II)I"⟩, 3), (⟨"DawnEights$RuleBook", "readTests", "(LDawnEights$Tape;)Z"⟩, 9), (⟨"DawnEights$RuleBook", "readTest", "(LDawnEights$Tape;I)Z"⟩, 9), (⟨"DawnEights", "askedRule", "(II)I"⟩, 10), (⟨"DawnEights$RuleBook", "testsHold", "(I)Z"⟩, 9), (⟨"DawnEights$RuleBook", "isSo", "(I)Z"⟩, 9), (⟨"DawnEights", "whyAshore", "(II)I"⟩, 10)]
theorem lw_r1 : ∀ q ∈ lw_privs_1, lw_okq q := List.forall_mem_cons.mpr ⟨lw_p0, List.forall_mem_cons.mpr ⟨lw_p1, List.forall_mem_cons.mpr ⟨lw_p2, List.forall_mem_cons.mpr ⟨lw_p3, List.forall_mem_cons.mpr ⟨lw_p4, List.forall_mem_cons.mpr ⟨lw_p5, List.forall_mem_cons.mpr ⟨lw_p6, List.forall_mem_cons.mpr ⟨lw_p7, List.forall_mem_cons.mpr ⟨lw_p8, List.forall_mem_cons.mpr ⟨lw_p9, List.forall_mem_cons.mpr ⟨lw_p10, List.forall_mem_cons.mpr ⟨lw_p11, List.forall_mem_cons.mpr ⟨lw_p12, List.forall_mem_cons.mpr ⟨lw_p13, List.forall_mem_cons.mpr ⟨lw_p14, List.forall_mem_cons.mpr ⟨lw_p15, fun _ h => absurd h List.not_mem_nil⟩⟩⟩⟩⟩⟩⟩⟩⟩⟩⟩⟩⟩⟩⟩⟩
theorem lw_p16 : lw_okq (⟨"DawnEights$Logbook", "latestLook", "(II)I"⟩, 9) := ⟨⟨by decide +kernel, by decide +kernel⟩, List.mem_of_getElem? (i := 202) (by decide +kernel), List.mem_of_getElem? (i := 694) (by decide +kernel), List.mem_of_getElem? (i := 695) (by decide +kernel)⟩
theorem lw_p17 : lw_okq (⟨"DawnEights$Logbook", "firstBehind", "(I)I"⟩, 9) := ⟨⟨by decide +kernel, by decide +kernel⟩, List.mem_of_getElem? (i := 202) (by decide +kernel), List.mem_of_getElem? (i := 750) (by decide +kernel), List.mem_of_getElem? (i := 751) (by decide +kernel)⟩
theorem lw_p18 : lw_okq (⟨"DawnEights$Heats", "wouldClash", "(III)Z"⟩, 4) := ⟨⟨by decide +kernel, by decide +kernel⟩, List.mem_of_getElem? (i := 242) (by decide +kernel), List.mem_of_getElem? (i := 782) (by decide +kernel), List.mem_of_getElem? (i := 783) (by decide +kernel)⟩
theorem lw_p19 : lw_okq (⟨"DawnEights$Heats", "firstClash", "(II)I"⟩, 4) := ⟨⟨by decide +kernel, by decide +kernel⟩, List.mem_of_getElem? (i := 242) (by decide +kernel), List.mem_of_getElem? (i := 797) (by decide +kernel), List.mem_of_getElem? (i := 798) (by decide +kernel)⟩
theorem lw_p20 : lw_okq (⟨"DawnEights$Racks", "longestRow", "()I"⟩, 4) := ⟨⟨by decide +kernel, by decide +kernel⟩, List.mem_of_getElem? (i := 263) (by decide +kernel), List.mem_of_getElem? (i := 812) (by decide +kernel), List.mem_of_getElem? (i := 813) (by decide +kernel)⟩
theorem lw_p21 : lw_okq (⟨"DawnEightsModel", "isOar", "(I)Z"⟩, 53) := ⟨⟨by decide +kernel, by decide +kernel⟩, List.mem_of_getElem? (i := 827) (by decide +kernel), List.mem_of_getElem? (i := 1012) (by decide +kernel), List.mem_of_getElem? (i := 1013) (by decide +kernel)⟩
theorem lw_p22 : lw_okq (⟨"DawnEightsModel", "isSeat", "(II)Z"⟩, 53) := ⟨⟨by decide +kernel, by decide +kernel⟩, List.mem_of_getElem? (i := 827) (by decide +kernel), List.mem_of_getElem? (i := 1020) (by decide +kernel), List.mem_of_getElem? (i := 1021) (by decide +kernel)⟩
theorem lw_p23 : lw_okq (⟨"DawnEightsModel", "isBoat", "(I)Z"⟩, 53) := ⟨⟨by decide +kernel, by decide +kernel⟩, List.mem_of_getElem? (i := 827) (by decide +kernel), List.mem_of_getElem? (i := 1024) (by decide +kernel), List.mem_of_getElem? (i := 1025) (by decide +kernel)⟩
theorem lw_p24 : lw_okq (⟨"DawnEightsModel", "seatsOf", "(I)I"⟩, 53) := ⟨⟨by decide +kernel, by decide +kernel⟩, List.mem_of_getElem? (i := 827) (by decide +kernel), List.mem_of_getElem? (i := 1028) (by decide +kernel), List.mem_of_getElem? (i := 1029) (by decide +kernel)⟩
theorem lw_p25 : lw_okq (⟨"DawnEightsModel", "hasCox", "(I)Z"⟩, 53) := ⟨⟨by decide +kernel, by decide +kernel⟩, List.mem_of_getElem? (i := 827) (by decide +kernel), List.mem_of_getElem? (i := 1032) (by decide +kernel), List.mem_of_getElem? (i := 1033) (by decide +kernel)⟩
theorem lw_p26 : lw_okq (⟨"DawnEightsModel", "sitter", "(II)I"⟩, 53) := ⟨⟨by decide +kernel, by decide +kernel⟩, List.mem_of_getElem? (i := 827) (by decide +kernel), List.mem_of_getElem? (i := 1036) (by decide +kernel), List.mem_of_getElem? (i := 1037) (by decide +kernel)⟩
theorem lw_p27 : lw_okq (⟨"DawnEightsModel", "findGroups", "()V"⟩, 53) := ⟨⟨by decide +kernel, by decide +kernel⟩, List.mem_of_getElem? (i := 827) (by decide +kernel), List.mem_of_getElem? (i := 1062) (by decide +kernel), List.mem_of_getElem? (i := 1063) (by decide +kernel)⟩
theorem lw_p28 : lw_okq (⟨"DawnEightsModel", "solves", "(I)Z"⟩, 53) := ⟨⟨by decide +kernel, by decide +kernel⟩, List.mem_of_getElem? (i := 827) (by decide +kernel), List.mem_of_getElem? (i := 1070) (by decide +kernel), List.mem_of_getElem? (i := 1071) (by decide +kernel)⟩
theorem lw_p29 : lw_okq (⟨"DawnEightsModel", "tells", "(III)V"⟩, 53) := ⟨⟨by decide +kernel, by decide +kernel⟩, List.mem_of_getElem? (i := 827) (by decide +kernel), List.mem_of_getElem? (i := 1074) (by decide +kernel), List.mem_of_getElem? (i := 1075) (by decide +kernel)⟩
theorem lw_p30 : lw_okq (⟨"DawnEightsModel", "determinant", "(I)J"⟩, 53) := ⟨⟨by decide +kernel, by decide +kernel⟩, List.mem_of_getElem? (i := 827) (by decide +kernel), List.mem_of_getElem? (i := 1078) (by decide +kernel), List.mem_of_getElem? (i := 1079) (by decide +kernel)⟩
theorem lw_p31 : lw_okq (⟨"DawnEightsModel", "fillCost", "(II)V"⟩, 53) := ⟨⟨by decide +kernel, by decide +kernel⟩, List.mem_of_getElem? (i := 827) (by decide +kernel), List.mem_of_getElem? (i := 1109) (by decide +kernel), List.mem_of_getElem? (i := 1110) (by decide +kernel)⟩
def lw_privs_2 : List (MethodName × Nat) := [(⟨"DawnEights$Logbook", "latestLook", "(II)I"⟩, 9), (⟨"DawnEights$Logbook", "firstBehind", "(I)I"⟩, 9), (⟨"DawnEights$Heats", "wouldClash", "(III)Z"⟩, 4), (⟨"DawnEights$Heats", "firstClash", "(II)I"⟩, 4), (⟨"DawnEights$Racks", "longestRow", "()I"⟩, 4), (⟨"DawnEightsModel", "isOar", "(I)Z"⟩, 53), (⟨"DawnEightsModel", "isSeat", "(II)Z"⟩, 53), (⟨"DawnEightsModel", "isBoat", "(I)Z"⟩, 53), (⟨"DawnEightsModel", "seatsOf", "(I)I"⟩, 53), (⟨"DawnEightsModel", "hasCox", "(I)Z"⟩, 53), (⟨"DawnEightsModel", "sitter", "(II)I"⟩, 53), (⟨"DawnEightsModel", "findGroups", "()V"⟩, 53), (⟨"DawnEightsModel", "solves", "(I)Z"⟩, 53), (⟨"DawnEightsModel", "tells", "(III)V"⟩, 53), (⟨"DawnEightsModel", "determinant", "(I)J"⟩, 53), (⟨"DawnEightsModel", "fillCost", "(II)V"⟩, 53)]
theorem lw_r2 : ∀ q ∈ lw_privs_2, lw_okq q := List.forall_mem_cons.mpr ⟨lw_p16, List.forall_mem_cons.mpr ⟨lw_p17, List.forall_mem_cons.mpr ⟨lw_p18, List.forall_mem_cons.mpr ⟨lw_p19, List.forall_mem_cons.mpr ⟨lw_p20, List.forall_mem_cons.mpr ⟨lw_p21, List.forall_mem_cons.mpr ⟨lw_p22, List.forall_mem_cons.mpr ⟨lw_p23, List.forall_mem_cons.mpr ⟨lw_p24, List.forall_mem_cons.mpr ⟨lw_p25, List.forall_mem_cons.mpr ⟨lw_p26, List.forall_mem_cons.mpr ⟨lw_p27, List.forall_mem_cons.mpr ⟨lw_p28, List.forall_mem_cons.mpr ⟨lw_p29, List.forall_mem_cons.mpr ⟨lw_p30, List.forall_mem_cons.mpr ⟨lw_p31, fun _ h => absurd h List.not_mem_nil⟩⟩⟩⟩⟩⟩⟩⟩⟩⟩⟩⟩⟩⟩⟩⟩
theorem lw_p32 : lw_okq (⟨"DawnEightsModel", "canSit", "(III)Z"⟩, 53) := ⟨⟨by decide +kernel, by decide +kernel⟩, List.mem_of_getElem? (i := 827) (by decide +kernel), List.mem_of_getElem? (i := 1114) (by decide +kernel), List.mem_of_getElem? (i := 1115) (by decide +kernel)⟩
theorem lw_p33 : lw_okq (⟨"DawnEightsModel", "mayBeOut", "(II)Z"⟩, 53) := ⟨⟨by decide +kernel, by decide +kernel⟩, List.mem_of_getElem? (i := 827) (by decide +kernel), List.mem_of_getElem? (i := 1118) (by decide +kernel), List.mem_of_getElem? (i := 1119) (by decide +kernel)⟩
theorem lw_p34 : lw_okq (⟨"DawnEightsModel", "costOf", "(III)I"⟩, 53) := ⟨⟨by decide +kernel, by decide +kernel⟩, List.mem_of_getElem? (i := 827) (by decide +kernel), List.mem_of_getElem? (i := 1122) (by decide +kernel), List.mem_of_getElem? (i := 1123) (by decide +kernel)⟩
theorem lw_p35 : lw_okq (⟨"DawnEightsModel", "dislikes", "(III)I"⟩, 53) := ⟨⟨by decide +kernel, by decide +kernel⟩, List.mem_of_getElem? (i := 827) (by decide +kernel), List.mem_of_getElem? (i := 1126) (by decide +kernel), List.mem_of_getElem? (i := 1127) (by decide +kernel)⟩
theorem lw_p36 : lw_okq (⟨"DawnEightsModel", "parses", "()Z"⟩, 53) := ⟨⟨by decide +kernel, by decide +kernel⟩, List.mem_of_getElem? (i := 827) (by decide +kernel), List.mem_of_getElem? (i := 1147) (by decide +kernel), List.mem_of_getElem? (i := 1148) (by decide +kernel)⟩
theorem lw_p37 : lw_okq (⟨"DawnEightsModel", "word", "(II)I"⟩, 53) := ⟨⟨by decide +kernel, by decide +kernel⟩, List.mem_of_getElem? (i := 827) (by decide +kernel), List.mem_of_getElem? (i := 1151) (by decide +kernel), List.mem_of_getElem? (i := 1152) (by decide +kernel)⟩
theorem lw_p38 : lw_okq (⟨"DawnEightsModel", "fits", "(II)Z"⟩, 53) := ⟨⟨by decide +kernel, by decide +kernel⟩, List.mem_of_getElem? (i := 827) (by decide +kernel), List.mem_of_getElem? (i := 1155) (by decide +kernel), List.mem_of_getElem? (i := 1156) (by decide +kernel)⟩
theorem lw_p39 : lw_okq (⟨"DawnEightsModel", "sign", "()I"⟩, 53) := ⟨⟨by decide +kernel, by decide +kernel⟩, List.mem_of_getElem? (i := 827) (by decide +kernel), List.mem_of_getElem? (i := 1170) (by decide +kernel), List.mem_of_getElem? (i := 1171) (by decide +kernel)⟩
theorem lw_p40 : lw_okq (⟨"DawnEightsModel", "takes", "(I)Z"⟩, 53) := ⟨⟨by decide +kernel, by decide +kernel⟩, List.mem_of_getElem? (i := 827) (by decide +kernel), List.mem_of_getElem? (i := 1174) (by decide +kernel), List.mem_of_getElem? (i := 1175) (by decide +kernel)⟩
theorem lw_p41 : lw_okq (⟨"DawnEightsModel", "test", "(I)Z"⟩, 53) := ⟨⟨by decide +kernel, by decide +kernel⟩, List.mem_of_getElem? (i := 827) (by decide +kernel), List.mem_of_getElem? (i := 1178) (by decide +kernel), List.mem_of_getElem? (i := 1179) (by decide +kernel)⟩
theorem lw_p42 : lw_okq (⟨"DawnEightsModel", "asked", "(II)I"⟩, 53) := ⟨⟨by decide +kernel, by decide +kernel⟩, List.mem_of_getElem? (i := 827) (by decide +kernel), List.mem_of_getElem? (i := 1189) (by decide +kernel), List.mem_of_getElem? (i := 1190) (by decide +kernel)⟩
theorem lw_p43 : lw_okq (⟨"DawnEightsModel", "isSo", "(III)Z"⟩, 53) := ⟨⟨by decide +kernel, by decide +kernel⟩, List.mem_of_getElem? (i := 827) (by decide +kernel), List.mem_of_getElem? (i := 1193) (by decide +kernel), List.mem_of_getElem? (i := 1194) (by decide +kernel)⟩
theorem lw_p44 : lw_okq (⟨"DawnEightsModel", "field", "(III)I"⟩, 53) := ⟨⟨by decide +kernel, by decide +kernel⟩, List.mem_of_getElem? (i := 827) (by decide +kernel), List.mem_of_getElem? (i := 1197) (by decide +kernel), List.mem_of_getElem? (i := 1198) (by decide +kernel)⟩
theorem lw_p45 : lw_okq (⟨"DawnEightsModel", "ashore", "(II)I"⟩, 53) := ⟨⟨by decide +kernel, by decide +kernel⟩, List.mem_of_getElem? (i := 827) (by decide +kernel), List.mem_of_getElem? (i := 1205) (by decide +kernel), List.mem_of_getElem? (i := 1206) (by decide +kernel)⟩
theorem lw_p46 : lw_okq (⟨"DawnEightsModel", "whoIn", "(I)I"⟩, 53) := ⟨⟨by decide +kernel, by decide +kernel⟩, List.mem_of_getElem? (i := 827) (by decide +kernel), List.mem_of_getElem? (i := 1217) (by decide +kernel), List.mem_of_getElem? (i := 1218) (by decide +kernel)⟩
theorem lw_p47 : lw_okq (⟨"DawnEightsModel", "clash", "(III)Z"⟩, 53) := ⟨⟨by decide +kernel, by decide +kernel⟩, List.mem_of_getElem? (i := 827) (by decide +kernel), List.mem_of_getElem? (i := 1247) (by decide +kernel), List.mem_of_getElem? (i := 1248) (by decide +kernel)⟩
def lw_privs_3 : List (MethodName × Nat) := [(⟨"DawnEightsModel", "canSit", "(III)Z"⟩, 53), (⟨"DawnEightsModel", "mayBeOut", "(II)Z"⟩, 53), (⟨"DawnEightsModel", "costOf", "(III)I"⟩, 53), (⟨"DawnEightsModel", "dislikes", "(III)I"⟩, 53), (⟨"DawnEightsModel", "parses", "()Z"⟩, 53), (⟨"DawnEightsModel", "word", "(II)I"⟩, 53), (⟨"DawnEightsModel", "fits", "(II)Z"⟩, 53), (⟨"DawnEightsModel", "sign", "()I"⟩, 53), (⟨"DawnEightsModel", "takes", "(I)Z"⟩, 53), (⟨"DawnEightsModel", "test", "(I)Z"⟩, 53), (⟨"DawnEightsModel", "asked", "(II)I"⟩, 53), (⟨"DawnEightsModel", "isSo", "(III)Z"⟩, 53), (⟨"DawnEightsModel", "field", "(III)I"⟩, 53), (⟨"DawnEightsModel", "ashore", "(II)I"⟩, 53), (⟨"DawnEightsModel", "whoIn", "(I)I"⟩, 53), (⟨"DawnEightsModel", "clash", "(III)Z"⟩, 53)]
theorem lw_r3 : ∀ q ∈ lw_privs_3, lw_okq q := List.forall_mem_cons.mpr ⟨lw_p32, List.forall_mem_cons.mpr ⟨lw_p33, List.forall_mem_cons.mpr ⟨lw_p34, List.forall_mem_cons.mpr ⟨lw_p35, List.forall_mem_cons.mpr ⟨lw_p36, List.forall_mem_cons.mpr ⟨lw_p37, List.forall_mem_cons.mpr ⟨lw_p38, List.forall_mem_cons.mpr ⟨lw_p39, List.forall_mem_cons.mpr ⟨lw_p40, List.forall_mem_cons.mpr ⟨lw_p41, List.forall_mem_cons.mpr ⟨lw_p42, List.forall_mem_cons.mpr ⟨lw_p43, List.forall_mem_cons.mpr ⟨lw_p44, List.forall_mem_cons.mpr ⟨lw_p45, List.forall_mem_cons.mpr ⟨lw_p46, List.forall_mem_cons.mpr ⟨lw_p47, fun _ h => absurd h List.not_mem_nil⟩⟩⟩⟩⟩⟩⟩⟩⟩⟩⟩⟩⟩⟩⟩⟩
theorem lw_p48 : lw_okq (⟨"DawnEightsModel", "longest", "(II)I"⟩, 53) := ⟨⟨by decide +kernel, by decide +kernel⟩, List.mem_of_getElem? (i := 827) (by decide +kernel), List.mem_of_getElem? (i := 1259) (by decide +kernel), List.mem_of_getElem? (i := 1260) (by decide +kernel)⟩
def lw_privs_4 : List (MethodName × Nat) := [(⟨"DawnEightsModel", "longest", "(II)I"⟩, 53)]
theorem lw_r4 : ∀ q ∈ lw_privs_4, lw_okq q := List.forall_mem_cons.mpr ⟨lw_p48, fun _ h => absurd h List.not_mem_nil⟩
def lw_privs : List (MethodName × Nat) := lw_privs_1 ++ (lw_privs_2 ++ (lw_privs_3 ++ (lw_privs_4)))
def lw_tbl : List Cond := k2_sels lw_privs ++ tables_1
theorem lw_privs_ok : ∀ q ∈ lw_privs, lw_okq q := by
  show ∀ q ∈ lw_privs_1 ++ (lw_privs_2 ++ (lw_privs_3 ++ (lw_privs_4))), lw_okq q
  exact List.forall_mem_append.mpr ⟨lw_r1, List.forall_mem_append.mpr ⟨lw_r2, List.forall_mem_append.mpr ⟨lw_r3, lw_r4⟩⟩⟩
end
section
def RX0 : String := "DawnEights$Club"
def TX0 : u_T := fun k => match k with
  | 0 => ("DawnEights$Club", "oars", "I", false)
  | 1 => ("DawnEights$Club", "oarKind", "[I", true)
  | 2 => ("DawnEights$Club", "weight", "[I", true)
  | 3 => ("DawnEights$Club", "sick", "[I", true)
  | 4 => ("DawnEights$Club", "place", "[I", true)
  | 5 => ("DawnEights$Club", "boats", "I", false)
  | 6 => ("DawnEights$Club", "boatKind", "[I", true)
  | 7 => ("DawnEights$Club", "least", "[I", true)
  | 8 => ("DawnEights$Club", "most", "[I", true)
  | _ => ("DawnEights$Club", "length", "[I", true)
def tyX0 : Nat → FieldType := fun k => match k with
  | 0 => .int
  | 1 => .array .int
  | 2 => .array .int
  | 3 => .array .int
  | 4 => .array .int
  | 5 => .int
  | 6 => .array .int
  | 7 => .array .int
  | 8 => .array .int
  | _ => .array .int
theorem nmX0 : ∀ a, a < 10 → ∀ b, b < 10 → a ≠ b → (TX0 a).2.1 ≠ (TX0 b).2.1 := by decide +kernel
theorem tyX0_ok : ∀ k, k < 10 → parseFieldDescriptor (TX0 k).2.2.1 = some (tyX0 k) := by decide +kernel
abbrev cX0_init : ByteArray := prog_2_method_1_code
def yX0_init : MethodName := ⟨RX0, "<init>", "()V"⟩
abbrev cX0_addOar : ByteArray := prog_2_method_2_code
def yX0_addOar : MethodName := ⟨RX0, "addOar", "(II)I"⟩
abbrev cX0_addBoat : ByteArray := prog_2_method_3_code
def yX0_addBoat : MethodName := ⟨RX0, "addBoat", "(IIII)I"⟩
abbrev cX0_hasOar : ByteArray := prog_2_method_4_code
def yX0_hasOar : MethodName := ⟨RX0, "hasOar", "(I)Z"⟩
abbrev cX0_hasBoat : ByteArray := prog_2_method_5_code
def yX0_hasBoat : MethodName := ⟨RX0, "hasBoat", "(I)Z"⟩
abbrev cX0_hasSeat : ByteArray := prog_2_method_6_code
def yX0_hasSeat : MethodName := ⟨RX0, "hasSeat", "(II)Z"⟩
abbrev cX0_seats : ByteArray := prog_2_method_7_code
def yX0_seats : MethodName := ⟨RX0, "seats", "(I)I"⟩
abbrev cX0_hasCox : ByteArray := prog_2_method_8_code
def yX0_hasCox : MethodName := ⟨RX0, "hasCox", "(I)Z"⟩
abbrev cX0_sitsIn : ByteArray := prog_2_method_9_code
def yX0_sitsIn : MethodName := ⟨RX0, "sitsIn", "(II)Z"⟩
abbrev cX0_isCox : ByteArray := prog_2_method_10_code
def yX0_isCox : MethodName := ⟨RX0, "isCox", "(I)Z"⟩
abbrev cX0_whoSits : ByteArray := prog_2_method_11_code
def yX0_whoSits : MethodName := ⟨RX0, "whoSits", "(II)I"⟩
abbrev cX0_maySit : ByteArray := prog_2_method_12_code
def yX0_maySit : MethodName := ⟨RX0, "maySit", "(II)Z"⟩
abbrev cX0_putOn : ByteArray := prog_2_method_13_code
def yX0_putOn : MethodName := ⟨RX0, "putOn", "(III)I"⟩
abbrev cX0_aboard : ByteArray := prog_2_method_14_code
def yX0_aboard : MethodName := ⟨RX0, "aboard", "(I)I"⟩
abbrev cX0_isManned : ByteArray := prog_2_method_15_code
def yX0_isManned : MethodName := ⟨RX0, "isManned", "(I)Z"⟩
abbrev cX0_meanWeight : ByteArray := prog_2_method_16_code
def yX0_meanWeight : MethodName := ⟨RX0, "meanWeight", "(I)I"⟩
abbrev cX0_mayBeOut : ByteArray := prog_2_method_17_code
def yX0_mayBeOut : MethodName := ⟨RX0, "mayBeOut", "(II)Z"⟩
abbrev cX0_allMayBeOut : ByteArray := prog_2_method_18_code
def yX0_allMayBeOut : MethodName := ⟨RX0, "allMayBeOut", "(II)Z"⟩
abbrev cX0_isYoungAboard : ByteArray := prog_2_method_19_code
def yX0_isYoungAboard : MethodName := ⟨RX0, "isYoungAboard", "(I)Z"⟩
abbrev cX0_dislike : ByteArray := prog_2_method_20_code
def yX0_dislike : MethodName := ⟨RX0, "dislike", "(III)I"⟩
def RX1 : String := "DawnEights$CrewPlan"
def TX1 : u_T := fun k => match k with
  | 0 => ("DawnEights$CrewPlan", "costs", "[I", true)
  | 1 => ("DawnEights$CrewPlan", "price", "[I", true)
  | _ => ("DawnEights$CrewPlan", "chosen", "[I", true)
def tyX1 : Nat → FieldType := fun k => match k with
  | 0 => .array .int
  | 1 => .array .int
  | _ => .array .int
theorem nmX1 : ∀ a, a < 3 → ∀ b, b < 3 → a ≠ b → (TX1 a).2.1 ≠ (TX1 b).2.1 := by decide +kernel
theorem tyX1_ok : ∀ k, k < 3 → parseFieldDescriptor (TX1 k).2.2.1 = some (tyX1 k) := by decide +kernel
abbrev cX1_init : ByteArray := prog_3_method_1_code
def yX1_init : MethodName := ⟨RX1, "<init>", "()V"⟩
abbrev cX1_leastCost : ByteArray := prog_3_method_2_code
def yX1_leastCost : MethodName := ⟨RX1, "leastCost", "(LDawnEights$Club;II)I"⟩
abbrev cX1_fillRow : ByteArray := prog_3_method_3_code
def yX1_fillRow : MethodName := ⟨RX1, "fillRow", "(LDawnEights$Club;III)V"⟩
abbrev cX1_isFree : ByteArray := prog_3_method_4_code
def yX1_isFree : MethodName := ⟨RX1, "isFree", "(LDawnEights$Club;III)Z"⟩
abbrev cX1_setPrices : ByteArray := prog_3_method_5_code
def yX1_setPrices : MethodName := ⟨RX1, "setPrices", "(LDawnEights$Club;II)V"⟩
abbrev cX1_seatThem : ByteArray := prog_3_method_6_code
def yX1_seatThem : MethodName := ⟨RX1, "seatThem", "(LDawnEights$Club;II)V"⟩
abbrev cX1_choose : ByteArray := prog_3_method_7_code
def yX1_choose : MethodName := ⟨RX1, "choose", "(III)I"⟩
def RX2 : String := "DawnEights$Heats"
def TX2 : u_T := fun k => match k with
  | 0 => ("DawnEights$Heats", "count", "I", false)
  | 1 => ("DawnEights$Heats", "apart", "I", false)
  | 2 => ("DawnEights$Heats", "boatOf", "[I", true)
  | _ => ("DawnEights$Heats", "start", "[I", true)
def tyX2 : Nat → FieldType := fun k => match k with
  | 0 => .int
  | 1 => .int
  | 2 => .array .int
  | _ => .array .int
theorem nmX2 : ∀ a, a < 4 → ∀ b, b < 4 → a ≠ b → (TX2 a).2.1 ≠ (TX2 b).2.1 := by decide +kernel
theorem tyX2_ok : ∀ k, k < 4 → parseFieldDescriptor (TX2 k).2.2.1 = some (tyX2 k) := by decide +kernel
abbrev cX2_init : ByteArray := prog_4_method_1_code
def yX2_init : MethodName := ⟨RX2, "<init>", "()V"⟩
abbrev cX2_addHeat : ByteArray := prog_4_method_2_code
def yX2_addHeat : MethodName := ⟨RX2, "addHeat", "(II)I"⟩
abbrev cX2_wouldClash : ByteArray := prog_4_method_3_code
def yX2_wouldClash : MethodName := ⟨RX2, "wouldClash", "(III)Z"⟩
abbrev cX2_clashingPairs : ByteArray := prog_4_method_4_code
def yX2_clashingPairs : MethodName := ⟨RX2, "clashingPairs", "()I"⟩
abbrev cX2_freeMinute : ByteArray := prog_4_method_5_code
def yX2_freeMinute : MethodName := ⟨RX2, "freeMinute", "(I)I"⟩
abbrev cX2_firstClash : ByteArray := prog_4_method_6_code
def yX2_firstClash : MethodName := ⟨RX2, "firstClash", "(II)I"⟩
def RX3 : String := "DawnEights$Logbook"
def TX3 : u_T := fun k => match k with
  | 0 => ("DawnEights$Logbook", "outings", "I", false)
  | 1 => ("DawnEights$Logbook", "outBoat", "[I", true)
  | 2 => ("DawnEights$Logbook", "outDay", "[I", true)
  | 3 => ("DawnEights$Logbook", "outHour", "[I", true)
  | 4 => ("DawnEights$Logbook", "who", "[I", true)
  | 5 => ("DawnEights$Logbook", "looks", "I", false)
  | 6 => ("DawnEights$Logbook", "lookBoat", "[I", true)
  | 7 => ("DawnEights$Logbook", "wasWhole", "[I", true)
  | _ => ("DawnEights$Logbook", "ahead", "[I", true)
def tyX3 : Nat → FieldType := fun k => match k with
  | 0 => .int
  | 1 => .array .int
  | 2 => .array .int
  | 3 => .array .int
  | 4 => .array .int
  | 5 => .int
  | 6 => .array .int
  | 7 => .array .int
  | _ => .array .int
theorem nmX3 : ∀ a, a < 9 → ∀ b, b < 9 → a ≠ b → (TX3 a).2.1 ≠ (TX3 b).2.1 := by decide +kernel
theorem tyX3_ok : ∀ k, k < 9 → parseFieldDescriptor (TX3 k).2.2.1 = some (tyX3 k) := by decide +kernel
abbrev cX3_init : ByteArray := prog_5_method_1_code
def yX3_init : MethodName := ⟨RX3, "<init>", "()V"⟩
abbrev cX3_addOuting : ByteArray := prog_5_method_2_code
def yX3_addOuting : MethodName := ⟨RX3, "addOuting", "(IIII)I"⟩
abbrev cX3_addLook : ByteArray := prog_5_method_3_code
def yX3_addLook : MethodName := ⟨RX3, "addLook", "(II)I"⟩
abbrev cX3_latestLook : ByteArray := prog_5_method_4_code
def yX3_latestLook : MethodName := ⟨RX3, "latestLook", "(II)I"⟩
abbrev cX3_isBroken : ByteArray := prog_5_method_5_code
def yX3_isBroken : MethodName := ⟨RX3, "isBroken", "(I)Z"⟩
abbrev cX3_brokeAt : ByteArray := prog_5_method_6_code
def yX3_brokeAt : MethodName := ⟨RX3, "brokeAt", "(I)Z"⟩
abbrev cX3_firstBehind : ByteArray := prog_5_method_7_code
def yX3_firstBehind : MethodName := ⟨RX3, "firstBehind", "(I)I"⟩
abbrev cX3_suspects : ByteArray := prog_5_method_8_code
def yX3_suspects : MethodName := ⟨RX3, "suspects", "(I)I"⟩
abbrev cX3_firstSuspect : ByteArray := prog_5_method_9_code
def yX3_firstSuspect : MethodName := ⟨RX3, "firstSuspect", "(I)I"⟩
def RX4 : String := "DawnEights$Races"
def TX4 : u_T := fun k => match k with
  | 0 => ("DawnEights$Races", "count", "I", false)
  | 1 => ("DawnEights$Races", "first", "[I", true)
  | 2 => ("DawnEights$Races", "second", "[I", true)
  | 3 => ("DawnEights$Races", "lead", "[I", true)
  | 4 => ("DawnEights$Races", "above", "[J", true)
  | 5 => ("DawnEights$Races", "below", "J", false)
  | 6 => ("DawnEights$Races", "rowOf", "[I", true)
  | _ => ("DawnEights$Races", "cells", "[J", true)
def tyX4 : Nat → FieldType := fun k => match k with
  | 0 => .int
  | 1 => .array .int
  | 2 => .array .int
  | 3 => .array .int
  | 4 => .array .long
  | 5 => .long
  | 6 => .array .int
  | _ => .array .long
theorem nmX4 : ∀ a, a < 8 → ∀ b, b < 8 → a ≠ b → (TX4 a).2.1 ≠ (TX4 b).2.1 := by decide +kernel
theorem tyX4_ok : ∀ k, k < 8 → parseFieldDescriptor (TX4 k).2.2.1 = some (tyX4 k) := by decide +kernel
abbrev cX4_init : ByteArray := prog_6_method_1_code
def yX4_init : MethodName := ⟨RX4, "<init>", "()V"⟩
abbrev cX4_addRace : ByteArray := prog_6_method_2_code
def yX4_addRace : MethodName := ⟨RX4, "addRace", "(III)I"⟩
abbrev cX4_groupOf : ByteArray := prog_6_method_3_code
def yX4_groupOf : MethodName := ⟨RX4, "groupOf", "(I)I"⟩
abbrev cX4_solve : ByteArray := prog_6_method_4_code
def yX4_solve : MethodName := ⟨RX4, "solve", "(I)Z"⟩
abbrev cX4_numberRows : ByteArray := prog_6_method_5_code
def yX4_numberRows : MethodName := ⟨RX4, "numberRows", "(I)V"⟩
abbrev cX4_fillCells : ByteArray := prog_6_method_6_code
def yX4_fillCells : MethodName := ⟨RX4, "fillCells", "(I)V"⟩
abbrev cX4_addToRow : ByteArray := prog_6_method_7_code
def yX4_addToRow : MethodName := ⟨RX4, "addToRow", "(III)V"⟩
abbrev cX4_eliminate : ByteArray := prog_6_method_8_code
def yX4_eliminate : MethodName := ⟨RX4, "eliminate", "(I)Z"⟩
abbrev cX4_clearCell : ByteArray := prog_6_method_9_code
def yX4_clearCell : MethodName := ⟨RX4, "clearCell", "(IIJJ)V"⟩
abbrev cX4_misfitAbove : ByteArray := prog_6_method_10_code
def yX4_misfitAbove : MethodName := ⟨RX4, "misfitAbove", "(I)J"⟩
abbrev cX4_whoIsSurelyBetter : ByteArray := prog_6_method_11_code
def yX4_whoIsSurelyBetter : MethodName := ⟨RX4, "whoIsSurelyBetter", "(II)I"⟩
abbrev cX4_leadOver : ByteArray := prog_6_method_12_code
def yX4_leadOver : MethodName := ⟨RX4, "leadOver", "(III)I"⟩
def RX5 : String := "DawnEights$Racks"
def TX5 : u_T := fun k => match k with
  | 0 => ("DawnEights$Racks", "rackOf", "[I", true)
  | 1 => ("DawnEights$Racks", "trial", "[I", true)
  | 2 => ("DawnEights$Racks", "row", "[I", true)
  | _ => ("DawnEights$Racks", "best", "I", false)
def tyX5 : Nat → FieldType := fun k => match k with
  | 0 => .array .int
  | 1 => .array .int
  | 2 => .array .int
  | _ => .int
theorem nmX5 : ∀ a, a < 4 → ∀ b, b < 4 → a ≠ b → (TX5 a).2.1 ≠ (TX5 b).2.1 := by decide +kernel
theorem tyX5_ok : ∀ k, k < 4 → parseFieldDescriptor (TX5 k).2.2.1 = some (tyX5 k) := by decide +kernel
abbrev cX5_init : ByteArray := prog_7_method_1_code
def yX5_init : MethodName := ⟨RX5, "<init>", "()V"⟩
abbrev cX5_load : ByteArray := prog_7_method_2_code
def yX5_load : MethodName := ⟨RX5, "load", "([III)I"⟩
abbrev cX5_lay : ByteArray := prog_7_method_3_code
def yX5_lay : MethodName := ⟨RX5, "lay", "(LDawnEights$Racks;[III)V"⟩
abbrev cX5_longestRow : ByteArray := prog_7_method_4_code
def yX5_longestRow : MethodName := ⟨RX5, "longestRow", "()I"⟩
def RX6 : String := "DawnEights$River"
def TX6 : u_T := fun k => match k with
  | 0 => ("DawnEights$River", "stream", "[I", true)
  | _ => ("DawnEights$River", "wind", "[I", true)
def tyX6 : Nat → FieldType := fun k => match k with
  | 0 => .array .int
  | _ => .array .int
theorem nmX6 : ∀ a, a < 2 → ∀ b, b < 2 → a ≠ b → (TX6 a).2.1 ≠ (TX6 b).2.1 := by decide +kernel
theorem tyX6_ok : ∀ k, k < 2 → parseFieldDescriptor (TX6 k).2.2.1 = some (tyX6 k) := by decide +kernel
abbrev cX6_init : ByteArray := prog_8_method_1_code
def yX6_init : MethodName := ⟨RX6, "<init>", "()V"⟩
def RX7 : String := "DawnEights$RuleBook"
def TX7 : u_T := fun k => match k with
  | 0 => ("DawnEights$RuleBook", "count", "I", false)
  | 1 => ("DawnEights$RuleBook", "bars", "[I", true)
  | 2 => ("DawnEights$RuleBook", "kind", "[I", true)
  | 3 => ("DawnEights$RuleBook", "tests", "[I", true)
  | 4 => ("DawnEights$RuleBook", "denied", "[Z", true)
  | 5 => ("DawnEights$RuleBook", "field", "[I", true)
  | 6 => ("DawnEights$RuleBook", "sign", "[I", true)
  | 7 => ("DawnEights$RuleBook", "number", "[I", true)
  | _ => ("DawnEights$RuleBook", "now", "[I", true)
def tyX7 : Nat → FieldType := fun k => match k with
  | 0 => .int
  | 1 => .array .int
  | 2 => .array .int
  | 3 => .array .int
  | 4 => .array .boolean
  | 5 => .array .int
  | 6 => .array .int
  | 7 => .array .int
  | _ => .array .int
theorem nmX7 : ∀ a, a < 9 → ∀ b, b < 9 → a ≠ b → (TX7 a).2.1 ≠ (TX7 b).2.1 := by decide +kernel
theorem tyX7_ok : ∀ k, k < 9 → parseFieldDescriptor (TX7 k).2.2.1 = some (tyX7 k) := by decide +kernel
abbrev cX7_init : ByteArray := prog_9_method_1_code
def yX7_init : MethodName := ⟨RX7, "<init>", "()V"⟩
abbrev cX7_read : ByteArray := prog_9_method_2_code
def yX7_read : MethodName := ⟨RX7, "read", "(LDawnEights$Tape;)Z"⟩
abbrev cX7_readTests : ByteArray := prog_9_method_3_code
def yX7_readTests : MethodName := ⟨RX7, "readTests", "(LDawnEights$Tape;)Z"⟩
abbrev cX7_readTest : ByteArray := prog_9_method_4_code
def yX7_readTest : MethodName := ⟨RX7, "readTest", "(LDawnEights$Tape;I)Z"⟩
abbrev cX7_keepRead : ByteArray := prog_9_method_5_code
def yX7_keepRead : MethodName := ⟨RX7, "keepRead", "()I"⟩
abbrev cX7_asked : ByteArray := prog_9_method_6_code
def yX7_asked : MethodName := ⟨RX7, "asked", "(I)I"⟩
abbrev cX7_testsHold : ByteArray := prog_9_method_7_code
def yX7_testsHold : MethodName := ⟨RX7, "testsHold", "(I)Z"⟩
abbrev cX7_isSo : ByteArray := prog_9_method_8_code
def yX7_isSo : MethodName := ⟨RX7, "isSo", "(I)Z"⟩
def RX8 : String := "DawnEights$Tape"
def TX8 : u_T := fun k => match k with
  | 0 => ("DawnEights$Tape", "length", "I", false)
  | 1 => ("DawnEights$Tape", "at", "I", false)
  | _ => ("DawnEights$Tape", "bytes", "[I", true)
def tyX8 : Nat → FieldType := fun k => match k with
  | 0 => .int
  | 1 => .int
  | _ => .array .int
theorem nmX8 : ∀ a, a < 3 → ∀ b, b < 3 → a ≠ b → (TX8 a).2.1 ≠ (TX8 b).2.1 := by decide +kernel
theorem tyX8_ok : ∀ k, k < 3 → parseFieldDescriptor (TX8 k).2.2.1 = some (tyX8 k) := by decide +kernel
abbrev cX8_init : ByteArray := prog_10_method_1_code
def yX8_init : MethodName := ⟨RX8, "<init>", "()V"⟩
abbrev cX8_append : ByteArray := prog_10_method_2_code
def yX8_append : MethodName := ⟨RX8, "append", "(JI)I"⟩
abbrev cX8_isAtEnd : ByteArray := prog_10_method_3_code
def yX8_isAtEnd : MethodName := ⟨RX8, "isAtEnd", "()Z"⟩
abbrev cX8_takeWord : ByteArray := prog_10_method_4_code
def yX8_takeWord : MethodName := ⟨RX8, "takeWord", "(Ljava/lang/String;)I"⟩
abbrev cX8_countSame : ByteArray := prog_10_method_5_code
def yX8_countSame : MethodName := ⟨RX8, "countSame", "(Ljava/lang/String;II)I"⟩
abbrev cX8_skip : ByteArray := prog_10_method_6_code
def yX8_skip : MethodName := ⟨RX8, "skip", "(C)Z"⟩
abbrev cX8_takeNumber : ByteArray := prog_10_method_7_code
def yX8_takeNumber : MethodName := ⟨RX8, "takeNumber", "()I"⟩
def RX9 : String := "DawnEights"
def TX9 : u_T := fun k => match k with
  | 0 => ("DawnEights", "club", "LDawnEights$Club;", true)
  | 1 => ("DawnEights", "races", "LDawnEights$Races;", true)
  | 2 => ("DawnEights", "plan", "LDawnEights$CrewPlan;", true)
  | 3 => ("DawnEights", "river", "LDawnEights$River;", true)
  | 4 => ("DawnEights", "tape", "LDawnEights$Tape;", true)
  | 5 => ("DawnEights", "rules", "LDawnEights$RuleBook;", true)
  | 6 => ("DawnEights", "log", "LDawnEights$Logbook;", true)
  | 7 => ("DawnEights", "heats", "LDawnEights$Heats;", true)
  | 8 => ("DawnEights", "racks", "LDawnEights$Racks;", true)
  | _ => ("DawnEights", "today", "I", false)
def tyX9 : Nat → FieldType := fun k => match k with
  | 0 => .object "DawnEights$Club"
  | 1 => .object "DawnEights$Races"
  | 2 => .object "DawnEights$CrewPlan"
  | 3 => .object "DawnEights$River"
  | 4 => .object "DawnEights$Tape"
  | 5 => .object "DawnEights$RuleBook"
  | 6 => .object "DawnEights$Logbook"
  | 7 => .object "DawnEights$Heats"
  | 8 => .object "DawnEights$Racks"
  | _ => .int
theorem nmX9 : ∀ a, a < 10 → ∀ b, b < 10 → a ≠ b → (TX9 a).2.1 ≠ (TX9 b).2.1 := by decide +kernel
theorem tyX9_ok : ∀ k, k < 10 → parseFieldDescriptor (TX9 k).2.2.1 = some (tyX9 k) := by decide +kernel
abbrev cX9_init : ByteArray := prog_1_method_1_code
def yX9_init : MethodName := ⟨RX9, "<init>", "()V"⟩
abbrev cX9_oar : ByteArray := prog_1_method_2_code
def yX9_oar : MethodName := ⟨RX9, "oar", "(II)I"⟩
abbrev cX9_boat : ByteArray := prog_1_method_3_code
def yX9_boat : MethodName := ⟨RX9, "boat", "(IIII)I"⟩
abbrev cX9_ill : ByteArray := prog_1_method_4_code
def yX9_ill : MethodName := ⟨RX9, "ill", "(II)I"⟩
abbrev cX9_sit : ByteArray := prog_1_method_5_code
def yX9_sit : MethodName := ⟨RX9, "sit", "(III)I"⟩
abbrev cX9_seat : ByteArray := prog_1_method_6_code
def yX9_seat : MethodName := ⟨RX9, "seat", "(II)I"⟩
abbrev cX9_about : ByteArray := prog_1_method_7_code
def yX9_about : MethodName := ⟨RX9, "about", "(II)I"⟩
abbrev cX9_race : ByteArray := prog_1_method_8_code
def yX9_race : MethodName := ⟨RX9, "race", "(III)I"⟩
abbrev cX9_unrace : ByteArray := prog_1_method_9_code
def yX9_unrace : MethodName := ⟨RX9, "unrace", "()I"⟩
abbrev cX9_group : ByteArray := prog_1_method_10_code
def yX9_group : MethodName := ⟨RX9, "group", "(I)I"⟩
abbrev cX9_strength : ByteArray := prog_1_method_11_code
def yX9_strength : MethodName := ⟨RX9, "strength", "(II)J"⟩
abbrev cX9_between : ByteArray := prog_1_method_12_code
def yX9_between : MethodName := ⟨RX9, "between", "(III)J"⟩
abbrev cX9_misfit : ByteArray := prog_1_method_13_code
def yX9_misfit : MethodName := ⟨RX9, "misfit", "(II)J"⟩
abbrev cX9_sure : ByteArray := prog_1_method_14_code
def yX9_sure : MethodName := ⟨RX9, "sure", "(II)I"⟩
abbrev cX9_crew : ByteArray := prog_1_method_15_code
def yX9_crew : MethodName := ⟨RX9, "crew", "(III)I"⟩
abbrev cX9_water : ByteArray := prog_1_method_16_code
def yX9_water : MethodName := ⟨RX9, "water", "(III)I"⟩
abbrev cX9_feed : ByteArray := prog_1_method_17_code
def yX9_feed : MethodName := ⟨RX9, "feed", "(JI)I"⟩
abbrev cX9_rule : ByteArray := prog_1_method_18_code
def yX9_rule : MethodName := ⟨RX9, "rule", "()I"⟩
abbrev cX9_ruled : ByteArray := prog_1_method_19_code
def yX9_ruled : MethodName := ⟨RX9, "ruled", "(II)I"⟩
abbrev cX9_may : ByteArray := prog_1_method_20_code
def yX9_may : MethodName := ⟨RX9, "may", "(II)I"⟩
abbrev cX9_day : ByteArray := prog_1_method_21_code
def yX9_day : MethodName := ⟨RX9, "day", "(I)I"⟩
abbrev cX9_out : ByteArray := prog_1_method_22_code
def yX9_out : MethodName := ⟨RX9, "out", "(II)I"⟩
abbrev cX9_look : ByteArray := prog_1_method_23_code
def yX9_look : MethodName := ⟨RX9, "look", "(II)I"⟩
abbrev cX9_broke : ByteArray := prog_1_method_24_code
def yX9_broke : MethodName := ⟨RX9, "broke", "(II)I"⟩
abbrev cX9_outing : ByteArray := prog_1_method_25_code
def yX9_outing : MethodName := ⟨RX9, "outing", "(II)I"⟩
abbrev cX9_heat : ByteArray := prog_1_method_26_code
def yX9_heat : MethodName := ⟨RX9, "heat", "(II)I"⟩
abbrev cX9_near : ByteArray := prog_1_method_27_code
def yX9_near : MethodName := ⟨RX9, "near", "(I)I"⟩
abbrev cX9_clashes : ByteArray := prog_1_method_28_code
def yX9_clashes : MethodName := ⟨RX9, "clashes", "()I"⟩
abbrev cX9_shift : ByteArray := prog_1_method_29_code
def yX9_shift : MethodName := ⟨RX9, "shift", "(I)I"⟩
abbrev cX9_trailer : ByteArray := prog_1_method_30_code
def yX9_trailer : MethodName := ⟨RX9, "trailer", "(II)I"⟩
abbrev cX9_rack : ByteArray := prog_1_method_31_code
def yX9_rack : MethodName := ⟨RX9, "rack", "(I)I"⟩
abbrev cX9_count : ByteArray := prog_1_method_32_code
def yX9_count : MethodName := ⟨RX9, "count", "(I)I"⟩
abbrev cX9_within : ByteArray := prog_1_method_33_code
def yX9_within : MethodName := ⟨RX9, "within", "(III)Z"⟩
abbrev cX9_isHour : ByteArray := prog_1_method_34_code
def yX9_isHour : MethodName := ⟨RX9, "isHour", "(I)Z"⟩
abbrev cX9_has : ByteArray := prog_1_method_35_code
def yX9_has : MethodName := ⟨RX9, "has", "(II)Z"⟩
abbrev cX9_leastOf : ByteArray := prog_1_method_36_code
def yX9_leastOf : MethodName := ⟨RX9, "leastOf", "(I)I"⟩
abbrev cX9_partOf : ByteArray := prog_1_method_37_code
def yX9_partOf : MethodName := ⟨RX9, "partOf", "(JJI)J"⟩
abbrev cX9_commonDivisor : ByteArray := prog_1_method_38_code
def yX9_commonDivisor : MethodName := ⟨RX9, "commonDivisor", "(JJ)J"⟩
abbrev cX9_whyAshore : ByteArray := prog_1_method_39_code
def yX9_whyAshore : MethodName := ⟨RX9, "whyAshore", "(II)I"⟩
abbrev cX9_askedRule : ByteArray := prog_1_method_40_code
def yX9_askedRule : MethodName := ⟨RX9, "askedRule", "(II)I"⟩
def RX10 : String := "DawnEightsModel"
def TX10 : u_T := fun k => match k with
  | 0 => ("DawnEightsModel", "kindOf", "[I", true)
  | 1 => ("DawnEightsModel", "weightOf", "[I", true)
  | 2 => ("DawnEightsModel", "boatOf", "[I", true)
  | 3 => ("DawnEightsModel", "seatOf", "[I", true)
  | 4 => ("DawnEightsModel", "isIll", "[Z", true)
  | 5 => ("DawnEightsModel", "isBroken", "[Z", true)
  | 6 => ("DawnEightsModel", "boatKind", "[I", true)
  | 7 => ("DawnEightsModel", "least", "[I", true)
  | 8 => ("DawnEightsModel", "most", "[I", true)
  | 9 => ("DawnEightsModel", "longOf", "[I", true)
  | 10 => ("DawnEightsModel", "oars", "I", false)
  | 11 => ("DawnEightsModel", "boats", "I", false)
  | 12 => ("DawnEightsModel", "first", "[I", true)
  | 13 => ("DawnEightsModel", "second", "[I", true)
  | 14 => ("DawnEightsModel", "byHow", "[I", true)
  | 15 => ("DawnEightsModel", "groupOf", "[I", true)
  | 16 => ("DawnEightsModel", "races", "I", false)
  | 17 => ("DawnEightsModel", "placeOf", "[I", true)
  | 18 => ("DawnEightsModel", "table", "[J", true)
  | 19 => ("DawnEightsModel", "right", "[J", true)
  | 20 => ("DawnEightsModel", "used", "[J", true)
  | 21 => ("DawnEightsModel", "strength", "[J", true)
  | 22 => ("DawnEightsModel", "others", "I", false)
  | 23 => ("DawnEightsModel", "line", "J", false)
  | 24 => ("DawnEightsModel", "cost", "[I", true)
  | 25 => ("DawnEightsModel", "given", "[I", true)
  | 26 => ("DawnEightsModel", "stream", "[I", true)
  | 27 => ("DawnEightsModel", "wind", "[I", true)
  | 28 => ("DawnEightsModel", "tape", "[I", true)
  | 29 => ("DawnEightsModel", "taped", "I", false)
  | 30 => ("DawnEightsModel", "rules", "I", false)
  | 31 => ("DawnEightsModel", "day", "I", false)
  | 32 => ("DawnEightsModel", "isBar", "[Z", true)
  | 33 => ("DawnEightsModel", "ruleKind", "[I", true)
  | 34 => ("DawnEightsModel", "tests", "[I", true)
  | 35 => ("DawnEightsModel", "test", "[I", true)
  | 36 => ("DawnEightsModel", "at", "I", false)
  | 37 => ("DawnEightsModel", "outBoat", "[I", true)
  | 38 => ("DawnEightsModel", "outDay", "[I", true)
  | 39 => ("DawnEightsModel", "outHour", "[I", true)
  | 40 => ("DawnEightsModel", "outWho", "[I", true)
  | 41 => ("DawnEightsModel", "lookBoat", "[I", true)
  | 42 => ("DawnEightsModel", "lookAt", "[I", true)
  | 43 => ("DawnEightsModel", "isWhole", "[Z", true)
  | 44 => ("DawnEightsModel", "outings", "I", false)
  | 45 => ("DawnEightsModel", "looks", "I", false)
  | 46 => ("DawnEightsModel", "heatBoat", "[I", true)
  | 47 => ("DawnEightsModel", "heatAt", "[I", true)
  | 48 => ("DawnEightsModel", "heats", "I", false)
  | 49 => ("DawnEightsModel", "near", "I", false)
  | 50 => ("DawnEightsModel", "rackOf", "[I", true)
  | 51 => ("DawnEightsModel", "lies", "[I", true)
  | _ => ("DawnEightsModel", "long3", "[I", true)
def tyX10 : Nat → FieldType := fun k => match k with
  | 0 => .array .int
  | 1 => .array .int
  | 2 => .array .int
  | 3 => .array .int
  | 4 => .array .boolean
  | 5 => .array .boolean
  | 6 => .array .int
  | 7 => .array .int
  | 8 => .array .int
  | 9 => .array .int
  | 10 => .int
  | 11 => .int
  | 12 => .array .int
  | 13 => .array .int
  | 14 => .array .int
  | 15 => .array .int
  | 16 => .int
  | 17 => .array .int
  | 18 => .array .long
  | 19 => .array .long
  | 20 => .array .long
  | 21 => .array .long
  | 22 => .int
  | 23 => .long
  | 24 => .array .int
  | 25 => .array .int
  | 26 => .array .int
  | 27 => .array .int
  | 28 => .array .int
  | 29 => .int
  | 30 => .int
  | 31 => .int
  | 32 => .array .boolean
  | 33 => .array .int
  | 34 => .array .int
  | 35 => .array .int
  | 36 => .int
  | 37 => .array .int
  | 38 => .array .int
  | 39 => .array .int
  | 40 => .array .int
  | 41 => .array .int
  | 42 => .array .int
  | 43 => .array .boolean
  | 44 => .int
  | 45 => .int
  | 46 => .array .int
  | 47 => .array .int
  | 48 => .int
  | 49 => .int
  | 50 => .array .int
  | 51 => .array .int
  | _ => .array .int
theorem nmX10 : ∀ a, a < 53 → ∀ b, b < 53 → a ≠ b → (TX10 a).2.1 ≠ (TX10 b).2.1 := by decide +kernel
theorem tyX10_ok : ∀ k, k < 53 → parseFieldDescriptor (TX10 k).2.2.1 = some (tyX10 k) := by decide +kernel
abbrev cX10_init : ByteArray := prog_12_method_1_code
def yX10_init : MethodName := ⟨RX10, "<init>", "()V"⟩
abbrev cX10_isIn : ByteArray := prog_12_method_2_code
def yX10_isIn : MethodName := ⟨RX10, "isIn", "(JJJ)Z"⟩
abbrev cX10_isOar : ByteArray := prog_12_method_3_code
def yX10_isOar : MethodName := ⟨RX10, "isOar", "(I)Z"⟩
abbrev cX10_isBoat : ByteArray := prog_12_method_4_code
def yX10_isBoat : MethodName := ⟨RX10, "isBoat", "(I)Z"⟩
abbrev cX10_seatsOf : ByteArray := prog_12_method_5_code
def yX10_seatsOf : MethodName := ⟨RX10, "seatsOf", "(I)I"⟩
abbrev cX10_hasCox : ByteArray := prog_12_method_6_code
def yX10_hasCox : MethodName := ⟨RX10, "hasCox", "(I)Z"⟩
abbrev cX10_isSeat : ByteArray := prog_12_method_7_code
def yX10_isSeat : MethodName := ⟨RX10, "isSeat", "(II)Z"⟩
abbrev cX10_oar : ByteArray := prog_12_method_8_code
def yX10_oar : MethodName := ⟨RX10, "oar", "(II)I"⟩
abbrev cX10_boat : ByteArray := prog_12_method_9_code
def yX10_boat : MethodName := ⟨RX10, "boat", "(IIII)I"⟩
abbrev cX10_ill : ByteArray := prog_12_method_10_code
def yX10_ill : MethodName := ⟨RX10, "ill", "(II)I"⟩
abbrev cX10_sitter : ByteArray := prog_12_method_11_code
def yX10_sitter : MethodName := ⟨RX10, "sitter", "(II)I"⟩
abbrev cX10_sit : ByteArray := prog_12_method_12_code
def yX10_sit : MethodName := ⟨RX10, "sit", "(III)I"⟩
abbrev cX10_seat : ByteArray := prog_12_method_13_code
def yX10_seat : MethodName := ⟨RX10, "seat", "(II)I"⟩
abbrev cX10_about : ByteArray := prog_12_method_14_code
def yX10_about : MethodName := ⟨RX10, "about", "(II)I"⟩
abbrev cX10_race : ByteArray := prog_12_method_15_code
def yX10_race : MethodName := ⟨RX10, "race", "(III)I"⟩
abbrev cX10_unrace : ByteArray := prog_12_method_16_code
def yX10_unrace : MethodName := ⟨RX10, "unrace", "()I"⟩
abbrev cX10_findGroups : ByteArray := prog_12_method_17_code
def yX10_findGroups : MethodName := ⟨RX10, "findGroups", "()V"⟩
abbrev cX10_group : ByteArray := prog_12_method_18_code
def yX10_group : MethodName := ⟨RX10, "group", "(I)I"⟩
abbrev cX10_bits : ByteArray := prog_12_method_19_code
def yX10_bits : MethodName := ⟨RX10, "bits", "(I)I"⟩
abbrev cX10_determinant : ByteArray := prog_12_method_20_code
def yX10_determinant : MethodName := ⟨RX10, "determinant", "(I)J"⟩
abbrev cX10_tells : ByteArray := prog_12_method_21_code
def yX10_tells : MethodName := ⟨RX10, "tells", "(III)V"⟩
abbrev cX10_solves : ByteArray := prog_12_method_22_code
def yX10_solves : MethodName := ⟨RX10, "solves", "(I)Z"⟩
abbrev cX10_divisor : ByteArray := prog_12_method_23_code
def yX10_divisor : MethodName := ⟨RX10, "divisor", "(JJ)J"⟩
abbrev cX10_part : ByteArray := prog_12_method_24_code
def yX10_part : MethodName := ⟨RX10, "part", "(JJI)J"⟩
abbrev cX10_strength : ByteArray := prog_12_method_25_code
def yX10_strength : MethodName := ⟨RX10, "strength", "(II)J"⟩
abbrev cX10_between : ByteArray := prog_12_method_26_code
def yX10_between : MethodName := ⟨RX10, "between", "(III)J"⟩
abbrev cX10_misfit : ByteArray := prog_12_method_27_code
def yX10_misfit : MethodName := ⟨RX10, "misfit", "(II)J"⟩
abbrev cX10_sure : ByteArray := prog_12_method_28_code
def yX10_sure : MethodName := ⟨RX10, "sure", "(II)I"⟩
abbrev cX10_mayBeOut : ByteArray := prog_12_method_29_code
def yX10_mayBeOut : MethodName := ⟨RX10, "mayBeOut", "(II)Z"⟩
abbrev cX10_dislikes : ByteArray := prog_12_method_30_code
def yX10_dislikes : MethodName := ⟨RX10, "dislikes", "(III)I"⟩
abbrev cX10_costOf : ByteArray := prog_12_method_31_code
def yX10_costOf : MethodName := ⟨RX10, "costOf", "(III)I"⟩
abbrev cX10_canSit : ByteArray := prog_12_method_32_code
def yX10_canSit : MethodName := ⟨RX10, "canSit", "(III)Z"⟩
abbrev cX10_fillCost : ByteArray := prog_12_method_33_code
def yX10_fillCost : MethodName := ⟨RX10, "fillCost", "(II)V"⟩
abbrev cX10_crew : ByteArray := prog_12_method_34_code
def yX10_crew : MethodName := ⟨RX10, "crew", "(III)I"⟩
abbrev cX10_water : ByteArray := prog_12_method_35_code
def yX10_water : MethodName := ⟨RX10, "water", "(III)I"⟩
abbrev cX10_feed : ByteArray := prog_12_method_36_code
def yX10_feed : MethodName := ⟨RX10, "feed", "(JI)I"⟩
abbrev cX10_sign : ByteArray := prog_12_method_37_code
def yX10_sign : MethodName := ⟨RX10, "sign", "()I"⟩
abbrev cX10_letter : ByteArray := prog_12_method_38_code
def yX10_letter : MethodName := ⟨RX10, "letter", "(II)I"⟩
abbrev cX10_spelled : ByteArray := prog_12_method_39_code
def yX10_spelled : MethodName := ⟨RX10, "spelled", "(IIIIII)J"⟩
abbrev cX10_wordOf : ByteArray := prog_12_method_40_code
def yX10_wordOf : MethodName := ⟨RX10, "wordOf", "(I)J"⟩
abbrev cX10_word : ByteArray := prog_12_method_41_code
def yX10_word : MethodName := ⟨RX10, "word", "(II)I"⟩
abbrev cX10_fits : ByteArray := prog_12_method_42_code
def yX10_fits : MethodName := ⟨RX10, "fits", "(II)Z"⟩
abbrev cX10_takes : ByteArray := prog_12_method_43_code
def yX10_takes : MethodName := ⟨RX10, "takes", "(I)Z"⟩
abbrev cX10_isDigit : ByteArray := prog_12_method_44_code
def yX10_isDigit : MethodName := ⟨RX10, "isDigit", "(I)Z"⟩
abbrev cX10_test : ByteArray := prog_12_method_45_code
def yX10_test : MethodName := ⟨RX10, "test", "(I)Z"⟩
abbrev cX10_parses : ByteArray := prog_12_method_46_code
def yX10_parses : MethodName := ⟨RX10, "parses", "()Z"⟩
abbrev cX10_rule : ByteArray := prog_12_method_47_code
def yX10_rule : MethodName := ⟨RX10, "rule", "()I"⟩
abbrev cX10_field : ByteArray := prog_12_method_48_code
def yX10_field : MethodName := ⟨RX10, "field", "(III)I"⟩
abbrev cX10_isSo : ByteArray := prog_12_method_49_code
def yX10_isSo : MethodName := ⟨RX10, "isSo", "(III)Z"⟩
abbrev cX10_asked : ByteArray := prog_12_method_50_code
def yX10_asked : MethodName := ⟨RX10, "asked", "(II)I"⟩
abbrev cX10_ruled : ByteArray := prog_12_method_51_code
def yX10_ruled : MethodName := ⟨RX10, "ruled", "(II)I"⟩
abbrev cX10_ashore : ByteArray := prog_12_method_52_code
def yX10_ashore : MethodName := ⟨RX10, "ashore", "(II)I"⟩
abbrev cX10_may : ByteArray := prog_12_method_53_code
def yX10_may : MethodName := ⟨RX10, "may", "(II)I"⟩
abbrev cX10_day : ByteArray := prog_12_method_54_code
def yX10_day : MethodName := ⟨RX10, "day", "(I)I"⟩
abbrev cX10_whoIn : ByteArray := prog_12_method_55_code
def yX10_whoIn : MethodName := ⟨RX10, "whoIn", "(I)I"⟩
abbrev cX10_out : ByteArray := prog_12_method_56_code
def yX10_out : MethodName := ⟨RX10, "out", "(II)I"⟩
abbrev cX10_look : ByteArray := prog_12_method_57_code
def yX10_look : MethodName := ⟨RX10, "look", "(II)I"⟩
abbrev cX10_broke : ByteArray := prog_12_method_58_code
def yX10_broke : MethodName := ⟨RX10, "broke", "(II)I"⟩
abbrev cX10_outing : ByteArray := prog_12_method_59_code
def yX10_outing : MethodName := ⟨RX10, "outing", "(II)I"⟩
abbrev cX10_heat : ByteArray := prog_12_method_60_code
def yX10_heat : MethodName := ⟨RX10, "heat", "(II)I"⟩
abbrev cX10_near : ByteArray := prog_12_method_61_code
def yX10_near : MethodName := ⟨RX10, "near", "(I)I"⟩
abbrev cX10_clash : ByteArray := prog_12_method_62_code
def yX10_clash : MethodName := ⟨RX10, "clash", "(III)Z"⟩
abbrev cX10_clashes : ByteArray := prog_12_method_63_code
def yX10_clashes : MethodName := ⟨RX10, "clashes", "()I"⟩
abbrev cX10_shift : ByteArray := prog_12_method_64_code
def yX10_shift : MethodName := ⟨RX10, "shift", "(I)I"⟩
abbrev cX10_longest : ByteArray := prog_12_method_65_code
def yX10_longest : MethodName := ⟨RX10, "longest", "(II)I"⟩
abbrev cX10_trailer : ByteArray := prog_12_method_66_code
def yX10_trailer : MethodName := ⟨RX10, "trailer", "(II)I"⟩
abbrev cX10_rack : ByteArray := prog_12_method_67_code
def yX10_rack : MethodName := ⟨RX10, "rack", "(I)I"⟩
abbrev cX10_count : ByteArray := prog_12_method_68_code
def yX10_count : MethodName := ⟨RX10, "count", "(I)I"⟩
def RJ6 : String := "java/lang/Integer"
abbrev cJ6_bitCount_0f7a4 : ByteArray := prog_13_method_49_code
def yJ6_bitCount_0f7a4 : MethodName := ⟨RJ6, "bitCount", "(I)I"⟩
def RJ9 : String := "java/lang/Math"
abbrev cJ9_abs_0f7a4 : ByteArray := prog_14_method_59_code
def yJ9_abs_0f7a4 : MethodName := ⟨RJ9, "abs", "(I)I"⟩
abbrev cJ9_abs_067f4 : ByteArray := prog_14_method_61_code
def yJ9_abs_067f4 : MethodName := ⟨RJ9, "abs", "(J)J"⟩
abbrev cJ9_max_7cf53 : ByteArray := prog_14_method_65_code
def yJ9_max_7cf53 : MethodName := ⟨RJ9, "max", "(II)I"⟩
abbrev cJ9_min_7cf53 : ByteArray := prog_14_method_69_code
def yJ9_min_7cf53 : MethodName := ⟨RJ9, "min", "(II)I"⟩
def RJ0 : String := "java/lang/String"
abbrev cJ0_length_8abf5 : ByteArray := prog_15_method_54_code
def yJ0_length_8abf5 : MethodName := ⟨RJ0, "length", "()I"⟩
abbrev cJ0_charAt_5068e : ByteArray := prog_15_method_56_code
def yJ0_charAt_5068e : MethodName := ⟨RJ0, "charAt", "(I)C"⟩
abbrev cJ0_coder_7d493 : ByteArray := prog_15_method_152_code
def yJ0_coder_7d493 : MethodName := ⟨RJ0, "coder", "()B"⟩
abbrev cJ0_isLatin1_aae02 : ByteArray := prog_15_method_154_code
def yJ0_isLatin1_aae02 : MethodName := ⟨RJ0, "isLatin1", "()Z"⟩
abbrev cJ0_checkIndex_df160 : ByteArray := prog_15_method_155_code
def yJ0_checkIndex_df160 : MethodName := ⟨RJ0, "checkIndex", "(II)V"⟩
def RJ1 : String := "java/lang/StringLatin1"
abbrev cJ1_charAt_3b067 : ByteArray := prog_16_method_2_code
def yJ1_charAt_3b067 : MethodName := ⟨RJ1, "charAt", "([BI)C"⟩
def RJ2 : String := "java/lang/StringUTF16"
abbrev cJ2_getChar_3b067 : ByteArray := prog_17_method_5_code
def yJ2_getChar_3b067 : MethodName := ⟨RJ2, "getChar", "([BI)C"⟩
abbrev cJ2_length_9d52b : ByteArray := prog_17_method_6_code
def yJ2_length_9d52b : MethodName := ⟨RJ2, "length", "([B)I"⟩
abbrev cJ2_charAt_3b067 : ByteArray := prog_17_method_83_code
def yJ2_charAt_3b067 : MethodName := ⟨RJ2, "charAt", "([BI)C"⟩
abbrev cJ2_checkIndex_2214a : ByteArray := prog_17_method_91_code
def yJ2_checkIndex_2214a : MethodName := ⟨RJ2, "checkIndex", "(I[B)V"⟩
def RJ10 : String := "java/lang/System"
def RJ7 : String := "java/util/Arrays"
abbrev cJ7_fill_d0a16 : ByteArray := prog_19_method_101_code
def yJ7_fill_d0a16 : MethodName := ⟨RJ7, "fill", "([JJ)V"⟩
abbrev cJ7_fill_53178 : ByteArray := prog_19_method_103_code
def yJ7_fill_53178 : MethodName := ⟨RJ7, "fill", "([II)V"⟩
def RJ3 : String := "jdk/internal/util/Preconditions"
abbrev cJ3_checkIndex_8e157 : ByteArray := prog_20_method_11_code
def yJ3_checkIndex_8e157 : MethodName := ⟨RJ3, "checkIndex", "(IILjava/util/function/BiFunction;)I"⟩
def RL : String := "DawnEightsLaw"
abbrev cL_law : ByteArray := code
def yL_law : MethodName := ⟨RL, "law", "([I)Z"⟩
abbrev vwCl : List vw_C := [(RX0, TX0, 10), (RX1, TX1, 3), (RX2, TX2, 4), (RX3, TX3, 9), (RX4, TX4, 8), (RX5, TX5, 4), (RX6, TX6, 2), (RX7, TX7, 9), (RX8, TX8, 3), (RX9, TX9, 10), (RX10, TX10, 53)]
def mm_tbl : List Cond := lw_tbl.filter goodWord
theorem mm_gd : GoodIn lw_tbl mm_tbl := fun w h => ⟨(List.mem_filter.mp h).1, good_of_word (List.mem_filter.mp h).2⟩
theorem mm_gg : GoodIn mm_tbl mm_tbl := fun w h => ⟨h, good_of_word (List.mem_filter.mp h).2⟩
theorem mm_sel {ws : List Cond} {ps : List Nat} (hp : ws = ps.filterMap (fun i => tables_1[i]?)) (hg : ws.all goodWord = true) : ∀ w ∈ ws, w ∈ mm_tbl := by
  intro w hw
  refine List.mem_filter.mpr ⟨?_, List.all_eq_true.mp hg w hw⟩
  rw [hp] at hw
  obtain ⟨i, -, hi⟩ := List.mem_filterMap.mp hw
  exact List.mem_append_right _ (List.mem_of_getElem? hi)
theorem wq_p : ∀ w ∈ k2_sels lw_privs, goodWord w = true → w ∈ mm_tbl := fun _ h g => List.mem_filter.mpr ⟨List.mem_append_left _ h, g⟩
theorem wq_1 : ∀ w ∈ tables_1_1, goodWord w = true → w ∈ mm_tbl := fun _ h g => List.mem_filter.mpr ⟨List.mem_append_right _ (List.mem_append_left _ h), g⟩
theorem wq_2 : ∀ w ∈ tables_1_2, goodWord w = true → w ∈ mm_tbl := fun _ h g => List.mem_filter.mpr ⟨List.mem_append_right _ (List.mem_append_right _ (List.mem_append_left _ h)), g⟩
theorem wq_3 : ∀ w ∈ tables_1_3, goodWord w = true → w ∈ mm_tbl := fun _ h g => List.mem_filter.mpr ⟨List.mem_append_right _ (List.mem_append_right _ (List.mem_append_right _ (List.mem_append_left _ h))), g⟩
theorem wq_4 : ∀ w ∈ tables_1_4, goodWord w = true → w ∈ mm_tbl := fun _ h g => List.mem_filter.mpr ⟨List.mem_append_right _ (List.mem_append_right _ (List.mem_append_right _ (List.mem_append_right _ (List.mem_append_left _ h)))), g⟩
theorem wq_5 : ∀ w ∈ tables_1_5, goodWord w = true → w ∈ mm_tbl := fun _ h g => List.mem_filter.mpr ⟨List.mem_append_right _ (List.mem_append_right _ (List.mem_append_right _ (List.mem_append_right _ (List.mem_append_right _ (List.mem_append_left _ h))))), g⟩
theorem wq_6 : ∀ w ∈ tables_1_6, goodWord w = true → w ∈ mm_tbl := fun _ h g => List.mem_filter.mpr ⟨List.mem_append_right _ (List.mem_append_right _ (List.mem_append_right _ (List.mem_append_right _ (List.mem_append_right _ (List.mem_append_right _ (h)))))), g⟩
theorem in_X0 : ∀ w ∈ u_ws RX0 TX0 10, w ∈ mm_tbl := mm_sel (ps := [56, 58, 60, 62, 64, 66, 68, 70, 72, 74]) (by decide +kernel) (by decide +kernel)
theorem in_X1 : ∀ w ∈ u_ws RX1 TX1 3, w ∈ mm_tbl := mm_sel (ps := [122, 124, 126]) (by decide +kernel) (by decide +kernel)
theorem in_X2 : ∀ w ∈ u_ws RX2 TX2 4, w ∈ mm_tbl := mm_sel (ps := [253, 255, 257, 259]) (by decide +kernel) (by decide +kernel)
theorem in_X3 : ∀ w ∈ u_ws RX3 TX3 9, w ∈ mm_tbl := mm_sel (ps := [222, 224, 226, 228, 230, 232, 234, 236, 238]) (by decide +kernel) (by decide +kernel)
theorem in_X4 : ∀ w ∈ u_ws RX4 TX4 8, w ∈ mm_tbl := mm_sel (ps := [95, 97, 99, 101, 103, 105, 107, 109]) (by decide +kernel) (by decide +kernel)
theorem in_X5 : ∀ w ∈ u_ws RX5 TX5 4, w ∈ mm_tbl := mm_sel (ps := [276, 278, 280, 282]) (by decide +kernel) (by decide +kernel)
theorem in_X6 : ∀ w ∈ u_ws RX6 TX6 2, w ∈ mm_tbl := mm_sel (ps := [139, 141]) (by decide +kernel) (by decide +kernel)
theorem in_X7 : ∀ w ∈ u_ws RX7 TX7 9, w ∈ mm_tbl := mm_sel (ps := [181, 183, 185, 187, 189, 191, 193, 195, 197]) (by decide +kernel) (by decide +kernel)
theorem in_X8 : ∀ w ∈ u_ws RX8 TX8 3, w ∈ mm_tbl := mm_sel (ps := [156, 158, 160]) (by decide +kernel) (by decide +kernel)
theorem in_X9 : ∀ w ∈ u_ws RX9 TX9 10, w ∈ mm_tbl := mm_sel (ps := [295, 297, 299, 301, 303, 305, 307, 309, 311, 313]) (by decide +kernel) (by decide +kernel)
theorem in_X10 : ∀ w ∈ u_ws RX10 TX10 53, w ∈ mm_tbl := mm_sel (ps := [885, 887, 889, 891, 893, 895, 897, 899, 901, 903, 905, 907, 909, 911, 913, 915, 917, 919, 921, 923, 925, 927, 929, 931, 933, 935, 937, 939, 941, 943, 945, 947, 949, 951, 953, 955, 957, 959, 961, 963, 965, 967, 969, 971, 973, 975, 977, 979, 981, 983, 985, 987, 989]) (by decide +kernel) (by decide +kernel)
abbrev mm_Mi : Type := MethodName × ByteArray × Nat × Option FieldType
abbrev mi_J0_charAt_5068e : mm_Mi := (yJ0_charAt_5068e, cJ0_charAt_5068e, 2, some .char)
abbrev mi_J0_checkIndex_df160 : mm_Mi := (yJ0_checkIndex_df160, cJ0_checkIndex_df160, 2, none)
abbrev mi_J0_coder_7d493 : mm_Mi := (yJ0_coder_7d493, cJ0_coder_7d493, 1, some .byte)
abbrev mi_J0_isLatin1_aae02 : mm_Mi := (yJ0_isLatin1_aae02, cJ0_isLatin1_aae02, 1, some .boolean)
abbrev mi_J0_length_8abf5 : mm_Mi := (yJ0_length_8abf5, cJ0_length_8abf5, 1, some .int)
abbrev mi_J1_charAt_3b067 : mm_Mi := (yJ1_charAt_3b067, cJ1_charAt_3b067, 2, some .char)
abbrev mi_J2_charAt_3b067 : mm_Mi := (yJ2_charAt_3b067, cJ2_charAt_3b067, 2, some .char)
abbrev mi_J2_checkIndex_2214a : mm_Mi := (yJ2_checkIndex_2214a, cJ2_checkIndex_2214a, 2, none)
abbrev mi_J2_getChar_3b067 : mm_Mi := (yJ2_getChar_3b067, cJ2_getChar_3b067, 2, some .char)
abbrev mi_J2_length_9d52b : mm_Mi := (yJ2_length_9d52b, cJ2_length_9d52b, 1, some .int)
abbrev mi_J3_checkIndex_8e157 : mm_Mi := (yJ3_checkIndex_8e157, cJ3_checkIndex_8e157, 3, some .int)
abbrev mi_J6_bitCount_0f7a4 : mm_Mi := (yJ6_bitCount_0f7a4, cJ6_bitCount_0f7a4, 1, some .int)
abbrev mi_J7_fill_53178 : mm_Mi := (yJ7_fill_53178, cJ7_fill_53178, 4, none)
abbrev mi_J7_fill_d0a16 : mm_Mi := (yJ7_fill_d0a16, cJ7_fill_d0a16, 5, none)
abbrev mi_J9_abs_067f4 : mm_Mi := (yJ9_abs_067f4, cJ9_abs_067f4, 2, some .long)
abbrev mi_J9_abs_0f7a4 : mm_Mi := (yJ9_abs_0f7a4, cJ9_abs_0f7a4, 1, some .int)
abbrev mi_J9_max_7cf53 : mm_Mi := (yJ9_max_7cf53, cJ9_max_7cf53, 2, some .int)
abbrev mi_J9_min_7cf53 : mm_Mi := (yJ9_min_7cf53, cJ9_min_7cf53, 2, some .int)
abbrev mi_X0_aboard : mm_Mi := (yX0_aboard, cX0_aboard, 4, some .int)
abbrev mi_X0_addBoat : mm_Mi := (yX0_addBoat, cX0_addBoat, 5, some .int)
abbrev mi_X0_addOar : mm_Mi := (yX0_addOar, cX0_addOar, 3, some .int)
abbrev mi_X0_allMayBeOut : mm_Mi := (yX0_allMayBeOut, cX0_allMayBeOut, 4, some .boolean)
abbrev mi_X0_dislike : mm_Mi := (yX0_dislike, cX0_dislike, 6, some .int)
abbrev mi_X0_hasBoat : mm_Mi := (yX0_hasBoat, cX0_hasBoat, 2, some .boolean)
abbrev mi_X0_hasCox : mm_Mi := (yX0_hasCox, cX0_hasCox, 2, some .boolean)
abbrev mi_X0_hasOar : mm_Mi := (yX0_hasOar, cX0_hasOar, 2, some .boolean)
abbrev mi_X0_hasSeat : mm_Mi := (yX0_hasSeat, cX0_hasSeat, 3, some .boolean)
abbrev mi_X0_init : mm_Mi := (yX0_init, cX0_init, 1, none)
abbrev mi_X0_isCox : mm_Mi := (yX0_isCox, cX0_isCox, 2, some .boolean)
abbrev mi_X0_isManned : mm_Mi := (yX0_isManned, cX0_isManned, 2, some .boolean)
abbrev mi_X0_isYoungAboard : mm_Mi := (yX0_isYoungAboard, cX0_isYoungAboard, 3, some .boolean)
abbrev mi_X0_mayBeOut : mm_Mi := (yX0_mayBeOut, cX0_mayBeOut, 3, some .boolean)
abbrev mi_X0_maySit : mm_Mi := (yX0_maySit, cX0_maySit, 3, some .boolean)
abbrev mi_X0_meanWeight : mm_Mi := (yX0_meanWeight, cX0_meanWeight, 4, some .int)
abbrev mi_X0_putOn : mm_Mi := (yX0_putOn, cX0_putOn, 5, some .int)
abbrev mi_X0_seats : mm_Mi := (yX0_seats, cX0_seats, 2, some .int)
abbrev mi_X0_sitsIn : mm_Mi := (yX0_sitsIn, cX0_sitsIn, 3, some .boolean)
abbrev mi_X0_whoSits : mm_Mi := (yX0_whoSits, cX0_whoSits, 4, some .int)
abbrev mi_X10_about : mm_Mi := (yX10_about, cX10_about, 3, some .int)
abbrev mi_X10_ashore : mm_Mi := (yX10_ashore, cX10_ashore, 6, some .int)
abbrev mi_X10_asked : mm_Mi := (yX10_asked, cX10_asked, 7, some .int)
abbrev mi_X10_between : mm_Mi := (yX10_between, cX10_between, 4, some .long)
abbrev mi_X10_bits : mm_Mi := (yX10_bits, cX10_bits, 3, some .int)
abbrev mi_X10_boat : mm_Mi := (yX10_boat, cX10_boat, 5, some .int)
abbrev mi_X10_broke : mm_Mi := (yX10_broke, cX10_broke, 8, some .int)
abbrev mi_X10_canSit : mm_Mi := (yX10_canSit, cX10_canSit, 5, some .boolean)
abbrev mi_X10_clash : mm_Mi := (yX10_clash, cX10_clash, 5, some .boolean)
abbrev mi_X10_clashes : mm_Mi := (yX10_clashes, cX10_clashes, 4, some .int)
abbrev mi_X10_costOf : mm_Mi := (yX10_costOf, cX10_costOf, 5, some .int)
abbrev mi_X10_count : mm_Mi := (yX10_count, cX10_count, 2, some .int)
abbrev mi_X10_crew : mm_Mi := (yX10_crew, cX10_crew, 8, some .int)
abbrev mi_X10_day : mm_Mi := (yX10_day, cX10_day, 3, some .int)
abbrev mi_X10_determinant : mm_Mi := (yX10_determinant, cX10_determinant, 7, some .long)
abbrev mi_X10_dislikes : mm_Mi := (yX10_dislikes, cX10_dislikes, 6, some .int)
abbrev mi_X10_divisor : mm_Mi := (yX10_divisor, cX10_divisor, 10, some .long)
abbrev mi_X10_feed : mm_Mi := (yX10_feed, cX10_feed, 5, some .int)
abbrev mi_X10_field : mm_Mi := (yX10_field, cX10_field, 8, some .int)
abbrev mi_X10_fillCost : mm_Mi := (yX10_fillCost, cX10_fillCost, 10, none)
abbrev mi_X10_findGroups : mm_Mi := (yX10_findGroups, cX10_findGroups, 5, none)
abbrev mi_X10_fits : mm_Mi := (yX10_fits, cX10_fits, 5, some .boolean)
abbrev mi_X10_group : mm_Mi := (yX10_group, cX10_group, 2, some .int)
abbrev mi_X10_hasCox : mm_Mi := (yX10_hasCox, cX10_hasCox, 2, some .boolean)
abbrev mi_X10_heat : mm_Mi := (yX10_heat, cX10_heat, 3, some .int)
abbrev mi_X10_ill : mm_Mi := (yX10_ill, cX10_ill, 4, some .int)
abbrev mi_X10_init : mm_Mi := (yX10_init, cX10_init, 2, none)
abbrev mi_X10_isBoat : mm_Mi := (yX10_isBoat, cX10_isBoat, 2, some .boolean)
abbrev mi_X10_isDigit : mm_Mi := (yX10_isDigit, cX10_isDigit, 1, some .boolean)
abbrev mi_X10_isIn : mm_Mi := (yX10_isIn, cX10_isIn, 6, some .boolean)
abbrev mi_X10_isOar : mm_Mi := (yX10_isOar, cX10_isOar, 2, some .boolean)
abbrev mi_X10_isSeat : mm_Mi := (yX10_isSeat, cX10_isSeat, 3, some .boolean)
abbrev mi_X10_isSo : mm_Mi := (yX10_isSo, cX10_isSo, 6, some .boolean)
abbrev mi_X10_letter : mm_Mi := (yX10_letter, cX10_letter, 8, some .int)
abbrev mi_X10_longest : mm_Mi := (yX10_longest, cX10_longest, 5, some .int)
abbrev mi_X10_look : mm_Mi := (yX10_look, cX10_look, 3, some .int)
abbrev mi_X10_may : mm_Mi := (yX10_may, cX10_may, 3, some .int)
abbrev mi_X10_mayBeOut : mm_Mi := (yX10_mayBeOut, cX10_mayBeOut, 3, some .boolean)
abbrev mi_X10_misfit : mm_Mi := (yX10_misfit, cX10_misfit, 8, some .long)
abbrev mi_X10_near : mm_Mi := (yX10_near, cX10_near, 3, some .int)
abbrev mi_X10_oar : mm_Mi := (yX10_oar, cX10_oar, 3, some .int)
abbrev mi_X10_out : mm_Mi := (yX10_out, cX10_out, 3, some .int)
abbrev mi_X10_outing : mm_Mi := (yX10_outing, cX10_outing, 3, some .int)
abbrev mi_X10_parses : mm_Mi := (yX10_parses, cX10_parses, 3, some .boolean)
abbrev mi_X10_part : mm_Mi := (yX10_part, cX10_part, 7, some .long)
abbrev mi_X10_race : mm_Mi := (yX10_race, cX10_race, 4, some .int)
abbrev mi_X10_rack : mm_Mi := (yX10_rack, cX10_rack, 2, some .int)
abbrev mi_X10_rule : mm_Mi := (yX10_rule, cX10_rule, 2, some .int)
abbrev mi_X10_ruled : mm_Mi := (yX10_ruled, cX10_ruled, 3, some .int)
abbrev mi_X10_seat : mm_Mi := (yX10_seat, cX10_seat, 3, some .int)
abbrev mi_X10_seatsOf : mm_Mi := (yX10_seatsOf, cX10_seatsOf, 3, some .int)
abbrev mi_X10_shift : mm_Mi := (yX10_shift, cX10_shift, 5, some .int)
abbrev mi_X10_sign : mm_Mi := (yX10_sign, cX10_sign, 1, some .int)
abbrev mi_X10_sit : mm_Mi := (yX10_sit, cX10_sit, 5, some .int)
abbrev mi_X10_sitter : mm_Mi := (yX10_sitter, cX10_sitter, 5, some .int)
abbrev mi_X10_solves : mm_Mi := (yX10_solves, cX10_solves, 4, some .boolean)
abbrev mi_X10_spelled : mm_Mi := (yX10_spelled, cX10_spelled, 8, some .long)
abbrev mi_X10_strength : mm_Mi := (yX10_strength, cX10_strength, 3, some .long)
abbrev mi_X10_sure : mm_Mi := (yX10_sure, cX10_sure, 7, some .int)
abbrev mi_X10_takes : mm_Mi := (yX10_takes, cX10_takes, 2, some .boolean)
abbrev mi_X10_tells : mm_Mi := (yX10_tells, cX10_tells, 4, none)
abbrev mi_X10_test : mm_Mi := (yX10_test, cX10_test, 7, some .boolean)
abbrev mi_X10_trailer : mm_Mi := (yX10_trailer, cX10_trailer, 8, some .int)
abbrev mi_X10_unrace : mm_Mi := (yX10_unrace, cX10_unrace, 1, some .int)
abbrev mi_X10_water : mm_Mi := (yX10_water, cX10_water, 4, some .int)
abbrev mi_X10_whoIn : mm_Mi := (yX10_whoIn, cX10_whoIn, 4, some .int)
abbrev mi_X10_word : mm_Mi := (yX10_word, cX10_word, 7, some .int)
abbrev mi_X10_wordOf : mm_Mi := (yX10_wordOf, cX10_wordOf, 1, some .long)
abbrev mi_X1_choose : mm_Mi := (yX1_choose, cX1_choose, 6, some .int)
abbrev mi_X1_fillRow : mm_Mi := (yX1_fillRow, cX1_fillRow, 11, none)
abbrev mi_X1_init : mm_Mi := (yX1_init, cX1_init, 1, none)
abbrev mi_X1_isFree : mm_Mi := (yX1_isFree, cX1_isFree, 4, some .boolean)
abbrev mi_X1_leastCost : mm_Mi := (yX1_leastCost, cX1_leastCost, 7, some .int)
abbrev mi_X1_seatThem : mm_Mi := (yX1_seatThem, cX1_seatThem, 6, none)
abbrev mi_X1_setPrices : mm_Mi := (yX1_setPrices, cX1_setPrices, 7, none)
abbrev mi_X2_addHeat : mm_Mi := (yX2_addHeat, cX2_addHeat, 3, some .int)
abbrev mi_X2_clashingPairs : mm_Mi := (yX2_clashingPairs, cX2_clashingPairs, 4, some .int)
abbrev mi_X2_firstClash : mm_Mi := (yX2_firstClash, cX2_firstClash, 4, some .int)
abbrev mi_X2_freeMinute : mm_Mi := (yX2_freeMinute, cX2_freeMinute, 5, some .int)
abbrev mi_X2_init : mm_Mi := (yX2_init, cX2_init, 1, none)
abbrev mi_X2_wouldClash : mm_Mi := (yX2_wouldClash, cX2_wouldClash, 4, some .boolean)
abbrev mi_X3_addLook : mm_Mi := (yX3_addLook, cX3_addLook, 3, some .int)
abbrev mi_X3_addOuting : mm_Mi := (yX3_addOuting, cX3_addOuting, 5, some .int)
abbrev mi_X3_brokeAt : mm_Mi := (yX3_brokeAt, cX3_brokeAt, 3, some .boolean)
abbrev mi_X3_firstBehind : mm_Mi := (yX3_firstBehind, cX3_firstBehind, 3, some .int)
abbrev mi_X3_firstSuspect : mm_Mi := (yX3_firstSuspect, cX3_firstSuspect, 3, some .int)
abbrev mi_X3_init : mm_Mi := (yX3_init, cX3_init, 1, none)
abbrev mi_X3_isBroken : mm_Mi := (yX3_isBroken, cX3_isBroken, 3, some .boolean)
abbrev mi_X3_latestLook : mm_Mi := (yX3_latestLook, cX3_latestLook, 4, some .int)
abbrev mi_X3_suspects : mm_Mi := (yX3_suspects, cX3_suspects, 4, some .int)
abbrev mi_X4_addRace : mm_Mi := (yX4_addRace, cX4_addRace, 4, some .int)
abbrev mi_X4_addToRow : mm_Mi := (yX4_addToRow, cX4_addToRow, 4, none)
abbrev mi_X4_clearCell : mm_Mi := (yX4_clearCell, cX4_clearCell, 12, none)
abbrev mi_X4_eliminate : mm_Mi := (yX4_eliminate, cX4_eliminate, 8, some .boolean)
abbrev mi_X4_fillCells : mm_Mi := (yX4_fillCells, cX4_fillCells, 5, none)
abbrev mi_X4_groupOf : mm_Mi := (yX4_groupOf, cX4_groupOf, 7, some .int)
abbrev mi_X4_init : mm_Mi := (yX4_init, cX4_init, 1, none)
abbrev mi_X4_leadOver : mm_Mi := (yX4_leadOver, cX4_leadOver, 4, some .int)
abbrev mi_X4_misfitAbove : mm_Mi := (yX4_misfitAbove, cX4_misfitAbove, 5, some .long)
abbrev mi_X4_numberRows : mm_Mi := (yX4_numberRows, cX4_numberRows, 4, none)
abbrev mi_X4_solve : mm_Mi := (yX4_solve, cX4_solve, 4, some .boolean)
abbrev mi_X4_whoIsSurelyBetter : mm_Mi := (yX4_whoIsSurelyBetter, cX4_whoIsSurelyBetter, 7, some .int)
abbrev mi_X5_init : mm_Mi := (yX5_init, cX5_init, 1, none)
abbrev mi_X5_lay : mm_Mi := (yX5_lay, cX5_lay, 6, none)
abbrev mi_X5_load : mm_Mi := (yX5_load, cX5_load, 4, some .int)
abbrev mi_X5_longestRow : mm_Mi := (yX5_longestRow, cX5_longestRow, 1, some .int)
abbrev mi_X6_init : mm_Mi := (yX6_init, cX6_init, 1, none)
abbrev mi_X7_asked : mm_Mi := (yX7_asked, cX7_asked, 3, some .int)
abbrev mi_X7_init : mm_Mi := (yX7_init, cX7_init, 1, none)
abbrev mi_X7_isSo : mm_Mi := (yX7_isSo, cX7_isSo, 3, some .boolean)
abbrev mi_X7_keepRead : mm_Mi := (yX7_keepRead, cX7_keepRead, 1, some .int)
abbrev mi_X7_read : mm_Mi := (yX7_read, cX7_read, 2, some .boolean)
abbrev mi_X7_readTest : mm_Mi := (yX7_readTest, cX7_readTest, 3, some .boolean)
abbrev mi_X7_readTests : mm_Mi := (yX7_readTests, cX7_readTests, 3, some .boolean)
abbrev mi_X7_testsHold : mm_Mi := (yX7_testsHold, cX7_testsHold, 4, some .boolean)
abbrev mi_X8_append : mm_Mi := (yX8_append, cX8_append, 5, some .int)
abbrev mi_X8_countSame : mm_Mi := (yX8_countSame, cX8_countSame, 6, some .int)
abbrev mi_X8_init : mm_Mi := (yX8_init, cX8_init, 1, none)
abbrev mi_X8_isAtEnd : mm_Mi := (yX8_isAtEnd, cX8_isAtEnd, 1, some .boolean)
abbrev mi_X8_skip : mm_Mi := (yX8_skip, cX8_skip, 2, some .boolean)
abbrev mi_X8_takeNumber : mm_Mi := (yX8_takeNumber, cX8_takeNumber, 3, some .int)
abbrev mi_X8_takeWord : mm_Mi := (yX8_takeWord, cX8_takeWord, 7, some .int)
abbrev mi_X9_about : mm_Mi := (yX9_about, cX9_about, 3, some .int)
abbrev mi_X9_askedRule : mm_Mi := (yX9_askedRule, cX9_askedRule, 6, some .int)
abbrev mi_X9_between : mm_Mi := (yX9_between, cX9_between, 5, some .long)
abbrev mi_X9_boat : mm_Mi := (yX9_boat, cX9_boat, 5, some .int)
abbrev mi_X9_broke : mm_Mi := (yX9_broke, cX9_broke, 4, some .int)
abbrev mi_X9_clashes : mm_Mi := (yX9_clashes, cX9_clashes, 1, some .int)
abbrev mi_X9_commonDivisor : mm_Mi := (yX9_commonDivisor, cX9_commonDivisor, 11, some .long)
abbrev mi_X9_count : mm_Mi := (yX9_count, cX9_count, 2, some .int)
abbrev mi_X9_crew : mm_Mi := (yX9_crew, cX9_crew, 5, some .int)
abbrev mi_X9_day : mm_Mi := (yX9_day, cX9_day, 3, some .int)
abbrev mi_X9_feed : mm_Mi := (yX9_feed, cX9_feed, 4, some .int)
abbrev mi_X9_group : mm_Mi := (yX9_group, cX9_group, 2, some .int)
abbrev mi_X9_has : mm_Mi := (yX9_has, cX9_has, 2, some .boolean)
abbrev mi_X9_heat : mm_Mi := (yX9_heat, cX9_heat, 3, some .int)
abbrev mi_X9_ill : mm_Mi := (yX9_ill, cX9_ill, 4, some .int)
abbrev mi_X9_init : mm_Mi := (yX9_init, cX9_init, 1, none)
abbrev mi_X9_isHour : mm_Mi := (yX9_isHour, cX9_isHour, 1, some .boolean)
abbrev mi_X9_leastOf : mm_Mi := (yX9_leastOf, cX9_leastOf, 2, some .int)
abbrev mi_X9_look : mm_Mi := (yX9_look, cX9_look, 3, some .int)
abbrev mi_X9_may : mm_Mi := (yX9_may, cX9_may, 3, some .int)
abbrev mi_X9_misfit : mm_Mi := (yX9_misfit, cX9_misfit, 4, some .long)
abbrev mi_X9_near : mm_Mi := (yX9_near, cX9_near, 3, some .int)
abbrev mi_X9_oar : mm_Mi := (yX9_oar, cX9_oar, 3, some .int)
abbrev mi_X9_out : mm_Mi := (yX9_out, cX9_out, 3, some .int)
abbrev mi_X9_outing : mm_Mi := (yX9_outing, cX9_outing, 3, some .int)
abbrev mi_X9_partOf : mm_Mi := (yX9_partOf, cX9_partOf, 7, some .long)
abbrev mi_X9_race : mm_Mi := (yX9_race, cX9_race, 4, some .int)
abbrev mi_X9_rack : mm_Mi := (yX9_rack, cX9_rack, 2, some .int)
abbrev mi_X9_rule : mm_Mi := (yX9_rule, cX9_rule, 2, some .int)
abbrev mi_X9_ruled : mm_Mi := (yX9_ruled, cX9_ruled, 3, some .int)
abbrev mi_X9_seat : mm_Mi := (yX9_seat, cX9_seat, 3, some .int)
abbrev mi_X9_shift : mm_Mi := (yX9_shift, cX9_shift, 3, some .int)
abbrev mi_X9_sit : mm_Mi := (yX9_sit, cX9_sit, 4, some .int)
abbrev mi_X9_strength : mm_Mi := (yX9_strength, cX9_strength, 3, some .long)
abbrev mi_X9_sure : mm_Mi := (yX9_sure, cX9_sure, 3, some .int)
abbrev mi_X9_trailer : mm_Mi := (yX9_trailer, cX9_trailer, 4, some .int)
abbrev mi_X9_unrace : mm_Mi := (yX9_unrace, cX9_unrace, 1, some .int)
abbrev mi_X9_water : mm_Mi := (yX9_water, cX9_water, 4, some .int)
abbrev mi_X9_whyAshore : mm_Mi := (yX9_whyAshore, cX9_whyAshore, 4, some .int)
abbrev mi_X9_within : mm_Mi := (yX9_within, cX9_within, 3, some .boolean)
abbrev mi_L_law : mm_Mi := (yL_law, cL_law, 4, some .boolean)
end
section
theorem wd_1_0 : Cond.initialized RL ∈ mm_tbl := wq_1 _ (List.mem_of_getElem? (i := 0) (by decide +kernel)) rfl
theorem wd_1_1 : Cond.initialized RX9 ∈ mm_tbl := wq_1 _ (List.mem_of_getElem? (i := 1) (by decide +kernel)) rfl
theorem wd_1_2 : Cond.initialized RX0 ∈ mm_tbl := wq_1 _ (List.mem_of_getElem? (i := 2) (by decide +kernel)) rfl
theorem wd_1_3 : Cond.initialized RX4 ∈ mm_tbl := wq_1 _ (List.mem_of_getElem? (i := 3) (by decide +kernel)) rfl
theorem wd_1_4 : Cond.initialized RX1 ∈ mm_tbl := wq_1 _ (List.mem_of_getElem? (i := 4) (by decide +kernel)) rfl
theorem wd_1_5 : Cond.initialized RX6 ∈ mm_tbl := wq_1 _ (List.mem_of_getElem? (i := 5) (by decide +kernel)) rfl
theorem wd_1_6 : Cond.initialized RX8 ∈ mm_tbl := wq_1 _ (List.mem_of_getElem? (i := 6) (by decide +kernel)) rfl
theorem wd_1_7 : Cond.initialized RX7 ∈ mm_tbl := wq_1 _ (List.mem_of_getElem? (i := 7) (by decide +kernel)) rfl
theorem wd_1_8 : Cond.initialized RX3 ∈ mm_tbl := wq_1 _ (List.mem_of_getElem? (i := 8) (by decide +kernel)) rfl
theorem wd_1_9 : Cond.initialized RX2 ∈ mm_tbl := wq_1 _ (List.mem_of_getElem? (i := 9) (by decide +kernel)) rfl
theorem wd_1_10 : Cond.initialized RX5 ∈ mm_tbl := wq_1 _ (List.mem_of_getElem? (i := 10) (by decide +kernel)) rfl
theorem wd_1_11 : Cond.initialized RJ7 ∈ mm_tbl := wq_1 _ (List.mem_of_getElem? (i := 11) (by decide +kernel)) rfl
theorem wd_1_12 : Cond.initialized RX10 ∈ mm_tbl := wq_1 _ (List.mem_of_getElem? (i := 12) (by decide +kernel)) rfl
theorem wd_1_13 : Cond.initialized RJ6 ∈ mm_tbl := wq_1 _ (List.mem_of_getElem? (i := 13) (by decide +kernel)) rfl
theorem wd_1_14 : Cond.initialized RJ9 ∈ mm_tbl := wq_1 _ (List.mem_of_getElem? (i := 14) (by decide +kernel)) rfl
theorem wd_1_15 : Cond.initialized RJ10 ∈ mm_tbl := wq_1 _ (List.mem_of_getElem? (i := 15) (by decide +kernel)) rfl
theorem wd_1_16 : Cond.initialized RJ0 ∈ mm_tbl := wq_1 _ (List.mem_of_getElem? (i := 16) (by decide +kernel)) rfl
theorem wd_1_17 : Cond.initialized RJ1 ∈ mm_tbl := wq_1 _ (List.mem_of_getElem? (i := 17) (by decide +kernel)) rfl
theorem wd_1_18 : Cond.initialized RJ3 ∈ mm_tbl := wq_1 _ (List.mem_of_getElem? (i := 18) (by decide +kernel)) rfl
theorem wd_1_19 : Cond.initialized RJ2 ∈ mm_tbl := wq_1 _ (List.mem_of_getElem? (i := 19) (by decide +kernel)) rfl
theorem wd_1_20 : Cond.classLink RL (7) RX9 ∈ mm_tbl := wq_1 _ (List.mem_of_getElem? (i := 20) (by decide +kernel)) rfl
theorem wd_1_21 : Cond.instantiable RX9 (10) ∈ mm_tbl := wq_1 _ (List.mem_of_getElem? (i := 21) (by decide +kernel)) rfl
theorem wd_1_22 : Cond.methodLink RL (9) yX9_init ∈ mm_tbl := wq_1 _ (List.mem_of_getElem? (i := 22) (by decide +kernel)) rfl
theorem wd_1_23 : Cond.instanceMethod yX9_init ∈ mm_tbl := wq_1 _ (List.mem_of_getElem? (i := 23) (by decide +kernel)) rfl
theorem wd_1_24 : Cond.code yX9_init cX9_init (1) none ∈ mm_tbl := wq_1 _ (List.mem_of_getElem? (i := 24) (by decide +kernel)) rfl
theorem wd_1_25 : Cond.methodLink RX9 (3) objectInit ∈ mm_tbl := wq_1 _ (List.mem_of_getElem? (i := 25) (by decide +kernel)) rfl
theorem wd_1_26 : Cond.instanceMethod objectInit ∈ mm_tbl := wq_1 _ (List.mem_of_getElem? (i := 26) (by decide +kernel)) rfl
theorem wd_1_27 : Cond.code objectInit object_method_1_code (1) none ∈ mm_tbl := wq_1 _ (List.mem_of_getElem? (i := 27) (by decide +kernel)) rfl
theorem wd_1_28 : Cond.classLink RX9 (9) RX0 ∈ mm_tbl := wq_1 _ (List.mem_of_getElem? (i := 28) (by decide +kernel)) rfl
theorem wd_1_29 : Cond.instantiable RX0 (10) ∈ mm_tbl := wq_1 _ (List.mem_of_getElem? (i := 29) (by decide +kernel)) rfl
theorem wd_1_31 : Cond.instanceMethod yX0_init ∈ mm_tbl := wq_1 _ (List.mem_of_getElem? (i := 31) (by decide +kernel)) rfl
theorem wd_1_32 : Cond.code yX0_init cX0_init (1) none ∈ mm_tbl := wq_1 _ (List.mem_of_getElem? (i := 32) (by decide +kernel)) rfl
theorem wd_1_33 : Cond.methodLink RX0 (3) objectInit ∈ mm_tbl := wq_1 _ (List.mem_of_getElem? (i := 33) (by decide +kernel)) rfl
theorem wd_1_34 : Cond.fieldLink RX0 (9) RX0 "oars" "I" ∈ mm_tbl := wq_1 _ (List.mem_of_getElem? (i := 34) (by decide +kernel)) rfl
theorem wd_1_35 : Cond.fieldLink RX1 (27) RX0 "oars" "I" ∈ mm_tbl := wq_1 _ (List.mem_of_getElem? (i := 35) (by decide +kernel)) rfl
theorem wd_1_36 : Cond.fieldLink RX9 (82) RX0 "oars" "I" ∈ mm_tbl := wq_1 _ (List.mem_of_getElem? (i := 36) (by decide +kernel)) rfl
theorem wd_1_37 : Cond.fieldLink RX0 (15) RX0 "oarKind" "[I" ∈ mm_tbl := wq_1 _ (List.mem_of_getElem? (i := 37) (by decide +kernel)) rfl
theorem wd_1_38 : Cond.fieldLink RX9 (118) RX0 "oarKind" "[I" ∈ mm_tbl := wq_1 _ (List.mem_of_getElem? (i := 38) (by decide +kernel)) rfl
theorem wd_1_39 : Cond.fieldLink RX0 (19) RX0 "weight" "[I" ∈ mm_tbl := wq_1 _ (List.mem_of_getElem? (i := 39) (by decide +kernel)) rfl
theorem wd_1_40 : Cond.fieldLink RX9 (121) RX0 "weight" "[I" ∈ mm_tbl := wq_1 _ (List.mem_of_getElem? (i := 40) (by decide +kernel)) rfl
theorem wd_1_41 : Cond.fieldLink RX0 (22) RX0 "sick" "[I" ∈ mm_tbl := wq_1 _ (List.mem_of_getElem? (i := 41) (by decide +kernel)) rfl
theorem wd_1_42 : Cond.fieldLink RX9 (100) RX0 "sick" "[I" ∈ mm_tbl := wq_1 _ (List.mem_of_getElem? (i := 42) (by decide +kernel)) rfl
theorem wd_1_43 : Cond.fieldLink RX0 (25) RX0 "place" "[I" ∈ mm_tbl := wq_1 _ (List.mem_of_getElem? (i := 43) (by decide +kernel)) rfl
theorem wd_1_44 : Cond.fieldLink RX1 (66) RX0 "place" "[I" ∈ mm_tbl := wq_1 _ (List.mem_of_getElem? (i := 44) (by decide +kernel)) rfl
theorem wd_1_45 : Cond.fieldLink RX9 (124) RX0 "place" "[I" ∈ mm_tbl := wq_1 _ (List.mem_of_getElem? (i := 45) (by decide +kernel)) rfl
theorem wd_1_46 : Cond.fieldLink RX0 (28) RX0 "boats" "I" ∈ mm_tbl := wq_1 _ (List.mem_of_getElem? (i := 46) (by decide +kernel)) rfl
theorem wd_1_47 : Cond.fieldLink RX9 (89) RX0 "boats" "I" ∈ mm_tbl := wq_1 _ (List.mem_of_getElem? (i := 47) (by decide +kernel)) rfl
theorem wd_1_48 : Cond.fieldLink RX0 (31) RX0 "boatKind" "[I" ∈ mm_tbl := wq_1 _ (List.mem_of_getElem? (i := 48) (by decide +kernel)) rfl
theorem wd_1_49 : Cond.fieldLink RX9 (310) RX0 "boatKind" "[I" ∈ mm_tbl := wq_1 _ (List.mem_of_getElem? (i := 49) (by decide +kernel)) rfl
theorem wd_1_50 : Cond.fieldLink RX0 (34) RX0 "least" "[I" ∈ mm_tbl := wq_1 _ (List.mem_of_getElem? (i := 50) (by decide +kernel)) rfl
theorem wd_1_51 : Cond.fieldLink RX9 (289) RX0 "least" "[I" ∈ mm_tbl := wq_1 _ (List.mem_of_getElem? (i := 51) (by decide +kernel)) rfl
theorem wd_1_52 : Cond.fieldLink RX0 (37) RX0 "most" "[I" ∈ mm_tbl := wq_1 _ (List.mem_of_getElem? (i := 52) (by decide +kernel)) rfl
theorem wd_1_53 : Cond.fieldLink RX9 (292) RX0 "most" "[I" ∈ mm_tbl := wq_1 _ (List.mem_of_getElem? (i := 53) (by decide +kernel)) rfl
theorem wd_1_54 : Cond.fieldLink RX0 (40) RX0 "length" "[I" ∈ mm_tbl := wq_1 _ (List.mem_of_getElem? (i := 54) (by decide +kernel)) rfl
theorem wd_1_55 : Cond.fieldLink RX9 (261) RX0 "length" "[I" ∈ mm_tbl := wq_1 _ (List.mem_of_getElem? (i := 55) (by decide +kernel)) rfl
theorem wd_1_77 : Cond.arrayClass .int ∈ mm_tbl := wq_1 _ (List.mem_of_getElem? (i := 77) (by decide +kernel)) rfl
theorem wd_1_78 : Cond.classLink RX9 (18) RX4 ∈ mm_tbl := wq_1 _ (List.mem_of_getElem? (i := 78) (by decide +kernel)) rfl
theorem wd_1_79 : Cond.instantiable RX4 (8) ∈ mm_tbl := wq_1 _ (List.mem_of_getElem? (i := 79) (by decide +kernel)) rfl
theorem wd_1_81 : Cond.instanceMethod yX4_init ∈ mm_tbl := wq_1 _ (List.mem_of_getElem? (i := 81) (by decide +kernel)) rfl
theorem wd_1_82 : Cond.code yX4_init cX4_init (1) none ∈ mm_tbl := wq_1 _ (List.mem_of_getElem? (i := 82) (by decide +kernel)) rfl
theorem wd_1_83 : Cond.methodLink RX4 (5) objectInit ∈ mm_tbl := wq_1 _ (List.mem_of_getElem? (i := 83) (by decide +kernel)) rfl
theorem wd_1_84 : Cond.fieldLink RX4 (11) RX4 "count" "I" ∈ mm_tbl := wq_1 _ (List.mem_of_getElem? (i := 84) (by decide +kernel)) rfl
theorem wd_1_85 : Cond.fieldLink RX9 (127) RX4 "count" "I" ∈ mm_tbl := wq_1 _ (List.mem_of_getElem? (i := 85) (by decide +kernel)) rfl
theorem wd_1_86 : Cond.fieldLink RX4 (15) RX4 "first" "[I" ∈ mm_tbl := wq_1 _ (List.mem_of_getElem? (i := 86) (by decide +kernel)) rfl
theorem wd_1_87 : Cond.fieldLink RX4 (19) RX4 "second" "[I" ∈ mm_tbl := wq_1 _ (List.mem_of_getElem? (i := 87) (by decide +kernel)) rfl
theorem wd_1_88 : Cond.fieldLink RX4 (22) RX4 "lead" "[I" ∈ mm_tbl := wq_1 _ (List.mem_of_getElem? (i := 88) (by decide +kernel)) rfl
theorem wd_1_89 : Cond.fieldLink RX4 (27) RX4 "above" "[J" ∈ mm_tbl := wq_1 _ (List.mem_of_getElem? (i := 89) (by decide +kernel)) rfl
theorem wd_1_90 : Cond.fieldLink RX9 (145) RX4 "above" "[J" ∈ mm_tbl := wq_1 _ (List.mem_of_getElem? (i := 90) (by decide +kernel)) rfl
theorem wd_1_91 : Cond.fieldLink RX4 (31) RX4 "below" "J" ∈ mm_tbl := wq_1 _ (List.mem_of_getElem? (i := 91) (by decide +kernel)) rfl
theorem wd_1_92 : Cond.fieldLink RX9 (149) RX4 "below" "J" ∈ mm_tbl := wq_1 _ (List.mem_of_getElem? (i := 92) (by decide +kernel)) rfl
theorem wd_1_93 : Cond.fieldLink RX4 (35) RX4 "rowOf" "[I" ∈ mm_tbl := wq_1 _ (List.mem_of_getElem? (i := 93) (by decide +kernel)) rfl
theorem wd_1_94 : Cond.fieldLink RX4 (38) RX4 "cells" "[J" ∈ mm_tbl := wq_1 _ (List.mem_of_getElem? (i := 94) (by decide +kernel)) rfl
theorem wd_1_112 : Cond.arrayClass .long ∈ mm_tbl := wq_1 _ (List.mem_of_getElem? (i := 112) (by decide +kernel)) rfl
theorem wd_1_113 : Cond.classLink RX9 (25) RX1 ∈ mm_tbl := wq_1 _ (List.mem_of_getElem? (i := 113) (by decide +kernel)) rfl
theorem wd_1_114 : Cond.instantiable RX1 (3) ∈ mm_tbl := wq_1 _ (List.mem_of_getElem? (i := 114) (by decide +kernel)) rfl
theorem wd_1_116 : Cond.instanceMethod yX1_init ∈ mm_tbl := wq_1 _ (List.mem_of_getElem? (i := 116) (by decide +kernel)) rfl
theorem wd_1_117 : Cond.code yX1_init cX1_init (1) none ∈ mm_tbl := wq_1 _ (List.mem_of_getElem? (i := 117) (by decide +kernel)) rfl
theorem wd_1_118 : Cond.methodLink RX1 (5) objectInit ∈ mm_tbl := wq_1 _ (List.mem_of_getElem? (i := 118) (by decide +kernel)) rfl
theorem wd_1_119 : Cond.fieldLink RX1 (13) RX1 "costs" "[I" ∈ mm_tbl := wq_1 _ (List.mem_of_getElem? (i := 119) (by decide +kernel)) rfl
theorem wd_1_120 : Cond.fieldLink RX1 (17) RX1 "price" "[I" ∈ mm_tbl := wq_1 _ (List.mem_of_getElem? (i := 120) (by decide +kernel)) rfl
theorem wd_1_121 : Cond.fieldLink RX1 (20) RX1 "chosen" "[I" ∈ mm_tbl := wq_1 _ (List.mem_of_getElem? (i := 121) (by decide +kernel)) rfl
theorem wd_1_129 : Cond.classLink RX9 (32) RX6 ∈ mm_tbl := wq_1 _ (List.mem_of_getElem? (i := 129) (by decide +kernel)) rfl
theorem wd_1_130 : Cond.instantiable RX6 (2) ∈ mm_tbl := wq_1 _ (List.mem_of_getElem? (i := 130) (by decide +kernel)) rfl
theorem wd_1_132 : Cond.instanceMethod yX6_init ∈ mm_tbl := wq_1 _ (List.mem_of_getElem? (i := 132) (by decide +kernel)) rfl
theorem wd_1_133 : Cond.code yX6_init cX6_init (1) none ∈ mm_tbl := wq_1 _ (List.mem_of_getElem? (i := 133) (by decide +kernel)) rfl
theorem wd_1_134 : Cond.methodLink RX6 (1) objectInit ∈ mm_tbl := wq_1 _ (List.mem_of_getElem? (i := 134) (by decide +kernel)) rfl
theorem wd_1_135 : Cond.fieldLink RX6 (9) RX6 "stream" "[I" ∈ mm_tbl := wq_1 _ (List.mem_of_getElem? (i := 135) (by decide +kernel)) rfl
theorem wd_1_136 : Cond.fieldLink RX9 (181) RX6 "stream" "[I" ∈ mm_tbl := wq_1 _ (List.mem_of_getElem? (i := 136) (by decide +kernel)) rfl
theorem wd_1_137 : Cond.fieldLink RX6 (13) RX6 "wind" "[I" ∈ mm_tbl := wq_1 _ (List.mem_of_getElem? (i := 137) (by decide +kernel)) rfl
theorem wd_1_138 : Cond.fieldLink RX9 (184) RX6 "wind" "[I" ∈ mm_tbl := wq_1 _ (List.mem_of_getElem? (i := 138) (by decide +kernel)) rfl
theorem wd_1_144 : Cond.classLink RX9 (39) RX8 ∈ mm_tbl := wq_1 _ (List.mem_of_getElem? (i := 144) (by decide +kernel)) rfl
theorem wd_1_145 : Cond.instantiable RX8 (3) ∈ mm_tbl := wq_1 _ (List.mem_of_getElem? (i := 145) (by decide +kernel)) rfl
theorem wd_1_147 : Cond.instanceMethod yX8_init ∈ mm_tbl := wq_1 _ (List.mem_of_getElem? (i := 147) (by decide +kernel)) rfl
theorem wd_1_148 : Cond.code yX8_init cX8_init (1) none ∈ mm_tbl := wq_1 _ (List.mem_of_getElem? (i := 148) (by decide +kernel)) rfl
theorem wd_1_149 : Cond.methodLink RX8 (3) objectInit ∈ mm_tbl := wq_1 _ (List.mem_of_getElem? (i := 149) (by decide +kernel)) rfl
theorem wd_1_150 : Cond.fieldLink RX8 (9) RX8 "length" "I" ∈ mm_tbl := wq_1 _ (List.mem_of_getElem? (i := 150) (by decide +kernel)) rfl
theorem wd_1_151 : Cond.fieldLink RX9 (187) RX8 "length" "I" ∈ mm_tbl := wq_1 _ (List.mem_of_getElem? (i := 151) (by decide +kernel)) rfl
theorem wd_1_152 : Cond.fieldLink RX8 (15) RX8 "at" "I" ∈ mm_tbl := wq_1 _ (List.mem_of_getElem? (i := 152) (by decide +kernel)) rfl
theorem wd_1_153 : Cond.fieldLink RX7 (41) RX8 "at" "I" ∈ mm_tbl := wq_1 _ (List.mem_of_getElem? (i := 153) (by decide +kernel)) rfl
theorem wd_1_154 : Cond.fieldLink RX9 (203) RX8 "at" "I" ∈ mm_tbl := wq_1 _ (List.mem_of_getElem? (i := 154) (by decide +kernel)) rfl
theorem wd_1_155 : Cond.fieldLink RX8 (18) RX8 "bytes" "[I" ∈ mm_tbl := wq_1 _ (List.mem_of_getElem? (i := 155) (by decide +kernel)) rfl
theorem wd_1_163 : Cond.classLink RX9 (46) RX7 ∈ mm_tbl := wq_1 _ (List.mem_of_getElem? (i := 163) (by decide +kernel)) rfl
theorem wd_1_164 : Cond.instantiable RX7 (9) ∈ mm_tbl := wq_1 _ (List.mem_of_getElem? (i := 164) (by decide +kernel)) rfl
theorem wd_1_166 : Cond.instanceMethod yX7_init ∈ mm_tbl := wq_1 _ (List.mem_of_getElem? (i := 166) (by decide +kernel)) rfl
theorem wd_1_167 : Cond.code yX7_init cX7_init (1) none ∈ mm_tbl := wq_1 _ (List.mem_of_getElem? (i := 167) (by decide +kernel)) rfl
theorem wd_1_168 : Cond.methodLink RX7 (3) objectInit ∈ mm_tbl := wq_1 _ (List.mem_of_getElem? (i := 168) (by decide +kernel)) rfl
theorem wd_1_169 : Cond.fieldLink RX7 (9) RX7 "count" "I" ∈ mm_tbl := wq_1 _ (List.mem_of_getElem? (i := 169) (by decide +kernel)) rfl
theorem wd_1_170 : Cond.fieldLink RX9 (194) RX7 "count" "I" ∈ mm_tbl := wq_1 _ (List.mem_of_getElem? (i := 170) (by decide +kernel)) rfl
theorem wd_1_171 : Cond.fieldLink RX7 (15) RX7 "bars" "[I" ∈ mm_tbl := wq_1 _ (List.mem_of_getElem? (i := 171) (by decide +kernel)) rfl
theorem wd_1_172 : Cond.fieldLink RX9 (298) RX7 "bars" "[I" ∈ mm_tbl := wq_1 _ (List.mem_of_getElem? (i := 172) (by decide +kernel)) rfl
theorem wd_1_173 : Cond.fieldLink RX7 (19) RX7 "kind" "[I" ∈ mm_tbl := wq_1 _ (List.mem_of_getElem? (i := 173) (by decide +kernel)) rfl
theorem wd_1_174 : Cond.fieldLink RX7 (22) RX7 "tests" "[I" ∈ mm_tbl := wq_1 _ (List.mem_of_getElem? (i := 174) (by decide +kernel)) rfl
theorem wd_1_175 : Cond.fieldLink RX7 (25) RX7 "denied" "[Z" ∈ mm_tbl := wq_1 _ (List.mem_of_getElem? (i := 175) (by decide +kernel)) rfl
theorem wd_1_176 : Cond.fieldLink RX7 (29) RX7 "field" "[I" ∈ mm_tbl := wq_1 _ (List.mem_of_getElem? (i := 176) (by decide +kernel)) rfl
theorem wd_1_177 : Cond.fieldLink RX7 (32) RX7 "sign" "[I" ∈ mm_tbl := wq_1 _ (List.mem_of_getElem? (i := 177) (by decide +kernel)) rfl
theorem wd_1_178 : Cond.fieldLink RX7 (35) RX7 "number" "[I" ∈ mm_tbl := wq_1 _ (List.mem_of_getElem? (i := 178) (by decide +kernel)) rfl
theorem wd_1_179 : Cond.fieldLink RX7 (38) RX7 "now" "[I" ∈ mm_tbl := wq_1 _ (List.mem_of_getElem? (i := 179) (by decide +kernel)) rfl
theorem wd_1_180 : Cond.fieldLink RX9 (301) RX7 "now" "[I" ∈ mm_tbl := wq_1 _ (List.mem_of_getElem? (i := 180) (by decide +kernel)) rfl
theorem wd_1_200 : Cond.arrayClass .boolean ∈ mm_tbl := wq_1 _ (List.mem_of_getElem? (i := 200) (by decide +kernel)) rfl
theorem wd_1_201 : Cond.classLink RX9 (53) RX3 ∈ mm_tbl := wq_1 _ (List.mem_of_getElem? (i := 201) (by decide +kernel)) rfl
theorem wd_1_202 : Cond.instantiable RX3 (9) ∈ mm_tbl := wq_1 _ (List.mem_of_getElem? (i := 202) (by decide +kernel)) rfl
theorem wd_1_204 : Cond.instanceMethod yX3_init ∈ mm_tbl := wq_1 _ (List.mem_of_getElem? (i := 204) (by decide +kernel)) rfl
theorem wd_1_205 : Cond.code yX3_init cX3_init (1) none ∈ mm_tbl := wq_1 _ (List.mem_of_getElem? (i := 205) (by decide +kernel)) rfl
theorem wd_1_206 : Cond.methodLink RX3 (3) objectInit ∈ mm_tbl := wq_1 _ (List.mem_of_getElem? (i := 206) (by decide +kernel)) rfl
theorem wd_1_207 : Cond.fieldLink RX3 (9) RX3 "outings" "I" ∈ mm_tbl := wq_1 _ (List.mem_of_getElem? (i := 207) (by decide +kernel)) rfl
theorem wd_1_208 : Cond.fieldLink RX9 (212) RX3 "outings" "I" ∈ mm_tbl := wq_1 _ (List.mem_of_getElem? (i := 208) (by decide +kernel)) rfl
theorem wd_1_209 : Cond.fieldLink RX3 (15) RX3 "outBoat" "[I" ∈ mm_tbl := wq_1 _ (List.mem_of_getElem? (i := 209) (by decide +kernel)) rfl
theorem wd_1_210 : Cond.fieldLink RX9 (239) RX3 "outBoat" "[I" ∈ mm_tbl := wq_1 _ (List.mem_of_getElem? (i := 210) (by decide +kernel)) rfl
theorem wd_1_211 : Cond.fieldLink RX3 (19) RX3 "outDay" "[I" ∈ mm_tbl := wq_1 _ (List.mem_of_getElem? (i := 211) (by decide +kernel)) rfl
theorem wd_1_212 : Cond.fieldLink RX9 (242) RX3 "outDay" "[I" ∈ mm_tbl := wq_1 _ (List.mem_of_getElem? (i := 212) (by decide +kernel)) rfl
theorem wd_1_213 : Cond.fieldLink RX3 (22) RX3 "outHour" "[I" ∈ mm_tbl := wq_1 _ (List.mem_of_getElem? (i := 213) (by decide +kernel)) rfl
theorem wd_1_214 : Cond.fieldLink RX9 (245) RX3 "outHour" "[I" ∈ mm_tbl := wq_1 _ (List.mem_of_getElem? (i := 214) (by decide +kernel)) rfl
theorem wd_1_215 : Cond.fieldLink RX3 (25) RX3 "who" "[I" ∈ mm_tbl := wq_1 _ (List.mem_of_getElem? (i := 215) (by decide +kernel)) rfl
theorem wd_1_216 : Cond.fieldLink RX9 (236) RX3 "who" "[I" ∈ mm_tbl := wq_1 _ (List.mem_of_getElem? (i := 216) (by decide +kernel)) rfl
theorem wd_1_217 : Cond.fieldLink RX3 (28) RX3 "looks" "I" ∈ mm_tbl := wq_1 _ (List.mem_of_getElem? (i := 217) (by decide +kernel)) rfl
theorem wd_1_218 : Cond.fieldLink RX9 (221) RX3 "looks" "I" ∈ mm_tbl := wq_1 _ (List.mem_of_getElem? (i := 218) (by decide +kernel)) rfl
theorem wd_1_219 : Cond.fieldLink RX3 (31) RX3 "lookBoat" "[I" ∈ mm_tbl := wq_1 _ (List.mem_of_getElem? (i := 219) (by decide +kernel)) rfl
theorem wd_1_220 : Cond.fieldLink RX3 (34) RX3 "wasWhole" "[I" ∈ mm_tbl := wq_1 _ (List.mem_of_getElem? (i := 220) (by decide +kernel)) rfl
theorem wd_1_221 : Cond.fieldLink RX3 (37) RX3 "ahead" "[I" ∈ mm_tbl := wq_1 _ (List.mem_of_getElem? (i := 221) (by decide +kernel)) rfl
theorem wd_2_1 : Cond.classLink RX9 (60) RX2 ∈ mm_tbl := wq_2 _ (List.mem_of_getElem? (i := 1) (by decide +kernel)) rfl
theorem wd_2_2 : Cond.instantiable RX2 (4) ∈ mm_tbl := wq_2 _ (List.mem_of_getElem? (i := 2) (by decide +kernel)) rfl
theorem wd_2_4 : Cond.instanceMethod yX2_init ∈ mm_tbl := wq_2 _ (List.mem_of_getElem? (i := 4) (by decide +kernel)) rfl
theorem wd_2_5 : Cond.code yX2_init cX2_init (1) none ∈ mm_tbl := wq_2 _ (List.mem_of_getElem? (i := 5) (by decide +kernel)) rfl
theorem wd_2_6 : Cond.methodLink RX2 (3) objectInit ∈ mm_tbl := wq_2 _ (List.mem_of_getElem? (i := 6) (by decide +kernel)) rfl
theorem wd_2_7 : Cond.fieldLink RX2 (9) RX2 "count" "I" ∈ mm_tbl := wq_2 _ (List.mem_of_getElem? (i := 7) (by decide +kernel)) rfl
theorem wd_2_8 : Cond.fieldLink RX9 (248) RX2 "count" "I" ∈ mm_tbl := wq_2 _ (List.mem_of_getElem? (i := 8) (by decide +kernel)) rfl
theorem wd_2_9 : Cond.fieldLink RX2 (15) RX2 "apart" "I" ∈ mm_tbl := wq_2 _ (List.mem_of_getElem? (i := 9) (by decide +kernel)) rfl
theorem wd_2_10 : Cond.fieldLink RX9 (252) RX2 "apart" "I" ∈ mm_tbl := wq_2 _ (List.mem_of_getElem? (i := 10) (by decide +kernel)) rfl
theorem wd_2_11 : Cond.fieldLink RX2 (18) RX2 "boatOf" "[I" ∈ mm_tbl := wq_2 _ (List.mem_of_getElem? (i := 11) (by decide +kernel)) rfl
theorem wd_2_12 : Cond.fieldLink RX2 (22) RX2 "start" "[I" ∈ mm_tbl := wq_2 _ (List.mem_of_getElem? (i := 12) (by decide +kernel)) rfl
theorem wd_2_22 : Cond.classLink RX9 (67) RX5 ∈ mm_tbl := wq_2 _ (List.mem_of_getElem? (i := 22) (by decide +kernel)) rfl
theorem wd_2_23 : Cond.instantiable RX5 (4) ∈ mm_tbl := wq_2 _ (List.mem_of_getElem? (i := 23) (by decide +kernel)) rfl
theorem wd_2_24 : Cond.methodLink RX9 (69) yX5_init ∈ mm_tbl := wq_2 _ (List.mem_of_getElem? (i := 24) (by decide +kernel)) rfl
theorem wd_2_25 : Cond.instanceMethod yX5_init ∈ mm_tbl := wq_2 _ (List.mem_of_getElem? (i := 25) (by decide +kernel)) rfl
theorem wd_2_26 : Cond.code yX5_init cX5_init (1) none ∈ mm_tbl := wq_2 _ (List.mem_of_getElem? (i := 26) (by decide +kernel)) rfl
theorem wd_2_27 : Cond.methodLink RX5 (3) objectInit ∈ mm_tbl := wq_2 _ (List.mem_of_getElem? (i := 27) (by decide +kernel)) rfl
theorem wd_2_28 : Cond.methodLink RX5 (27) yJ7_fill_53178 ∈ mm_tbl := wq_2 _ (List.mem_of_getElem? (i := 28) (by decide +kernel)) rfl
theorem wd_2_29 : Cond.static yJ7_fill_53178 ∈ mm_tbl := wq_2 _ (List.mem_of_getElem? (i := 29) (by decide +kernel)) rfl
theorem wd_2_30 : Cond.code yJ7_fill_53178 cJ7_fill_53178 (4) none ∈ mm_tbl := wq_2 _ (List.mem_of_getElem? (i := 30) (by decide +kernel)) rfl
theorem wd_2_31 : Cond.fieldLink RX5 (11) RX5 "rackOf" "[I" ∈ mm_tbl := wq_2 _ (List.mem_of_getElem? (i := 31) (by decide +kernel)) rfl
theorem wd_2_32 : Cond.fieldLink RX9 (267) RX5 "rackOf" "[I" ∈ mm_tbl := wq_2 _ (List.mem_of_getElem? (i := 32) (by decide +kernel)) rfl
theorem wd_2_33 : Cond.fieldLink RX5 (17) RX5 "trial" "[I" ∈ mm_tbl := wq_2 _ (List.mem_of_getElem? (i := 33) (by decide +kernel)) rfl
theorem wd_2_34 : Cond.fieldLink RX5 (20) RX5 "row" "[I" ∈ mm_tbl := wq_2 _ (List.mem_of_getElem? (i := 34) (by decide +kernel)) rfl
theorem wd_2_35 : Cond.fieldLink RX5 (23) RX5 "best" "I" ∈ mm_tbl := wq_2 _ (List.mem_of_getElem? (i := 35) (by decide +kernel)) rfl
theorem wd_2_45 : Cond.fieldLink RX9 (12) RX9 "club" "LDawnEights$Club;" ∈ mm_tbl := wq_2 _ (List.mem_of_getElem? (i := 45) (by decide +kernel)) rfl
theorem wd_2_46 : Cond.fieldLink RX9 (21) RX9 "races" "LDawnEights$Races;" ∈ mm_tbl := wq_2 _ (List.mem_of_getElem? (i := 46) (by decide +kernel)) rfl
theorem wd_2_47 : Cond.fieldLink RX9 (28) RX9 "plan" "LDawnEights$CrewPlan;" ∈ mm_tbl := wq_2 _ (List.mem_of_getElem? (i := 47) (by decide +kernel)) rfl
theorem wd_2_48 : Cond.fieldLink RX9 (35) RX9 "river" "LDawnEights$River;" ∈ mm_tbl := wq_2 _ (List.mem_of_getElem? (i := 48) (by decide +kernel)) rfl
theorem wd_2_49 : Cond.fieldLink RX9 (42) RX9 "tape" "LDawnEights$Tape;" ∈ mm_tbl := wq_2 _ (List.mem_of_getElem? (i := 49) (by decide +kernel)) rfl
theorem wd_2_50 : Cond.fieldLink RX9 (49) RX9 "rules" "LDawnEights$RuleBook;" ∈ mm_tbl := wq_2 _ (List.mem_of_getElem? (i := 50) (by decide +kernel)) rfl
theorem wd_2_51 : Cond.fieldLink RX9 (56) RX9 "log" "LDawnEights$Logbook;" ∈ mm_tbl := wq_2 _ (List.mem_of_getElem? (i := 51) (by decide +kernel)) rfl
theorem wd_2_52 : Cond.fieldLink RX9 (63) RX9 "heats" "LDawnEights$Heats;" ∈ mm_tbl := wq_2 _ (List.mem_of_getElem? (i := 52) (by decide +kernel)) rfl
theorem wd_2_53 : Cond.fieldLink RX9 (70) RX9 "racks" "LDawnEights$Racks;" ∈ mm_tbl := wq_2 _ (List.mem_of_getElem? (i := 53) (by decide +kernel)) rfl
theorem wd_2_54 : Cond.fieldLink RX9 (74) RX9 "today" "I" ∈ mm_tbl := wq_2 _ (List.mem_of_getElem? (i := 54) (by decide +kernel)) rfl
theorem wd_2_76 : Cond.methodLink RL (13) yX9_oar ∈ mm_tbl := wq_2 _ (List.mem_of_getElem? (i := 76) (by decide +kernel)) rfl
theorem wd_2_77 : Cond.instanceMethod yX9_oar ∈ mm_tbl := wq_2 _ (List.mem_of_getElem? (i := 77) (by decide +kernel)) rfl
theorem wd_2_78 : Cond.selects RX9 yX9_oar yX9_oar ∈ mm_tbl := wq_2 _ (List.mem_of_getElem? (i := 78) (by decide +kernel)) rfl
theorem wd_2_79 : Cond.code yX9_oar cX9_oar (3) (some .int) ∈ mm_tbl := wq_2 _ (List.mem_of_getElem? (i := 79) (by decide +kernel)) rfl
theorem wd_2_80 : Cond.methodLink RX9 (78) yX9_within ∈ mm_tbl := wq_2 _ (List.mem_of_getElem? (i := 80) (by decide +kernel)) rfl
theorem wd_2_81 : Cond.static yX9_within ∈ mm_tbl := wq_2 _ (List.mem_of_getElem? (i := 81) (by decide +kernel)) rfl
theorem wd_2_82 : Cond.code yX9_within cX9_within (3) (some .boolean) ∈ mm_tbl := wq_2 _ (List.mem_of_getElem? (i := 82) (by decide +kernel)) rfl
theorem wd_2_83 : Cond.methodLink RX9 (85) yX0_addOar ∈ mm_tbl := wq_2 _ (List.mem_of_getElem? (i := 83) (by decide +kernel)) rfl
theorem wd_2_84 : Cond.instanceMethod yX0_addOar ∈ mm_tbl := wq_2 _ (List.mem_of_getElem? (i := 84) (by decide +kernel)) rfl
theorem wd_2_85 : Cond.selects RX0 yX0_addOar yX0_addOar ∈ mm_tbl := wq_2 _ (List.mem_of_getElem? (i := 85) (by decide +kernel)) rfl
theorem wd_2_86 : Cond.code yX0_addOar cX0_addOar (3) (some .int) ∈ mm_tbl := wq_2 _ (List.mem_of_getElem? (i := 86) (by decide +kernel)) rfl
theorem wd_2_87 : Cond.methodLink RL (18) yX9_boat ∈ mm_tbl := wq_2 _ (List.mem_of_getElem? (i := 87) (by decide +kernel)) rfl
theorem wd_2_88 : Cond.instanceMethod yX9_boat ∈ mm_tbl := wq_2 _ (List.mem_of_getElem? (i := 88) (by decide +kernel)) rfl
theorem wd_2_89 : Cond.selects RX9 yX9_boat yX9_boat ∈ mm_tbl := wq_2 _ (List.mem_of_getElem? (i := 89) (by decide +kernel)) rfl
theorem wd_2_90 : Cond.code yX9_boat cX9_boat (5) (some .int) ∈ mm_tbl := wq_2 _ (List.mem_of_getElem? (i := 90) (by decide +kernel)) rfl
theorem wd_2_91 : Cond.methodLink RX9 (92) yX0_addBoat ∈ mm_tbl := wq_2 _ (List.mem_of_getElem? (i := 91) (by decide +kernel)) rfl
theorem wd_2_92 : Cond.instanceMethod yX0_addBoat ∈ mm_tbl := wq_2 _ (List.mem_of_getElem? (i := 92) (by decide +kernel)) rfl
theorem wd_2_93 : Cond.selects RX0 yX0_addBoat yX0_addBoat ∈ mm_tbl := wq_2 _ (List.mem_of_getElem? (i := 93) (by decide +kernel)) rfl
theorem wd_2_94 : Cond.code yX0_addBoat cX0_addBoat (5) (some .int) ∈ mm_tbl := wq_2 _ (List.mem_of_getElem? (i := 94) (by decide +kernel)) rfl
theorem wd_2_95 : Cond.methodLink RL (23) yX9_ill ∈ mm_tbl := wq_2 _ (List.mem_of_getElem? (i := 95) (by decide +kernel)) rfl
theorem wd_2_96 : Cond.instanceMethod yX9_ill ∈ mm_tbl := wq_2 _ (List.mem_of_getElem? (i := 96) (by decide +kernel)) rfl
theorem wd_2_97 : Cond.selects RX9 yX9_ill yX9_ill ∈ mm_tbl := wq_2 _ (List.mem_of_getElem? (i := 97) (by decide +kernel)) rfl
theorem wd_2_98 : Cond.code yX9_ill cX9_ill (4) (some .int) ∈ mm_tbl := wq_2 _ (List.mem_of_getElem? (i := 98) (by decide +kernel)) rfl
theorem wd_2_99 : Cond.methodLink RX9 (96) yX0_hasOar ∈ mm_tbl := wq_2 _ (List.mem_of_getElem? (i := 99) (by decide +kernel)) rfl
theorem wd_2_100 : Cond.instanceMethod yX0_hasOar ∈ mm_tbl := wq_2 _ (List.mem_of_getElem? (i := 100) (by decide +kernel)) rfl
theorem wd_2_101 : Cond.selects RX0 yX0_hasOar yX0_hasOar ∈ mm_tbl := wq_2 _ (List.mem_of_getElem? (i := 101) (by decide +kernel)) rfl
theorem wd_2_102 : Cond.code yX0_hasOar cX0_hasOar (2) (some .boolean) ∈ mm_tbl := wq_2 _ (List.mem_of_getElem? (i := 102) (by decide +kernel)) rfl
theorem wd_2_103 : Cond.methodLink RL (27) yX9_sit ∈ mm_tbl := wq_2 _ (List.mem_of_getElem? (i := 103) (by decide +kernel)) rfl
theorem wd_2_104 : Cond.instanceMethod yX9_sit ∈ mm_tbl := wq_2 _ (List.mem_of_getElem? (i := 104) (by decide +kernel)) rfl
theorem wd_2_105 : Cond.selects RX9 yX9_sit yX9_sit ∈ mm_tbl := wq_2 _ (List.mem_of_getElem? (i := 105) (by decide +kernel)) rfl
theorem wd_2_106 : Cond.code yX9_sit cX9_sit (4) (some .int) ∈ mm_tbl := wq_2 _ (List.mem_of_getElem? (i := 106) (by decide +kernel)) rfl
theorem wd_2_107 : Cond.methodLink RX9 (104) yX0_hasSeat ∈ mm_tbl := wq_2 _ (List.mem_of_getElem? (i := 107) (by decide +kernel)) rfl
theorem wd_2_108 : Cond.instanceMethod yX0_hasSeat ∈ mm_tbl := wq_2 _ (List.mem_of_getElem? (i := 108) (by decide +kernel)) rfl
theorem wd_2_109 : Cond.selects RX0 yX0_hasSeat yX0_hasSeat ∈ mm_tbl := wq_2 _ (List.mem_of_getElem? (i := 109) (by decide +kernel)) rfl
theorem wd_2_110 : Cond.code yX0_hasSeat cX0_hasSeat (3) (some .boolean) ∈ mm_tbl := wq_2 _ (List.mem_of_getElem? (i := 110) (by decide +kernel)) rfl
theorem wd_2_111 : Cond.methodLink RX0 (43) yX0_hasBoat ∈ mm_tbl := wq_2 _ (List.mem_of_getElem? (i := 111) (by decide +kernel)) rfl
theorem wd_2_112 : Cond.instanceMethod yX0_hasBoat ∈ mm_tbl := wq_2 _ (List.mem_of_getElem? (i := 112) (by decide +kernel)) rfl
theorem wd_2_113 : Cond.selects RX0 yX0_hasBoat yX0_hasBoat ∈ mm_tbl := wq_2 _ (List.mem_of_getElem? (i := 113) (by decide +kernel)) rfl
theorem wd_2_114 : Cond.code yX0_hasBoat cX0_hasBoat (2) (some .boolean) ∈ mm_tbl := wq_2 _ (List.mem_of_getElem? (i := 114) (by decide +kernel)) rfl
theorem wd_2_115 : Cond.methodLink RX0 (47) yX0_hasCox ∈ mm_tbl := wq_2 _ (List.mem_of_getElem? (i := 115) (by decide +kernel)) rfl
theorem wd_2_116 : Cond.instanceMethod yX0_hasCox ∈ mm_tbl := wq_2 _ (List.mem_of_getElem? (i := 116) (by decide +kernel)) rfl
theorem wd_2_117 : Cond.selects RX0 yX0_hasCox yX0_hasCox ∈ mm_tbl := wq_2 _ (List.mem_of_getElem? (i := 117) (by decide +kernel)) rfl
theorem wd_2_118 : Cond.code yX0_hasCox cX0_hasCox (2) (some .boolean) ∈ mm_tbl := wq_2 _ (List.mem_of_getElem? (i := 118) (by decide +kernel)) rfl
theorem wd_2_119 : Cond.methodLink RX0 (50) yX0_seats ∈ mm_tbl := wq_2 _ (List.mem_of_getElem? (i := 119) (by decide +kernel)) rfl
theorem wd_2_120 : Cond.instanceMethod yX0_seats ∈ mm_tbl := wq_2 _ (List.mem_of_getElem? (i := 120) (by decide +kernel)) rfl
theorem wd_2_121 : Cond.selects RX0 yX0_seats yX0_seats ∈ mm_tbl := wq_2 _ (List.mem_of_getElem? (i := 121) (by decide +kernel)) rfl
theorem wd_2_122 : Cond.code yX0_seats cX0_seats (2) (some .int) ∈ mm_tbl := wq_2 _ (List.mem_of_getElem? (i := 122) (by decide +kernel)) rfl
theorem wd_2_123 : Cond.fieldLink RX0 (58) RX0 "SEATS" "[I" ∈ mm_tbl := wq_2 _ (List.mem_of_getElem? (i := 123) (by decide +kernel)) rfl
theorem wd_2_126 : Cond.methodLink RX9 (108) yX0_maySit ∈ mm_tbl := wq_2 _ (List.mem_of_getElem? (i := 126) (by decide +kernel)) rfl
theorem wd_2_127 : Cond.instanceMethod yX0_maySit ∈ mm_tbl := wq_2 _ (List.mem_of_getElem? (i := 127) (by decide +kernel)) rfl
theorem wd_2_128 : Cond.selects RX0 yX0_maySit yX0_maySit ∈ mm_tbl := wq_2 _ (List.mem_of_getElem? (i := 128) (by decide +kernel)) rfl
theorem wd_2_129 : Cond.code yX0_maySit cX0_maySit (3) (some .boolean) ∈ mm_tbl := wq_2 _ (List.mem_of_getElem? (i := 129) (by decide +kernel)) rfl
theorem wd_2_130 : Cond.methodLink RX9 (111) yX0_putOn ∈ mm_tbl := wq_2 _ (List.mem_of_getElem? (i := 130) (by decide +kernel)) rfl
theorem wd_2_131 : Cond.instanceMethod yX0_putOn ∈ mm_tbl := wq_2 _ (List.mem_of_getElem? (i := 131) (by decide +kernel)) rfl
theorem wd_2_132 : Cond.selects RX0 yX0_putOn yX0_putOn ∈ mm_tbl := wq_2 _ (List.mem_of_getElem? (i := 132) (by decide +kernel)) rfl
theorem wd_2_133 : Cond.code yX0_putOn cX0_putOn (5) (some .int) ∈ mm_tbl := wq_2 _ (List.mem_of_getElem? (i := 133) (by decide +kernel)) rfl
theorem wd_2_134 : Cond.methodLink RX0 (61) yX0_whoSits ∈ mm_tbl := wq_2 _ (List.mem_of_getElem? (i := 134) (by decide +kernel)) rfl
theorem wd_2_135 : Cond.instanceMethod yX0_whoSits ∈ mm_tbl := wq_2 _ (List.mem_of_getElem? (i := 135) (by decide +kernel)) rfl
theorem wd_2_136 : Cond.selects RX0 yX0_whoSits yX0_whoSits ∈ mm_tbl := wq_2 _ (List.mem_of_getElem? (i := 136) (by decide +kernel)) rfl
theorem wd_2_137 : Cond.code yX0_whoSits cX0_whoSits (4) (some .int) ∈ mm_tbl := wq_2 _ (List.mem_of_getElem? (i := 137) (by decide +kernel)) rfl
theorem wd_2_138 : Cond.methodLink RL (32) yX9_seat ∈ mm_tbl := wq_2 _ (List.mem_of_getElem? (i := 138) (by decide +kernel)) rfl
theorem wd_2_139 : Cond.instanceMethod yX9_seat ∈ mm_tbl := wq_2 _ (List.mem_of_getElem? (i := 139) (by decide +kernel)) rfl
theorem wd_2_140 : Cond.selects RX9 yX9_seat yX9_seat ∈ mm_tbl := wq_2 _ (List.mem_of_getElem? (i := 140) (by decide +kernel)) rfl
theorem wd_2_141 : Cond.code yX9_seat cX9_seat (3) (some .int) ∈ mm_tbl := wq_2 _ (List.mem_of_getElem? (i := 141) (by decide +kernel)) rfl
theorem wd_2_142 : Cond.methodLink RX9 (115) yX0_whoSits ∈ mm_tbl := wq_2 _ (List.mem_of_getElem? (i := 142) (by decide +kernel)) rfl
theorem wd_2_143 : Cond.methodLink RL (36) yX9_about ∈ mm_tbl := wq_2 _ (List.mem_of_getElem? (i := 143) (by decide +kernel)) rfl
theorem wd_2_144 : Cond.instanceMethod yX9_about ∈ mm_tbl := wq_2 _ (List.mem_of_getElem? (i := 144) (by decide +kernel)) rfl
theorem wd_2_145 : Cond.selects RX9 yX9_about yX9_about ∈ mm_tbl := wq_2 _ (List.mem_of_getElem? (i := 145) (by decide +kernel)) rfl
theorem wd_2_146 : Cond.code yX9_about cX9_about (3) (some .int) ∈ mm_tbl := wq_2 _ (List.mem_of_getElem? (i := 146) (by decide +kernel)) rfl
theorem wd_2_147 : Cond.methodLink RL (40) yX9_race ∈ mm_tbl := wq_2 _ (List.mem_of_getElem? (i := 147) (by decide +kernel)) rfl
theorem wd_2_148 : Cond.instanceMethod yX9_race ∈ mm_tbl := wq_2 _ (List.mem_of_getElem? (i := 148) (by decide +kernel)) rfl
theorem wd_2_149 : Cond.selects RX9 yX9_race yX9_race ∈ mm_tbl := wq_2 _ (List.mem_of_getElem? (i := 149) (by decide +kernel)) rfl
theorem wd_2_150 : Cond.code yX9_race cX9_race (4) (some .int) ∈ mm_tbl := wq_2 _ (List.mem_of_getElem? (i := 150) (by decide +kernel)) rfl
theorem wd_2_151 : Cond.methodLink RX9 (130) yX4_addRace ∈ mm_tbl := wq_2 _ (List.mem_of_getElem? (i := 151) (by decide +kernel)) rfl
theorem wd_2_152 : Cond.instanceMethod yX4_addRace ∈ mm_tbl := wq_2 _ (List.mem_of_getElem? (i := 152) (by decide +kernel)) rfl
theorem wd_2_153 : Cond.selects RX4 yX4_addRace yX4_addRace ∈ mm_tbl := wq_2 _ (List.mem_of_getElem? (i := 153) (by decide +kernel)) rfl
theorem wd_2_154 : Cond.code yX4_addRace cX4_addRace (4) (some .int) ∈ mm_tbl := wq_2 _ (List.mem_of_getElem? (i := 154) (by decide +kernel)) rfl
theorem wd_2_155 : Cond.methodLink RL (44) yX9_unrace ∈ mm_tbl := wq_2 _ (List.mem_of_getElem? (i := 155) (by decide +kernel)) rfl
theorem wd_2_156 : Cond.instanceMethod yX9_unrace ∈ mm_tbl := wq_2 _ (List.mem_of_getElem? (i := 156) (by decide +kernel)) rfl
theorem wd_2_157 : Cond.selects RX9 yX9_unrace yX9_unrace ∈ mm_tbl := wq_2 _ (List.mem_of_getElem? (i := 157) (by decide +kernel)) rfl
theorem wd_2_158 : Cond.code yX9_unrace cX9_unrace (1) (some .int) ∈ mm_tbl := wq_2 _ (List.mem_of_getElem? (i := 158) (by decide +kernel)) rfl
theorem wd_2_159 : Cond.methodLink RL (49) yX9_group ∈ mm_tbl := wq_2 _ (List.mem_of_getElem? (i := 159) (by decide +kernel)) rfl
theorem wd_2_160 : Cond.instanceMethod yX9_group ∈ mm_tbl := wq_2 _ (List.mem_of_getElem? (i := 160) (by decide +kernel)) rfl
theorem wd_2_161 : Cond.selects RX9 yX9_group yX9_group ∈ mm_tbl := wq_2 _ (List.mem_of_getElem? (i := 161) (by decide +kernel)) rfl
theorem wd_2_162 : Cond.code yX9_group cX9_group (2) (some .int) ∈ mm_tbl := wq_2 _ (List.mem_of_getElem? (i := 162) (by decide +kernel)) rfl
theorem wd_2_163 : Cond.methodLink RX9 (133) yX4_groupOf ∈ mm_tbl := wq_2 _ (List.mem_of_getElem? (i := 163) (by decide +kernel)) rfl
theorem wd_2_164 : Cond.instanceMethod yX4_groupOf ∈ mm_tbl := wq_2 _ (List.mem_of_getElem? (i := 164) (by decide +kernel)) rfl
theorem wd_2_165 : Cond.selects RX4 yX4_groupOf yX4_groupOf ∈ mm_tbl := wq_2 _ (List.mem_of_getElem? (i := 165) (by decide +kernel)) rfl
theorem wd_2_166 : Cond.code yX4_groupOf cX4_groupOf (7) (some .int) ∈ mm_tbl := wq_2 _ (List.mem_of_getElem? (i := 166) (by decide +kernel)) rfl
theorem wd_2_167 : Cond.methodLink RX9 (137) yX9_leastOf ∈ mm_tbl := wq_2 _ (List.mem_of_getElem? (i := 167) (by decide +kernel)) rfl
theorem wd_2_168 : Cond.static yX9_leastOf ∈ mm_tbl := wq_2 _ (List.mem_of_getElem? (i := 168) (by decide +kernel)) rfl
theorem wd_2_169 : Cond.code yX9_leastOf cX9_leastOf (2) (some .int) ∈ mm_tbl := wq_2 _ (List.mem_of_getElem? (i := 169) (by decide +kernel)) rfl
theorem wd_2_170 : Cond.methodLink RX9 (157) yX9_has ∈ mm_tbl := wq_2 _ (List.mem_of_getElem? (i := 170) (by decide +kernel)) rfl
theorem wd_2_171 : Cond.static yX9_has ∈ mm_tbl := wq_2 _ (List.mem_of_getElem? (i := 171) (by decide +kernel)) rfl
theorem wd_2_172 : Cond.code yX9_has cX9_has (2) (some .boolean) ∈ mm_tbl := wq_2 _ (List.mem_of_getElem? (i := 172) (by decide +kernel)) rfl
theorem wd_2_173 : Cond.methodLink RL (54) yX9_strength ∈ mm_tbl := wq_2 _ (List.mem_of_getElem? (i := 173) (by decide +kernel)) rfl
theorem wd_2_174 : Cond.instanceMethod yX9_strength ∈ mm_tbl := wq_2 _ (List.mem_of_getElem? (i := 174) (by decide +kernel)) rfl
theorem wd_2_175 : Cond.selects RX9 yX9_strength yX9_strength ∈ mm_tbl := wq_2 _ (List.mem_of_getElem? (i := 175) (by decide +kernel)) rfl
theorem wd_2_176 : Cond.code yX9_strength cX9_strength (3) (some .long) ∈ mm_tbl := wq_2 _ (List.mem_of_getElem? (i := 176) (by decide +kernel)) rfl
theorem wd_2_177 : Cond.methodLink RX9 (140) yX4_solve ∈ mm_tbl := wq_2 _ (List.mem_of_getElem? (i := 177) (by decide +kernel)) rfl
theorem wd_2_178 : Cond.instanceMethod yX4_solve ∈ mm_tbl := wq_2 _ (List.mem_of_getElem? (i := 178) (by decide +kernel)) rfl
theorem wd_2_179 : Cond.selects RX4 yX4_solve yX4_solve ∈ mm_tbl := wq_2 _ (List.mem_of_getElem? (i := 179) (by decide +kernel)) rfl
theorem wd_2_180 : Cond.code yX4_solve cX4_solve (4) (some .boolean) ∈ mm_tbl := wq_2 _ (List.mem_of_getElem? (i := 180) (by decide +kernel)) rfl
theorem wd_2_181 : Cond.methodLink RX4 (41) yJ6_bitCount_0f7a4 ∈ mm_tbl := wq_2 _ (List.mem_of_getElem? (i := 181) (by decide +kernel)) rfl
theorem wd_2_182 : Cond.static yJ6_bitCount_0f7a4 ∈ mm_tbl := wq_2 _ (List.mem_of_getElem? (i := 182) (by decide +kernel)) rfl
theorem wd_2_183 : Cond.code yJ6_bitCount_0f7a4 cJ6_bitCount_0f7a4 (1) (some .int) ∈ mm_tbl := wq_2 _ (List.mem_of_getElem? (i := 183) (by decide +kernel)) rfl
theorem wd_2_184 : Cond.constant RJ6 (265) (1431655765) ∈ mm_tbl := wq_2 _ (List.mem_of_getElem? (i := 184) (by decide +kernel)) rfl
theorem wd_2_185 : Cond.constant RJ6 (266) (858993459) ∈ mm_tbl := wq_2 _ (List.mem_of_getElem? (i := 185) (by decide +kernel)) rfl
theorem wd_2_186 : Cond.constant RJ6 (267) (252645135) ∈ mm_tbl := wq_2 _ (List.mem_of_getElem? (i := 186) (by decide +kernel)) rfl
theorem wd_2_187 : Cond.methodLink RX4 (47) yX4_numberRows ∈ mm_tbl := wq_2 _ (List.mem_of_getElem? (i := 187) (by decide +kernel)) rfl
theorem wd_2_189 : Cond.instanceMethod yX4_numberRows ∈ mm_tbl := wq_2 _ (List.mem_of_getElem? (i := 189) (by decide +kernel)) rfl
theorem wd_2_190 : Cond.code yX4_numberRows cX4_numberRows (4) none ∈ mm_tbl := wq_2 _ (List.mem_of_getElem? (i := 190) (by decide +kernel)) rfl
theorem wd_2_192 : Cond.methodLink RX4 (51) yX4_fillCells ∈ mm_tbl := wq_2 _ (List.mem_of_getElem? (i := 192) (by decide +kernel)) rfl
theorem wd_2_194 : Cond.instanceMethod yX4_fillCells ∈ mm_tbl := wq_2 _ (List.mem_of_getElem? (i := 194) (by decide +kernel)) rfl
theorem wd_2_195 : Cond.code yX4_fillCells cX4_fillCells (5) none ∈ mm_tbl := wq_2 _ (List.mem_of_getElem? (i := 195) (by decide +kernel)) rfl
theorem wd_2_196 : Cond.methodLink RX4 (62) yJ7_fill_d0a16 ∈ mm_tbl := wq_2 _ (List.mem_of_getElem? (i := 196) (by decide +kernel)) rfl
theorem wd_2_197 : Cond.static yJ7_fill_d0a16 ∈ mm_tbl := wq_2 _ (List.mem_of_getElem? (i := 197) (by decide +kernel)) rfl
theorem wd_2_198 : Cond.code yJ7_fill_d0a16 cJ7_fill_d0a16 (5) none ∈ mm_tbl := wq_2 _ (List.mem_of_getElem? (i := 198) (by decide +kernel)) rfl
theorem wd_2_199 : Cond.methodLink RX4 (68) yX4_addToRow ∈ mm_tbl := wq_2 _ (List.mem_of_getElem? (i := 199) (by decide +kernel)) rfl
theorem wd_2_201 : Cond.instanceMethod yX4_addToRow ∈ mm_tbl := wq_2 _ (List.mem_of_getElem? (i := 201) (by decide +kernel)) rfl
theorem wd_2_202 : Cond.code yX4_addToRow cX4_addToRow (4) none ∈ mm_tbl := wq_2 _ (List.mem_of_getElem? (i := 202) (by decide +kernel)) rfl
theorem wd_2_203 : Cond.methodLink RX4 (54) yX4_eliminate ∈ mm_tbl := wq_2 _ (List.mem_of_getElem? (i := 203) (by decide +kernel)) rfl
theorem wd_2_205 : Cond.instanceMethod yX4_eliminate ∈ mm_tbl := wq_2 _ (List.mem_of_getElem? (i := 205) (by decide +kernel)) rfl
theorem wd_2_206 : Cond.code yX4_eliminate cX4_eliminate (8) (some .boolean) ∈ mm_tbl := wq_2 _ (List.mem_of_getElem? (i := 206) (by decide +kernel)) rfl
theorem wd_2_207 : Cond.methodLink RX4 (72) yX4_clearCell ∈ mm_tbl := wq_2 _ (List.mem_of_getElem? (i := 207) (by decide +kernel)) rfl
theorem wd_2_209 : Cond.instanceMethod yX4_clearCell ∈ mm_tbl := wq_2 _ (List.mem_of_getElem? (i := 209) (by decide +kernel)) rfl
theorem wd_2_210 : Cond.code yX4_clearCell cX4_clearCell (12) none ∈ mm_tbl := wq_2 _ (List.mem_of_getElem? (i := 210) (by decide +kernel)) rfl
theorem wd_2_211 : Cond.constantLong RX9 (143) (-9223372036854775808) ∈ mm_tbl := wq_2 _ (List.mem_of_getElem? (i := 211) (by decide +kernel)) rfl
theorem wd_2_212 : Cond.methodLink RX9 (153) yX9_partOf ∈ mm_tbl := wq_2 _ (List.mem_of_getElem? (i := 212) (by decide +kernel)) rfl
theorem wd_2_213 : Cond.static yX9_partOf ∈ mm_tbl := wq_2 _ (List.mem_of_getElem? (i := 213) (by decide +kernel)) rfl
theorem wd_2_214 : Cond.code yX9_partOf cX9_partOf (7) (some .long) ∈ mm_tbl := wq_2 _ (List.mem_of_getElem? (i := 214) (by decide +kernel)) rfl
theorem wd_2_215 : Cond.methodLink RX9 (270) yJ9_abs_067f4 ∈ mm_tbl := wq_2 _ (List.mem_of_getElem? (i := 215) (by decide +kernel)) rfl
theorem wd_2_216 : Cond.static yJ9_abs_067f4 ∈ mm_tbl := wq_2 _ (List.mem_of_getElem? (i := 216) (by decide +kernel)) rfl
theorem wd_2_217 : Cond.code yJ9_abs_067f4 cJ9_abs_067f4 (2) (some .long) ∈ mm_tbl := wq_2 _ (List.mem_of_getElem? (i := 217) (by decide +kernel)) rfl
theorem wd_2_218 : Cond.methodLink RX9 (276) yX9_commonDivisor ∈ mm_tbl := wq_2 _ (List.mem_of_getElem? (i := 218) (by decide +kernel)) rfl
theorem wd_2_219 : Cond.static yX9_commonDivisor ∈ mm_tbl := wq_2 _ (List.mem_of_getElem? (i := 219) (by decide +kernel)) rfl
theorem wd_2_220 : Cond.code yX9_commonDivisor cX9_commonDivisor (11) (some .long) ∈ mm_tbl := wq_2 _ (List.mem_of_getElem? (i := 220) (by decide +kernel)) rfl
theorem wd_2_221 : Cond.methodLink RL (59) yX9_between ∈ mm_tbl := wq_2 _ (List.mem_of_getElem? (i := 221) (by decide +kernel)) rfl
theorem wd_2_222 : Cond.instanceMethod yX9_between ∈ mm_tbl := wq_2 _ (List.mem_of_getElem? (i := 222) (by decide +kernel)) rfl
theorem wd_2_223 : Cond.selects RX9 yX9_between yX9_between ∈ mm_tbl := wq_2 _ (List.mem_of_getElem? (i := 223) (by decide +kernel)) rfl
theorem wd_2_224 : Cond.code yX9_between cX9_between (5) (some .long) ∈ mm_tbl := wq_2 _ (List.mem_of_getElem? (i := 224) (by decide +kernel)) rfl
theorem wd_2_225 : Cond.methodLink RL (64) yX9_misfit ∈ mm_tbl := wq_2 _ (List.mem_of_getElem? (i := 225) (by decide +kernel)) rfl
theorem wd_2_226 : Cond.instanceMethod yX9_misfit ∈ mm_tbl := wq_2 _ (List.mem_of_getElem? (i := 226) (by decide +kernel)) rfl
theorem wd_2_227 : Cond.selects RX9 yX9_misfit yX9_misfit ∈ mm_tbl := wq_2 _ (List.mem_of_getElem? (i := 227) (by decide +kernel)) rfl
theorem wd_2_228 : Cond.code yX9_misfit cX9_misfit (4) (some .long) ∈ mm_tbl := wq_2 _ (List.mem_of_getElem? (i := 228) (by decide +kernel)) rfl
theorem wd_2_229 : Cond.methodLink RX9 (160) yX4_misfitAbove ∈ mm_tbl := wq_2 _ (List.mem_of_getElem? (i := 229) (by decide +kernel)) rfl
theorem wd_2_230 : Cond.instanceMethod yX4_misfitAbove ∈ mm_tbl := wq_2 _ (List.mem_of_getElem? (i := 230) (by decide +kernel)) rfl
theorem wd_2_231 : Cond.selects RX4 yX4_misfitAbove yX4_misfitAbove ∈ mm_tbl := wq_2 _ (List.mem_of_getElem? (i := 231) (by decide +kernel)) rfl
theorem wd_2_232 : Cond.code yX4_misfitAbove cX4_misfitAbove (5) (some .long) ∈ mm_tbl := wq_2 _ (List.mem_of_getElem? (i := 232) (by decide +kernel)) rfl
theorem wd_2_233 : Cond.methodLink RX4 (76) yJ9_abs_067f4 ∈ mm_tbl := wq_2 _ (List.mem_of_getElem? (i := 233) (by decide +kernel)) rfl
theorem wd_2_234 : Cond.methodLink RL (68) yX9_sure ∈ mm_tbl := wq_2 _ (List.mem_of_getElem? (i := 234) (by decide +kernel)) rfl
theorem wd_2_235 : Cond.instanceMethod yX9_sure ∈ mm_tbl := wq_2 _ (List.mem_of_getElem? (i := 235) (by decide +kernel)) rfl
theorem wd_2_236 : Cond.selects RX9 yX9_sure yX9_sure ∈ mm_tbl := wq_2 _ (List.mem_of_getElem? (i := 236) (by decide +kernel)) rfl
theorem wd_2_237 : Cond.code yX9_sure cX9_sure (3) (some .int) ∈ mm_tbl := wq_2 _ (List.mem_of_getElem? (i := 237) (by decide +kernel)) rfl
theorem wd_2_238 : Cond.methodLink RX9 (164) yX4_whoIsSurelyBetter ∈ mm_tbl := wq_2 _ (List.mem_of_getElem? (i := 238) (by decide +kernel)) rfl
theorem wd_2_239 : Cond.instanceMethod yX4_whoIsSurelyBetter ∈ mm_tbl := wq_2 _ (List.mem_of_getElem? (i := 239) (by decide +kernel)) rfl
theorem wd_3_0 : Cond.selects RX4 yX4_whoIsSurelyBetter yX4_whoIsSurelyBetter ∈ mm_tbl := wq_3 _ (List.mem_of_getElem? (i := 0) (by decide +kernel)) rfl
theorem wd_3_1 : Cond.code yX4_whoIsSurelyBetter cX4_whoIsSurelyBetter (7) (some .int) ∈ mm_tbl := wq_3 _ (List.mem_of_getElem? (i := 1) (by decide +kernel)) rfl
theorem wd_3_2 : Cond.methodLink RX4 (82) yX4_leadOver ∈ mm_tbl := wq_3 _ (List.mem_of_getElem? (i := 2) (by decide +kernel)) rfl
theorem wd_3_4 : Cond.instanceMethod yX4_leadOver ∈ mm_tbl := wq_3 _ (List.mem_of_getElem? (i := 4) (by decide +kernel)) rfl
theorem wd_3_5 : Cond.code yX4_leadOver cX4_leadOver (4) (some .int) ∈ mm_tbl := wq_3 _ (List.mem_of_getElem? (i := 5) (by decide +kernel)) rfl
theorem wd_3_6 : Cond.methodLink RL (72) yX9_crew ∈ mm_tbl := wq_3 _ (List.mem_of_getElem? (i := 6) (by decide +kernel)) rfl
theorem wd_3_7 : Cond.instanceMethod yX9_crew ∈ mm_tbl := wq_3 _ (List.mem_of_getElem? (i := 7) (by decide +kernel)) rfl
theorem wd_3_8 : Cond.selects RX9 yX9_crew yX9_crew ∈ mm_tbl := wq_3 _ (List.mem_of_getElem? (i := 8) (by decide +kernel)) rfl
theorem wd_3_9 : Cond.code yX9_crew cX9_crew (5) (some .int) ∈ mm_tbl := wq_3 _ (List.mem_of_getElem? (i := 9) (by decide +kernel)) rfl
theorem wd_3_10 : Cond.methodLink RX9 (167) yX0_hasBoat ∈ mm_tbl := wq_3 _ (List.mem_of_getElem? (i := 10) (by decide +kernel)) rfl
theorem wd_3_11 : Cond.methodLink RX9 (170) yX9_isHour ∈ mm_tbl := wq_3 _ (List.mem_of_getElem? (i := 11) (by decide +kernel)) rfl
theorem wd_3_12 : Cond.static yX9_isHour ∈ mm_tbl := wq_3 _ (List.mem_of_getElem? (i := 12) (by decide +kernel)) rfl
theorem wd_3_13 : Cond.code yX9_isHour cX9_isHour (1) (some .boolean) ∈ mm_tbl := wq_3 _ (List.mem_of_getElem? (i := 13) (by decide +kernel)) rfl
theorem wd_3_14 : Cond.methodLink RX9 (173) yX1_leastCost ∈ mm_tbl := wq_3 _ (List.mem_of_getElem? (i := 14) (by decide +kernel)) rfl
theorem wd_3_15 : Cond.instanceMethod yX1_leastCost ∈ mm_tbl := wq_3 _ (List.mem_of_getElem? (i := 15) (by decide +kernel)) rfl
theorem wd_3_16 : Cond.selects RX1 yX1_leastCost yX1_leastCost ∈ mm_tbl := wq_3 _ (List.mem_of_getElem? (i := 16) (by decide +kernel)) rfl
theorem wd_3_17 : Cond.code yX1_leastCost cX1_leastCost (7) (some .int) ∈ mm_tbl := wq_3 _ (List.mem_of_getElem? (i := 17) (by decide +kernel)) rfl
theorem wd_3_18 : Cond.methodLink RX1 (23) yX0_seats ∈ mm_tbl := wq_3 _ (List.mem_of_getElem? (i := 18) (by decide +kernel)) rfl
theorem wd_3_19 : Cond.methodLink RX1 (31) yX1_fillRow ∈ mm_tbl := wq_3 _ (List.mem_of_getElem? (i := 19) (by decide +kernel)) rfl
theorem wd_3_21 : Cond.instanceMethod yX1_fillRow ∈ mm_tbl := wq_3 _ (List.mem_of_getElem? (i := 21) (by decide +kernel)) rfl
theorem wd_3_22 : Cond.code yX1_fillRow cX1_fillRow (11) none ∈ mm_tbl := wq_3 _ (List.mem_of_getElem? (i := 22) (by decide +kernel)) rfl
theorem wd_3_23 : Cond.methodLink RX1 (35) ⟨"java/lang/System", "arraycopy", "(Ljava/lang/Object;ILjava/lang/Object;II)V"⟩ ∈ mm_tbl := wq_3 _ (List.mem_of_getElem? (i := 23) (by decide +kernel)) rfl
theorem wd_3_24 : Cond.static ⟨"java/lang/System", "arraycopy", "(Ljava/lang/Object;ILjava/lang/Object;II)V"⟩ ∈ mm_tbl := wq_3 _ (List.mem_of_getElem? (i := 24) (by decide +kernel)) rfl
theorem wd_3_25 : Cond.native ⟨"java/lang/System", "arraycopy", "(Ljava/lang/Object;ILjava/lang/Object;II)V"⟩ ∈ mm_tbl := wq_3 _ (List.mem_of_getElem? (i := 25) (by decide +kernel)) rfl
theorem wd_3_26 : Cond.methodLink RX1 (41) yX1_isFree ∈ mm_tbl := wq_3 _ (List.mem_of_getElem? (i := 26) (by decide +kernel)) rfl
theorem wd_3_27 : Cond.static yX1_isFree ∈ mm_tbl := wq_3 _ (List.mem_of_getElem? (i := 27) (by decide +kernel)) rfl
theorem wd_3_28 : Cond.code yX1_isFree cX1_isFree (4) (some .boolean) ∈ mm_tbl := wq_3 _ (List.mem_of_getElem? (i := 28) (by decide +kernel)) rfl
theorem wd_3_29 : Cond.methodLink RX1 (59) yX0_mayBeOut ∈ mm_tbl := wq_3 _ (List.mem_of_getElem? (i := 29) (by decide +kernel)) rfl
theorem wd_3_30 : Cond.instanceMethod yX0_mayBeOut ∈ mm_tbl := wq_3 _ (List.mem_of_getElem? (i := 30) (by decide +kernel)) rfl
theorem wd_3_31 : Cond.selects RX0 yX0_mayBeOut yX0_mayBeOut ∈ mm_tbl := wq_3 _ (List.mem_of_getElem? (i := 31) (by decide +kernel)) rfl
theorem wd_3_32 : Cond.code yX0_mayBeOut cX0_mayBeOut (3) (some .boolean) ∈ mm_tbl := wq_3 _ (List.mem_of_getElem? (i := 32) (by decide +kernel)) rfl
theorem wd_3_33 : Cond.methodLink RX1 (62) yX0_isCox ∈ mm_tbl := wq_3 _ (List.mem_of_getElem? (i := 33) (by decide +kernel)) rfl
theorem wd_3_34 : Cond.instanceMethod yX0_isCox ∈ mm_tbl := wq_3 _ (List.mem_of_getElem? (i := 34) (by decide +kernel)) rfl
theorem wd_3_35 : Cond.selects RX0 yX0_isCox yX0_isCox ∈ mm_tbl := wq_3 _ (List.mem_of_getElem? (i := 35) (by decide +kernel)) rfl
theorem wd_3_36 : Cond.code yX0_isCox cX0_isCox (2) (some .boolean) ∈ mm_tbl := wq_3 _ (List.mem_of_getElem? (i := 36) (by decide +kernel)) rfl
theorem wd_3_37 : Cond.methodLink RX1 (69) yX0_sitsIn ∈ mm_tbl := wq_3 _ (List.mem_of_getElem? (i := 37) (by decide +kernel)) rfl
theorem wd_3_38 : Cond.instanceMethod yX0_sitsIn ∈ mm_tbl := wq_3 _ (List.mem_of_getElem? (i := 38) (by decide +kernel)) rfl
theorem wd_3_39 : Cond.selects RX0 yX0_sitsIn yX0_sitsIn ∈ mm_tbl := wq_3 _ (List.mem_of_getElem? (i := 39) (by decide +kernel)) rfl
theorem wd_3_40 : Cond.code yX0_sitsIn cX0_sitsIn (3) (some .boolean) ∈ mm_tbl := wq_3 _ (List.mem_of_getElem? (i := 40) (by decide +kernel)) rfl
theorem wd_3_41 : Cond.methodLink RX1 (45) yX1_setPrices ∈ mm_tbl := wq_3 _ (List.mem_of_getElem? (i := 41) (by decide +kernel)) rfl
theorem wd_3_43 : Cond.instanceMethod yX1_setPrices ∈ mm_tbl := wq_3 _ (List.mem_of_getElem? (i := 43) (by decide +kernel)) rfl
theorem wd_3_44 : Cond.code yX1_setPrices cX1_setPrices (7) none ∈ mm_tbl := wq_3 _ (List.mem_of_getElem? (i := 44) (by decide +kernel)) rfl
theorem wd_3_45 : Cond.methodLink RX1 (72) yX0_dislike ∈ mm_tbl := wq_3 _ (List.mem_of_getElem? (i := 45) (by decide +kernel)) rfl
theorem wd_3_46 : Cond.instanceMethod yX0_dislike ∈ mm_tbl := wq_3 _ (List.mem_of_getElem? (i := 46) (by decide +kernel)) rfl
theorem wd_3_47 : Cond.selects RX0 yX0_dislike yX0_dislike ∈ mm_tbl := wq_3 _ (List.mem_of_getElem? (i := 47) (by decide +kernel)) rfl
theorem wd_3_48 : Cond.code yX0_dislike cX0_dislike (6) (some .int) ∈ mm_tbl := wq_3 _ (List.mem_of_getElem? (i := 48) (by decide +kernel)) rfl
theorem wd_3_49 : Cond.fieldLink RX0 (83) RX0 "DISLIKES" "[I" ∈ mm_tbl := wq_3 _ (List.mem_of_getElem? (i := 49) (by decide +kernel)) rfl
theorem wd_3_52 : Cond.methodLink RX1 (53) yJ9_min_7cf53 ∈ mm_tbl := wq_3 _ (List.mem_of_getElem? (i := 52) (by decide +kernel)) rfl
theorem wd_3_53 : Cond.static yJ9_min_7cf53 ∈ mm_tbl := wq_3 _ (List.mem_of_getElem? (i := 53) (by decide +kernel)) rfl
theorem wd_3_54 : Cond.code yJ9_min_7cf53 cJ9_min_7cf53 (2) (some .int) ∈ mm_tbl := wq_3 _ (List.mem_of_getElem? (i := 54) (by decide +kernel)) rfl
theorem wd_3_55 : Cond.methodLink RX9 (177) yX1_seatThem ∈ mm_tbl := wq_3 _ (List.mem_of_getElem? (i := 55) (by decide +kernel)) rfl
theorem wd_3_56 : Cond.instanceMethod yX1_seatThem ∈ mm_tbl := wq_3 _ (List.mem_of_getElem? (i := 56) (by decide +kernel)) rfl
theorem wd_3_57 : Cond.selects RX1 yX1_seatThem yX1_seatThem ∈ mm_tbl := wq_3 _ (List.mem_of_getElem? (i := 57) (by decide +kernel)) rfl
theorem wd_3_58 : Cond.code yX1_seatThem cX1_seatThem (6) none ∈ mm_tbl := wq_3 _ (List.mem_of_getElem? (i := 58) (by decide +kernel)) rfl
theorem wd_3_59 : Cond.methodLink RX1 (76) yX1_choose ∈ mm_tbl := wq_3 _ (List.mem_of_getElem? (i := 59) (by decide +kernel)) rfl
theorem wd_3_61 : Cond.instanceMethod yX1_choose ∈ mm_tbl := wq_3 _ (List.mem_of_getElem? (i := 61) (by decide +kernel)) rfl
theorem wd_3_62 : Cond.code yX1_choose cX1_choose (6) (some .int) ∈ mm_tbl := wq_3 _ (List.mem_of_getElem? (i := 62) (by decide +kernel)) rfl
theorem wd_3_63 : Cond.methodLink RL (76) yX9_water ∈ mm_tbl := wq_3 _ (List.mem_of_getElem? (i := 63) (by decide +kernel)) rfl
theorem wd_3_64 : Cond.instanceMethod yX9_water ∈ mm_tbl := wq_3 _ (List.mem_of_getElem? (i := 64) (by decide +kernel)) rfl
theorem wd_3_65 : Cond.selects RX9 yX9_water yX9_water ∈ mm_tbl := wq_3 _ (List.mem_of_getElem? (i := 65) (by decide +kernel)) rfl
theorem wd_3_66 : Cond.code yX9_water cX9_water (4) (some .int) ∈ mm_tbl := wq_3 _ (List.mem_of_getElem? (i := 66) (by decide +kernel)) rfl
theorem wd_3_67 : Cond.methodLink RL (82) yX9_feed ∈ mm_tbl := wq_3 _ (List.mem_of_getElem? (i := 67) (by decide +kernel)) rfl
theorem wd_3_68 : Cond.instanceMethod yX9_feed ∈ mm_tbl := wq_3 _ (List.mem_of_getElem? (i := 68) (by decide +kernel)) rfl
theorem wd_3_69 : Cond.selects RX9 yX9_feed yX9_feed ∈ mm_tbl := wq_3 _ (List.mem_of_getElem? (i := 69) (by decide +kernel)) rfl
theorem wd_3_70 : Cond.code yX9_feed cX9_feed (4) (some .int) ∈ mm_tbl := wq_3 _ (List.mem_of_getElem? (i := 70) (by decide +kernel)) rfl
theorem wd_3_71 : Cond.methodLink RX9 (190) yX8_append ∈ mm_tbl := wq_3 _ (List.mem_of_getElem? (i := 71) (by decide +kernel)) rfl
theorem wd_3_72 : Cond.instanceMethod yX8_append ∈ mm_tbl := wq_3 _ (List.mem_of_getElem? (i := 72) (by decide +kernel)) rfl
theorem wd_3_73 : Cond.selects RX8 yX8_append yX8_append ∈ mm_tbl := wq_3 _ (List.mem_of_getElem? (i := 73) (by decide +kernel)) rfl
theorem wd_3_74 : Cond.code yX8_append cX8_append (5) (some .int) ∈ mm_tbl := wq_3 _ (List.mem_of_getElem? (i := 74) (by decide +kernel)) rfl
theorem wd_3_75 : Cond.constantLong RX8 (22) (255) ∈ mm_tbl := wq_3 _ (List.mem_of_getElem? (i := 75) (by decide +kernel)) rfl
theorem wd_3_76 : Cond.methodLink RL (87) yX9_rule ∈ mm_tbl := wq_3 _ (List.mem_of_getElem? (i := 76) (by decide +kernel)) rfl
theorem wd_3_77 : Cond.instanceMethod yX9_rule ∈ mm_tbl := wq_3 _ (List.mem_of_getElem? (i := 77) (by decide +kernel)) rfl
theorem wd_3_78 : Cond.selects RX9 yX9_rule yX9_rule ∈ mm_tbl := wq_3 _ (List.mem_of_getElem? (i := 78) (by decide +kernel)) rfl
theorem wd_3_79 : Cond.code yX9_rule cX9_rule (2) (some .int) ∈ mm_tbl := wq_3 _ (List.mem_of_getElem? (i := 79) (by decide +kernel)) rfl
theorem wd_3_80 : Cond.methodLink RX9 (195) yX7_read ∈ mm_tbl := wq_3 _ (List.mem_of_getElem? (i := 80) (by decide +kernel)) rfl
theorem wd_3_81 : Cond.instanceMethod yX7_read ∈ mm_tbl := wq_3 _ (List.mem_of_getElem? (i := 81) (by decide +kernel)) rfl
theorem wd_3_82 : Cond.selects RX7 yX7_read yX7_read ∈ mm_tbl := wq_3 _ (List.mem_of_getElem? (i := 82) (by decide +kernel)) rfl
theorem wd_3_83 : Cond.code yX7_read cX7_read (2) (some .boolean) ∈ mm_tbl := wq_3 _ (List.mem_of_getElem? (i := 83) (by decide +kernel)) rfl
theorem wd_3_85 : Cond.methodLink RX7 (48) yX8_takeWord ∈ mm_tbl := wq_3 _ (List.mem_of_getElem? (i := 85) (by decide +kernel)) rfl
theorem wd_3_86 : Cond.instanceMethod yX8_takeWord ∈ mm_tbl := wq_3 _ (List.mem_of_getElem? (i := 86) (by decide +kernel)) rfl
theorem wd_3_87 : Cond.selects RX8 yX8_takeWord yX8_takeWord ∈ mm_tbl := wq_3 _ (List.mem_of_getElem? (i := 87) (by decide +kernel)) rfl
theorem wd_3_88 : Cond.code yX8_takeWord cX8_takeWord (7) (some .int) ∈ mm_tbl := wq_3 _ (List.mem_of_getElem? (i := 88) (by decide +kernel)) rfl
theorem wd_3_89 : Cond.methodLink RX8 (24) yJ0_length_8abf5 ∈ mm_tbl := wq_3 _ (List.mem_of_getElem? (i := 89) (by decide +kernel)) rfl
theorem wd_3_90 : Cond.instanceMethod yJ0_length_8abf5 ∈ mm_tbl := wq_3 _ (List.mem_of_getElem? (i := 90) (by decide +kernel)) rfl
theorem wd_3_91 : Cond.selects RJ0 yJ0_length_8abf5 yJ0_length_8abf5 ∈ mm_tbl := wq_3 _ (List.mem_of_getElem? (i := 91) (by decide +kernel)) rfl
theorem wd_3_92 : Cond.code yJ0_length_8abf5 cJ0_length_8abf5 (1) (some .int) ∈ mm_tbl := wq_3 _ (List.mem_of_getElem? (i := 92) (by decide +kernel)) rfl
theorem wd_3_93 : Cond.methodLink RJ0 (335) yJ0_coder_7d493 ∈ mm_tbl := wq_3 _ (List.mem_of_getElem? (i := 93) (by decide +kernel)) rfl
theorem wd_3_94 : Cond.instanceMethod yJ0_coder_7d493 ∈ mm_tbl := wq_3 _ (List.mem_of_getElem? (i := 94) (by decide +kernel)) rfl
theorem wd_3_95 : Cond.selects RJ0 yJ0_coder_7d493 yJ0_coder_7d493 ∈ mm_tbl := wq_3 _ (List.mem_of_getElem? (i := 95) (by decide +kernel)) rfl
theorem wd_3_96 : Cond.code yJ0_coder_7d493 cJ0_coder_7d493 (1) (some .byte) ∈ mm_tbl := wq_3 _ (List.mem_of_getElem? (i := 96) (by decide +kernel)) rfl
theorem wd_3_97 : Cond.fieldLink RJ0 (38) RJ0 "COMPACT_STRINGS" "Z" ∈ mm_tbl := wq_3 _ (List.mem_of_getElem? (i := 97) (by decide +kernel)) rfl
theorem wd_3_99 : Cond.methodLink RX8 (29) yJ0_charAt_5068e ∈ mm_tbl := wq_3 _ (List.mem_of_getElem? (i := 99) (by decide +kernel)) rfl
theorem wd_3_100 : Cond.instanceMethod yJ0_charAt_5068e ∈ mm_tbl := wq_3 _ (List.mem_of_getElem? (i := 100) (by decide +kernel)) rfl
theorem wd_3_101 : Cond.selects RJ0 yJ0_charAt_5068e yJ0_charAt_5068e ∈ mm_tbl := wq_3 _ (List.mem_of_getElem? (i := 101) (by decide +kernel)) rfl
theorem wd_3_102 : Cond.code yJ0_charAt_5068e cJ0_charAt_5068e (2) (some .char) ∈ mm_tbl := wq_3 _ (List.mem_of_getElem? (i := 102) (by decide +kernel)) rfl
theorem wd_3_103 : Cond.methodLink RJ0 (492) yJ0_isLatin1_aae02 ∈ mm_tbl := wq_3 _ (List.mem_of_getElem? (i := 103) (by decide +kernel)) rfl
theorem wd_3_104 : Cond.instanceMethod yJ0_isLatin1_aae02 ∈ mm_tbl := wq_3 _ (List.mem_of_getElem? (i := 104) (by decide +kernel)) rfl
theorem wd_3_105 : Cond.selects RJ0 yJ0_isLatin1_aae02 yJ0_isLatin1_aae02 ∈ mm_tbl := wq_3 _ (List.mem_of_getElem? (i := 105) (by decide +kernel)) rfl
theorem wd_3_106 : Cond.code yJ0_isLatin1_aae02 cJ0_isLatin1_aae02 (1) (some .boolean) ∈ mm_tbl := wq_3 _ (List.mem_of_getElem? (i := 106) (by decide +kernel)) rfl
theorem wd_3_107 : Cond.methodLink RJ0 (495) yJ1_charAt_3b067 ∈ mm_tbl := wq_3 _ (List.mem_of_getElem? (i := 107) (by decide +kernel)) rfl
theorem wd_3_108 : Cond.static yJ1_charAt_3b067 ∈ mm_tbl := wq_3 _ (List.mem_of_getElem? (i := 108) (by decide +kernel)) rfl
theorem wd_3_109 : Cond.code yJ1_charAt_3b067 cJ1_charAt_3b067 (2) (some .char) ∈ mm_tbl := wq_3 _ (List.mem_of_getElem? (i := 109) (by decide +kernel)) rfl
theorem wd_3_110 : Cond.methodLink RJ1 (9) yJ0_checkIndex_df160 ∈ mm_tbl := wq_3 _ (List.mem_of_getElem? (i := 110) (by decide +kernel)) rfl
theorem wd_3_111 : Cond.static yJ0_checkIndex_df160 ∈ mm_tbl := wq_3 _ (List.mem_of_getElem? (i := 111) (by decide +kernel)) rfl
theorem wd_3_112 : Cond.code yJ0_checkIndex_df160 cJ0_checkIndex_df160 (2) none ∈ mm_tbl := wq_3 _ (List.mem_of_getElem? (i := 112) (by decide +kernel)) rfl
theorem wd_3_113 : Cond.fieldLink RJ0 (1053) RJ3 "SIOOBE_FORMATTER" "Ljava/util/function/BiFunction;" ∈ mm_tbl := wq_3 _ (List.mem_of_getElem? (i := 113) (by decide +kernel)) rfl
theorem wd_3_115 : Cond.methodLink RJ0 (1059) yJ3_checkIndex_8e157 ∈ mm_tbl := wq_3 _ (List.mem_of_getElem? (i := 115) (by decide +kernel)) rfl
theorem wd_3_116 : Cond.static yJ3_checkIndex_8e157 ∈ mm_tbl := wq_3 _ (List.mem_of_getElem? (i := 116) (by decide +kernel)) rfl
theorem wd_3_117 : Cond.code yJ3_checkIndex_8e157 cJ3_checkIndex_8e157 (3) (some .int) ∈ mm_tbl := wq_3 _ (List.mem_of_getElem? (i := 117) (by decide +kernel)) rfl
theorem wd_3_118 : Cond.methodLink RJ0 (498) yJ2_charAt_3b067 ∈ mm_tbl := wq_3 _ (List.mem_of_getElem? (i := 118) (by decide +kernel)) rfl
theorem wd_3_119 : Cond.static yJ2_charAt_3b067 ∈ mm_tbl := wq_3 _ (List.mem_of_getElem? (i := 119) (by decide +kernel)) rfl
theorem wd_3_120 : Cond.code yJ2_charAt_3b067 cJ2_charAt_3b067 (2) (some .char) ∈ mm_tbl := wq_3 _ (List.mem_of_getElem? (i := 120) (by decide +kernel)) rfl
theorem wd_3_121 : Cond.methodLink RJ2 (67) yJ2_checkIndex_2214a ∈ mm_tbl := wq_3 _ (List.mem_of_getElem? (i := 121) (by decide +kernel)) rfl
theorem wd_3_122 : Cond.static yJ2_checkIndex_2214a ∈ mm_tbl := wq_3 _ (List.mem_of_getElem? (i := 122) (by decide +kernel)) rfl
theorem wd_3_123 : Cond.code yJ2_checkIndex_2214a cJ2_checkIndex_2214a (2) none ∈ mm_tbl := wq_3 _ (List.mem_of_getElem? (i := 123) (by decide +kernel)) rfl
theorem wd_3_124 : Cond.methodLink RJ2 (48) yJ2_length_9d52b ∈ mm_tbl := wq_3 _ (List.mem_of_getElem? (i := 124) (by decide +kernel)) rfl
theorem wd_3_125 : Cond.static yJ2_length_9d52b ∈ mm_tbl := wq_3 _ (List.mem_of_getElem? (i := 125) (by decide +kernel)) rfl
theorem wd_3_126 : Cond.code yJ2_length_9d52b cJ2_length_9d52b (1) (some .int) ∈ mm_tbl := wq_3 _ (List.mem_of_getElem? (i := 126) (by decide +kernel)) rfl
theorem wd_3_127 : Cond.methodLink RJ2 (414) yJ0_checkIndex_df160 ∈ mm_tbl := wq_3 _ (List.mem_of_getElem? (i := 127) (by decide +kernel)) rfl
theorem wd_3_128 : Cond.methodLink RJ2 (71) yJ2_getChar_3b067 ∈ mm_tbl := wq_3 _ (List.mem_of_getElem? (i := 128) (by decide +kernel)) rfl
theorem wd_3_129 : Cond.static yJ2_getChar_3b067 ∈ mm_tbl := wq_3 _ (List.mem_of_getElem? (i := 129) (by decide +kernel)) rfl
theorem wd_3_130 : Cond.code yJ2_getChar_3b067 cJ2_getChar_3b067 (2) (some .char) ∈ mm_tbl := wq_3 _ (List.mem_of_getElem? (i := 130) (by decide +kernel)) rfl
theorem wd_3_131 : Cond.fieldLink RJ2 (44) RJ2 "$assertionsDisabled" "Z" ∈ mm_tbl := wq_3 _ (List.mem_of_getElem? (i := 131) (by decide +kernel)) rfl
theorem wd_3_133 : Cond.fieldLink RJ2 (59) RJ2 "HI_BYTE_SHIFT" "I" ∈ mm_tbl := wq_3 _ (List.mem_of_getElem? (i := 133) (by decide +kernel)) rfl
theorem wd_3_135 : Cond.fieldLink RJ2 (63) RJ2 "LO_BYTE_SHIFT" "I" ∈ mm_tbl := wq_3 _ (List.mem_of_getElem? (i := 135) (by decide +kernel)) rfl
theorem wd_3_137 : Cond.methodLink RX8 (33) yX8_countSame ∈ mm_tbl := wq_3 _ (List.mem_of_getElem? (i := 137) (by decide +kernel)) rfl
theorem wd_3_139 : Cond.instanceMethod yX8_countSame ∈ mm_tbl := wq_3 _ (List.mem_of_getElem? (i := 139) (by decide +kernel)) rfl
theorem wd_3_140 : Cond.code yX8_countSame cX8_countSame (6) (some .int) ∈ mm_tbl := wq_3 _ (List.mem_of_getElem? (i := 140) (by decide +kernel)) rfl
theorem wd_3_141 : Cond.methodLink RX8 (37) yJ9_max_7cf53 ∈ mm_tbl := wq_3 _ (List.mem_of_getElem? (i := 141) (by decide +kernel)) rfl
theorem wd_3_142 : Cond.static yJ9_max_7cf53 ∈ mm_tbl := wq_3 _ (List.mem_of_getElem? (i := 142) (by decide +kernel)) rfl
theorem wd_3_143 : Cond.code yJ9_max_7cf53 cJ9_max_7cf53 (2) (some .int) ∈ mm_tbl := wq_3 _ (List.mem_of_getElem? (i := 143) (by decide +kernel)) rfl
theorem wd_3_145 : Cond.methodLink RX7 (54) yX8_isAtEnd ∈ mm_tbl := wq_3 _ (List.mem_of_getElem? (i := 145) (by decide +kernel)) rfl
theorem wd_3_146 : Cond.instanceMethod yX8_isAtEnd ∈ mm_tbl := wq_3 _ (List.mem_of_getElem? (i := 146) (by decide +kernel)) rfl
theorem wd_3_147 : Cond.selects RX8 yX8_isAtEnd yX8_isAtEnd ∈ mm_tbl := wq_3 _ (List.mem_of_getElem? (i := 147) (by decide +kernel)) rfl
theorem wd_3_148 : Cond.code yX8_isAtEnd cX8_isAtEnd (1) (some .boolean) ∈ mm_tbl := wq_3 _ (List.mem_of_getElem? (i := 148) (by decide +kernel)) rfl
theorem wd_3_150 : Cond.methodLink RX7 (60) yX7_readTests ∈ mm_tbl := wq_3 _ (List.mem_of_getElem? (i := 150) (by decide +kernel)) rfl
theorem wd_3_152 : Cond.instanceMethod yX7_readTests ∈ mm_tbl := wq_3 _ (List.mem_of_getElem? (i := 152) (by decide +kernel)) rfl
theorem wd_3_153 : Cond.code yX7_readTests cX7_readTests (3) (some .boolean) ∈ mm_tbl := wq_3 _ (List.mem_of_getElem? (i := 153) (by decide +kernel)) rfl
theorem wd_3_154 : Cond.methodLink RX7 (64) yX7_readTest ∈ mm_tbl := wq_3 _ (List.mem_of_getElem? (i := 154) (by decide +kernel)) rfl
theorem wd_3_156 : Cond.instanceMethod yX7_readTest ∈ mm_tbl := wq_3 _ (List.mem_of_getElem? (i := 156) (by decide +kernel)) rfl
theorem wd_3_157 : Cond.code yX7_readTest cX7_readTest (3) (some .boolean) ∈ mm_tbl := wq_3 _ (List.mem_of_getElem? (i := 157) (by decide +kernel)) rfl
theorem wd_3_158 : Cond.methodLink RX7 (68) yX8_skip ∈ mm_tbl := wq_3 _ (List.mem_of_getElem? (i := 158) (by decide +kernel)) rfl
theorem wd_3_159 : Cond.instanceMethod yX8_skip ∈ mm_tbl := wq_3 _ (List.mem_of_getElem? (i := 159) (by decide +kernel)) rfl
theorem wd_3_160 : Cond.selects RX8 yX8_skip yX8_skip ∈ mm_tbl := wq_3 _ (List.mem_of_getElem? (i := 160) (by decide +kernel)) rfl
theorem wd_3_161 : Cond.code yX8_skip cX8_skip (2) (some .boolean) ∈ mm_tbl := wq_3 _ (List.mem_of_getElem? (i := 161) (by decide +kernel)) rfl
theorem wd_3_162 : Cond.methodLink RX8 (43) yX8_isAtEnd ∈ mm_tbl := wq_3 _ (List.mem_of_getElem? (i := 162) (by decide +kernel)) rfl
theorem wd_3_165 : Cond.methodLink RX7 (76) yX8_takeNumber ∈ mm_tbl := wq_3 _ (List.mem_of_getElem? (i := 165) (by decide +kernel)) rfl
theorem wd_3_166 : Cond.instanceMethod yX8_takeNumber ∈ mm_tbl := wq_3 _ (List.mem_of_getElem? (i := 166) (by decide +kernel)) rfl
theorem wd_3_167 : Cond.selects RX8 yX8_takeNumber yX8_takeNumber ∈ mm_tbl := wq_3 _ (List.mem_of_getElem? (i := 167) (by decide +kernel)) rfl
theorem wd_3_168 : Cond.code yX8_takeNumber cX8_takeNumber (3) (some .int) ∈ mm_tbl := wq_3 _ (List.mem_of_getElem? (i := 168) (by decide +kernel)) rfl
theorem wd_3_170 : Cond.methodLink RX9 (199) yX7_keepRead ∈ mm_tbl := wq_3 _ (List.mem_of_getElem? (i := 170) (by decide +kernel)) rfl
theorem wd_3_171 : Cond.instanceMethod yX7_keepRead ∈ mm_tbl := wq_3 _ (List.mem_of_getElem? (i := 171) (by decide +kernel)) rfl
theorem wd_3_172 : Cond.selects RX7 yX7_keepRead yX7_keepRead ∈ mm_tbl := wq_3 _ (List.mem_of_getElem? (i := 172) (by decide +kernel)) rfl
theorem wd_3_173 : Cond.code yX7_keepRead cX7_keepRead (1) (some .int) ∈ mm_tbl := wq_3 _ (List.mem_of_getElem? (i := 173) (by decide +kernel)) rfl
theorem wd_3_174 : Cond.arrayClass .byte ∈ mm_tbl := wq_3 _ (List.mem_of_getElem? (i := 174) (by decide +kernel)) rfl
theorem wd_3_175 : Cond.methodLink RL (91) yX9_ruled ∈ mm_tbl := wq_3 _ (List.mem_of_getElem? (i := 175) (by decide +kernel)) rfl
theorem wd_3_176 : Cond.instanceMethod yX9_ruled ∈ mm_tbl := wq_3 _ (List.mem_of_getElem? (i := 176) (by decide +kernel)) rfl
theorem wd_3_177 : Cond.selects RX9 yX9_ruled yX9_ruled ∈ mm_tbl := wq_3 _ (List.mem_of_getElem? (i := 177) (by decide +kernel)) rfl
theorem wd_3_178 : Cond.code yX9_ruled cX9_ruled (3) (some .int) ∈ mm_tbl := wq_3 _ (List.mem_of_getElem? (i := 178) (by decide +kernel)) rfl
theorem wd_3_179 : Cond.methodLink RX9 (206) yX9_askedRule ∈ mm_tbl := wq_3 _ (List.mem_of_getElem? (i := 179) (by decide +kernel)) rfl
theorem wd_3_181 : Cond.instanceMethod yX9_askedRule ∈ mm_tbl := wq_3 _ (List.mem_of_getElem? (i := 181) (by decide +kernel)) rfl
theorem wd_3_182 : Cond.code yX9_askedRule cX9_askedRule (6) (some .int) ∈ mm_tbl := wq_3 _ (List.mem_of_getElem? (i := 182) (by decide +kernel)) rfl
theorem wd_3_183 : Cond.methodLink RX9 (304) yX0_seats ∈ mm_tbl := wq_3 _ (List.mem_of_getElem? (i := 183) (by decide +kernel)) rfl
theorem wd_3_184 : Cond.methodLink RX9 (307) yX0_isYoungAboard ∈ mm_tbl := wq_3 _ (List.mem_of_getElem? (i := 184) (by decide +kernel)) rfl
theorem wd_3_185 : Cond.instanceMethod yX0_isYoungAboard ∈ mm_tbl := wq_3 _ (List.mem_of_getElem? (i := 185) (by decide +kernel)) rfl
theorem wd_3_186 : Cond.selects RX0 yX0_isYoungAboard yX0_isYoungAboard ∈ mm_tbl := wq_3 _ (List.mem_of_getElem? (i := 186) (by decide +kernel)) rfl
theorem wd_3_187 : Cond.code yX0_isYoungAboard cX0_isYoungAboard (3) (some .boolean) ∈ mm_tbl := wq_3 _ (List.mem_of_getElem? (i := 187) (by decide +kernel)) rfl
theorem wd_3_188 : Cond.methodLink RX0 (65) yX0_sitsIn ∈ mm_tbl := wq_3 _ (List.mem_of_getElem? (i := 188) (by decide +kernel)) rfl
theorem wd_3_189 : Cond.methodLink RX9 (313) yX7_asked ∈ mm_tbl := wq_3 _ (List.mem_of_getElem? (i := 189) (by decide +kernel)) rfl
theorem wd_3_190 : Cond.instanceMethod yX7_asked ∈ mm_tbl := wq_3 _ (List.mem_of_getElem? (i := 190) (by decide +kernel)) rfl
theorem wd_3_191 : Cond.selects RX7 yX7_asked yX7_asked ∈ mm_tbl := wq_3 _ (List.mem_of_getElem? (i := 191) (by decide +kernel)) rfl
theorem wd_3_192 : Cond.code yX7_asked cX7_asked (3) (some .int) ∈ mm_tbl := wq_3 _ (List.mem_of_getElem? (i := 192) (by decide +kernel)) rfl
theorem wd_3_193 : Cond.methodLink RX7 (80) yX7_testsHold ∈ mm_tbl := wq_3 _ (List.mem_of_getElem? (i := 193) (by decide +kernel)) rfl
end
section
theorem wd_3_195 : Cond.instanceMethod yX7_testsHold ∈ mm_tbl := wq_3 _ (List.mem_of_getElem? (i := 195) (by decide +kernel)) rfl
theorem wd_3_196 : Cond.code yX7_testsHold cX7_testsHold (4) (some .boolean) ∈ mm_tbl := wq_3 _ (List.mem_of_getElem? (i := 196) (by decide +kernel)) rfl
theorem wd_3_197 : Cond.methodLink RX7 (84) yX7_isSo ∈ mm_tbl := wq_3 _ (List.mem_of_getElem? (i := 197) (by decide +kernel)) rfl
theorem wd_3_199 : Cond.instanceMethod yX7_isSo ∈ mm_tbl := wq_3 _ (List.mem_of_getElem? (i := 199) (by decide +kernel)) rfl
theorem wd_3_200 : Cond.code yX7_isSo cX7_isSo (3) (some .boolean) ∈ mm_tbl := wq_3 _ (List.mem_of_getElem? (i := 200) (by decide +kernel)) rfl
theorem wd_3_201 : Cond.methodLink RL (95) yX9_may ∈ mm_tbl := wq_3 _ (List.mem_of_getElem? (i := 201) (by decide +kernel)) rfl
theorem wd_3_202 : Cond.instanceMethod yX9_may ∈ mm_tbl := wq_3 _ (List.mem_of_getElem? (i := 202) (by decide +kernel)) rfl
theorem wd_3_203 : Cond.selects RX9 yX9_may yX9_may ∈ mm_tbl := wq_3 _ (List.mem_of_getElem? (i := 203) (by decide +kernel)) rfl
theorem wd_3_204 : Cond.code yX9_may cX9_may (3) (some .int) ∈ mm_tbl := wq_3 _ (List.mem_of_getElem? (i := 204) (by decide +kernel)) rfl
theorem wd_3_205 : Cond.methodLink RX9 (209) yX9_whyAshore ∈ mm_tbl := wq_3 _ (List.mem_of_getElem? (i := 205) (by decide +kernel)) rfl
theorem wd_3_207 : Cond.instanceMethod yX9_whyAshore ∈ mm_tbl := wq_3 _ (List.mem_of_getElem? (i := 207) (by decide +kernel)) rfl
theorem wd_3_208 : Cond.code yX9_whyAshore cX9_whyAshore (4) (some .int) ∈ mm_tbl := wq_3 _ (List.mem_of_getElem? (i := 208) (by decide +kernel)) rfl
theorem wd_3_209 : Cond.methodLink RX9 (280) yX3_isBroken ∈ mm_tbl := wq_3 _ (List.mem_of_getElem? (i := 209) (by decide +kernel)) rfl
theorem wd_3_210 : Cond.instanceMethod yX3_isBroken ∈ mm_tbl := wq_3 _ (List.mem_of_getElem? (i := 210) (by decide +kernel)) rfl
theorem wd_3_211 : Cond.selects RX3 yX3_isBroken yX3_isBroken ∈ mm_tbl := wq_3 _ (List.mem_of_getElem? (i := 211) (by decide +kernel)) rfl
theorem wd_3_212 : Cond.code yX3_isBroken cX3_isBroken (3) (some .boolean) ∈ mm_tbl := wq_3 _ (List.mem_of_getElem? (i := 212) (by decide +kernel)) rfl
theorem wd_3_213 : Cond.methodLink RX3 (40) yX3_latestLook ∈ mm_tbl := wq_3 _ (List.mem_of_getElem? (i := 213) (by decide +kernel)) rfl
theorem wd_3_215 : Cond.instanceMethod yX3_latestLook ∈ mm_tbl := wq_3 _ (List.mem_of_getElem? (i := 215) (by decide +kernel)) rfl
theorem wd_3_216 : Cond.code yX3_latestLook cX3_latestLook (4) (some .int) ∈ mm_tbl := wq_3 _ (List.mem_of_getElem? (i := 216) (by decide +kernel)) rfl
theorem wd_3_217 : Cond.methodLink RX9 (283) yX0_isManned ∈ mm_tbl := wq_3 _ (List.mem_of_getElem? (i := 217) (by decide +kernel)) rfl
theorem wd_3_218 : Cond.instanceMethod yX0_isManned ∈ mm_tbl := wq_3 _ (List.mem_of_getElem? (i := 218) (by decide +kernel)) rfl
theorem wd_3_219 : Cond.selects RX0 yX0_isManned yX0_isManned ∈ mm_tbl := wq_3 _ (List.mem_of_getElem? (i := 219) (by decide +kernel)) rfl
theorem wd_3_220 : Cond.code yX0_isManned cX0_isManned (2) (some .boolean) ∈ mm_tbl := wq_3 _ (List.mem_of_getElem? (i := 220) (by decide +kernel)) rfl
theorem wd_3_221 : Cond.methodLink RX0 (69) yX0_aboard ∈ mm_tbl := wq_3 _ (List.mem_of_getElem? (i := 221) (by decide +kernel)) rfl
theorem wd_3_222 : Cond.instanceMethod yX0_aboard ∈ mm_tbl := wq_3 _ (List.mem_of_getElem? (i := 222) (by decide +kernel)) rfl
theorem wd_3_223 : Cond.selects RX0 yX0_aboard yX0_aboard ∈ mm_tbl := wq_3 _ (List.mem_of_getElem? (i := 223) (by decide +kernel)) rfl
theorem wd_3_224 : Cond.code yX0_aboard cX0_aboard (4) (some .int) ∈ mm_tbl := wq_3 _ (List.mem_of_getElem? (i := 224) (by decide +kernel)) rfl
theorem wd_3_225 : Cond.methodLink RX0 (72) yJ6_bitCount_0f7a4 ∈ mm_tbl := wq_3 _ (List.mem_of_getElem? (i := 225) (by decide +kernel)) rfl
theorem wd_3_226 : Cond.methodLink RX9 (286) yX0_meanWeight ∈ mm_tbl := wq_3 _ (List.mem_of_getElem? (i := 226) (by decide +kernel)) rfl
theorem wd_3_227 : Cond.instanceMethod yX0_meanWeight ∈ mm_tbl := wq_3 _ (List.mem_of_getElem? (i := 227) (by decide +kernel)) rfl
theorem wd_3_228 : Cond.selects RX0 yX0_meanWeight yX0_meanWeight ∈ mm_tbl := wq_3 _ (List.mem_of_getElem? (i := 228) (by decide +kernel)) rfl
theorem wd_3_229 : Cond.code yX0_meanWeight cX0_meanWeight (4) (some .int) ∈ mm_tbl := wq_3 _ (List.mem_of_getElem? (i := 229) (by decide +kernel)) rfl
theorem wd_3_230 : Cond.methodLink RX0 (77) yX0_isCox ∈ mm_tbl := wq_3 _ (List.mem_of_getElem? (i := 230) (by decide +kernel)) rfl
theorem wd_3_231 : Cond.methodLink RX9 (295) yX0_allMayBeOut ∈ mm_tbl := wq_3 _ (List.mem_of_getElem? (i := 231) (by decide +kernel)) rfl
theorem wd_3_232 : Cond.instanceMethod yX0_allMayBeOut ∈ mm_tbl := wq_3 _ (List.mem_of_getElem? (i := 232) (by decide +kernel)) rfl
theorem wd_3_233 : Cond.selects RX0 yX0_allMayBeOut yX0_allMayBeOut ∈ mm_tbl := wq_3 _ (List.mem_of_getElem? (i := 233) (by decide +kernel)) rfl
theorem wd_3_234 : Cond.code yX0_allMayBeOut cX0_allMayBeOut (4) (some .boolean) ∈ mm_tbl := wq_3 _ (List.mem_of_getElem? (i := 234) (by decide +kernel)) rfl
theorem wd_3_235 : Cond.methodLink RX0 (80) yX0_mayBeOut ∈ mm_tbl := wq_3 _ (List.mem_of_getElem? (i := 235) (by decide +kernel)) rfl
theorem wd_3_236 : Cond.methodLink RL (99) yX9_day ∈ mm_tbl := wq_3 _ (List.mem_of_getElem? (i := 236) (by decide +kernel)) rfl
theorem wd_3_237 : Cond.instanceMethod yX9_day ∈ mm_tbl := wq_3 _ (List.mem_of_getElem? (i := 237) (by decide +kernel)) rfl
theorem wd_3_238 : Cond.selects RX9 yX9_day yX9_day ∈ mm_tbl := wq_3 _ (List.mem_of_getElem? (i := 238) (by decide +kernel)) rfl
theorem wd_3_239 : Cond.code yX9_day cX9_day (3) (some .int) ∈ mm_tbl := wq_3 _ (List.mem_of_getElem? (i := 239) (by decide +kernel)) rfl
theorem wd_4_0 : Cond.methodLink RL (103) yX9_out ∈ mm_tbl := wq_4 _ (List.mem_of_getElem? (i := 0) (by decide +kernel)) rfl
theorem wd_4_1 : Cond.instanceMethod yX9_out ∈ mm_tbl := wq_4 _ (List.mem_of_getElem? (i := 1) (by decide +kernel)) rfl
theorem wd_4_2 : Cond.selects RX9 yX9_out yX9_out ∈ mm_tbl := wq_4 _ (List.mem_of_getElem? (i := 2) (by decide +kernel)) rfl
theorem wd_4_3 : Cond.code yX9_out cX9_out (3) (some .int) ∈ mm_tbl := wq_4 _ (List.mem_of_getElem? (i := 3) (by decide +kernel)) rfl
theorem wd_4_4 : Cond.methodLink RX9 (215) yX0_aboard ∈ mm_tbl := wq_4 _ (List.mem_of_getElem? (i := 4) (by decide +kernel)) rfl
theorem wd_4_5 : Cond.methodLink RX9 (218) yX3_addOuting ∈ mm_tbl := wq_4 _ (List.mem_of_getElem? (i := 5) (by decide +kernel)) rfl
theorem wd_4_6 : Cond.instanceMethod yX3_addOuting ∈ mm_tbl := wq_4 _ (List.mem_of_getElem? (i := 6) (by decide +kernel)) rfl
theorem wd_4_7 : Cond.selects RX3 yX3_addOuting yX3_addOuting ∈ mm_tbl := wq_4 _ (List.mem_of_getElem? (i := 7) (by decide +kernel)) rfl
theorem wd_4_8 : Cond.code yX3_addOuting cX3_addOuting (5) (some .int) ∈ mm_tbl := wq_4 _ (List.mem_of_getElem? (i := 8) (by decide +kernel)) rfl
theorem wd_4_9 : Cond.methodLink RL (107) yX9_look ∈ mm_tbl := wq_4 _ (List.mem_of_getElem? (i := 9) (by decide +kernel)) rfl
theorem wd_4_10 : Cond.instanceMethod yX9_look ∈ mm_tbl := wq_4 _ (List.mem_of_getElem? (i := 10) (by decide +kernel)) rfl
theorem wd_4_11 : Cond.selects RX9 yX9_look yX9_look ∈ mm_tbl := wq_4 _ (List.mem_of_getElem? (i := 11) (by decide +kernel)) rfl
theorem wd_4_12 : Cond.code yX9_look cX9_look (3) (some .int) ∈ mm_tbl := wq_4 _ (List.mem_of_getElem? (i := 12) (by decide +kernel)) rfl
theorem wd_4_13 : Cond.methodLink RX9 (224) yX3_addLook ∈ mm_tbl := wq_4 _ (List.mem_of_getElem? (i := 13) (by decide +kernel)) rfl
theorem wd_4_14 : Cond.instanceMethod yX3_addLook ∈ mm_tbl := wq_4 _ (List.mem_of_getElem? (i := 14) (by decide +kernel)) rfl
theorem wd_4_15 : Cond.selects RX3 yX3_addLook yX3_addLook ∈ mm_tbl := wq_4 _ (List.mem_of_getElem? (i := 15) (by decide +kernel)) rfl
theorem wd_4_16 : Cond.code yX3_addLook cX3_addLook (3) (some .int) ∈ mm_tbl := wq_4 _ (List.mem_of_getElem? (i := 16) (by decide +kernel)) rfl
theorem wd_4_17 : Cond.methodLink RL (111) yX9_broke ∈ mm_tbl := wq_4 _ (List.mem_of_getElem? (i := 17) (by decide +kernel)) rfl
theorem wd_4_18 : Cond.instanceMethod yX9_broke ∈ mm_tbl := wq_4 _ (List.mem_of_getElem? (i := 18) (by decide +kernel)) rfl
theorem wd_4_19 : Cond.selects RX9 yX9_broke yX9_broke ∈ mm_tbl := wq_4 _ (List.mem_of_getElem? (i := 19) (by decide +kernel)) rfl
theorem wd_4_20 : Cond.code yX9_broke cX9_broke (4) (some .int) ∈ mm_tbl := wq_4 _ (List.mem_of_getElem? (i := 20) (by decide +kernel)) rfl
theorem wd_4_21 : Cond.methodLink RX9 (227) yX3_brokeAt ∈ mm_tbl := wq_4 _ (List.mem_of_getElem? (i := 21) (by decide +kernel)) rfl
theorem wd_4_22 : Cond.instanceMethod yX3_brokeAt ∈ mm_tbl := wq_4 _ (List.mem_of_getElem? (i := 22) (by decide +kernel)) rfl
theorem wd_4_23 : Cond.selects RX3 yX3_brokeAt yX3_brokeAt ∈ mm_tbl := wq_4 _ (List.mem_of_getElem? (i := 23) (by decide +kernel)) rfl
theorem wd_4_24 : Cond.code yX3_brokeAt cX3_brokeAt (3) (some .boolean) ∈ mm_tbl := wq_4 _ (List.mem_of_getElem? (i := 24) (by decide +kernel)) rfl
theorem wd_4_25 : Cond.methodLink RX9 (230) yX3_suspects ∈ mm_tbl := wq_4 _ (List.mem_of_getElem? (i := 25) (by decide +kernel)) rfl
theorem wd_4_26 : Cond.instanceMethod yX3_suspects ∈ mm_tbl := wq_4 _ (List.mem_of_getElem? (i := 26) (by decide +kernel)) rfl
theorem wd_4_27 : Cond.selects RX3 yX3_suspects yX3_suspects ∈ mm_tbl := wq_4 _ (List.mem_of_getElem? (i := 27) (by decide +kernel)) rfl
theorem wd_4_28 : Cond.code yX3_suspects cX3_suspects (4) (some .int) ∈ mm_tbl := wq_4 _ (List.mem_of_getElem? (i := 28) (by decide +kernel)) rfl
theorem wd_4_29 : Cond.methodLink RX3 (44) yX3_firstBehind ∈ mm_tbl := wq_4 _ (List.mem_of_getElem? (i := 29) (by decide +kernel)) rfl
theorem wd_4_31 : Cond.instanceMethod yX3_firstBehind ∈ mm_tbl := wq_4 _ (List.mem_of_getElem? (i := 31) (by decide +kernel)) rfl
theorem wd_4_32 : Cond.code yX3_firstBehind cX3_firstBehind (3) (some .int) ∈ mm_tbl := wq_4 _ (List.mem_of_getElem? (i := 32) (by decide +kernel)) rfl
theorem wd_4_33 : Cond.methodLink RX9 (233) yX3_firstSuspect ∈ mm_tbl := wq_4 _ (List.mem_of_getElem? (i := 33) (by decide +kernel)) rfl
theorem wd_4_34 : Cond.instanceMethod yX3_firstSuspect ∈ mm_tbl := wq_4 _ (List.mem_of_getElem? (i := 34) (by decide +kernel)) rfl
theorem wd_4_35 : Cond.selects RX3 yX3_firstSuspect yX3_firstSuspect ∈ mm_tbl := wq_4 _ (List.mem_of_getElem? (i := 35) (by decide +kernel)) rfl
theorem wd_4_36 : Cond.code yX3_firstSuspect cX3_firstSuspect (3) (some .int) ∈ mm_tbl := wq_4 _ (List.mem_of_getElem? (i := 36) (by decide +kernel)) rfl
theorem wd_4_37 : Cond.methodLink RL (115) yX9_outing ∈ mm_tbl := wq_4 _ (List.mem_of_getElem? (i := 37) (by decide +kernel)) rfl
theorem wd_4_38 : Cond.instanceMethod yX9_outing ∈ mm_tbl := wq_4 _ (List.mem_of_getElem? (i := 38) (by decide +kernel)) rfl
theorem wd_4_39 : Cond.selects RX9 yX9_outing yX9_outing ∈ mm_tbl := wq_4 _ (List.mem_of_getElem? (i := 39) (by decide +kernel)) rfl
theorem wd_4_40 : Cond.code yX9_outing cX9_outing (3) (some .int) ∈ mm_tbl := wq_4 _ (List.mem_of_getElem? (i := 40) (by decide +kernel)) rfl
theorem wd_4_41 : Cond.methodLink RL (119) yX9_heat ∈ mm_tbl := wq_4 _ (List.mem_of_getElem? (i := 41) (by decide +kernel)) rfl
theorem wd_4_42 : Cond.instanceMethod yX9_heat ∈ mm_tbl := wq_4 _ (List.mem_of_getElem? (i := 42) (by decide +kernel)) rfl
theorem wd_4_43 : Cond.selects RX9 yX9_heat yX9_heat ∈ mm_tbl := wq_4 _ (List.mem_of_getElem? (i := 43) (by decide +kernel)) rfl
theorem wd_4_44 : Cond.code yX9_heat cX9_heat (3) (some .int) ∈ mm_tbl := wq_4 _ (List.mem_of_getElem? (i := 44) (by decide +kernel)) rfl
theorem wd_4_45 : Cond.methodLink RX9 (249) yX2_addHeat ∈ mm_tbl := wq_4 _ (List.mem_of_getElem? (i := 45) (by decide +kernel)) rfl
theorem wd_4_46 : Cond.instanceMethod yX2_addHeat ∈ mm_tbl := wq_4 _ (List.mem_of_getElem? (i := 46) (by decide +kernel)) rfl
theorem wd_4_47 : Cond.selects RX2 yX2_addHeat yX2_addHeat ∈ mm_tbl := wq_4 _ (List.mem_of_getElem? (i := 47) (by decide +kernel)) rfl
theorem wd_4_48 : Cond.code yX2_addHeat cX2_addHeat (3) (some .int) ∈ mm_tbl := wq_4 _ (List.mem_of_getElem? (i := 48) (by decide +kernel)) rfl
theorem wd_4_49 : Cond.methodLink RL (123) yX9_near ∈ mm_tbl := wq_4 _ (List.mem_of_getElem? (i := 49) (by decide +kernel)) rfl
theorem wd_4_50 : Cond.instanceMethod yX9_near ∈ mm_tbl := wq_4 _ (List.mem_of_getElem? (i := 50) (by decide +kernel)) rfl
theorem wd_4_51 : Cond.selects RX9 yX9_near yX9_near ∈ mm_tbl := wq_4 _ (List.mem_of_getElem? (i := 51) (by decide +kernel)) rfl
theorem wd_4_52 : Cond.code yX9_near cX9_near (3) (some .int) ∈ mm_tbl := wq_4 _ (List.mem_of_getElem? (i := 52) (by decide +kernel)) rfl
theorem wd_4_53 : Cond.methodLink RL (127) yX9_clashes ∈ mm_tbl := wq_4 _ (List.mem_of_getElem? (i := 53) (by decide +kernel)) rfl
theorem wd_4_54 : Cond.instanceMethod yX9_clashes ∈ mm_tbl := wq_4 _ (List.mem_of_getElem? (i := 54) (by decide +kernel)) rfl
theorem wd_4_55 : Cond.selects RX9 yX9_clashes yX9_clashes ∈ mm_tbl := wq_4 _ (List.mem_of_getElem? (i := 55) (by decide +kernel)) rfl
theorem wd_4_56 : Cond.code yX9_clashes cX9_clashes (1) (some .int) ∈ mm_tbl := wq_4 _ (List.mem_of_getElem? (i := 56) (by decide +kernel)) rfl
theorem wd_4_57 : Cond.methodLink RX9 (255) yX2_clashingPairs ∈ mm_tbl := wq_4 _ (List.mem_of_getElem? (i := 57) (by decide +kernel)) rfl
theorem wd_4_58 : Cond.instanceMethod yX2_clashingPairs ∈ mm_tbl := wq_4 _ (List.mem_of_getElem? (i := 58) (by decide +kernel)) rfl
theorem wd_4_59 : Cond.selects RX2 yX2_clashingPairs yX2_clashingPairs ∈ mm_tbl := wq_4 _ (List.mem_of_getElem? (i := 59) (by decide +kernel)) rfl
theorem wd_4_60 : Cond.code yX2_clashingPairs cX2_clashingPairs (4) (some .int) ∈ mm_tbl := wq_4 _ (List.mem_of_getElem? (i := 60) (by decide +kernel)) rfl
theorem wd_4_61 : Cond.methodLink RX2 (31) yX2_wouldClash ∈ mm_tbl := wq_4 _ (List.mem_of_getElem? (i := 61) (by decide +kernel)) rfl
theorem wd_4_63 : Cond.instanceMethod yX2_wouldClash ∈ mm_tbl := wq_4 _ (List.mem_of_getElem? (i := 63) (by decide +kernel)) rfl
theorem wd_4_64 : Cond.code yX2_wouldClash cX2_wouldClash (4) (some .boolean) ∈ mm_tbl := wq_4 _ (List.mem_of_getElem? (i := 64) (by decide +kernel)) rfl
theorem wd_4_65 : Cond.methodLink RX2 (25) yJ9_abs_0f7a4 ∈ mm_tbl := wq_4 _ (List.mem_of_getElem? (i := 65) (by decide +kernel)) rfl
theorem wd_4_66 : Cond.static yJ9_abs_0f7a4 ∈ mm_tbl := wq_4 _ (List.mem_of_getElem? (i := 66) (by decide +kernel)) rfl
theorem wd_4_67 : Cond.code yJ9_abs_0f7a4 cJ9_abs_0f7a4 (1) (some .int) ∈ mm_tbl := wq_4 _ (List.mem_of_getElem? (i := 67) (by decide +kernel)) rfl
theorem wd_4_68 : Cond.methodLink RL (131) yX9_shift ∈ mm_tbl := wq_4 _ (List.mem_of_getElem? (i := 68) (by decide +kernel)) rfl
theorem wd_4_69 : Cond.instanceMethod yX9_shift ∈ mm_tbl := wq_4 _ (List.mem_of_getElem? (i := 69) (by decide +kernel)) rfl
theorem wd_4_70 : Cond.selects RX9 yX9_shift yX9_shift ∈ mm_tbl := wq_4 _ (List.mem_of_getElem? (i := 70) (by decide +kernel)) rfl
theorem wd_4_71 : Cond.code yX9_shift cX9_shift (3) (some .int) ∈ mm_tbl := wq_4 _ (List.mem_of_getElem? (i := 71) (by decide +kernel)) rfl
theorem wd_4_72 : Cond.methodLink RX9 (258) yX2_freeMinute ∈ mm_tbl := wq_4 _ (List.mem_of_getElem? (i := 72) (by decide +kernel)) rfl
theorem wd_4_73 : Cond.instanceMethod yX2_freeMinute ∈ mm_tbl := wq_4 _ (List.mem_of_getElem? (i := 73) (by decide +kernel)) rfl
theorem wd_4_74 : Cond.selects RX2 yX2_freeMinute yX2_freeMinute ∈ mm_tbl := wq_4 _ (List.mem_of_getElem? (i := 74) (by decide +kernel)) rfl
theorem wd_4_75 : Cond.code yX2_freeMinute cX2_freeMinute (5) (some .int) ∈ mm_tbl := wq_4 _ (List.mem_of_getElem? (i := 75) (by decide +kernel)) rfl
theorem wd_4_76 : Cond.methodLink RX2 (35) yX2_firstClash ∈ mm_tbl := wq_4 _ (List.mem_of_getElem? (i := 76) (by decide +kernel)) rfl
theorem wd_4_78 : Cond.instanceMethod yX2_firstClash ∈ mm_tbl := wq_4 _ (List.mem_of_getElem? (i := 78) (by decide +kernel)) rfl
theorem wd_4_79 : Cond.code yX2_firstClash cX2_firstClash (4) (some .int) ∈ mm_tbl := wq_4 _ (List.mem_of_getElem? (i := 79) (by decide +kernel)) rfl
theorem wd_4_80 : Cond.methodLink RL (135) yX9_trailer ∈ mm_tbl := wq_4 _ (List.mem_of_getElem? (i := 80) (by decide +kernel)) rfl
theorem wd_4_81 : Cond.instanceMethod yX9_trailer ∈ mm_tbl := wq_4 _ (List.mem_of_getElem? (i := 81) (by decide +kernel)) rfl
theorem wd_4_82 : Cond.selects RX9 yX9_trailer yX9_trailer ∈ mm_tbl := wq_4 _ (List.mem_of_getElem? (i := 82) (by decide +kernel)) rfl
theorem wd_4_83 : Cond.code yX9_trailer cX9_trailer (4) (some .int) ∈ mm_tbl := wq_4 _ (List.mem_of_getElem? (i := 83) (by decide +kernel)) rfl
theorem wd_4_84 : Cond.methodLink RX9 (263) yX5_load ∈ mm_tbl := wq_4 _ (List.mem_of_getElem? (i := 84) (by decide +kernel)) rfl
theorem wd_4_85 : Cond.instanceMethod yX5_load ∈ mm_tbl := wq_4 _ (List.mem_of_getElem? (i := 85) (by decide +kernel)) rfl
theorem wd_4_86 : Cond.selects RX5 yX5_load yX5_load ∈ mm_tbl := wq_4 _ (List.mem_of_getElem? (i := 86) (by decide +kernel)) rfl
theorem wd_4_87 : Cond.code yX5_load cX5_load (4) (some .int) ∈ mm_tbl := wq_4 _ (List.mem_of_getElem? (i := 87) (by decide +kernel)) rfl
theorem wd_4_88 : Cond.methodLink RX5 (33) yX5_lay ∈ mm_tbl := wq_4 _ (List.mem_of_getElem? (i := 88) (by decide +kernel)) rfl
theorem wd_4_89 : Cond.static yX5_lay ∈ mm_tbl := wq_4 _ (List.mem_of_getElem? (i := 89) (by decide +kernel)) rfl
theorem wd_4_90 : Cond.code yX5_lay cX5_lay (6) none ∈ mm_tbl := wq_4 _ (List.mem_of_getElem? (i := 90) (by decide +kernel)) rfl
theorem wd_4_91 : Cond.methodLink RX5 (37) yX5_longestRow ∈ mm_tbl := wq_4 _ (List.mem_of_getElem? (i := 91) (by decide +kernel)) rfl
theorem wd_4_93 : Cond.instanceMethod yX5_longestRow ∈ mm_tbl := wq_4 _ (List.mem_of_getElem? (i := 93) (by decide +kernel)) rfl
theorem wd_4_94 : Cond.code yX5_longestRow cX5_longestRow (1) (some .int) ∈ mm_tbl := wq_4 _ (List.mem_of_getElem? (i := 94) (by decide +kernel)) rfl
theorem wd_4_95 : Cond.methodLink RX5 (51) yJ9_max_7cf53 ∈ mm_tbl := wq_4 _ (List.mem_of_getElem? (i := 95) (by decide +kernel)) rfl
theorem wd_4_96 : Cond.methodLink RX5 (41) ⟨"java/lang/System", "arraycopy", "(Ljava/lang/Object;ILjava/lang/Object;II)V"⟩ ∈ mm_tbl := wq_4 _ (List.mem_of_getElem? (i := 96) (by decide +kernel)) rfl
theorem wd_4_98 : Cond.methodLink RL (139) yX9_rack ∈ mm_tbl := wq_4 _ (List.mem_of_getElem? (i := 98) (by decide +kernel)) rfl
theorem wd_4_99 : Cond.instanceMethod yX9_rack ∈ mm_tbl := wq_4 _ (List.mem_of_getElem? (i := 99) (by decide +kernel)) rfl
theorem wd_4_100 : Cond.selects RX9 yX9_rack yX9_rack ∈ mm_tbl := wq_4 _ (List.mem_of_getElem? (i := 100) (by decide +kernel)) rfl
theorem wd_4_101 : Cond.code yX9_rack cX9_rack (2) (some .int) ∈ mm_tbl := wq_4 _ (List.mem_of_getElem? (i := 101) (by decide +kernel)) rfl
theorem wd_4_102 : Cond.methodLink RL (143) yX9_count ∈ mm_tbl := wq_4 _ (List.mem_of_getElem? (i := 102) (by decide +kernel)) rfl
theorem wd_4_103 : Cond.instanceMethod yX9_count ∈ mm_tbl := wq_4 _ (List.mem_of_getElem? (i := 103) (by decide +kernel)) rfl
theorem wd_4_104 : Cond.selects RX9 yX9_count yX9_count ∈ mm_tbl := wq_4 _ (List.mem_of_getElem? (i := 104) (by decide +kernel)) rfl
theorem wd_4_105 : Cond.code yX9_count cX9_count (2) (some .int) ∈ mm_tbl := wq_4 _ (List.mem_of_getElem? (i := 105) (by decide +kernel)) rfl
theorem wd_4_106 : Cond.classLink RL (10) RX10 ∈ mm_tbl := wq_4 _ (List.mem_of_getElem? (i := 106) (by decide +kernel)) rfl
theorem wd_4_107 : Cond.instantiable RX10 (53) ∈ mm_tbl := wq_4 _ (List.mem_of_getElem? (i := 107) (by decide +kernel)) rfl
theorem wd_4_108 : Cond.methodLink RL (12) yX10_init ∈ mm_tbl := wq_4 _ (List.mem_of_getElem? (i := 108) (by decide +kernel)) rfl
theorem wd_4_109 : Cond.instanceMethod yX10_init ∈ mm_tbl := wq_4 _ (List.mem_of_getElem? (i := 109) (by decide +kernel)) rfl
theorem wd_4_110 : Cond.code yX10_init cX10_init (2) none ∈ mm_tbl := wq_4 _ (List.mem_of_getElem? (i := 110) (by decide +kernel)) rfl
theorem wd_4_111 : Cond.methodLink RX10 (1) objectInit ∈ mm_tbl := wq_4 _ (List.mem_of_getElem? (i := 111) (by decide +kernel)) rfl
theorem wd_4_112 : Cond.fieldLink RX10 (7) RX10 "kindOf" "[I" ∈ mm_tbl := wq_4 _ (List.mem_of_getElem? (i := 112) (by decide +kernel)) rfl
theorem wd_4_113 : Cond.fieldLink RX10 (13) RX10 "weightOf" "[I" ∈ mm_tbl := wq_4 _ (List.mem_of_getElem? (i := 113) (by decide +kernel)) rfl
theorem wd_4_114 : Cond.fieldLink RX10 (16) RX10 "boatOf" "[I" ∈ mm_tbl := wq_4 _ (List.mem_of_getElem? (i := 114) (by decide +kernel)) rfl
theorem wd_4_115 : Cond.fieldLink RX10 (19) RX10 "seatOf" "[I" ∈ mm_tbl := wq_4 _ (List.mem_of_getElem? (i := 115) (by decide +kernel)) rfl
theorem wd_4_116 : Cond.fieldLink RX10 (22) RX10 "isIll" "[Z" ∈ mm_tbl := wq_4 _ (List.mem_of_getElem? (i := 116) (by decide +kernel)) rfl
theorem wd_4_117 : Cond.fieldLink RX10 (26) RX10 "isBroken" "[Z" ∈ mm_tbl := wq_4 _ (List.mem_of_getElem? (i := 117) (by decide +kernel)) rfl
theorem wd_4_118 : Cond.fieldLink RX10 (29) RX10 "boatKind" "[I" ∈ mm_tbl := wq_4 _ (List.mem_of_getElem? (i := 118) (by decide +kernel)) rfl
theorem wd_4_119 : Cond.fieldLink RX10 (32) RX10 "least" "[I" ∈ mm_tbl := wq_4 _ (List.mem_of_getElem? (i := 119) (by decide +kernel)) rfl
theorem wd_4_120 : Cond.fieldLink RX10 (35) RX10 "most" "[I" ∈ mm_tbl := wq_4 _ (List.mem_of_getElem? (i := 120) (by decide +kernel)) rfl
theorem wd_4_121 : Cond.fieldLink RX10 (38) RX10 "longOf" "[I" ∈ mm_tbl := wq_4 _ (List.mem_of_getElem? (i := 121) (by decide +kernel)) rfl
theorem wd_4_122 : Cond.fieldLink RX10 (136) RX10 "oars" "I" ∈ mm_tbl := wq_4 _ (List.mem_of_getElem? (i := 122) (by decide +kernel)) rfl
theorem wd_4_123 : Cond.fieldLink RX10 (139) RX10 "boats" "I" ∈ mm_tbl := wq_4 _ (List.mem_of_getElem? (i := 123) (by decide +kernel)) rfl
theorem wd_4_124 : Cond.fieldLink RX10 (41) RX10 "first" "[I" ∈ mm_tbl := wq_4 _ (List.mem_of_getElem? (i := 124) (by decide +kernel)) rfl
theorem wd_4_125 : Cond.fieldLink RX10 (44) RX10 "second" "[I" ∈ mm_tbl := wq_4 _ (List.mem_of_getElem? (i := 125) (by decide +kernel)) rfl
theorem wd_4_126 : Cond.fieldLink RX10 (47) RX10 "byHow" "[I" ∈ mm_tbl := wq_4 _ (List.mem_of_getElem? (i := 126) (by decide +kernel)) rfl
theorem wd_4_127 : Cond.fieldLink RX10 (50) RX10 "groupOf" "[I" ∈ mm_tbl := wq_4 _ (List.mem_of_getElem? (i := 127) (by decide +kernel)) rfl
theorem wd_4_128 : Cond.fieldLink RX10 (180) RX10 "races" "I" ∈ mm_tbl := wq_4 _ (List.mem_of_getElem? (i := 128) (by decide +kernel)) rfl
theorem wd_4_129 : Cond.fieldLink RX10 (53) RX10 "placeOf" "[I" ∈ mm_tbl := wq_4 _ (List.mem_of_getElem? (i := 129) (by decide +kernel)) rfl
theorem wd_4_130 : Cond.fieldLink RX10 (56) RX10 "table" "[J" ∈ mm_tbl := wq_4 _ (List.mem_of_getElem? (i := 130) (by decide +kernel)) rfl
theorem wd_4_131 : Cond.fieldLink RX10 (60) RX10 "right" "[J" ∈ mm_tbl := wq_4 _ (List.mem_of_getElem? (i := 131) (by decide +kernel)) rfl
theorem wd_4_132 : Cond.fieldLink RX10 (63) RX10 "used" "[J" ∈ mm_tbl := wq_4 _ (List.mem_of_getElem? (i := 132) (by decide +kernel)) rfl
theorem wd_4_133 : Cond.fieldLink RX10 (66) RX10 "strength" "[J" ∈ mm_tbl := wq_4 _ (List.mem_of_getElem? (i := 133) (by decide +kernel)) rfl
theorem wd_4_134 : Cond.fieldLink RX10 (186) RX10 "others" "I" ∈ mm_tbl := wq_4 _ (List.mem_of_getElem? (i := 134) (by decide +kernel)) rfl
theorem wd_4_135 : Cond.fieldLink RX10 (200) RX10 "line" "J" ∈ mm_tbl := wq_4 _ (List.mem_of_getElem? (i := 135) (by decide +kernel)) rfl
theorem wd_4_136 : Cond.fieldLink RX10 (69) RX10 "cost" "[I" ∈ mm_tbl := wq_4 _ (List.mem_of_getElem? (i := 136) (by decide +kernel)) rfl
theorem wd_4_137 : Cond.fieldLink RX10 (72) RX10 "given" "[I" ∈ mm_tbl := wq_4 _ (List.mem_of_getElem? (i := 137) (by decide +kernel)) rfl
theorem wd_4_138 : Cond.fieldLink RX10 (75) RX10 "stream" "[I" ∈ mm_tbl := wq_4 _ (List.mem_of_getElem? (i := 138) (by decide +kernel)) rfl
theorem wd_4_139 : Cond.fieldLink RX10 (78) RX10 "wind" "[I" ∈ mm_tbl := wq_4 _ (List.mem_of_getElem? (i := 139) (by decide +kernel)) rfl
theorem wd_4_140 : Cond.fieldLink RX10 (81) RX10 "tape" "[I" ∈ mm_tbl := wq_4 _ (List.mem_of_getElem? (i := 140) (by decide +kernel)) rfl
theorem wd_4_141 : Cond.fieldLink RX10 (246) RX10 "taped" "I" ∈ mm_tbl := wq_4 _ (List.mem_of_getElem? (i := 141) (by decide +kernel)) rfl
theorem wd_4_142 : Cond.fieldLink RX10 (284) RX10 "rules" "I" ∈ mm_tbl := wq_4 _ (List.mem_of_getElem? (i := 142) (by decide +kernel)) rfl
theorem wd_4_143 : Cond.fieldLink RX10 (293) RX10 "day" "I" ∈ mm_tbl := wq_4 _ (List.mem_of_getElem? (i := 143) (by decide +kernel)) rfl
theorem wd_4_144 : Cond.fieldLink RX10 (84) RX10 "isBar" "[Z" ∈ mm_tbl := wq_4 _ (List.mem_of_getElem? (i := 144) (by decide +kernel)) rfl
theorem wd_4_145 : Cond.fieldLink RX10 (87) RX10 "ruleKind" "[I" ∈ mm_tbl := wq_4 _ (List.mem_of_getElem? (i := 145) (by decide +kernel)) rfl
theorem wd_4_146 : Cond.fieldLink RX10 (90) RX10 "tests" "[I" ∈ mm_tbl := wq_4 _ (List.mem_of_getElem? (i := 146) (by decide +kernel)) rfl
theorem wd_4_147 : Cond.fieldLink RX10 (93) RX10 "test" "[I" ∈ mm_tbl := wq_4 _ (List.mem_of_getElem? (i := 147) (by decide +kernel)) rfl
theorem wd_4_148 : Cond.fieldLink RX10 (251) RX10 "at" "I" ∈ mm_tbl := wq_4 _ (List.mem_of_getElem? (i := 148) (by decide +kernel)) rfl
theorem wd_4_149 : Cond.fieldLink RX10 (96) RX10 "outBoat" "[I" ∈ mm_tbl := wq_4 _ (List.mem_of_getElem? (i := 149) (by decide +kernel)) rfl
theorem wd_4_150 : Cond.fieldLink RX10 (99) RX10 "outDay" "[I" ∈ mm_tbl := wq_4 _ (List.mem_of_getElem? (i := 150) (by decide +kernel)) rfl
theorem wd_4_151 : Cond.fieldLink RX10 (102) RX10 "outHour" "[I" ∈ mm_tbl := wq_4 _ (List.mem_of_getElem? (i := 151) (by decide +kernel)) rfl
theorem wd_4_152 : Cond.fieldLink RX10 (105) RX10 "outWho" "[I" ∈ mm_tbl := wq_4 _ (List.mem_of_getElem? (i := 152) (by decide +kernel)) rfl
theorem wd_4_153 : Cond.fieldLink RX10 (108) RX10 "lookBoat" "[I" ∈ mm_tbl := wq_4 _ (List.mem_of_getElem? (i := 153) (by decide +kernel)) rfl
theorem wd_4_154 : Cond.fieldLink RX10 (111) RX10 "lookAt" "[I" ∈ mm_tbl := wq_4 _ (List.mem_of_getElem? (i := 154) (by decide +kernel)) rfl
theorem wd_4_155 : Cond.fieldLink RX10 (114) RX10 "isWhole" "[Z" ∈ mm_tbl := wq_4 _ (List.mem_of_getElem? (i := 155) (by decide +kernel)) rfl
theorem wd_4_156 : Cond.fieldLink RX10 (308) RX10 "outings" "I" ∈ mm_tbl := wq_4 _ (List.mem_of_getElem? (i := 156) (by decide +kernel)) rfl
theorem wd_4_157 : Cond.fieldLink RX10 (314) RX10 "looks" "I" ∈ mm_tbl := wq_4 _ (List.mem_of_getElem? (i := 157) (by decide +kernel)) rfl
theorem wd_4_158 : Cond.fieldLink RX10 (117) RX10 "heatBoat" "[I" ∈ mm_tbl := wq_4 _ (List.mem_of_getElem? (i := 158) (by decide +kernel)) rfl
theorem wd_4_159 : Cond.fieldLink RX10 (120) RX10 "heatAt" "[I" ∈ mm_tbl := wq_4 _ (List.mem_of_getElem? (i := 159) (by decide +kernel)) rfl
theorem wd_4_160 : Cond.fieldLink RX10 (321) RX10 "heats" "I" ∈ mm_tbl := wq_4 _ (List.mem_of_getElem? (i := 160) (by decide +kernel)) rfl
theorem wd_4_161 : Cond.fieldLink RX10 (123) RX10 "near" "I" ∈ mm_tbl := wq_4 _ (List.mem_of_getElem? (i := 161) (by decide +kernel)) rfl
theorem wd_4_162 : Cond.fieldLink RX10 (127) RX10 "rackOf" "[I" ∈ mm_tbl := wq_4 _ (List.mem_of_getElem? (i := 162) (by decide +kernel)) rfl
theorem wd_4_163 : Cond.fieldLink RX10 (130) RX10 "lies" "[I" ∈ mm_tbl := wq_4 _ (List.mem_of_getElem? (i := 163) (by decide +kernel)) rfl
theorem wd_4_164 : Cond.fieldLink RX10 (133) RX10 "long3" "[I" ∈ mm_tbl := wq_4 _ (List.mem_of_getElem? (i := 164) (by decide +kernel)) rfl
theorem wd_5_32 : Cond.methodLink RL (17) yX10_oar ∈ mm_tbl := wq_5 _ (List.mem_of_getElem? (i := 32) (by decide +kernel)) rfl
theorem wd_5_33 : Cond.instanceMethod yX10_oar ∈ mm_tbl := wq_5 _ (List.mem_of_getElem? (i := 33) (by decide +kernel)) rfl
theorem wd_5_34 : Cond.selects RX10 yX10_oar yX10_oar ∈ mm_tbl := wq_5 _ (List.mem_of_getElem? (i := 34) (by decide +kernel)) rfl
theorem wd_5_35 : Cond.code yX10_oar cX10_oar (3) (some .int) ∈ mm_tbl := wq_5 _ (List.mem_of_getElem? (i := 35) (by decide +kernel)) rfl
theorem wd_5_36 : Cond.constantLong RX10 (153) (4) ∈ mm_tbl := wq_5 _ (List.mem_of_getElem? (i := 36) (by decide +kernel)) rfl
theorem wd_5_37 : Cond.methodLink RX10 (155) yX10_isIn ∈ mm_tbl := wq_5 _ (List.mem_of_getElem? (i := 37) (by decide +kernel)) rfl
theorem wd_5_38 : Cond.static yX10_isIn ∈ mm_tbl := wq_5 _ (List.mem_of_getElem? (i := 38) (by decide +kernel)) rfl
theorem wd_5_39 : Cond.code yX10_isIn cX10_isIn (6) (some .boolean) ∈ mm_tbl := wq_5 _ (List.mem_of_getElem? (i := 39) (by decide +kernel)) rfl
theorem wd_5_40 : Cond.constantLong RX10 (159) (30) ∈ mm_tbl := wq_5 _ (List.mem_of_getElem? (i := 40) (by decide +kernel)) rfl
theorem wd_5_41 : Cond.constantLong RX10 (161) (150) ∈ mm_tbl := wq_5 _ (List.mem_of_getElem? (i := 41) (by decide +kernel)) rfl
theorem wd_5_42 : Cond.methodLink RL (22) yX10_boat ∈ mm_tbl := wq_5 _ (List.mem_of_getElem? (i := 42) (by decide +kernel)) rfl
theorem wd_5_43 : Cond.instanceMethod yX10_boat ∈ mm_tbl := wq_5 _ (List.mem_of_getElem? (i := 43) (by decide +kernel)) rfl
theorem wd_5_44 : Cond.selects RX10 yX10_boat yX10_boat ∈ mm_tbl := wq_5 _ (List.mem_of_getElem? (i := 44) (by decide +kernel)) rfl
theorem wd_5_45 : Cond.code yX10_boat cX10_boat (5) (some .int) ∈ mm_tbl := wq_5 _ (List.mem_of_getElem? (i := 45) (by decide +kernel)) rfl
theorem wd_5_46 : Cond.constantLong RX10 (163) (99) ∈ mm_tbl := wq_5 _ (List.mem_of_getElem? (i := 46) (by decide +kernel)) rfl
theorem wd_5_47 : Cond.methodLink RL (26) yX10_ill ∈ mm_tbl := wq_5 _ (List.mem_of_getElem? (i := 47) (by decide +kernel)) rfl
theorem wd_5_48 : Cond.instanceMethod yX10_ill ∈ mm_tbl := wq_5 _ (List.mem_of_getElem? (i := 48) (by decide +kernel)) rfl
theorem wd_5_49 : Cond.selects RX10 yX10_ill yX10_ill ∈ mm_tbl := wq_5 _ (List.mem_of_getElem? (i := 49) (by decide +kernel)) rfl
theorem wd_5_50 : Cond.code yX10_ill cX10_ill (4) (some .int) ∈ mm_tbl := wq_5 _ (List.mem_of_getElem? (i := 50) (by decide +kernel)) rfl
theorem wd_5_51 : Cond.methodLink RX10 (165) yX10_isOar ∈ mm_tbl := wq_5 _ (List.mem_of_getElem? (i := 51) (by decide +kernel)) rfl
theorem wd_5_53 : Cond.instanceMethod yX10_isOar ∈ mm_tbl := wq_5 _ (List.mem_of_getElem? (i := 53) (by decide +kernel)) rfl
theorem wd_5_54 : Cond.code yX10_isOar cX10_isOar (2) (some .boolean) ∈ mm_tbl := wq_5 _ (List.mem_of_getElem? (i := 54) (by decide +kernel)) rfl
theorem wd_5_55 : Cond.methodLink RL (31) yX10_sit ∈ mm_tbl := wq_5 _ (List.mem_of_getElem? (i := 55) (by decide +kernel)) rfl
theorem wd_5_56 : Cond.instanceMethod yX10_sit ∈ mm_tbl := wq_5 _ (List.mem_of_getElem? (i := 56) (by decide +kernel)) rfl
theorem wd_5_57 : Cond.selects RX10 yX10_sit yX10_sit ∈ mm_tbl := wq_5 _ (List.mem_of_getElem? (i := 57) (by decide +kernel)) rfl
theorem wd_5_58 : Cond.code yX10_sit cX10_sit (5) (some .int) ∈ mm_tbl := wq_5 _ (List.mem_of_getElem? (i := 58) (by decide +kernel)) rfl
theorem wd_5_59 : Cond.methodLink RX10 (168) yX10_isSeat ∈ mm_tbl := wq_5 _ (List.mem_of_getElem? (i := 59) (by decide +kernel)) rfl
theorem wd_5_61 : Cond.instanceMethod yX10_isSeat ∈ mm_tbl := wq_5 _ (List.mem_of_getElem? (i := 61) (by decide +kernel)) rfl
theorem wd_5_62 : Cond.code yX10_isSeat cX10_isSeat (3) (some .boolean) ∈ mm_tbl := wq_5 _ (List.mem_of_getElem? (i := 62) (by decide +kernel)) rfl
theorem wd_5_63 : Cond.methodLink RX10 (142) yX10_isBoat ∈ mm_tbl := wq_5 _ (List.mem_of_getElem? (i := 63) (by decide +kernel)) rfl
theorem wd_5_65 : Cond.instanceMethod yX10_isBoat ∈ mm_tbl := wq_5 _ (List.mem_of_getElem? (i := 65) (by decide +kernel)) rfl
theorem wd_5_66 : Cond.code yX10_isBoat cX10_isBoat (2) (some .boolean) ∈ mm_tbl := wq_5 _ (List.mem_of_getElem? (i := 66) (by decide +kernel)) rfl
theorem wd_5_67 : Cond.methodLink RX10 (146) yX10_seatsOf ∈ mm_tbl := wq_5 _ (List.mem_of_getElem? (i := 67) (by decide +kernel)) rfl
theorem wd_5_69 : Cond.instanceMethod yX10_seatsOf ∈ mm_tbl := wq_5 _ (List.mem_of_getElem? (i := 69) (by decide +kernel)) rfl
theorem wd_5_70 : Cond.code yX10_seatsOf cX10_seatsOf (3) (some .int) ∈ mm_tbl := wq_5 _ (List.mem_of_getElem? (i := 70) (by decide +kernel)) rfl
theorem wd_5_71 : Cond.methodLink RX10 (150) yX10_hasCox ∈ mm_tbl := wq_5 _ (List.mem_of_getElem? (i := 71) (by decide +kernel)) rfl
theorem wd_5_73 : Cond.instanceMethod yX10_hasCox ∈ mm_tbl := wq_5 _ (List.mem_of_getElem? (i := 73) (by decide +kernel)) rfl
theorem wd_5_74 : Cond.code yX10_hasCox cX10_hasCox (2) (some .boolean) ∈ mm_tbl := wq_5 _ (List.mem_of_getElem? (i := 74) (by decide +kernel)) rfl
theorem wd_5_75 : Cond.methodLink RX10 (172) yX10_sitter ∈ mm_tbl := wq_5 _ (List.mem_of_getElem? (i := 75) (by decide +kernel)) rfl
theorem wd_5_77 : Cond.instanceMethod yX10_sitter ∈ mm_tbl := wq_5 _ (List.mem_of_getElem? (i := 77) (by decide +kernel)) rfl
theorem wd_5_78 : Cond.code yX10_sitter cX10_sitter (5) (some .int) ∈ mm_tbl := wq_5 _ (List.mem_of_getElem? (i := 78) (by decide +kernel)) rfl
theorem wd_5_79 : Cond.methodLink RL (35) yX10_seat ∈ mm_tbl := wq_5 _ (List.mem_of_getElem? (i := 79) (by decide +kernel)) rfl
theorem wd_5_80 : Cond.instanceMethod yX10_seat ∈ mm_tbl := wq_5 _ (List.mem_of_getElem? (i := 80) (by decide +kernel)) rfl
theorem wd_5_81 : Cond.selects RX10 yX10_seat yX10_seat ∈ mm_tbl := wq_5 _ (List.mem_of_getElem? (i := 81) (by decide +kernel)) rfl
theorem wd_5_82 : Cond.code yX10_seat cX10_seat (3) (some .int) ∈ mm_tbl := wq_5 _ (List.mem_of_getElem? (i := 82) (by decide +kernel)) rfl
theorem wd_5_83 : Cond.methodLink RL (39) yX10_about ∈ mm_tbl := wq_5 _ (List.mem_of_getElem? (i := 83) (by decide +kernel)) rfl
theorem wd_5_84 : Cond.instanceMethod yX10_about ∈ mm_tbl := wq_5 _ (List.mem_of_getElem? (i := 84) (by decide +kernel)) rfl
theorem wd_5_85 : Cond.selects RX10 yX10_about yX10_about ∈ mm_tbl := wq_5 _ (List.mem_of_getElem? (i := 85) (by decide +kernel)) rfl
theorem wd_5_86 : Cond.code yX10_about cX10_about (3) (some .int) ∈ mm_tbl := wq_5 _ (List.mem_of_getElem? (i := 86) (by decide +kernel)) rfl
theorem wd_5_87 : Cond.methodLink RL (43) yX10_race ∈ mm_tbl := wq_5 _ (List.mem_of_getElem? (i := 87) (by decide +kernel)) rfl
theorem wd_5_88 : Cond.instanceMethod yX10_race ∈ mm_tbl := wq_5 _ (List.mem_of_getElem? (i := 88) (by decide +kernel)) rfl
theorem wd_5_89 : Cond.selects RX10 yX10_race yX10_race ∈ mm_tbl := wq_5 _ (List.mem_of_getElem? (i := 89) (by decide +kernel)) rfl
theorem wd_5_90 : Cond.code yX10_race cX10_race (4) (some .int) ∈ mm_tbl := wq_5 _ (List.mem_of_getElem? (i := 90) (by decide +kernel)) rfl
theorem wd_5_91 : Cond.constantLong RX10 (176) (-999) ∈ mm_tbl := wq_5 _ (List.mem_of_getElem? (i := 91) (by decide +kernel)) rfl
theorem wd_5_92 : Cond.constantLong RX10 (178) (999) ∈ mm_tbl := wq_5 _ (List.mem_of_getElem? (i := 92) (by decide +kernel)) rfl
theorem wd_5_93 : Cond.methodLink RL (48) yX10_unrace ∈ mm_tbl := wq_5 _ (List.mem_of_getElem? (i := 93) (by decide +kernel)) rfl
theorem wd_5_94 : Cond.instanceMethod yX10_unrace ∈ mm_tbl := wq_5 _ (List.mem_of_getElem? (i := 94) (by decide +kernel)) rfl
theorem wd_5_95 : Cond.selects RX10 yX10_unrace yX10_unrace ∈ mm_tbl := wq_5 _ (List.mem_of_getElem? (i := 95) (by decide +kernel)) rfl
theorem wd_5_96 : Cond.code yX10_unrace cX10_unrace (1) (some .int) ∈ mm_tbl := wq_5 _ (List.mem_of_getElem? (i := 96) (by decide +kernel)) rfl
theorem wd_5_97 : Cond.methodLink RL (53) yX10_group ∈ mm_tbl := wq_5 _ (List.mem_of_getElem? (i := 97) (by decide +kernel)) rfl
theorem wd_5_98 : Cond.instanceMethod yX10_group ∈ mm_tbl := wq_5 _ (List.mem_of_getElem? (i := 98) (by decide +kernel)) rfl
theorem wd_5_99 : Cond.selects RX10 yX10_group yX10_group ∈ mm_tbl := wq_5 _ (List.mem_of_getElem? (i := 99) (by decide +kernel)) rfl
theorem wd_5_100 : Cond.code yX10_group cX10_group (2) (some .int) ∈ mm_tbl := wq_5 _ (List.mem_of_getElem? (i := 100) (by decide +kernel)) rfl
theorem wd_5_101 : Cond.methodLink RX10 (183) yX10_findGroups ∈ mm_tbl := wq_5 _ (List.mem_of_getElem? (i := 101) (by decide +kernel)) rfl
theorem wd_5_103 : Cond.instanceMethod yX10_findGroups ∈ mm_tbl := wq_5 _ (List.mem_of_getElem? (i := 103) (by decide +kernel)) rfl
theorem wd_5_104 : Cond.code yX10_findGroups cX10_findGroups (5) none ∈ mm_tbl := wq_5 _ (List.mem_of_getElem? (i := 104) (by decide +kernel)) rfl
theorem wd_5_105 : Cond.methodLink RL (58) yX10_strength ∈ mm_tbl := wq_5 _ (List.mem_of_getElem? (i := 105) (by decide +kernel)) rfl
theorem wd_5_106 : Cond.instanceMethod yX10_strength ∈ mm_tbl := wq_5 _ (List.mem_of_getElem? (i := 106) (by decide +kernel)) rfl
theorem wd_5_107 : Cond.selects RX10 yX10_strength yX10_strength ∈ mm_tbl := wq_5 _ (List.mem_of_getElem? (i := 107) (by decide +kernel)) rfl
theorem wd_5_108 : Cond.code yX10_strength cX10_strength (3) (some .long) ∈ mm_tbl := wq_5 _ (List.mem_of_getElem? (i := 108) (by decide +kernel)) rfl
theorem wd_5_109 : Cond.methodLink RX10 (208) yX10_solves ∈ mm_tbl := wq_5 _ (List.mem_of_getElem? (i := 109) (by decide +kernel)) rfl
theorem wd_5_111 : Cond.instanceMethod yX10_solves ∈ mm_tbl := wq_5 _ (List.mem_of_getElem? (i := 111) (by decide +kernel)) rfl
theorem wd_5_112 : Cond.code yX10_solves cX10_solves (4) (some .boolean) ∈ mm_tbl := wq_5 _ (List.mem_of_getElem? (i := 112) (by decide +kernel)) rfl
theorem wd_5_113 : Cond.methodLink RX10 (192) yX10_tells ∈ mm_tbl := wq_5 _ (List.mem_of_getElem? (i := 113) (by decide +kernel)) rfl
theorem wd_5_115 : Cond.instanceMethod yX10_tells ∈ mm_tbl := wq_5 _ (List.mem_of_getElem? (i := 115) (by decide +kernel)) rfl
theorem wd_5_116 : Cond.code yX10_tells cX10_tells (4) none ∈ mm_tbl := wq_5 _ (List.mem_of_getElem? (i := 116) (by decide +kernel)) rfl
theorem wd_5_117 : Cond.methodLink RX10 (196) yX10_determinant ∈ mm_tbl := wq_5 _ (List.mem_of_getElem? (i := 117) (by decide +kernel)) rfl
theorem wd_5_119 : Cond.instanceMethod yX10_determinant ∈ mm_tbl := wq_5 _ (List.mem_of_getElem? (i := 119) (by decide +kernel)) rfl
theorem wd_5_120 : Cond.code yX10_determinant cX10_determinant (7) (some .long) ∈ mm_tbl := wq_5 _ (List.mem_of_getElem? (i := 120) (by decide +kernel)) rfl
theorem wd_5_121 : Cond.methodLink RX10 (189) yX10_bits ∈ mm_tbl := wq_5 _ (List.mem_of_getElem? (i := 121) (by decide +kernel)) rfl
theorem wd_5_122 : Cond.static yX10_bits ∈ mm_tbl := wq_5 _ (List.mem_of_getElem? (i := 122) (by decide +kernel)) rfl
theorem wd_5_123 : Cond.code yX10_bits cX10_bits (3) (some .int) ∈ mm_tbl := wq_5 _ (List.mem_of_getElem? (i := 123) (by decide +kernel)) rfl
theorem wd_5_124 : Cond.constantLong RX10 (211) (-9223372036854775808) ∈ mm_tbl := wq_5 _ (List.mem_of_getElem? (i := 124) (by decide +kernel)) rfl
theorem wd_5_125 : Cond.methodLink RX10 (213) yX10_part ∈ mm_tbl := wq_5 _ (List.mem_of_getElem? (i := 125) (by decide +kernel)) rfl
theorem wd_5_126 : Cond.static yX10_part ∈ mm_tbl := wq_5 _ (List.mem_of_getElem? (i := 126) (by decide +kernel)) rfl
theorem wd_5_127 : Cond.code yX10_part cX10_part (7) (some .long) ∈ mm_tbl := wq_5 _ (List.mem_of_getElem? (i := 127) (by decide +kernel)) rfl
theorem wd_5_128 : Cond.methodLink RX10 (204) yX10_divisor ∈ mm_tbl := wq_5 _ (List.mem_of_getElem? (i := 128) (by decide +kernel)) rfl
theorem wd_5_129 : Cond.static yX10_divisor ∈ mm_tbl := wq_5 _ (List.mem_of_getElem? (i := 129) (by decide +kernel)) rfl
theorem wd_5_130 : Cond.code yX10_divisor cX10_divisor (10) (some .long) ∈ mm_tbl := wq_5 _ (List.mem_of_getElem? (i := 130) (by decide +kernel)) rfl
theorem wd_5_131 : Cond.methodLink RL (63) yX10_between ∈ mm_tbl := wq_5 _ (List.mem_of_getElem? (i := 131) (by decide +kernel)) rfl
theorem wd_5_132 : Cond.instanceMethod yX10_between ∈ mm_tbl := wq_5 _ (List.mem_of_getElem? (i := 132) (by decide +kernel)) rfl
theorem wd_5_133 : Cond.selects RX10 yX10_between yX10_between ∈ mm_tbl := wq_5 _ (List.mem_of_getElem? (i := 133) (by decide +kernel)) rfl
theorem wd_5_134 : Cond.code yX10_between cX10_between (4) (some .long) ∈ mm_tbl := wq_5 _ (List.mem_of_getElem? (i := 134) (by decide +kernel)) rfl
theorem wd_5_135 : Cond.methodLink RL (67) yX10_misfit ∈ mm_tbl := wq_5 _ (List.mem_of_getElem? (i := 135) (by decide +kernel)) rfl
theorem wd_5_136 : Cond.instanceMethod yX10_misfit ∈ mm_tbl := wq_5 _ (List.mem_of_getElem? (i := 136) (by decide +kernel)) rfl
theorem wd_5_137 : Cond.selects RX10 yX10_misfit yX10_misfit ∈ mm_tbl := wq_5 _ (List.mem_of_getElem? (i := 137) (by decide +kernel)) rfl
theorem wd_5_138 : Cond.code yX10_misfit cX10_misfit (8) (some .long) ∈ mm_tbl := wq_5 _ (List.mem_of_getElem? (i := 138) (by decide +kernel)) rfl
theorem wd_5_139 : Cond.methodLink RL (71) yX10_sure ∈ mm_tbl := wq_5 _ (List.mem_of_getElem? (i := 139) (by decide +kernel)) rfl
theorem wd_5_140 : Cond.instanceMethod yX10_sure ∈ mm_tbl := wq_5 _ (List.mem_of_getElem? (i := 140) (by decide +kernel)) rfl
theorem wd_5_141 : Cond.selects RX10 yX10_sure yX10_sure ∈ mm_tbl := wq_5 _ (List.mem_of_getElem? (i := 141) (by decide +kernel)) rfl
theorem wd_5_142 : Cond.code yX10_sure cX10_sure (7) (some .int) ∈ mm_tbl := wq_5 _ (List.mem_of_getElem? (i := 142) (by decide +kernel)) rfl
theorem wd_5_143 : Cond.methodLink RL (75) yX10_crew ∈ mm_tbl := wq_5 _ (List.mem_of_getElem? (i := 143) (by decide +kernel)) rfl
theorem wd_5_144 : Cond.instanceMethod yX10_crew ∈ mm_tbl := wq_5 _ (List.mem_of_getElem? (i := 144) (by decide +kernel)) rfl
theorem wd_5_145 : Cond.selects RX10 yX10_crew yX10_crew ∈ mm_tbl := wq_5 _ (List.mem_of_getElem? (i := 145) (by decide +kernel)) rfl
theorem wd_5_146 : Cond.code yX10_crew cX10_crew (8) (some .int) ∈ mm_tbl := wq_5 _ (List.mem_of_getElem? (i := 146) (by decide +kernel)) rfl
theorem wd_5_147 : Cond.constantLong RX10 (232) (23) ∈ mm_tbl := wq_5 _ (List.mem_of_getElem? (i := 147) (by decide +kernel)) rfl
theorem wd_5_148 : Cond.methodLink RX10 (234) yX10_fillCost ∈ mm_tbl := wq_5 _ (List.mem_of_getElem? (i := 148) (by decide +kernel)) rfl
theorem wd_5_150 : Cond.instanceMethod yX10_fillCost ∈ mm_tbl := wq_5 _ (List.mem_of_getElem? (i := 150) (by decide +kernel)) rfl
theorem wd_5_151 : Cond.code yX10_fillCost cX10_fillCost (10) none ∈ mm_tbl := wq_5 _ (List.mem_of_getElem? (i := 151) (by decide +kernel)) rfl
theorem wd_5_152 : Cond.constant RX10 (224) (1000000) ∈ mm_tbl := wq_5 _ (List.mem_of_getElem? (i := 152) (by decide +kernel)) rfl
theorem wd_5_153 : Cond.methodLink RX10 (225) yX10_canSit ∈ mm_tbl := wq_5 _ (List.mem_of_getElem? (i := 153) (by decide +kernel)) rfl
theorem wd_5_155 : Cond.instanceMethod yX10_canSit ∈ mm_tbl := wq_5 _ (List.mem_of_getElem? (i := 155) (by decide +kernel)) rfl
theorem wd_5_156 : Cond.code yX10_canSit cX10_canSit (5) (some .boolean) ∈ mm_tbl := wq_5 _ (List.mem_of_getElem? (i := 156) (by decide +kernel)) rfl
theorem wd_5_157 : Cond.methodLink RX10 (221) yX10_mayBeOut ∈ mm_tbl := wq_5 _ (List.mem_of_getElem? (i := 157) (by decide +kernel)) rfl
theorem wd_5_159 : Cond.instanceMethod yX10_mayBeOut ∈ mm_tbl := wq_5 _ (List.mem_of_getElem? (i := 159) (by decide +kernel)) rfl
theorem wd_5_160 : Cond.code yX10_mayBeOut cX10_mayBeOut (3) (some .boolean) ∈ mm_tbl := wq_5 _ (List.mem_of_getElem? (i := 160) (by decide +kernel)) rfl
theorem wd_5_161 : Cond.methodLink RX10 (229) yX10_costOf ∈ mm_tbl := wq_5 _ (List.mem_of_getElem? (i := 161) (by decide +kernel)) rfl
theorem wd_5_163 : Cond.instanceMethod yX10_costOf ∈ mm_tbl := wq_5 _ (List.mem_of_getElem? (i := 163) (by decide +kernel)) rfl
theorem wd_5_164 : Cond.code yX10_costOf cX10_costOf (5) (some .int) ∈ mm_tbl := wq_5 _ (List.mem_of_getElem? (i := 164) (by decide +kernel)) rfl
theorem wd_5_165 : Cond.methodLink RX10 (217) yX10_dislikes ∈ mm_tbl := wq_5 _ (List.mem_of_getElem? (i := 165) (by decide +kernel)) rfl
theorem wd_5_167 : Cond.instanceMethod yX10_dislikes ∈ mm_tbl := wq_5 _ (List.mem_of_getElem? (i := 167) (by decide +kernel)) rfl
theorem wd_5_168 : Cond.code yX10_dislikes cX10_dislikes (6) (some .int) ∈ mm_tbl := wq_5 _ (List.mem_of_getElem? (i := 168) (by decide +kernel)) rfl
theorem wd_5_169 : Cond.methodLink RL (79) yX10_water ∈ mm_tbl := wq_5 _ (List.mem_of_getElem? (i := 169) (by decide +kernel)) rfl
theorem wd_5_170 : Cond.instanceMethod yX10_water ∈ mm_tbl := wq_5 _ (List.mem_of_getElem? (i := 170) (by decide +kernel)) rfl
theorem wd_5_171 : Cond.selects RX10 yX10_water yX10_water ∈ mm_tbl := wq_5 _ (List.mem_of_getElem? (i := 171) (by decide +kernel)) rfl
theorem wd_5_172 : Cond.code yX10_water cX10_water (4) (some .int) ∈ mm_tbl := wq_5 _ (List.mem_of_getElem? (i := 172) (by decide +kernel)) rfl
theorem wd_5_173 : Cond.constantLong RX10 (238) (29) ∈ mm_tbl := wq_5 _ (List.mem_of_getElem? (i := 173) (by decide +kernel)) rfl
theorem wd_5_174 : Cond.constantLong RX10 (240) (200) ∈ mm_tbl := wq_5 _ (List.mem_of_getElem? (i := 174) (by decide +kernel)) rfl
theorem wd_5_175 : Cond.constantLong RX10 (242) (12) ∈ mm_tbl := wq_5 _ (List.mem_of_getElem? (i := 175) (by decide +kernel)) rfl
theorem wd_5_176 : Cond.methodLink RL (86) yX10_feed ∈ mm_tbl := wq_5 _ (List.mem_of_getElem? (i := 176) (by decide +kernel)) rfl
theorem wd_5_177 : Cond.instanceMethod yX10_feed ∈ mm_tbl := wq_5 _ (List.mem_of_getElem? (i := 177) (by decide +kernel)) rfl
theorem wd_5_178 : Cond.selects RX10 yX10_feed yX10_feed ∈ mm_tbl := wq_5 _ (List.mem_of_getElem? (i := 178) (by decide +kernel)) rfl
theorem wd_5_179 : Cond.code yX10_feed cX10_feed (5) (some .int) ∈ mm_tbl := wq_5 _ (List.mem_of_getElem? (i := 179) (by decide +kernel)) rfl
theorem wd_5_180 : Cond.constantLong RX10 (244) (8) ∈ mm_tbl := wq_5 _ (List.mem_of_getElem? (i := 180) (by decide +kernel)) rfl
theorem wd_5_181 : Cond.constantLong RX10 (249) (255) ∈ mm_tbl := wq_5 _ (List.mem_of_getElem? (i := 181) (by decide +kernel)) rfl
theorem wd_5_182 : Cond.methodLink RL (90) yX10_rule ∈ mm_tbl := wq_5 _ (List.mem_of_getElem? (i := 182) (by decide +kernel)) rfl
theorem wd_5_183 : Cond.instanceMethod yX10_rule ∈ mm_tbl := wq_5 _ (List.mem_of_getElem? (i := 183) (by decide +kernel)) rfl
theorem wd_5_184 : Cond.selects RX10 yX10_rule yX10_rule ∈ mm_tbl := wq_5 _ (List.mem_of_getElem? (i := 184) (by decide +kernel)) rfl
theorem wd_5_185 : Cond.code yX10_rule cX10_rule (2) (some .int) ∈ mm_tbl := wq_5 _ (List.mem_of_getElem? (i := 185) (by decide +kernel)) rfl
theorem wd_5_186 : Cond.methodLink RX10 (289) yX10_parses ∈ mm_tbl := wq_5 _ (List.mem_of_getElem? (i := 186) (by decide +kernel)) rfl
theorem wd_5_188 : Cond.instanceMethod yX10_parses ∈ mm_tbl := wq_5 _ (List.mem_of_getElem? (i := 188) (by decide +kernel)) rfl
theorem wd_5_189 : Cond.code yX10_parses cX10_parses (3) (some .boolean) ∈ mm_tbl := wq_5 _ (List.mem_of_getElem? (i := 189) (by decide +kernel)) rfl
theorem wd_5_190 : Cond.methodLink RX10 (278) yX10_word ∈ mm_tbl := wq_5 _ (List.mem_of_getElem? (i := 190) (by decide +kernel)) rfl
theorem wd_5_192 : Cond.instanceMethod yX10_word ∈ mm_tbl := wq_5 _ (List.mem_of_getElem? (i := 192) (by decide +kernel)) rfl
theorem wd_5_193 : Cond.code yX10_word cX10_word (7) (some .int) ∈ mm_tbl := wq_5 _ (List.mem_of_getElem? (i := 193) (by decide +kernel)) rfl
theorem wd_5_194 : Cond.methodLink RX10 (265) yX10_fits ∈ mm_tbl := wq_5 _ (List.mem_of_getElem? (i := 194) (by decide +kernel)) rfl
theorem wd_5_196 : Cond.instanceMethod yX10_fits ∈ mm_tbl := wq_5 _ (List.mem_of_getElem? (i := 196) (by decide +kernel)) rfl
theorem wd_5_197 : Cond.code yX10_fits cX10_fits (5) (some .boolean) ∈ mm_tbl := wq_5 _ (List.mem_of_getElem? (i := 197) (by decide +kernel)) rfl
theorem wd_5_198 : Cond.methodLink RX10 (268) yX10_letter ∈ mm_tbl := wq_5 _ (List.mem_of_getElem? (i := 198) (by decide +kernel)) rfl
theorem wd_5_199 : Cond.static yX10_letter ∈ mm_tbl := wq_5 _ (List.mem_of_getElem? (i := 199) (by decide +kernel)) rfl
theorem wd_5_200 : Cond.code yX10_letter cX10_letter (8) (some .int) ∈ mm_tbl := wq_5 _ (List.mem_of_getElem? (i := 200) (by decide +kernel)) rfl
theorem wd_5_201 : Cond.methodLink RX10 (254) yX10_wordOf ∈ mm_tbl := wq_5 _ (List.mem_of_getElem? (i := 201) (by decide +kernel)) rfl
theorem wd_5_202 : Cond.static yX10_wordOf ∈ mm_tbl := wq_5 _ (List.mem_of_getElem? (i := 202) (by decide +kernel)) rfl
theorem wd_5_203 : Cond.code yX10_wordOf cX10_wordOf (1) (some .long) ∈ mm_tbl := wq_5 _ (List.mem_of_getElem? (i := 203) (by decide +kernel)) rfl
theorem wd_5_204 : Cond.methodLink RX10 (259) yX10_spelled ∈ mm_tbl := wq_5 _ (List.mem_of_getElem? (i := 204) (by decide +kernel)) rfl
theorem wd_5_205 : Cond.static yX10_spelled ∈ mm_tbl := wq_5 _ (List.mem_of_getElem? (i := 205) (by decide +kernel)) rfl
theorem wd_5_206 : Cond.code yX10_spelled cX10_spelled (8) (some .long) ∈ mm_tbl := wq_5 _ (List.mem_of_getElem? (i := 206) (by decide +kernel)) rfl
theorem wd_5_207 : Cond.constantLong RX10 (263) (27) ∈ mm_tbl := wq_5 _ (List.mem_of_getElem? (i := 207) (by decide +kernel)) rfl
theorem wd_5_208 : Cond.constantLong RX10 (257) (31) ∈ mm_tbl := wq_5 _ (List.mem_of_getElem? (i := 208) (by decide +kernel)) rfl
theorem wd_5_209 : Cond.methodLink RX10 (271) yX10_sign ∈ mm_tbl := wq_5 _ (List.mem_of_getElem? (i := 209) (by decide +kernel)) rfl
theorem wd_5_211 : Cond.instanceMethod yX10_sign ∈ mm_tbl := wq_5 _ (List.mem_of_getElem? (i := 211) (by decide +kernel)) rfl
theorem wd_5_212 : Cond.code yX10_sign cX10_sign (1) (some .int) ∈ mm_tbl := wq_5 _ (List.mem_of_getElem? (i := 212) (by decide +kernel)) rfl
theorem wd_5_213 : Cond.methodLink RX10 (275) yX10_takes ∈ mm_tbl := wq_5 _ (List.mem_of_getElem? (i := 213) (by decide +kernel)) rfl
theorem wd_5_215 : Cond.instanceMethod yX10_takes ∈ mm_tbl := wq_5 _ (List.mem_of_getElem? (i := 215) (by decide +kernel)) rfl
theorem wd_5_216 : Cond.code yX10_takes cX10_takes (2) (some .boolean) ∈ mm_tbl := wq_5 _ (List.mem_of_getElem? (i := 216) (by decide +kernel)) rfl
theorem wd_5_217 : Cond.methodLink RX10 (287) yX10_test ∈ mm_tbl := wq_5 _ (List.mem_of_getElem? (i := 217) (by decide +kernel)) rfl
theorem wd_5_219 : Cond.instanceMethod yX10_test ∈ mm_tbl := wq_5 _ (List.mem_of_getElem? (i := 219) (by decide +kernel)) rfl
theorem wd_5_220 : Cond.code yX10_test cX10_test (7) (some .boolean) ∈ mm_tbl := wq_5 _ (List.mem_of_getElem? (i := 220) (by decide +kernel)) rfl
theorem wd_5_221 : Cond.methodLink RX10 (281) yX10_isDigit ∈ mm_tbl := wq_5 _ (List.mem_of_getElem? (i := 221) (by decide +kernel)) rfl
theorem wd_5_222 : Cond.static yX10_isDigit ∈ mm_tbl := wq_5 _ (List.mem_of_getElem? (i := 222) (by decide +kernel)) rfl
theorem wd_5_223 : Cond.code yX10_isDigit cX10_isDigit (1) (some .boolean) ∈ mm_tbl := wq_5 _ (List.mem_of_getElem? (i := 223) (by decide +kernel)) rfl
theorem wd_5_224 : Cond.methodLink RL (94) yX10_ruled ∈ mm_tbl := wq_5 _ (List.mem_of_getElem? (i := 224) (by decide +kernel)) rfl
theorem wd_5_225 : Cond.instanceMethod yX10_ruled ∈ mm_tbl := wq_5 _ (List.mem_of_getElem? (i := 225) (by decide +kernel)) rfl
theorem wd_5_226 : Cond.selects RX10 yX10_ruled yX10_ruled ∈ mm_tbl := wq_5 _ (List.mem_of_getElem? (i := 226) (by decide +kernel)) rfl
theorem wd_5_227 : Cond.code yX10_ruled cX10_ruled (3) (some .int) ∈ mm_tbl := wq_5 _ (List.mem_of_getElem? (i := 227) (by decide +kernel)) rfl
theorem wd_5_228 : Cond.methodLink RX10 (302) yX10_asked ∈ mm_tbl := wq_5 _ (List.mem_of_getElem? (i := 228) (by decide +kernel)) rfl
theorem wd_5_230 : Cond.instanceMethod yX10_asked ∈ mm_tbl := wq_5 _ (List.mem_of_getElem? (i := 230) (by decide +kernel)) rfl
theorem wd_5_231 : Cond.code yX10_asked cX10_asked (7) (some .int) ∈ mm_tbl := wq_5 _ (List.mem_of_getElem? (i := 231) (by decide +kernel)) rfl
theorem wd_5_232 : Cond.methodLink RX10 (299) yX10_isSo ∈ mm_tbl := wq_5 _ (List.mem_of_getElem? (i := 232) (by decide +kernel)) rfl
theorem wd_5_234 : Cond.instanceMethod yX10_isSo ∈ mm_tbl := wq_5 _ (List.mem_of_getElem? (i := 234) (by decide +kernel)) rfl
theorem wd_5_235 : Cond.code yX10_isSo cX10_isSo (6) (some .boolean) ∈ mm_tbl := wq_5 _ (List.mem_of_getElem? (i := 235) (by decide +kernel)) rfl
theorem wd_5_236 : Cond.methodLink RX10 (296) yX10_field ∈ mm_tbl := wq_5 _ (List.mem_of_getElem? (i := 236) (by decide +kernel)) rfl
theorem wd_5_238 : Cond.instanceMethod yX10_field ∈ mm_tbl := wq_5 _ (List.mem_of_getElem? (i := 238) (by decide +kernel)) rfl
theorem wd_5_239 : Cond.code yX10_field cX10_field (8) (some .int) ∈ mm_tbl := wq_5 _ (List.mem_of_getElem? (i := 239) (by decide +kernel)) rfl
theorem wd_6_0 : Cond.methodLink RL (98) yX10_may ∈ mm_tbl := wq_6 _ (List.mem_of_getElem? (i := 0) (by decide +kernel)) rfl
theorem wd_6_1 : Cond.instanceMethod yX10_may ∈ mm_tbl := wq_6 _ (List.mem_of_getElem? (i := 1) (by decide +kernel)) rfl
theorem wd_6_2 : Cond.selects RX10 yX10_may yX10_may ∈ mm_tbl := wq_6 _ (List.mem_of_getElem? (i := 2) (by decide +kernel)) rfl
theorem wd_6_3 : Cond.code yX10_may cX10_may (3) (some .int) ∈ mm_tbl := wq_6 _ (List.mem_of_getElem? (i := 3) (by decide +kernel)) rfl
theorem wd_6_4 : Cond.methodLink RX10 (305) yX10_ashore ∈ mm_tbl := wq_6 _ (List.mem_of_getElem? (i := 4) (by decide +kernel)) rfl
theorem wd_6_6 : Cond.instanceMethod yX10_ashore ∈ mm_tbl := wq_6 _ (List.mem_of_getElem? (i := 6) (by decide +kernel)) rfl
theorem wd_6_7 : Cond.code yX10_ashore cX10_ashore (6) (some .int) ∈ mm_tbl := wq_6 _ (List.mem_of_getElem? (i := 7) (by decide +kernel)) rfl
theorem wd_6_8 : Cond.methodLink RL (102) yX10_day ∈ mm_tbl := wq_6 _ (List.mem_of_getElem? (i := 8) (by decide +kernel)) rfl
theorem wd_6_9 : Cond.instanceMethod yX10_day ∈ mm_tbl := wq_6 _ (List.mem_of_getElem? (i := 9) (by decide +kernel)) rfl
theorem wd_6_10 : Cond.selects RX10 yX10_day yX10_day ∈ mm_tbl := wq_6 _ (List.mem_of_getElem? (i := 10) (by decide +kernel)) rfl
theorem wd_6_11 : Cond.code yX10_day cX10_day (3) (some .int) ∈ mm_tbl := wq_6 _ (List.mem_of_getElem? (i := 11) (by decide +kernel)) rfl
theorem wd_6_12 : Cond.methodLink RL (106) yX10_out ∈ mm_tbl := wq_6 _ (List.mem_of_getElem? (i := 12) (by decide +kernel)) rfl
theorem wd_6_13 : Cond.instanceMethod yX10_out ∈ mm_tbl := wq_6 _ (List.mem_of_getElem? (i := 13) (by decide +kernel)) rfl
theorem wd_6_14 : Cond.selects RX10 yX10_out yX10_out ∈ mm_tbl := wq_6 _ (List.mem_of_getElem? (i := 14) (by decide +kernel)) rfl
theorem wd_6_15 : Cond.code yX10_out cX10_out (3) (some .int) ∈ mm_tbl := wq_6 _ (List.mem_of_getElem? (i := 15) (by decide +kernel)) rfl
theorem wd_6_16 : Cond.methodLink RX10 (311) yX10_whoIn ∈ mm_tbl := wq_6 _ (List.mem_of_getElem? (i := 16) (by decide +kernel)) rfl
theorem wd_6_18 : Cond.instanceMethod yX10_whoIn ∈ mm_tbl := wq_6 _ (List.mem_of_getElem? (i := 18) (by decide +kernel)) rfl
theorem wd_6_19 : Cond.code yX10_whoIn cX10_whoIn (4) (some .int) ∈ mm_tbl := wq_6 _ (List.mem_of_getElem? (i := 19) (by decide +kernel)) rfl
theorem wd_6_20 : Cond.methodLink RL (110) yX10_look ∈ mm_tbl := wq_6 _ (List.mem_of_getElem? (i := 20) (by decide +kernel)) rfl
theorem wd_6_21 : Cond.instanceMethod yX10_look ∈ mm_tbl := wq_6 _ (List.mem_of_getElem? (i := 21) (by decide +kernel)) rfl
theorem wd_6_22 : Cond.selects RX10 yX10_look yX10_look ∈ mm_tbl := wq_6 _ (List.mem_of_getElem? (i := 22) (by decide +kernel)) rfl
theorem wd_6_23 : Cond.code yX10_look cX10_look (3) (some .int) ∈ mm_tbl := wq_6 _ (List.mem_of_getElem? (i := 23) (by decide +kernel)) rfl
theorem wd_6_24 : Cond.methodLink RL (114) yX10_broke ∈ mm_tbl := wq_6 _ (List.mem_of_getElem? (i := 24) (by decide +kernel)) rfl
theorem wd_6_25 : Cond.instanceMethod yX10_broke ∈ mm_tbl := wq_6 _ (List.mem_of_getElem? (i := 25) (by decide +kernel)) rfl
theorem wd_6_26 : Cond.selects RX10 yX10_broke yX10_broke ∈ mm_tbl := wq_6 _ (List.mem_of_getElem? (i := 26) (by decide +kernel)) rfl
theorem wd_6_27 : Cond.code yX10_broke cX10_broke (8) (some .int) ∈ mm_tbl := wq_6 _ (List.mem_of_getElem? (i := 27) (by decide +kernel)) rfl
theorem wd_6_28 : Cond.constantLong RX10 (317) (2) ∈ mm_tbl := wq_6 _ (List.mem_of_getElem? (i := 28) (by decide +kernel)) rfl
theorem wd_6_29 : Cond.methodLink RL (118) yX10_outing ∈ mm_tbl := wq_6 _ (List.mem_of_getElem? (i := 29) (by decide +kernel)) rfl
theorem wd_6_30 : Cond.instanceMethod yX10_outing ∈ mm_tbl := wq_6 _ (List.mem_of_getElem? (i := 30) (by decide +kernel)) rfl
theorem wd_6_31 : Cond.selects RX10 yX10_outing yX10_outing ∈ mm_tbl := wq_6 _ (List.mem_of_getElem? (i := 31) (by decide +kernel)) rfl
theorem wd_6_32 : Cond.code yX10_outing cX10_outing (3) (some .int) ∈ mm_tbl := wq_6 _ (List.mem_of_getElem? (i := 32) (by decide +kernel)) rfl
theorem wd_6_33 : Cond.methodLink RL (122) yX10_heat ∈ mm_tbl := wq_6 _ (List.mem_of_getElem? (i := 33) (by decide +kernel)) rfl
theorem wd_6_34 : Cond.instanceMethod yX10_heat ∈ mm_tbl := wq_6 _ (List.mem_of_getElem? (i := 34) (by decide +kernel)) rfl
theorem wd_6_35 : Cond.selects RX10 yX10_heat yX10_heat ∈ mm_tbl := wq_6 _ (List.mem_of_getElem? (i := 35) (by decide +kernel)) rfl
theorem wd_6_36 : Cond.code yX10_heat cX10_heat (3) (some .int) ∈ mm_tbl := wq_6 _ (List.mem_of_getElem? (i := 36) (by decide +kernel)) rfl
theorem wd_6_37 : Cond.constantLong RX10 (319) (1439) ∈ mm_tbl := wq_6 _ (List.mem_of_getElem? (i := 37) (by decide +kernel)) rfl
theorem wd_6_38 : Cond.methodLink RL (126) yX10_near ∈ mm_tbl := wq_6 _ (List.mem_of_getElem? (i := 38) (by decide +kernel)) rfl
theorem wd_6_39 : Cond.instanceMethod yX10_near ∈ mm_tbl := wq_6 _ (List.mem_of_getElem? (i := 39) (by decide +kernel)) rfl
theorem wd_6_40 : Cond.selects RX10 yX10_near yX10_near ∈ mm_tbl := wq_6 _ (List.mem_of_getElem? (i := 40) (by decide +kernel)) rfl
theorem wd_6_41 : Cond.code yX10_near cX10_near (3) (some .int) ∈ mm_tbl := wq_6 _ (List.mem_of_getElem? (i := 41) (by decide +kernel)) rfl
theorem wd_6_42 : Cond.methodLink RL (130) yX10_clashes ∈ mm_tbl := wq_6 _ (List.mem_of_getElem? (i := 42) (by decide +kernel)) rfl
theorem wd_6_43 : Cond.instanceMethod yX10_clashes ∈ mm_tbl := wq_6 _ (List.mem_of_getElem? (i := 43) (by decide +kernel)) rfl
theorem wd_6_44 : Cond.selects RX10 yX10_clashes yX10_clashes ∈ mm_tbl := wq_6 _ (List.mem_of_getElem? (i := 44) (by decide +kernel)) rfl
theorem wd_6_45 : Cond.code yX10_clashes cX10_clashes (4) (some .int) ∈ mm_tbl := wq_6 _ (List.mem_of_getElem? (i := 45) (by decide +kernel)) rfl
theorem wd_6_46 : Cond.methodLink RX10 (324) yX10_clash ∈ mm_tbl := wq_6 _ (List.mem_of_getElem? (i := 46) (by decide +kernel)) rfl
theorem wd_6_48 : Cond.instanceMethod yX10_clash ∈ mm_tbl := wq_6 _ (List.mem_of_getElem? (i := 48) (by decide +kernel)) rfl
theorem wd_6_49 : Cond.code yX10_clash cX10_clash (5) (some .boolean) ∈ mm_tbl := wq_6 _ (List.mem_of_getElem? (i := 49) (by decide +kernel)) rfl
theorem wd_6_50 : Cond.methodLink RL (134) yX10_shift ∈ mm_tbl := wq_6 _ (List.mem_of_getElem? (i := 50) (by decide +kernel)) rfl
theorem wd_6_51 : Cond.instanceMethod yX10_shift ∈ mm_tbl := wq_6 _ (List.mem_of_getElem? (i := 51) (by decide +kernel)) rfl
theorem wd_6_52 : Cond.selects RX10 yX10_shift yX10_shift ∈ mm_tbl := wq_6 _ (List.mem_of_getElem? (i := 52) (by decide +kernel)) rfl
theorem wd_6_53 : Cond.code yX10_shift cX10_shift (5) (some .int) ∈ mm_tbl := wq_6 _ (List.mem_of_getElem? (i := 53) (by decide +kernel)) rfl
theorem wd_6_54 : Cond.methodLink RL (138) yX10_trailer ∈ mm_tbl := wq_6 _ (List.mem_of_getElem? (i := 54) (by decide +kernel)) rfl
theorem wd_6_55 : Cond.instanceMethod yX10_trailer ∈ mm_tbl := wq_6 _ (List.mem_of_getElem? (i := 55) (by decide +kernel)) rfl
theorem wd_6_56 : Cond.selects RX10 yX10_trailer yX10_trailer ∈ mm_tbl := wq_6 _ (List.mem_of_getElem? (i := 56) (by decide +kernel)) rfl
theorem wd_6_57 : Cond.code yX10_trailer cX10_trailer (8) (some .int) ∈ mm_tbl := wq_6 _ (List.mem_of_getElem? (i := 57) (by decide +kernel)) rfl
theorem wd_6_58 : Cond.methodLink RX10 (327) yX10_longest ∈ mm_tbl := wq_6 _ (List.mem_of_getElem? (i := 58) (by decide +kernel)) rfl
theorem wd_6_60 : Cond.instanceMethod yX10_longest ∈ mm_tbl := wq_6 _ (List.mem_of_getElem? (i := 60) (by decide +kernel)) rfl
theorem wd_6_61 : Cond.code yX10_longest cX10_longest (5) (some .int) ∈ mm_tbl := wq_6 _ (List.mem_of_getElem? (i := 61) (by decide +kernel)) rfl
theorem wd_6_62 : Cond.methodLink RL (142) yX10_rack ∈ mm_tbl := wq_6 _ (List.mem_of_getElem? (i := 62) (by decide +kernel)) rfl
theorem wd_6_63 : Cond.instanceMethod yX10_rack ∈ mm_tbl := wq_6 _ (List.mem_of_getElem? (i := 63) (by decide +kernel)) rfl
theorem wd_6_64 : Cond.selects RX10 yX10_rack yX10_rack ∈ mm_tbl := wq_6 _ (List.mem_of_getElem? (i := 64) (by decide +kernel)) rfl
theorem wd_6_65 : Cond.code yX10_rack cX10_rack (2) (some .int) ∈ mm_tbl := wq_6 _ (List.mem_of_getElem? (i := 65) (by decide +kernel)) rfl
theorem wd_6_66 : Cond.methodLink RL (146) yX10_count ∈ mm_tbl := wq_6 _ (List.mem_of_getElem? (i := 66) (by decide +kernel)) rfl
theorem wd_6_67 : Cond.instanceMethod yX10_count ∈ mm_tbl := wq_6 _ (List.mem_of_getElem? (i := 67) (by decide +kernel)) rfl
theorem wd_6_68 : Cond.selects RX10 yX10_count yX10_count ∈ mm_tbl := wq_6 _ (List.mem_of_getElem? (i := 68) (by decide +kernel)) rfl
theorem wd_6_69 : Cond.code yX10_count cX10_count (2) (some .int) ∈ mm_tbl := wq_6 _ (List.mem_of_getElem? (i := 69) (by decide +kernel)) rfl
theorem wd_6_70 : Cond.constantLong RL (80) (4294967295) ∈ mm_tbl := wq_6 _ (List.mem_of_getElem? (i := 70) (by decide +kernel)) rfl
theorem wd_6_71 : Cond.fieldLink RJ0 (9) RJ0 "value" "[B" ∈ mm_tbl := wq_6 _ (List.mem_of_getElem? (i := 71) (by decide +kernel)) rfl
theorem wd_6_72 : Cond.fieldLink RJ0 (15) RJ0 "coder" "B" ∈ mm_tbl := wq_6 _ (List.mem_of_getElem? (i := 72) (by decide +kernel)) rfl
theorem wd_p_0 : Cond.selects RX4 yX4_numberRows yX4_numberRows ∈ mm_tbl := wq_p _ (List.mem_of_getElem? (i := 0) (by decide +kernel)) rfl
theorem wd_p_1 : Cond.selects RX4 yX4_fillCells yX4_fillCells ∈ mm_tbl := wq_p _ (List.mem_of_getElem? (i := 1) (by decide +kernel)) rfl
theorem wd_p_2 : Cond.selects RX4 yX4_addToRow yX4_addToRow ∈ mm_tbl := wq_p _ (List.mem_of_getElem? (i := 2) (by decide +kernel)) rfl
theorem wd_p_3 : Cond.selects RX4 yX4_eliminate yX4_eliminate ∈ mm_tbl := wq_p _ (List.mem_of_getElem? (i := 3) (by decide +kernel)) rfl
theorem wd_p_4 : Cond.selects RX4 yX4_clearCell yX4_clearCell ∈ mm_tbl := wq_p _ (List.mem_of_getElem? (i := 4) (by decide +kernel)) rfl
theorem wd_p_5 : Cond.selects RX4 yX4_leadOver yX4_leadOver ∈ mm_tbl := wq_p _ (List.mem_of_getElem? (i := 5) (by decide +kernel)) rfl
theorem wd_p_6 : Cond.selects RX1 yX1_fillRow yX1_fillRow ∈ mm_tbl := wq_p _ (List.mem_of_getElem? (i := 6) (by decide +kernel)) rfl
theorem wd_p_7 : Cond.selects RX1 yX1_setPrices yX1_setPrices ∈ mm_tbl := wq_p _ (List.mem_of_getElem? (i := 7) (by decide +kernel)) rfl
theorem wd_p_8 : Cond.selects RX1 yX1_choose yX1_choose ∈ mm_tbl := wq_p _ (List.mem_of_getElem? (i := 8) (by decide +kernel)) rfl
theorem wd_p_9 : Cond.selects RX8 yX8_countSame yX8_countSame ∈ mm_tbl := wq_p _ (List.mem_of_getElem? (i := 9) (by decide +kernel)) rfl
theorem wd_p_10 : Cond.selects RX7 yX7_readTests yX7_readTests ∈ mm_tbl := wq_p _ (List.mem_of_getElem? (i := 10) (by decide +kernel)) rfl
theorem wd_p_11 : Cond.selects RX7 yX7_readTest yX7_readTest ∈ mm_tbl := wq_p _ (List.mem_of_getElem? (i := 11) (by decide +kernel)) rfl
theorem wd_p_12 : Cond.selects RX9 yX9_askedRule yX9_askedRule ∈ mm_tbl := wq_p _ (List.mem_of_getElem? (i := 12) (by decide +kernel)) rfl
theorem wd_p_13 : Cond.selects RX7 yX7_testsHold yX7_testsHold ∈ mm_tbl := wq_p _ (List.mem_of_getElem? (i := 13) (by decide +kernel)) rfl
theorem wd_p_14 : Cond.selects RX7 yX7_isSo yX7_isSo ∈ mm_tbl := wq_p _ (List.mem_of_getElem? (i := 14) (by decide +kernel)) rfl
theorem wd_p_15 : Cond.selects RX9 yX9_whyAshore yX9_whyAshore ∈ mm_tbl := wq_p _ (List.mem_of_getElem? (i := 15) (by decide +kernel)) rfl
theorem wd_p_16 : Cond.selects RX3 yX3_latestLook yX3_latestLook ∈ mm_tbl := wq_p _ (List.mem_of_getElem? (i := 16) (by decide +kernel)) rfl
theorem wd_p_17 : Cond.selects RX3 yX3_firstBehind yX3_firstBehind ∈ mm_tbl := wq_p _ (List.mem_of_getElem? (i := 17) (by decide +kernel)) rfl
theorem wd_p_18 : Cond.selects RX2 yX2_wouldClash yX2_wouldClash ∈ mm_tbl := wq_p _ (List.mem_of_getElem? (i := 18) (by decide +kernel)) rfl
theorem wd_p_19 : Cond.selects RX2 yX2_firstClash yX2_firstClash ∈ mm_tbl := wq_p _ (List.mem_of_getElem? (i := 19) (by decide +kernel)) rfl
theorem wd_p_20 : Cond.selects RX5 yX5_longestRow yX5_longestRow ∈ mm_tbl := wq_p _ (List.mem_of_getElem? (i := 20) (by decide +kernel)) rfl
theorem wd_p_21 : Cond.selects RX10 yX10_isOar yX10_isOar ∈ mm_tbl := wq_p _ (List.mem_of_getElem? (i := 21) (by decide +kernel)) rfl
theorem wd_p_22 : Cond.selects RX10 yX10_isSeat yX10_isSeat ∈ mm_tbl := wq_p _ (List.mem_of_getElem? (i := 22) (by decide +kernel)) rfl
theorem wd_p_23 : Cond.selects RX10 yX10_isBoat yX10_isBoat ∈ mm_tbl := wq_p _ (List.mem_of_getElem? (i := 23) (by decide +kernel)) rfl
theorem wd_p_24 : Cond.selects RX10 yX10_seatsOf yX10_seatsOf ∈ mm_tbl := wq_p _ (List.mem_of_getElem? (i := 24) (by decide +kernel)) rfl
theorem wd_p_25 : Cond.selects RX10 yX10_hasCox yX10_hasCox ∈ mm_tbl := wq_p _ (List.mem_of_getElem? (i := 25) (by decide +kernel)) rfl
theorem wd_p_26 : Cond.selects RX10 yX10_sitter yX10_sitter ∈ mm_tbl := wq_p _ (List.mem_of_getElem? (i := 26) (by decide +kernel)) rfl
theorem wd_p_27 : Cond.selects RX10 yX10_findGroups yX10_findGroups ∈ mm_tbl := wq_p _ (List.mem_of_getElem? (i := 27) (by decide +kernel)) rfl
theorem wd_p_28 : Cond.selects RX10 yX10_solves yX10_solves ∈ mm_tbl := wq_p _ (List.mem_of_getElem? (i := 28) (by decide +kernel)) rfl
theorem wd_p_29 : Cond.selects RX10 yX10_tells yX10_tells ∈ mm_tbl := wq_p _ (List.mem_of_getElem? (i := 29) (by decide +kernel)) rfl
theorem wd_p_30 : Cond.selects RX10 yX10_determinant yX10_determinant ∈ mm_tbl := wq_p _ (List.mem_of_getElem? (i := 30) (by decide +kernel)) rfl
theorem wd_p_31 : Cond.selects RX10 yX10_fillCost yX10_fillCost ∈ mm_tbl := wq_p _ (List.mem_of_getElem? (i := 31) (by decide +kernel)) rfl
theorem wd_p_32 : Cond.selects RX10 yX10_canSit yX10_canSit ∈ mm_tbl := wq_p _ (List.mem_of_getElem? (i := 32) (by decide +kernel)) rfl
theorem wd_p_33 : Cond.selects RX10 yX10_mayBeOut yX10_mayBeOut ∈ mm_tbl := wq_p _ (List.mem_of_getElem? (i := 33) (by decide +kernel)) rfl
theorem wd_p_34 : Cond.selects RX10 yX10_costOf yX10_costOf ∈ mm_tbl := wq_p _ (List.mem_of_getElem? (i := 34) (by decide +kernel)) rfl
theorem wd_p_35 : Cond.selects RX10 yX10_dislikes yX10_dislikes ∈ mm_tbl := wq_p _ (List.mem_of_getElem? (i := 35) (by decide +kernel)) rfl
theorem wd_p_36 : Cond.selects RX10 yX10_parses yX10_parses ∈ mm_tbl := wq_p _ (List.mem_of_getElem? (i := 36) (by decide +kernel)) rfl
theorem wd_p_37 : Cond.selects RX10 yX10_word yX10_word ∈ mm_tbl := wq_p _ (List.mem_of_getElem? (i := 37) (by decide +kernel)) rfl
theorem wd_p_38 : Cond.selects RX10 yX10_fits yX10_fits ∈ mm_tbl := wq_p _ (List.mem_of_getElem? (i := 38) (by decide +kernel)) rfl
theorem wd_p_39 : Cond.selects RX10 yX10_sign yX10_sign ∈ mm_tbl := wq_p _ (List.mem_of_getElem? (i := 39) (by decide +kernel)) rfl
theorem wd_p_40 : Cond.selects RX10 yX10_takes yX10_takes ∈ mm_tbl := wq_p _ (List.mem_of_getElem? (i := 40) (by decide +kernel)) rfl
theorem wd_p_41 : Cond.selects RX10 yX10_test yX10_test ∈ mm_tbl := wq_p _ (List.mem_of_getElem? (i := 41) (by decide +kernel)) rfl
theorem wd_p_42 : Cond.selects RX10 yX10_asked yX10_asked ∈ mm_tbl := wq_p _ (List.mem_of_getElem? (i := 42) (by decide +kernel)) rfl
theorem wd_p_43 : Cond.selects RX10 yX10_isSo yX10_isSo ∈ mm_tbl := wq_p _ (List.mem_of_getElem? (i := 43) (by decide +kernel)) rfl
theorem wd_p_44 : Cond.selects RX10 yX10_field yX10_field ∈ mm_tbl := wq_p _ (List.mem_of_getElem? (i := 44) (by decide +kernel)) rfl
theorem wd_p_45 : Cond.selects RX10 yX10_ashore yX10_ashore ∈ mm_tbl := wq_p _ (List.mem_of_getElem? (i := 45) (by decide +kernel)) rfl
theorem wd_p_46 : Cond.selects RX10 yX10_whoIn yX10_whoIn ∈ mm_tbl := wq_p _ (List.mem_of_getElem? (i := 46) (by decide +kernel)) rfl
theorem wd_p_47 : Cond.selects RX10 yX10_clash yX10_clash ∈ mm_tbl := wq_p _ (List.mem_of_getElem? (i := 47) (by decide +kernel)) rfl
theorem wd_p_48 : Cond.selects RX10 yX10_longest yX10_longest ∈ mm_tbl := wq_p _ (List.mem_of_getElem? (i := 48) (by decide +kernel)) rfl
end
section
def op_J0_charAt_5068e_0 : List (Nat × Instr × Nat) := [(0, .aload_n 0, 1), (1, .invokevirtual 492, 3), (4, .ifCond .eq 12, 3), (7, .aload_n 0, 1), (8, .getfield 9, 3), (11, .iload_n 1, 1), (12, .invokestatic 495, 3), (15, .ireturn, 1), (16, .aload_n 0, 1), (17, .getfield 9, 3), (20, .iload_n 1, 1), (21, .invokestatic 498, 3), (24, .ireturn, 1)]
theorem od_J0_charAt_5068e_0 : ∀ q ∈ op_J0_charAt_5068e_0, decode cJ0_charAt_5068e q.1 = .ok q.2 := by decide +kernel
def op_J0_checkIndex_df160_0 : List (Nat × Instr × Nat) := [(0, .iload_n 0, 1), (1, .iload_n 1, 1), (2, .getstatic 1053, 3), (5, .invokestatic 1059, 3), (8, .pop, 1), (9, .return_, 1)]
theorem od_J0_checkIndex_df160_0 : ∀ q ∈ op_J0_checkIndex_df160_0, decode cJ0_checkIndex_df160 q.1 = .ok q.2 := by decide +kernel
def op_J0_coder_7d493_0 : List (Nat × Instr × Nat) := [(0, .getstatic 38, 3), (3, .ifCond .eq 10, 3), (6, .aload_n 0, 1), (7, .getfield 15, 3), (10, .goto 4, 3), (13, .iconst 1, 1), (14, .ireturn, 1)]
theorem od_J0_coder_7d493_0 : ∀ q ∈ op_J0_coder_7d493_0, decode cJ0_coder_7d493 q.1 = .ok q.2 := by decide +kernel
def op_J0_isLatin1_aae02_0 : List (Nat × Instr × Nat) := [(0, .getstatic 38, 3), (3, .ifCond .eq 14, 3), (6, .aload_n 0, 1), (7, .getfield 15, 3), (10, .ifCond .ne 7, 3), (13, .iconst 1, 1), (14, .goto 4, 3), (17, .iconst 0, 1), (18, .ireturn, 1)]
theorem od_J0_isLatin1_aae02_0 : ∀ q ∈ op_J0_isLatin1_aae02_0, decode cJ0_isLatin1_aae02 q.1 = .ok q.2 := by decide +kernel
def op_J0_length_8abf5_0 : List (Nat × Instr × Nat) := [(0, .aload_n 0, 1), (1, .getfield 9, 3), (4, .arraylength, 1), (5, .aload_n 0, 1), (6, .invokevirtual 335, 3), (9, .ishr, 1), (10, .ireturn, 1)]
theorem od_J0_length_8abf5_0 : ∀ q ∈ op_J0_length_8abf5_0, decode cJ0_length_8abf5 q.1 = .ok q.2 := by decide +kernel
def op_J1_charAt_3b067_0 : List (Nat × Instr × Nat) := [(0, .iload_n 1, 1), (1, .aload_n 0, 1), (2, .arraylength, 1), (3, .invokestatic 9, 3), (6, .aload_n 0, 1), (7, .iload_n 1, 1), (8, .baload, 1), (9, .sipush 255, 3), (12, .iand, 1), (13, .i2c, 1), (14, .ireturn, 1)]
theorem od_J1_charAt_3b067_0 : ∀ q ∈ op_J1_charAt_3b067_0, decode cJ1_charAt_3b067 q.1 = .ok q.2 := by decide +kernel
def op_J2_charAt_3b067_0 : List (Nat × Instr × Nat) := [(0, .iload_n 1, 1), (1, .aload_n 0, 1), (2, .invokestatic 67, 3), (5, .aload_n 0, 1), (6, .iload_n 1, 1), (7, .invokestatic 71, 3), (10, .ireturn, 1)]
theorem od_J2_charAt_3b067_0 : ∀ q ∈ op_J2_charAt_3b067_0, decode cJ2_charAt_3b067 q.1 = .ok q.2 := by decide +kernel
def op_J2_checkIndex_2214a_0 : List (Nat × Instr × Nat) := [(0, .iload_n 0, 1), (1, .aload_n 1, 1), (2, .invokestatic 48, 3), (5, .invokestatic 414, 3), (8, .return_, 1)]
theorem od_J2_checkIndex_2214a_0 : ∀ q ∈ op_J2_checkIndex_2214a_0, decode cJ2_checkIndex_2214a q.1 = .ok q.2 := by decide +kernel
def op_J2_getChar_3b067_0 : List (Nat × Instr × Nat) := [(0, .getstatic 44, 3), (3, .ifCond .ne 25, 3), (6, .iload_n 1, 1), (7, .ifCond .lt 11, 3), (10, .iload_n 1, 1), (11, .aload_n 0, 1), (12, .invokestatic 48, 3), (15, .if_icmp .lt 13, 3), (18, .new 52, 3), (21, .dup, 1), (22, .ldc 54, 2), (24, .invokespecial 56, 3), (27, .athrow, 1), (28, .iload_n 1, 1), (29, .iconst 1, 1), (30, .ishl, 1), (31, .istore_n 1, 1), (32, .aload_n 0, 1), (33, .iload_n 1, 1), (34, .iinc 1 1, 3), (37, .baload, 1), (38, .sipush 255, 3), (41, .iand, 1), (42, .getstatic 59, 3), (45, .ishl, 1), (46, .aload_n 0, 1), (47, .iload_n 1, 1), (48, .baload, 1), (49, .sipush 255, 3), (52, .iand, 1), (53, .getstatic 63, 3), (56, .ishl, 1), (57, .ior, 1), (58, .i2c, 1), (59, .ireturn, 1)]
theorem od_J2_getChar_3b067_0 : ∀ q ∈ op_J2_getChar_3b067_0, decode cJ2_getChar_3b067 q.1 = .ok q.2 := by decide +kernel
def op_J2_length_9d52b_0 : List (Nat × Instr × Nat) := [(0, .aload_n 0, 1), (1, .arraylength, 1), (2, .iconst 1, 1), (3, .ishr, 1), (4, .ireturn, 1)]
theorem od_J2_length_9d52b_0 : ∀ q ∈ op_J2_length_9d52b_0, decode cJ2_length_9d52b q.1 = .ok q.2 := by decide +kernel
def op_J3_checkIndex_8e157_0 : List (Nat × Instr × Nat) := [(0, .iload_n 0, 1), (1, .ifCond .lt 8, 3), (4, .iload_n 0, 1), (5, .iload_n 1, 1), (6, .if_icmp .lt 10, 3), (9, .aload_n 2, 1), (10, .iload_n 0, 1), (11, .iload_n 1, 1), (12, .invokestatic 95, 3), (15, .athrow, 1), (16, .iload_n 0, 1), (17, .ireturn, 1)]
theorem od_J3_checkIndex_8e157_0 : ∀ q ∈ op_J3_checkIndex_8e157_0, decode cJ3_checkIndex_8e157 q.1 = .ok q.2 := by decide +kernel
def op_J6_bitCount_0f7a4_0 : List (Nat × Instr × Nat) := [(0, .iload_n 0, 1), (1, .iload_n 0, 1), (2, .iconst 1, 1), (3, .iushr, 1), (4, .ldc_w 265, 3), (7, .iand, 1), (8, .isub, 1), (9, .istore_n 0, 1), (10, .iload_n 0, 1), (11, .ldc_w 266, 3), (14, .iand, 1), (15, .iload_n 0, 1), (16, .iconst 2, 1), (17, .iushr, 1), (18, .ldc_w 266, 3), (21, .iand, 1), (22, .iadd, 1), (23, .istore_n 0, 1), (24, .iload_n 0, 1), (25, .iload_n 0, 1), (26, .iconst 4, 1), (27, .iushr, 1), (28, .iadd, 1), (29, .ldc_w 267, 3), (32, .iand, 1), (33, .istore_n 0, 1), (34, .iload_n 0, 1), (35, .iload_n 0, 1), (36, .bipush 8, 2), (38, .iushr, 1), (39, .iadd, 1), (40, .istore_n 0, 1), (41, .iload_n 0, 1), (42, .iload_n 0, 1), (43, .bipush 16, 2), (45, .iushr, 1), (46, .iadd, 1), (47, .istore_n 0, 1), (48, .iload_n 0, 1), (49, .bipush 63, 2), (51, .iand, 1), (52, .ireturn, 1)]
theorem od_J6_bitCount_0f7a4_0 : ∀ q ∈ op_J6_bitCount_0f7a4_0, decode cJ6_bitCount_0f7a4 q.1 = .ok q.2 := by decide +kernel
def op_J7_fill_53178_0 : List (Nat × Instr × Nat) := [(0, .iconst 0, 1), (1, .istore_n 2, 1), (2, .aload_n 0, 1), (3, .arraylength, 1), (4, .istore_n 3, 1), (5, .iload_n 2, 1), (6, .iload_n 3, 1), (7, .if_icmp .ge 13, 3), (10, .aload_n 0, 1), (11, .iload_n 2, 1), (12, .iload_n 1, 1), (13, .iastore, 1), (14, .iinc 2 1, 3), (17, .goto (-12), 3), (20, .return_, 1)]
theorem od_J7_fill_53178_0 : ∀ q ∈ op_J7_fill_53178_0, decode cJ7_fill_53178 q.1 = .ok q.2 := by decide +kernel
def op_J7_fill_d0a16_0 : List (Nat × Instr × Nat) := [(0, .iconst 0, 1), (1, .istore_n 3, 1), (2, .aload_n 0, 1), (3, .arraylength, 1), (4, .istore 4, 2), (6, .iload_n 3, 1), (7, .iload 4, 2), (9, .if_icmp .ge 13, 3), (12, .aload_n 0, 1), (13, .iload_n 3, 1), (14, .lload_n 1, 1), (15, .lastore, 1), (16, .iinc 3 1, 3), (19, .goto (-13), 3), (22, .return_, 1)]
theorem od_J7_fill_d0a16_0 : ∀ q ∈ op_J7_fill_d0a16_0, decode cJ7_fill_d0a16 q.1 = .ok q.2 := by decide +kernel
def op_J9_abs_067f4_0 : List (Nat × Instr × Nat) := [(0, .lload_n 0, 1), (1, .lconst 0, 1), (2, .lcmp, 1), (3, .ifCond .ge 8, 3), (6, .lload_n 0, 1), (7, .lneg, 1), (8, .goto 4, 3), (11, .lload_n 0, 1), (12, .lreturn, 1)]
theorem od_J9_abs_067f4_0 : ∀ q ∈ op_J9_abs_067f4_0, decode cJ9_abs_067f4 q.1 = .ok q.2 := by decide +kernel
def op_J9_abs_0f7a4_0 : List (Nat × Instr × Nat) := [(0, .iload_n 0, 1), (1, .ifCond .ge 8, 3), (4, .iload_n 0, 1), (5, .ineg, 1), (6, .goto 4, 3), (9, .iload_n 0, 1), (10, .ireturn, 1)]
theorem od_J9_abs_0f7a4_0 : ∀ q ∈ op_J9_abs_0f7a4_0, decode cJ9_abs_0f7a4 q.1 = .ok q.2 := by decide +kernel
def op_J9_max_7cf53_0 : List (Nat × Instr × Nat) := [(0, .iload_n 0, 1), (1, .iload_n 1, 1), (2, .if_icmp .lt 7, 3), (5, .iload_n 0, 1), (6, .goto 4, 3), (9, .iload_n 1, 1), (10, .ireturn, 1)]
theorem od_J9_max_7cf53_0 : ∀ q ∈ op_J9_max_7cf53_0, decode cJ9_max_7cf53 q.1 = .ok q.2 := by decide +kernel
def op_J9_min_7cf53_0 : List (Nat × Instr × Nat) := [(0, .iload_n 0, 1), (1, .iload_n 1, 1), (2, .if_icmp .gt 7, 3), (5, .iload_n 0, 1), (6, .goto 4, 3), (9, .iload_n 1, 1), (10, .ireturn, 1)]
theorem od_J9_min_7cf53_0 : ∀ q ∈ op_J9_min_7cf53_0, decode cJ9_min_7cf53 q.1 = .ok q.2 := by decide +kernel
def op_L_law_0 : List (Nat × Instr × Nat) := [(0, .new 7, 3), (3, .dup, 1), (4, .invokespecial 9, 3), (7, .astore_n 1, 1), (8, .new 10, 3), (11, .dup, 1), (12, .invokespecial 12, 3), (15, .astore_n 2, 1), (16, .iconst 0, 1), (17, .istore_n 3, 1), (18, .iload_n 3, 1), (19, .aload_n 0, 1), (20, .arraylength, 1), (21, .iconst 5, 1), (22, .isub, 1), (23, .if_icmp .gt 1161, 3), (26, .aload_n 0, 1), (27, .iload_n 3, 1), (28, .iaload, 1), (29, .bipush 31, 2), (31, .iand, 1), (32, .tableswitch 1146 0 30 #[140, 173, 226, 259, 302, 335, 368, 411, 424, 447, 481, 525, 559, 592, 635, 678, 741, 754, 787, 820, 843, 876, 909, 942, 975, 1008, 1031, 1044, 1067, 1100, 1123], 140), (172, .aload_n 1, 1), (173, .aload_n 0, 1), (174, .iload_n 3, 1), (175, .iconst 1, 1), (176, .iadd, 1), (177, .iaload, 1), (178, .aload_n 0, 1), (179, .iload_n 3, 1), (180, .iconst 2, 1), (181, .iadd, 1), (182, .iaload, 1), (183, .invokevirtual 13, 3), (186, .aload_n 2, 1), (187, .aload_n 0, 1), (188, .iload_n 3, 1), (189, .iconst 1, 1), (190, .iadd, 1), (191, .iaload, 1), (192, .aload_n 0, 1), (193, .iload_n 3, 1), (194, .iconst 2, 1), (195, .iadd, 1), (196, .iaload, 1), (197, .invokevirtual 17, 3), (200, .if_icmp .eq 978, 3), (203, .iconst 0, 1), (204, .ireturn, 1), (205, .aload_n 1, 1), (206, .aload_n 0, 1), (207, .iload_n 3, 1), (208, .iconst 1, 1), (209, .iadd, 1), (210, .iaload, 1), (211, .aload_n 0, 1), (212, .iload_n 3, 1), (213, .iconst 2, 1), (214, .iadd, 1), (215, .iaload, 1)]
theorem od_L_law_0 : ∀ q ∈ op_L_law_0, decode cL_law q.1 = .ok q.2 := by decide +kernel
def op_L_law_1 : List (Nat × Instr × Nat) := [(216, .aload_n 0, 1), (217, .iload_n 3, 1), (218, .iconst 3, 1), (219, .iadd, 1), (220, .iaload, 1), (221, .aload_n 0, 1), (222, .iload_n 3, 1), (223, .iconst 4, 1), (224, .iadd, 1), (225, .iaload, 1), (226, .invokevirtual 18, 3), (229, .aload_n 2, 1), (230, .aload_n 0, 1), (231, .iload_n 3, 1), (232, .iconst 1, 1), (233, .iadd, 1), (234, .iaload, 1), (235, .aload_n 0, 1), (236, .iload_n 3, 1), (237, .iconst 2, 1), (238, .iadd, 1), (239, .iaload, 1), (240, .aload_n 0, 1), (241, .iload_n 3, 1), (242, .iconst 3, 1), (243, .iadd, 1), (244, .iaload, 1), (245, .aload_n 0, 1), (246, .iload_n 3, 1), (247, .iconst 4, 1), (248, .iadd, 1), (249, .iaload, 1), (250, .invokevirtual 22, 3), (253, .if_icmp .eq 925, 3), (256, .iconst 0, 1), (257, .ireturn, 1), (258, .aload_n 1, 1), (259, .aload_n 0, 1), (260, .iload_n 3, 1), (261, .iconst 1, 1), (262, .iadd, 1), (263, .iaload, 1), (264, .aload_n 0, 1), (265, .iload_n 3, 1), (266, .iconst 2, 1), (267, .iadd, 1), (268, .iaload, 1), (269, .invokevirtual 23, 3), (272, .aload_n 2, 1), (273, .aload_n 0, 1), (274, .iload_n 3, 1), (275, .iconst 1, 1), (276, .iadd, 1), (277, .iaload, 1), (278, .aload_n 0, 1), (279, .iload_n 3, 1), (280, .iconst 2, 1), (281, .iadd, 1), (282, .iaload, 1), (283, .invokevirtual 26, 3)]
theorem od_L_law_1 : ∀ q ∈ op_L_law_1, decode cL_law q.1 = .ok q.2 := by decide +kernel
def op_L_law_2 : List (Nat × Instr × Nat) := [(286, .if_icmp .eq 892, 3), (289, .iconst 0, 1), (290, .ireturn, 1), (291, .aload_n 1, 1), (292, .aload_n 0, 1), (293, .iload_n 3, 1), (294, .iconst 1, 1), (295, .iadd, 1), (296, .iaload, 1), (297, .aload_n 0, 1), (298, .iload_n 3, 1), (299, .iconst 2, 1), (300, .iadd, 1), (301, .iaload, 1), (302, .aload_n 0, 1), (303, .iload_n 3, 1), (304, .iconst 3, 1), (305, .iadd, 1), (306, .iaload, 1), (307, .invokevirtual 27, 3), (310, .aload_n 2, 1), (311, .aload_n 0, 1), (312, .iload_n 3, 1), (313, .iconst 1, 1), (314, .iadd, 1), (315, .iaload, 1), (316, .aload_n 0, 1), (317, .iload_n 3, 1), (318, .iconst 2, 1), (319, .iadd, 1), (320, .iaload, 1), (321, .aload_n 0, 1), (322, .iload_n 3, 1), (323, .iconst 3, 1), (324, .iadd, 1), (325, .iaload, 1), (326, .invokevirtual 31, 3), (329, .if_icmp .eq 849, 3), (332, .iconst 0, 1), (333, .ireturn, 1), (334, .aload_n 1, 1), (335, .aload_n 0, 1), (336, .iload_n 3, 1), (337, .iconst 1, 1), (338, .iadd, 1), (339, .iaload, 1), (340, .aload_n 0, 1), (341, .iload_n 3, 1), (342, .iconst 2, 1), (343, .iadd, 1), (344, .iaload, 1), (345, .invokevirtual 32, 3), (348, .aload_n 2, 1), (349, .aload_n 0, 1), (350, .iload_n 3, 1), (351, .iconst 1, 1), (352, .iadd, 1), (353, .iaload, 1), (354, .aload_n 0, 1), (355, .iload_n 3, 1)]
theorem od_L_law_2 : ∀ q ∈ op_L_law_2, decode cL_law q.1 = .ok q.2 := by decide +kernel
def op_L_law_3 : List (Nat × Instr × Nat) := [(356, .iconst 2, 1), (357, .iadd, 1), (358, .iaload, 1), (359, .invokevirtual 35, 3), (362, .if_icmp .eq 816, 3), (365, .iconst 0, 1), (366, .ireturn, 1), (367, .aload_n 1, 1), (368, .aload_n 0, 1), (369, .iload_n 3, 1), (370, .iconst 1, 1), (371, .iadd, 1), (372, .iaload, 1), (373, .aload_n 0, 1), (374, .iload_n 3, 1), (375, .iconst 2, 1), (376, .iadd, 1), (377, .iaload, 1), (378, .invokevirtual 36, 3), (381, .aload_n 2, 1), (382, .aload_n 0, 1), (383, .iload_n 3, 1), (384, .iconst 1, 1), (385, .iadd, 1), (386, .iaload, 1), (387, .aload_n 0, 1), (388, .iload_n 3, 1), (389, .iconst 2, 1), (390, .iadd, 1), (391, .iaload, 1), (392, .invokevirtual 39, 3), (395, .if_icmp .eq 783, 3), (398, .iconst 0, 1), (399, .ireturn, 1), (400, .aload_n 1, 1), (401, .aload_n 0, 1), (402, .iload_n 3, 1), (403, .iconst 1, 1), (404, .iadd, 1), (405, .iaload, 1), (406, .aload_n 0, 1), (407, .iload_n 3, 1), (408, .iconst 2, 1), (409, .iadd, 1), (410, .iaload, 1), (411, .aload_n 0, 1), (412, .iload_n 3, 1), (413, .iconst 3, 1), (414, .iadd, 1), (415, .iaload, 1), (416, .invokevirtual 40, 3), (419, .aload_n 2, 1), (420, .aload_n 0, 1), (421, .iload_n 3, 1), (422, .iconst 1, 1), (423, .iadd, 1), (424, .iaload, 1), (425, .aload_n 0, 1), (426, .iload_n 3, 1), (427, .iconst 2, 1)]
theorem od_L_law_3 : ∀ q ∈ op_L_law_3, decode cL_law q.1 = .ok q.2 := by decide +kernel
def op_L_law_4 : List (Nat × Instr × Nat) := [(428, .iadd, 1), (429, .iaload, 1), (430, .aload_n 0, 1), (431, .iload_n 3, 1), (432, .iconst 3, 1), (433, .iadd, 1), (434, .iaload, 1), (435, .invokevirtual 43, 3), (438, .if_icmp .eq 740, 3), (441, .iconst 0, 1), (442, .ireturn, 1), (443, .aload_n 1, 1), (444, .invokevirtual 44, 3), (447, .aload_n 2, 1), (448, .invokevirtual 48, 3), (451, .if_icmp .eq 727, 3), (454, .iconst 0, 1), (455, .ireturn, 1), (456, .aload_n 1, 1), (457, .aload_n 0, 1), (458, .iload_n 3, 1), (459, .iconst 1, 1), (460, .iadd, 1), (461, .iaload, 1), (462, .invokevirtual 49, 3), (465, .aload_n 2, 1), (466, .aload_n 0, 1), (467, .iload_n 3, 1), (468, .iconst 1, 1), (469, .iadd, 1), (470, .iaload, 1), (471, .invokevirtual 53, 3), (474, .if_icmp .eq 704, 3), (477, .iconst 0, 1), (478, .ireturn, 1), (479, .aload_n 1, 1), (480, .aload_n 0, 1), (481, .iload_n 3, 1), (482, .iconst 1, 1), (483, .iadd, 1), (484, .iaload, 1), (485, .aload_n 0, 1), (486, .iload_n 3, 1), (487, .iconst 2, 1), (488, .iadd, 1), (489, .iaload, 1), (490, .invokevirtual 54, 3), (493, .aload_n 2, 1), (494, .aload_n 0, 1), (495, .iload_n 3, 1), (496, .iconst 1, 1), (497, .iadd, 1), (498, .iaload, 1), (499, .aload_n 0, 1), (500, .iload_n 3, 1), (501, .iconst 2, 1), (502, .iadd, 1), (503, .iaload, 1), (504, .invokevirtual 58, 3), (507, .lcmp, 1)]
theorem od_L_law_4 : ∀ q ∈ op_L_law_4, decode cL_law q.1 = .ok q.2 := by decide +kernel
def op_L_law_5 : List (Nat × Instr × Nat) := [(508, .ifCond .eq 670, 3), (511, .iconst 0, 1), (512, .ireturn, 1), (513, .aload_n 1, 1), (514, .aload_n 0, 1), (515, .iload_n 3, 1), (516, .iconst 1, 1), (517, .iadd, 1), (518, .iaload, 1), (519, .aload_n 0, 1), (520, .iload_n 3, 1), (521, .iconst 2, 1), (522, .iadd, 1), (523, .iaload, 1), (524, .aload_n 0, 1), (525, .iload_n 3, 1), (526, .iconst 3, 1), (527, .iadd, 1), (528, .iaload, 1), (529, .invokevirtual 59, 3), (532, .aload_n 2, 1), (533, .aload_n 0, 1), (534, .iload_n 3, 1), (535, .iconst 1, 1), (536, .iadd, 1), (537, .iaload, 1), (538, .aload_n 0, 1), (539, .iload_n 3, 1), (540, .iconst 2, 1), (541, .iadd, 1), (542, .iaload, 1), (543, .aload_n 0, 1), (544, .iload_n 3, 1), (545, .iconst 3, 1), (546, .iadd, 1), (547, .iaload, 1), (548, .invokevirtual 63, 3), (551, .lcmp, 1), (552, .ifCond .eq 626, 3), (555, .iconst 0, 1), (556, .ireturn, 1), (557, .aload_n 1, 1), (558, .aload_n 0, 1), (559, .iload_n 3, 1), (560, .iconst 1, 1), (561, .iadd, 1), (562, .iaload, 1), (563, .aload_n 0, 1), (564, .iload_n 3, 1), (565, .iconst 2, 1), (566, .iadd, 1), (567, .iaload, 1), (568, .invokevirtual 64, 3), (571, .aload_n 2, 1), (572, .aload_n 0, 1), (573, .iload_n 3, 1), (574, .iconst 1, 1), (575, .iadd, 1), (576, .iaload, 1), (577, .aload_n 0, 1)]
theorem od_L_law_5 : ∀ q ∈ op_L_law_5, decode cL_law q.1 = .ok q.2 := by decide +kernel
def op_L_law_6 : List (Nat × Instr × Nat) := [(578, .iload_n 3, 1), (579, .iconst 2, 1), (580, .iadd, 1), (581, .iaload, 1), (582, .invokevirtual 67, 3), (585, .lcmp, 1), (586, .ifCond .eq 592, 3), (589, .iconst 0, 1), (590, .ireturn, 1), (591, .aload_n 1, 1), (592, .aload_n 0, 1), (593, .iload_n 3, 1), (594, .iconst 1, 1), (595, .iadd, 1), (596, .iaload, 1), (597, .aload_n 0, 1), (598, .iload_n 3, 1), (599, .iconst 2, 1), (600, .iadd, 1), (601, .iaload, 1), (602, .invokevirtual 68, 3), (605, .aload_n 2, 1), (606, .aload_n 0, 1), (607, .iload_n 3, 1), (608, .iconst 1, 1), (609, .iadd, 1), (610, .iaload, 1), (611, .aload_n 0, 1), (612, .iload_n 3, 1), (613, .iconst 2, 1), (614, .iadd, 1), (615, .iaload, 1), (616, .invokevirtual 71, 3), (619, .if_icmp .eq 559, 3), (622, .iconst 0, 1), (623, .ireturn, 1), (624, .aload_n 1, 1), (625, .aload_n 0, 1), (626, .iload_n 3, 1), (627, .iconst 1, 1), (628, .iadd, 1), (629, .iaload, 1), (630, .aload_n 0, 1), (631, .iload_n 3, 1), (632, .iconst 2, 1), (633, .iadd, 1), (634, .iaload, 1), (635, .aload_n 0, 1), (636, .iload_n 3, 1), (637, .iconst 3, 1), (638, .iadd, 1), (639, .iaload, 1), (640, .invokevirtual 72, 3), (643, .aload_n 2, 1), (644, .aload_n 0, 1), (645, .iload_n 3, 1), (646, .iconst 1, 1), (647, .iadd, 1), (648, .iaload, 1), (649, .aload_n 0, 1)]
theorem od_L_law_6 : ∀ q ∈ op_L_law_6, decode cL_law q.1 = .ok q.2 := by decide +kernel
def op_L_law_7 : List (Nat × Instr × Nat) := [(650, .iload_n 3, 1), (651, .iconst 2, 1), (652, .iadd, 1), (653, .iaload, 1), (654, .aload_n 0, 1), (655, .iload_n 3, 1), (656, .iconst 3, 1), (657, .iadd, 1), (658, .iaload, 1), (659, .invokevirtual 75, 3), (662, .if_icmp .eq 516, 3), (665, .iconst 0, 1), (666, .ireturn, 1), (667, .aload_n 1, 1), (668, .aload_n 0, 1), (669, .iload_n 3, 1), (670, .iconst 1, 1), (671, .iadd, 1), (672, .iaload, 1), (673, .aload_n 0, 1), (674, .iload_n 3, 1), (675, .iconst 2, 1), (676, .iadd, 1), (677, .iaload, 1), (678, .aload_n 0, 1), (679, .iload_n 3, 1), (680, .iconst 3, 1), (681, .iadd, 1), (682, .iaload, 1), (683, .invokevirtual 76, 3), (686, .aload_n 2, 1), (687, .aload_n 0, 1), (688, .iload_n 3, 1), (689, .iconst 1, 1), (690, .iadd, 1), (691, .iaload, 1), (692, .aload_n 0, 1), (693, .iload_n 3, 1), (694, .iconst 2, 1), (695, .iadd, 1), (696, .iaload, 1), (697, .aload_n 0, 1), (698, .iload_n 3, 1), (699, .iconst 3, 1), (700, .iadd, 1), (701, .iaload, 1), (702, .invokevirtual 79, 3), (705, .if_icmp .eq 473, 3), (708, .iconst 0, 1), (709, .ireturn, 1), (710, .aload_n 1, 1), (711, .aload_n 0, 1), (712, .iload_n 3, 1), (713, .iconst 1, 1), (714, .iadd, 1), (715, .iaload, 1), (716, .i2l, 1), (717, .bipush 32, 2), (719, .lshl, 1), (720, .aload_n 0, 1)]
theorem od_L_law_7 : ∀ q ∈ op_L_law_7, decode cL_law q.1 = .ok q.2 := by decide +kernel
def op_L_law_8 : List (Nat × Instr × Nat) := [(721, .iload_n 3, 1), (722, .iconst 2, 1), (723, .iadd, 1), (724, .iaload, 1), (725, .i2l, 1), (726, .ldc2_w 80, 3), (729, .land, 1), (730, .lor, 1), (731, .aload_n 0, 1), (732, .iload_n 3, 1), (733, .iconst 3, 1), (734, .iadd, 1), (735, .iaload, 1), (736, .invokevirtual 82, 3), (739, .aload_n 2, 1), (740, .aload_n 0, 1), (741, .iload_n 3, 1), (742, .iconst 1, 1), (743, .iadd, 1), (744, .iaload, 1), (745, .i2l, 1), (746, .bipush 32, 2), (748, .lshl, 1), (749, .aload_n 0, 1), (750, .iload_n 3, 1), (751, .iconst 2, 1), (752, .iadd, 1), (753, .iaload, 1), (754, .i2l, 1), (755, .ldc2_w 80, 3), (758, .land, 1), (759, .lor, 1), (760, .aload_n 0, 1), (761, .iload_n 3, 1), (762, .iconst 3, 1), (763, .iadd, 1), (764, .iaload, 1), (765, .invokevirtual 86, 3), (768, .if_icmp .eq 410, 3), (771, .iconst 0, 1), (772, .ireturn, 1), (773, .aload_n 1, 1), (774, .invokevirtual 87, 3), (777, .aload_n 2, 1), (778, .invokevirtual 90, 3), (781, .if_icmp .eq 397, 3), (784, .iconst 0, 1), (785, .ireturn, 1), (786, .aload_n 1, 1), (787, .aload_n 0, 1), (788, .iload_n 3, 1), (789, .iconst 1, 1), (790, .iadd, 1), (791, .iaload, 1), (792, .aload_n 0, 1), (793, .iload_n 3, 1), (794, .iconst 2, 1), (795, .iadd, 1), (796, .iaload, 1), (797, .invokevirtual 91, 3)]
theorem od_L_law_8 : ∀ q ∈ op_L_law_8, decode cL_law q.1 = .ok q.2 := by decide +kernel
def op_L_law_9 : List (Nat × Instr × Nat) := [(800, .aload_n 2, 1), (801, .aload_n 0, 1), (802, .iload_n 3, 1), (803, .iconst 1, 1), (804, .iadd, 1), (805, .iaload, 1), (806, .aload_n 0, 1), (807, .iload_n 3, 1), (808, .iconst 2, 1), (809, .iadd, 1), (810, .iaload, 1), (811, .invokevirtual 94, 3), (814, .if_icmp .eq 364, 3), (817, .iconst 0, 1), (818, .ireturn, 1), (819, .aload_n 1, 1), (820, .aload_n 0, 1), (821, .iload_n 3, 1), (822, .iconst 1, 1), (823, .iadd, 1), (824, .iaload, 1), (825, .aload_n 0, 1), (826, .iload_n 3, 1), (827, .iconst 2, 1), (828, .iadd, 1), (829, .iaload, 1), (830, .invokevirtual 95, 3), (833, .aload_n 2, 1), (834, .aload_n 0, 1), (835, .iload_n 3, 1), (836, .iconst 1, 1), (837, .iadd, 1), (838, .iaload, 1), (839, .aload_n 0, 1), (840, .iload_n 3, 1), (841, .iconst 2, 1), (842, .iadd, 1), (843, .iaload, 1), (844, .invokevirtual 98, 3), (847, .if_icmp .eq 331, 3), (850, .iconst 0, 1), (851, .ireturn, 1), (852, .aload_n 1, 1), (853, .aload_n 0, 1), (854, .iload_n 3, 1), (855, .iconst 1, 1), (856, .iadd, 1), (857, .iaload, 1), (858, .invokevirtual 99, 3), (861, .aload_n 2, 1), (862, .aload_n 0, 1), (863, .iload_n 3, 1), (864, .iconst 1, 1), (865, .iadd, 1), (866, .iaload, 1), (867, .invokevirtual 102, 3), (870, .if_icmp .eq 308, 3), (873, .iconst 0, 1), (874, .ireturn, 1), (875, .aload_n 1, 1)]
theorem od_L_law_9 : ∀ q ∈ op_L_law_9, decode cL_law q.1 = .ok q.2 := by decide +kernel
def op_L_law_10 : List (Nat × Instr × Nat) := [(876, .aload_n 0, 1), (877, .iload_n 3, 1), (878, .iconst 1, 1), (879, .iadd, 1), (880, .iaload, 1), (881, .aload_n 0, 1), (882, .iload_n 3, 1), (883, .iconst 2, 1), (884, .iadd, 1), (885, .iaload, 1), (886, .invokevirtual 103, 3), (889, .aload_n 2, 1), (890, .aload_n 0, 1), (891, .iload_n 3, 1), (892, .iconst 1, 1), (893, .iadd, 1), (894, .iaload, 1), (895, .aload_n 0, 1), (896, .iload_n 3, 1), (897, .iconst 2, 1), (898, .iadd, 1), (899, .iaload, 1), (900, .invokevirtual 106, 3), (903, .if_icmp .eq 275, 3), (906, .iconst 0, 1), (907, .ireturn, 1), (908, .aload_n 1, 1), (909, .aload_n 0, 1), (910, .iload_n 3, 1), (911, .iconst 1, 1), (912, .iadd, 1), (913, .iaload, 1), (914, .aload_n 0, 1), (915, .iload_n 3, 1), (916, .iconst 2, 1), (917, .iadd, 1), (918, .iaload, 1), (919, .invokevirtual 107, 3), (922, .aload_n 2, 1), (923, .aload_n 0, 1), (924, .iload_n 3, 1), (925, .iconst 1, 1), (926, .iadd, 1), (927, .iaload, 1), (928, .aload_n 0, 1), (929, .iload_n 3, 1), (930, .iconst 2, 1), (931, .iadd, 1), (932, .iaload, 1), (933, .invokevirtual 110, 3), (936, .if_icmp .eq 242, 3), (939, .iconst 0, 1), (940, .ireturn, 1), (941, .aload_n 1, 1), (942, .aload_n 0, 1), (943, .iload_n 3, 1), (944, .iconst 1, 1), (945, .iadd, 1), (946, .iaload, 1), (947, .aload_n 0, 1)]
theorem od_L_law_10 : ∀ q ∈ op_L_law_10, decode cL_law q.1 = .ok q.2 := by decide +kernel
def op_L_law_11 : List (Nat × Instr × Nat) := [(948, .iload_n 3, 1), (949, .iconst 2, 1), (950, .iadd, 1), (951, .iaload, 1), (952, .invokevirtual 111, 3), (955, .aload_n 2, 1), (956, .aload_n 0, 1), (957, .iload_n 3, 1), (958, .iconst 1, 1), (959, .iadd, 1), (960, .iaload, 1), (961, .aload_n 0, 1), (962, .iload_n 3, 1), (963, .iconst 2, 1), (964, .iadd, 1), (965, .iaload, 1), (966, .invokevirtual 114, 3), (969, .if_icmp .eq 209, 3), (972, .iconst 0, 1), (973, .ireturn, 1), (974, .aload_n 1, 1), (975, .aload_n 0, 1), (976, .iload_n 3, 1), (977, .iconst 1, 1), (978, .iadd, 1), (979, .iaload, 1), (980, .aload_n 0, 1), (981, .iload_n 3, 1), (982, .iconst 2, 1), (983, .iadd, 1), (984, .iaload, 1), (985, .invokevirtual 115, 3), (988, .aload_n 2, 1), (989, .aload_n 0, 1), (990, .iload_n 3, 1), (991, .iconst 1, 1), (992, .iadd, 1), (993, .iaload, 1), (994, .aload_n 0, 1), (995, .iload_n 3, 1), (996, .iconst 2, 1), (997, .iadd, 1), (998, .iaload, 1), (999, .invokevirtual 118, 3), (1002, .if_icmp .eq 176, 3), (1005, .iconst 0, 1), (1006, .ireturn, 1), (1007, .aload_n 1, 1), (1008, .aload_n 0, 1), (1009, .iload_n 3, 1), (1010, .iconst 1, 1), (1011, .iadd, 1), (1012, .iaload, 1), (1013, .aload_n 0, 1), (1014, .iload_n 3, 1), (1015, .iconst 2, 1), (1016, .iadd, 1), (1017, .iaload, 1), (1018, .invokevirtual 119, 3), (1021, .aload_n 2, 1)]
theorem od_L_law_11 : ∀ q ∈ op_L_law_11, decode cL_law q.1 = .ok q.2 := by decide +kernel
def op_L_law_12 : List (Nat × Instr × Nat) := [(1022, .aload_n 0, 1), (1023, .iload_n 3, 1), (1024, .iconst 1, 1), (1025, .iadd, 1), (1026, .iaload, 1), (1027, .aload_n 0, 1), (1028, .iload_n 3, 1), (1029, .iconst 2, 1), (1030, .iadd, 1), (1031, .iaload, 1), (1032, .invokevirtual 122, 3), (1035, .if_icmp .eq 143, 3), (1038, .iconst 0, 1), (1039, .ireturn, 1), (1040, .aload_n 1, 1), (1041, .aload_n 0, 1), (1042, .iload_n 3, 1), (1043, .iconst 1, 1), (1044, .iadd, 1), (1045, .iaload, 1), (1046, .invokevirtual 123, 3), (1049, .aload_n 2, 1), (1050, .aload_n 0, 1), (1051, .iload_n 3, 1), (1052, .iconst 1, 1), (1053, .iadd, 1), (1054, .iaload, 1), (1055, .invokevirtual 126, 3), (1058, .if_icmp .eq 120, 3), (1061, .iconst 0, 1), (1062, .ireturn, 1), (1063, .aload_n 1, 1), (1064, .invokevirtual 127, 3), (1067, .aload_n 2, 1), (1068, .invokevirtual 130, 3), (1071, .if_icmp .eq 107, 3), (1074, .iconst 0, 1), (1075, .ireturn, 1), (1076, .aload_n 1, 1), (1077, .aload_n 0, 1), (1078, .iload_n 3, 1), (1079, .iconst 1, 1), (1080, .iadd, 1), (1081, .iaload, 1), (1082, .invokevirtual 131, 3), (1085, .aload_n 2, 1), (1086, .aload_n 0, 1), (1087, .iload_n 3, 1), (1088, .iconst 1, 1), (1089, .iadd, 1), (1090, .iaload, 1), (1091, .invokevirtual 134, 3), (1094, .if_icmp .eq 84, 3), (1097, .iconst 0, 1), (1098, .ireturn, 1), (1099, .aload_n 1, 1), (1100, .aload_n 0, 1), (1101, .iload_n 3, 1), (1102, .iconst 1, 1), (1103, .iadd, 1)]
theorem od_L_law_12 : ∀ q ∈ op_L_law_12, decode cL_law q.1 = .ok q.2 := by decide +kernel
def op_L_law_13 : List (Nat × Instr × Nat) := [(1104, .iaload, 1), (1105, .aload_n 0, 1), (1106, .iload_n 3, 1), (1107, .iconst 2, 1), (1108, .iadd, 1), (1109, .iaload, 1), (1110, .invokevirtual 135, 3), (1113, .aload_n 2, 1), (1114, .aload_n 0, 1), (1115, .iload_n 3, 1), (1116, .iconst 1, 1), (1117, .iadd, 1), (1118, .iaload, 1), (1119, .aload_n 0, 1), (1120, .iload_n 3, 1), (1121, .iconst 2, 1), (1122, .iadd, 1), (1123, .iaload, 1), (1124, .invokevirtual 138, 3), (1127, .if_icmp .eq 51, 3), (1130, .iconst 0, 1), (1131, .ireturn, 1), (1132, .aload_n 1, 1), (1133, .aload_n 0, 1), (1134, .iload_n 3, 1), (1135, .iconst 1, 1), (1136, .iadd, 1), (1137, .iaload, 1), (1138, .invokevirtual 139, 3), (1141, .aload_n 2, 1), (1142, .aload_n 0, 1), (1143, .iload_n 3, 1), (1144, .iconst 1, 1), (1145, .iadd, 1), (1146, .iaload, 1), (1147, .invokevirtual 142, 3), (1150, .if_icmp .eq 28, 3), (1153, .iconst 0, 1), (1154, .ireturn, 1), (1155, .aload_n 1, 1), (1156, .aload_n 0, 1), (1157, .iload_n 3, 1), (1158, .iconst 1, 1), (1159, .iadd, 1), (1160, .iaload, 1), (1161, .invokevirtual 143, 3), (1164, .aload_n 2, 1), (1165, .aload_n 0, 1), (1166, .iload_n 3, 1), (1167, .iconst 1, 1), (1168, .iadd, 1), (1169, .iaload, 1), (1170, .invokevirtual 146, 3), (1173, .if_icmp .eq 5, 3), (1176, .iconst 0, 1), (1177, .ireturn, 1), (1178, .iinc 3 5, 3), (1181, .goto (-1163), 3), (1184, .iconst 1, 1), (1185, .ireturn, 1)]
theorem od_L_law_13 : ∀ q ∈ op_L_law_13, decode cL_law q.1 = .ok q.2 := by decide +kernel
def op_X0_aboard_0 : List (Nat × Instr × Nat) := [(0, .iconst 0, 1), (1, .istore_n 2, 1), (2, .iconst 0, 1), (3, .istore_n 3, 1), (4, .iload_n 3, 1), (5, .aload_n 0, 1), (6, .getfield 9, 3), (9, .if_icmp .ge 24, 3), (12, .aload_n 0, 1), (13, .iload_n 3, 1), (14, .iload_n 1, 1), (15, .invokevirtual 65, 3), (18, .ifCond .eq 9, 3), (21, .iload_n 2, 1), (22, .iconst 1, 1), (23, .iload_n 3, 1), (24, .ishl, 1), (25, .ior, 1), (26, .istore_n 2, 1), (27, .iinc 3 1, 3), (30, .goto (-26), 3), (33, .iload_n 2, 1), (34, .ireturn, 1)]
theorem od_X0_aboard_0 : ∀ q ∈ op_X0_aboard_0, decode cX0_aboard q.1 = .ok q.2 := by decide +kernel
def op_X0_addBoat_0 : List (Nat × Instr × Nat) := [(0, .aload_n 0, 1), (1, .getfield 31, 3), (4, .aload_n 0, 1), (5, .getfield 28, 3), (8, .iload_n 1, 1), (9, .iastore, 1), (10, .aload_n 0, 1), (11, .getfield 34, 3), (14, .aload_n 0, 1), (15, .getfield 28, 3), (18, .iload_n 2, 1), (19, .iastore, 1), (20, .aload_n 0, 1), (21, .getfield 37, 3), (24, .aload_n 0, 1), (25, .getfield 28, 3), (28, .iload_n 3, 1), (29, .iastore, 1), (30, .aload_n 0, 1), (31, .getfield 40, 3), (34, .aload_n 0, 1), (35, .getfield 28, 3), (38, .iload 4, 2), (40, .iastore, 1), (41, .aload_n 0, 1), (42, .dup, 1), (43, .getfield 28, 3), (46, .iconst 1, 1), (47, .iadd, 1), (48, .putfield 28, 3), (51, .aload_n 0, 1), (52, .getfield 28, 3), (55, .iconst 1, 1), (56, .isub, 1), (57, .ireturn, 1)]
theorem od_X0_addBoat_0 : ∀ q ∈ op_X0_addBoat_0, decode cX0_addBoat q.1 = .ok q.2 := by decide +kernel
def op_X0_addOar_0 : List (Nat × Instr × Nat) := [(0, .aload_n 0, 1), (1, .getfield 15, 3), (4, .aload_n 0, 1), (5, .getfield 9, 3), (8, .iload_n 1, 1), (9, .iastore, 1), (10, .aload_n 0, 1), (11, .getfield 19, 3), (14, .aload_n 0, 1), (15, .getfield 9, 3), (18, .iload_n 2, 1), (19, .iastore, 1), (20, .aload_n 0, 1), (21, .getfield 22, 3), (24, .aload_n 0, 1), (25, .getfield 9, 3), (28, .iconst 0, 1), (29, .iastore, 1), (30, .aload_n 0, 1), (31, .getfield 25, 3), (34, .aload_n 0, 1), (35, .getfield 9, 3), (38, .iconst (-1), 1), (39, .iastore, 1), (40, .aload_n 0, 1), (41, .dup, 1), (42, .getfield 9, 3), (45, .iconst 1, 1), (46, .iadd, 1), (47, .putfield 9, 3), (50, .aload_n 0, 1), (51, .getfield 9, 3), (54, .iconst 1, 1), (55, .isub, 1), (56, .ireturn, 1)]
theorem od_X0_addOar_0 : ∀ q ∈ op_X0_addOar_0, decode cX0_addOar q.1 = .ok q.2 := by decide +kernel
def op_X0_allMayBeOut_0 : List (Nat × Instr × Nat) := [(0, .iconst 0, 1), (1, .istore_n 3, 1), (2, .iload_n 3, 1), (3, .aload_n 0, 1), (4, .getfield 9, 3), (7, .if_icmp .ge 29, 3), (10, .aload_n 0, 1), (11, .iload_n 3, 1), (12, .iload_n 1, 1), (13, .invokevirtual 65, 3), (16, .ifCond .eq 14, 3), (19, .aload_n 0, 1), (20, .iload_n 3, 1), (21, .iload_n 2, 1), (22, .invokevirtual 80, 3), (25, .ifCond .ne 5, 3), (28, .iconst 0, 1), (29, .ireturn, 1), (30, .iinc 3 1, 3), (33, .goto (-31), 3), (36, .iconst 1, 1), (37, .ireturn, 1)]
theorem od_X0_allMayBeOut_0 : ∀ q ∈ op_X0_allMayBeOut_0, decode cX0_allMayBeOut q.1 = .ok q.2 := by decide +kernel
def op_X0_dislike_0 : List (Nat × Instr × Nat) := [(0, .aload_n 0, 1), (1, .getfield 31, 3), (4, .iload_n 2, 1), (5, .iaload, 1), (6, .iconst 2, 1), (7, .if_icmp .gt 7, 3), (10, .iconst 1, 1), (11, .goto 4, 3), (14, .iconst 0, 1), (15, .istore 4, 2), (17, .iload 4, 2), (19, .ifCond .eq 9, 3), (22, .iload_n 3, 1), (23, .iconst 2, 1), (24, .irem, 1), (25, .goto 4, 3), (28, .iconst 2, 1), (29, .istore 5, 2), (31, .getstatic 83, 3), (34, .iconst 3, 1), (35, .aload_n 0, 1), (36, .getfield 15, 3), (39, .iload_n 1, 1), (40, .iaload, 1), (41, .imul, 1), (42, .iload 5, 2), (44, .iadd, 1), (45, .iaload, 1), (46, .ireturn, 1)]
theorem od_X0_dislike_0 : ∀ q ∈ op_X0_dislike_0, decode cX0_dislike q.1 = .ok q.2 := by decide +kernel
def op_X0_hasBoat_0 : List (Nat × Instr × Nat) := [(0, .iload_n 1, 1), (1, .ifCond .lt 15, 3), (4, .iload_n 1, 1), (5, .aload_n 0, 1), (6, .getfield 28, 3), (9, .if_icmp .ge 7, 3), (12, .iconst 1, 1), (13, .goto 4, 3), (16, .iconst 0, 1), (17, .ireturn, 1)]
theorem od_X0_hasBoat_0 : ∀ q ∈ op_X0_hasBoat_0, decode cX0_hasBoat q.1 = .ok q.2 := by decide +kernel
def op_X0_hasCox_0 : List (Nat × Instr × Nat) := [(0, .aload_n 0, 1), (1, .getfield 31, 3), (4, .iload_n 1, 1), (5, .iaload, 1), (6, .iconst 1, 1), (7, .if_icmp .eq 13, 3), (10, .aload_n 0, 1), (11, .getfield 31, 3), (14, .iload_n 1, 1), (15, .iaload, 1), (16, .iconst 2, 1), (17, .if_icmp .ne 7, 3), (20, .iconst 1, 1), (21, .goto 4, 3), (24, .iconst 0, 1), (25, .ireturn, 1)]
theorem od_X0_hasCox_0 : ∀ q ∈ op_X0_hasCox_0, decode cX0_hasCox q.1 = .ok q.2 := by decide +kernel
def op_X0_hasOar_0 : List (Nat × Instr × Nat) := [(0, .iload_n 1, 1), (1, .ifCond .lt 15, 3), (4, .iload_n 1, 1), (5, .aload_n 0, 1), (6, .getfield 9, 3), (9, .if_icmp .ge 7, 3), (12, .iconst 1, 1), (13, .goto 4, 3), (16, .iconst 0, 1), (17, .ireturn, 1)]
theorem od_X0_hasOar_0 : ∀ q ∈ op_X0_hasOar_0, decode cX0_hasOar q.1 = .ok q.2 := by decide +kernel
def op_X0_hasSeat_0 : List (Nat × Instr × Nat) := [(0, .aload_n 0, 1), (1, .iload_n 1, 1), (2, .invokevirtual 43, 3), (5, .ifCond .ne 5, 3), (8, .iconst 0, 1), (9, .ireturn, 1), (10, .iload_n 2, 1), (11, .bipush 8, 2), (13, .if_icmp .ne 11, 3), (16, .aload_n 0, 1), (17, .iload_n 1, 1), (18, .invokevirtual 47, 3), (21, .goto 15, 3), (24, .iload_n 2, 1), (25, .iconst 0, 1), (26, .aload_n 0, 1), (27, .iload_n 1, 1), (28, .invokevirtual 50, 3), (31, .iconst 1, 1), (32, .isub, 1), (33, .invokestatic 54, 3), (36, .ireturn, 1)]
theorem od_X0_hasSeat_0 : ∀ q ∈ op_X0_hasSeat_0, decode cX0_hasSeat q.1 = .ok q.2 := by decide +kernel
def op_X0_init_0 : List (Nat × Instr × Nat) := [(0, .aload_n 0, 1), (1, .invokespecial 3, 3), (4, .aload_n 0, 1), (5, .iconst 0, 1), (6, .putfield 9, 3), (9, .aload_n 0, 1), (10, .bipush 16, 2), (12, .newarray .int, 2), (14, .putfield 15, 3), (17, .aload_n 0, 1), (18, .bipush 16, 2), (20, .newarray .int, 2), (22, .putfield 19, 3), (25, .aload_n 0, 1), (26, .bipush 16, 2), (28, .newarray .int, 2), (30, .putfield 22, 3), (33, .aload_n 0, 1), (34, .bipush 16, 2), (36, .newarray .int, 2), (38, .putfield 25, 3), (41, .aload_n 0, 1), (42, .iconst 0, 1), (43, .putfield 28, 3), (46, .aload_n 0, 1), (47, .bipush 8, 2), (49, .newarray .int, 2), (51, .putfield 31, 3), (54, .aload_n 0, 1), (55, .bipush 8, 2), (57, .newarray .int, 2), (59, .putfield 34, 3), (62, .aload_n 0, 1), (63, .bipush 8, 2), (65, .newarray .int, 2), (67, .putfield 37, 3), (70, .aload_n 0, 1), (71, .bipush 8, 2), (73, .newarray .int, 2), (75, .putfield 40, 3), (78, .return_, 1)]
theorem od_X0_init_0 : ∀ q ∈ op_X0_init_0, decode cX0_init q.1 = .ok q.2 := by decide +kernel
def op_X0_isCox_0 : List (Nat × Instr × Nat) := [(0, .aload_n 0, 1), (1, .getfield 25, 3), (4, .iload_n 1, 1), (5, .iaload, 1), (6, .iconst (-1), 1), (7, .if_icmp .eq 21, 3), (10, .aload_n 0, 1), (11, .getfield 25, 3), (14, .iload_n 1, 1), (15, .iaload, 1), (16, .bipush 10, 2), (18, .irem, 1), (19, .bipush 8, 2), (21, .if_icmp .ne 7, 3), (24, .iconst 1, 1), (25, .goto 4, 3), (28, .iconst 0, 1), (29, .ireturn, 1)]
theorem od_X0_isCox_0 : ∀ q ∈ op_X0_isCox_0, decode cX0_isCox q.1 = .ok q.2 := by decide +kernel
def op_X0_isManned_0 : List (Nat × Instr × Nat) := [(0, .aload_n 0, 1), (1, .iload_n 1, 1), (2, .invokevirtual 69, 3), (5, .invokestatic 72, 3), (8, .aload_n 0, 1), (9, .iload_n 1, 1), (10, .invokevirtual 50, 3), (13, .aload_n 0, 1), (14, .iload_n 1, 1), (15, .invokevirtual 47, 3), (18, .ifCond .eq 7, 3), (21, .iconst 1, 1), (22, .goto 4, 3), (25, .iconst 0, 1), (26, .iadd, 1), (27, .if_icmp .ne 7, 3), (30, .iconst 1, 1), (31, .goto 4, 3), (34, .iconst 0, 1), (35, .ireturn, 1)]
theorem od_X0_isManned_0 : ∀ q ∈ op_X0_isManned_0, decode cX0_isManned q.1 = .ok q.2 := by decide +kernel
def op_X0_isYoungAboard_0 : List (Nat × Instr × Nat) := [(0, .iconst 0, 1), (1, .istore_n 2, 1), (2, .iload_n 2, 1), (3, .aload_n 0, 1), (4, .getfield 9, 3), (7, .if_icmp .ge 30, 3), (10, .aload_n 0, 1), (11, .iload_n 2, 1), (12, .iload_n 1, 1), (13, .invokevirtual 65, 3), (16, .ifCond .eq 15, 3), (19, .aload_n 0, 1), (20, .getfield 15, 3), (23, .iload_n 2, 1), (24, .iaload, 1), (25, .iconst 4, 1), (26, .if_icmp .ne 5, 3), (29, .iconst 1, 1), (30, .ireturn, 1), (31, .iinc 2 1, 3), (34, .goto (-32), 3), (37, .iconst 0, 1), (38, .ireturn, 1)]
theorem od_X0_isYoungAboard_0 : ∀ q ∈ op_X0_isYoungAboard_0, decode cX0_isYoungAboard q.1 = .ok q.2 := by decide +kernel
def op_X0_mayBeOut_0 : List (Nat × Instr × Nat) := [(0, .aload_n 0, 1), (1, .getfield 22, 3), (4, .iload_n 1, 1), (5, .iaload, 1), (6, .ifCond .ne 23, 3), (9, .aload_n 0, 1), (10, .getfield 15, 3), (13, .iload_n 1, 1), (14, .iaload, 1), (15, .iconst 4, 1), (16, .if_icmp .ne 9, 3), (19, .iload_n 2, 1), (20, .bipush 7, 2), (22, .if_icmp .lt 7, 3), (25, .iconst 1, 1), (26, .goto 4, 3), (29, .iconst 0, 1), (30, .ireturn, 1)]
theorem od_X0_mayBeOut_0 : ∀ q ∈ op_X0_mayBeOut_0, decode cX0_mayBeOut q.1 = .ok q.2 := by decide +kernel
def op_X0_maySit_0 : List (Nat × Instr × Nat) := [(0, .aload_n 0, 1), (1, .getfield 22, 3), (4, .iload_n 1, 1), (5, .iaload, 1), (6, .ifCond .ne 24, 3), (9, .iload_n 2, 1), (10, .bipush 8, 2), (12, .if_icmp .ne 14, 3), (15, .aload_n 0, 1), (16, .getfield 19, 3), (19, .iload_n 1, 1), (20, .iaload, 1), (21, .bipush 70, 2), (23, .if_icmp .gt 7, 3), (26, .iconst 1, 1), (27, .goto 4, 3), (30, .iconst 0, 1), (31, .ireturn, 1)]
theorem od_X0_maySit_0 : ∀ q ∈ op_X0_maySit_0, decode cX0_maySit q.1 = .ok q.2 := by decide +kernel
def op_X0_meanWeight_0 : List (Nat × Instr × Nat) := [(0, .iconst 0, 1), (1, .istore_n 2, 1), (2, .iconst 0, 1), (3, .istore_n 3, 1), (4, .iload_n 3, 1), (5, .aload_n 0, 1), (6, .getfield 9, 3), (9, .if_icmp .ge 35, 3), (12, .aload_n 0, 1), (13, .iload_n 3, 1), (14, .iload_n 1, 1), (15, .invokevirtual 65, 3), (18, .ifCond .eq 20, 3), (21, .aload_n 0, 1), (22, .iload_n 3, 1), (23, .invokevirtual 77, 3), (26, .ifCond .ne 12, 3), (29, .iload_n 2, 1), (30, .aload_n 0, 1), (31, .getfield 19, 3), (34, .iload_n 3, 1), (35, .iaload, 1), (36, .iadd, 1), (37, .istore_n 2, 1), (38, .iinc 3 1, 3), (41, .goto (-37), 3), (44, .aload_n 0, 1), (45, .iload_n 1, 1), (46, .invokevirtual 50, 3), (49, .istore_n 3, 1), (50, .iload_n 3, 1), (51, .ifCond .le 9, 3), (54, .iload_n 2, 1), (55, .iload_n 3, 1), (56, .idiv, 1), (57, .goto 4, 3), (60, .iconst 0, 1), (61, .ireturn, 1)]
theorem od_X0_meanWeight_0 : ∀ q ∈ op_X0_meanWeight_0, decode cX0_meanWeight q.1 = .ok q.2 := by decide +kernel
end
section
def op_X0_putOn_0 : List (Nat × Instr × Nat) := [(0, .aload_n 0, 1), (1, .iload_n 1, 1), (2, .iload_n 2, 1), (3, .invokevirtual 61, 3), (6, .istore 4, 2), (8, .iload 4, 2), (10, .iconst (-1), 1), (11, .if_icmp .eq 11, 3), (14, .aload_n 0, 1), (15, .getfield 25, 3), (18, .iload 4, 2), (20, .iconst (-1), 1), (21, .iastore, 1), (22, .iload_n 3, 1), (23, .iconst (-1), 1), (24, .if_icmp .eq 15, 3), (27, .aload_n 0, 1), (28, .getfield 25, 3), (31, .iload_n 3, 1), (32, .bipush 10, 2), (34, .iload_n 1, 1), (35, .imul, 1), (36, .iload_n 2, 1), (37, .iadd, 1), (38, .iastore, 1), (39, .iload 4, 2), (41, .ireturn, 1)]
theorem od_X0_putOn_0 : ∀ q ∈ op_X0_putOn_0, decode cX0_putOn q.1 = .ok q.2 := by decide +kernel
def op_X0_seats_0 : List (Nat × Instr × Nat) := [(0, .getstatic 58, 3), (3, .aload_n 0, 1), (4, .getfield 31, 3), (7, .iload_n 1, 1), (8, .iaload, 1), (9, .iaload, 1), (10, .ireturn, 1)]
theorem od_X0_seats_0 : ∀ q ∈ op_X0_seats_0, decode cX0_seats q.1 = .ok q.2 := by decide +kernel
def op_X0_sitsIn_0 : List (Nat × Instr × Nat) := [(0, .aload_n 0, 1), (1, .getfield 25, 3), (4, .iload_n 1, 1), (5, .iaload, 1), (6, .iconst (-1), 1), (7, .if_icmp .eq 20, 3), (10, .aload_n 0, 1), (11, .getfield 25, 3), (14, .iload_n 1, 1), (15, .iaload, 1), (16, .bipush 10, 2), (18, .idiv, 1), (19, .iload_n 2, 1), (20, .if_icmp .ne 7, 3), (23, .iconst 1, 1), (24, .goto 4, 3), (27, .iconst 0, 1), (28, .ireturn, 1)]
theorem od_X0_sitsIn_0 : ∀ q ∈ op_X0_sitsIn_0, decode cX0_sitsIn q.1 = .ok q.2 := by decide +kernel
def op_X0_whoSits_0 : List (Nat × Instr × Nat) := [(0, .iconst 0, 1), (1, .istore_n 3, 1), (2, .iload_n 3, 1), (3, .aload_n 0, 1), (4, .getfield 9, 3), (7, .if_icmp .ge 26, 3), (10, .aload_n 0, 1), (11, .getfield 25, 3), (14, .iload_n 3, 1), (15, .iaload, 1), (16, .bipush 10, 2), (18, .iload_n 1, 1), (19, .imul, 1), (20, .iload_n 2, 1), (21, .iadd, 1), (22, .if_icmp .ne 5, 3), (25, .iload_n 3, 1), (26, .ireturn, 1), (27, .iinc 3 1, 3), (30, .goto (-28), 3), (33, .iconst (-1), 1), (34, .ireturn, 1)]
theorem od_X0_whoSits_0 : ∀ q ∈ op_X0_whoSits_0, decode cX0_whoSits q.1 = .ok q.2 := by decide +kernel
def op_X10_about_0 : List (Nat × Instr × Nat) := [(0, .aload_n 0, 1), (1, .iload_n 1, 1), (2, .invokevirtual 165, 3), (5, .ifCond .ne 5, 3), (8, .iconst (-1), 1), (9, .ireturn, 1), (10, .iload_n 2, 1), (11, .tableswitch 88 0 3 #[29, 36, 43, 58], 29), (40, .aload_n 0, 1), (41, .getfield 7, 3), (44, .iload_n 1, 1), (45, .iaload, 1), (46, .ireturn, 1), (47, .aload_n 0, 1), (48, .getfield 13, 3), (51, .iload_n 1, 1), (52, .iaload, 1), (53, .ireturn, 1), (54, .aload_n 0, 1), (55, .getfield 22, 3), (58, .iload_n 1, 1), (59, .baload, 1), (60, .ifCond .eq 7, 3), (63, .iconst 1, 1), (64, .goto 4, 3), (67, .iconst 0, 1), (68, .ireturn, 1), (69, .aload_n 0, 1), (70, .getfield 16, 3), (73, .iload_n 1, 1), (74, .iaload, 1), (75, .ifCond .ge 7, 3), (78, .iconst (-1), 1), (79, .goto 19, 3), (82, .bipush 10, 2), (84, .aload_n 0, 1), (85, .getfield 16, 3), (88, .iload_n 1, 1), (89, .iaload, 1), (90, .imul, 1), (91, .aload_n 0, 1), (92, .getfield 19, 3), (95, .iload_n 1, 1), (96, .iaload, 1), (97, .iadd, 1), (98, .ireturn, 1), (99, .iconst (-1), 1), (100, .ireturn, 1)]
theorem od_X10_about_0 : ∀ q ∈ op_X10_about_0, decode cX10_about q.1 = .ok q.2 := by decide +kernel
def op_X10_ashore_0 : List (Nat × Instr × Nat) := [(0, .aload_n 0, 1), (1, .getfield 26, 3), (4, .iload_n 1, 1), (5, .baload, 1), (6, .ifCond .eq 5, 3), (9, .iconst 1, 1), (10, .ireturn, 1), (11, .iconst 0, 1), (12, .istore_n 3, 1), (13, .iconst 0, 1), (14, .istore 4, 2), (16, .iload 4, 2), (18, .aload_n 0, 1), (19, .iload_n 1, 1), (20, .invokevirtual 146, 3), (23, .if_icmp .ge 35, 3), (26, .aload_n 0, 1), (27, .iload_n 1, 1), (28, .iload 4, 2), (30, .invokevirtual 172, 3), (33, .istore 5, 2), (35, .iload 5, 2), (37, .ifCond .ge 5, 3), (40, .iconst 2, 1), (41, .ireturn, 1), (42, .iload_n 3, 1), (43, .aload_n 0, 1), (44, .getfield 13, 3), (47, .iload 5, 2), (49, .iaload, 1), (50, .iadd, 1), (51, .istore_n 3, 1), (52, .iinc 4 1, 3), (55, .goto (-39), 3), (58, .aload_n 0, 1), (59, .iload_n 1, 1), (60, .invokevirtual 150, 3), (63, .ifCond .eq 15, 3), (66, .aload_n 0, 1), (67, .iload_n 1, 1), (68, .bipush 8, 2), (70, .invokevirtual 172, 3), (73, .ifCond .ge 5, 3), (76, .iconst 2, 1), (77, .ireturn, 1), (78, .iload_n 3, 1), (79, .aload_n 0, 1), (80, .iload_n 1, 1), (81, .invokevirtual 146, 3), (84, .idiv, 1), (85, .istore 4, 2), (87, .iload 4, 2), (89, .aload_n 0, 1), (90, .getfield 32, 3), (93, .iload_n 1, 1), (94, .iaload, 1), (95, .if_icmp .lt 14, 3), (98, .iload 4, 2), (100, .aload_n 0, 1), (101, .getfield 35, 3)]
theorem od_X10_ashore_0 : ∀ q ∈ op_X10_ashore_0, decode cX10_ashore q.1 = .ok q.2 := by decide +kernel
def op_X10_ashore_1 : List (Nat × Instr × Nat) := [(104, .iload_n 1, 1), (105, .iaload, 1), (106, .if_icmp .le 5, 3), (109, .iconst 3, 1), (110, .ireturn, 1), (111, .iconst 0, 1), (112, .istore 5, 2), (114, .iload 5, 2), (116, .aload_n 0, 1), (117, .getfield 136, 3), (120, .if_icmp .ge 32, 3), (123, .aload_n 0, 1), (124, .getfield 16, 3), (127, .iload 5, 2), (129, .iaload, 1), (130, .iload_n 1, 1), (131, .if_icmp .ne 15, 3), (134, .aload_n 0, 1), (135, .iload 5, 2), (137, .iload_n 2, 1), (138, .invokevirtual 221, 3), (141, .ifCond .ne 5, 3), (144, .iconst 4, 1), (145, .ireturn, 1), (146, .iinc 5 1, 3), (149, .goto (-35), 3), (152, .aload_n 0, 1), (153, .iload_n 1, 1), (154, .iload_n 2, 1), (155, .invokevirtual 302, 3), (158, .istore 5, 2), (160, .iload 5, 2), (162, .ifCond .lt 17, 3), (165, .aload_n 0, 1), (166, .getfield 84, 3), (169, .iload 5, 2), (171, .baload, 1), (172, .ifCond .eq 7, 3), (175, .iconst 5, 1), (176, .goto 4, 3), (179, .iconst 0, 1), (180, .ireturn, 1)]
theorem od_X10_ashore_1 : ∀ q ∈ op_X10_ashore_1, decode cX10_ashore q.1 = .ok q.2 := by decide +kernel
def op_X10_asked_0 : List (Nat × Instr × Nat) := [(0, .iconst (-1), 1), (1, .istore_n 3, 1), (2, .iconst 0, 1), (3, .istore 4, 2), (5, .iload 4, 2), (7, .aload_n 0, 1), (8, .getfield 284, 3), (11, .if_icmp .ge 107, 3), (14, .aload_n 0, 1), (15, .getfield 87, 3), (18, .iload 4, 2), (20, .iaload, 1), (21, .iconst 5, 1), (22, .if_icmp .eq 19, 3), (25, .aload_n 0, 1), (26, .getfield 87, 3), (29, .iload 4, 2), (31, .iaload, 1), (32, .aload_n 0, 1), (33, .getfield 29, 3), (36, .iload_n 1, 1), (37, .iaload, 1), (38, .if_icmp .ne 7, 3), (41, .iconst 1, 1), (42, .goto 4, 3), (45, .iconst 0, 1), (46, .istore 5, 2), (48, .iconst 0, 1), (49, .istore 6, 2), (51, .iload 6, 2), (53, .aload_n 0, 1), (54, .getfield 90, 3), (57, .iload 4, 2), (59, .iaload, 1), (60, .if_icmp .ge 40, 3), (63, .iload 5, 2), (65, .ifCond .eq 26, 3), (68, .aload_n 0, 1), (69, .bipush 12, 2), (71, .iload 4, 2), (73, .imul, 1), (74, .iconst 4, 1), (75, .iload 6, 2), (77, .imul, 1), (78, .iadd, 1), (79, .iload_n 1, 1), (80, .iload_n 2, 1), (81, .invokevirtual 299, 3), (84, .ifCond .eq 7, 3), (87, .iconst 1, 1), (88, .goto 4, 3), (91, .iconst 0, 1), (92, .istore 5, 2), (94, .iinc 6 1, 3), (97, .goto (-46), 3), (100, .iload 5, 2), (102, .ifCond .eq 8, 3), (105, .iload 4, 2), (107, .goto 4, 3), (110, .iload_n 3, 1)]
theorem od_X10_asked_0 : ∀ q ∈ op_X10_asked_0, decode cX10_asked q.1 = .ok q.2 := by decide +kernel
def op_X10_asked_1 : List (Nat × Instr × Nat) := [(111, .istore_n 3, 1), (112, .iinc 4 1, 3), (115, .goto (-110), 3), (118, .iload_n 3, 1), (119, .ireturn, 1)]
theorem od_X10_asked_1 : ∀ q ∈ op_X10_asked_1, decode cX10_asked q.1 = .ok q.2 := by decide +kernel
def op_X10_between_0 : List (Nat × Instr × Nat) := [(0, .aload_n 0, 1), (1, .iload_n 1, 1), (2, .invokevirtual 165, 3), (5, .ifCond .eq 44, 3), (8, .aload_n 0, 1), (9, .iload_n 2, 1), (10, .invokevirtual 165, 3), (13, .ifCond .eq 36, 3), (16, .iload_n 3, 1), (17, .i2l, 1), (18, .lconst 0, 1), (19, .lconst 1, 1), (20, .invokestatic 155, 3), (23, .ifCond .eq 26, 3), (26, .aload_n 0, 1), (27, .iload_n 1, 1), (28, .invokevirtual 208, 3), (31, .ifCond .eq 18, 3), (34, .aload_n 0, 1), (35, .getfield 50, 3), (38, .iload_n 1, 1), (39, .iaload, 1), (40, .aload_n 0, 1), (41, .getfield 50, 3), (44, .iload_n 2, 1), (45, .iaload, 1), (46, .if_icmp .eq 7, 3), (49, .ldc2_w 211, 3), (52, .lreturn, 1), (53, .aload_n 0, 1), (54, .getfield 66, 3), (57, .iload_n 1, 1), (58, .laload, 1), (59, .aload_n 0, 1), (60, .getfield 66, 3), (63, .iload_n 2, 1), (64, .laload, 1), (65, .lsub, 1), (66, .aload_n 0, 1), (67, .getfield 200, 3), (70, .iload_n 3, 1), (71, .invokestatic 213, 3), (74, .lreturn, 1)]
theorem od_X10_between_0 : ∀ q ∈ op_X10_between_0, decode cX10_between q.1 = .ok q.2 := by decide +kernel
def op_X10_bits_0 : List (Nat × Instr × Nat) := [(0, .iconst 0, 1), (1, .istore_n 1, 1), (2, .iconst 0, 1), (3, .istore_n 2, 1), (4, .iload_n 2, 1), (5, .bipush 16, 2), (7, .if_icmp .ge 17, 3), (10, .iload_n 1, 1), (11, .iload_n 0, 1), (12, .iload_n 2, 1), (13, .ishr, 1), (14, .iconst 1, 1), (15, .iand, 1), (16, .iadd, 1), (17, .istore_n 1, 1), (18, .iinc 2 1, 3), (21, .goto (-17), 3), (24, .iload_n 1, 1), (25, .ireturn, 1)]
theorem od_X10_bits_0 : ∀ q ∈ op_X10_bits_0, decode cX10_bits q.1 = .ok q.2 := by decide +kernel
def op_X10_boat_0 : List (Nat × Instr × Nat) := [(0, .iload_n 1, 1), (1, .i2l, 1), (2, .lconst 0, 1), (3, .ldc2_w 153, 3), (6, .invokestatic 155, 3), (9, .ifCond .eq 43, 3), (12, .iload_n 2, 1), (13, .i2l, 1), (14, .ldc2_w 159, 3), (17, .ldc2_w 161, 3), (20, .invokestatic 155, 3), (23, .ifCond .eq 29, 3), (26, .iload_n 3, 1), (27, .i2l, 1), (28, .iload_n 2, 1), (29, .i2l, 1), (30, .ldc2_w 161, 3), (33, .invokestatic 155, 3), (36, .ifCond .eq 16, 3), (39, .iload 4, 2), (41, .i2l, 1), (42, .lconst 1, 1), (43, .ldc2_w 163, 3), (46, .invokestatic 155, 3), (49, .ifCond .ne 6, 3), (52, .bipush (-2), 2), (54, .ireturn, 1), (55, .aload_n 0, 1), (56, .getfield 139, 3), (59, .bipush 8, 2), (61, .if_icmp .ne 6, 3), (64, .bipush (-4), 2), (66, .ireturn, 1), (67, .aload_n 0, 1), (68, .getfield 29, 3), (71, .aload_n 0, 1), (72, .getfield 139, 3), (75, .iload_n 1, 1), (76, .iastore, 1), (77, .aload_n 0, 1), (78, .getfield 32, 3), (81, .aload_n 0, 1), (82, .getfield 139, 3), (85, .iload_n 2, 1), (86, .iastore, 1), (87, .aload_n 0, 1), (88, .getfield 35, 3), (91, .aload_n 0, 1), (92, .getfield 139, 3), (95, .iload_n 3, 1), (96, .iastore, 1), (97, .aload_n 0, 1), (98, .getfield 38, 3), (101, .aload_n 0, 1), (102, .getfield 139, 3), (105, .iload 4, 2), (107, .iastore, 1), (108, .aload_n 0, 1), (109, .dup, 1), (110, .getfield 139, 3)]
theorem od_X10_boat_0 : ∀ q ∈ op_X10_boat_0, decode cX10_boat q.1 = .ok q.2 := by decide +kernel
def op_X10_boat_1 : List (Nat × Instr × Nat) := [(113, .iconst 1, 1), (114, .iadd, 1), (115, .putfield 139, 3), (118, .aload_n 0, 1), (119, .getfield 139, 3), (122, .iconst 1, 1), (123, .isub, 1), (124, .ireturn, 1)]
theorem od_X10_boat_1 : ∀ q ∈ op_X10_boat_1, decode cX10_boat q.1 = .ok q.2 := by decide +kernel
def op_X10_broke_0 : List (Nat × Instr × Nat) := [(0, .iload_n 1, 1), (1, .i2l, 1), (2, .lconst 0, 1), (3, .aload_n 0, 1), (4, .getfield 314, 3), (7, .iconst 1, 1), (8, .isub, 1), (9, .i2l, 1), (10, .invokestatic 155, 3), (13, .ifCond .eq 15, 3), (16, .iload_n 2, 1), (17, .i2l, 1), (18, .lconst 0, 1), (19, .ldc2_w 317, 3), (22, .invokestatic 155, 3), (25, .ifCond .ne 5, 3), (28, .iconst (-1), 1), (29, .ireturn, 1), (30, .aload_n 0, 1), (31, .getfield 108, 3), (34, .iload_n 1, 1), (35, .iaload, 1), (36, .istore_n 3, 1), (37, .iload_n 1, 1), (38, .iconst 1, 1), (39, .isub, 1), (40, .istore 4, 2), (42, .iload 4, 2), (44, .ifCond .lt 20, 3), (47, .aload_n 0, 1), (48, .getfield 108, 3), (51, .iload 4, 2), (53, .iaload, 1), (54, .iload_n 3, 1), (55, .if_icmp .eq 9, 3), (58, .iinc 4 (-1), 3), (61, .goto (-19), 3), (64, .aload_n 0, 1), (65, .getfield 114, 3), (68, .iload_n 1, 1), (69, .baload, 1), (70, .ifCond .ne 18, 3), (73, .iload 4, 2), (75, .ifCond .lt 16, 3), (78, .aload_n 0, 1), (79, .getfield 114, 3), (82, .iload 4, 2), (84, .baload, 1), (85, .ifCond .ne 6, 3), (88, .bipush (-3), 2), (90, .ireturn, 1), (91, .iconst 0, 1), (92, .istore 5, 2), (94, .iconst (-1), 1), (95, .istore 6, 2), (97, .iload 4, 2), (99, .ifCond .ge 7, 3), (102, .iconst 0, 1), (103, .goto 10, 3), (106, .aload_n 0, 1)]
theorem od_X10_broke_0 : ∀ q ∈ op_X10_broke_0, decode cX10_broke q.1 = .ok q.2 := by decide +kernel
def op_X10_broke_1 : List (Nat × Instr × Nat) := [(107, .getfield 111, 3), (110, .iload 4, 2), (112, .iaload, 1), (113, .istore 7, 2), (115, .iload 7, 2), (117, .aload_n 0, 1), (118, .getfield 111, 3), (121, .iload_n 1, 1), (122, .iaload, 1), (123, .if_icmp .ge 35, 3), (126, .aload_n 0, 1), (127, .getfield 96, 3), (130, .iload 7, 2), (132, .iaload, 1), (133, .iload_n 3, 1), (134, .if_icmp .eq 6, 3), (137, .goto 15, 3), (140, .iload 5, 2), (142, .ifCond .ne 7, 3), (145, .iload 7, 2), (147, .istore 6, 2), (149, .iinc 5 1, 3), (152, .iinc 7 1, 3), (155, .goto (-40), 3), (158, .iload_n 2, 1), (159, .ifCond .ne 8, 3), (162, .iload 5, 2), (164, .goto 29, 3), (167, .iload_n 2, 1), (168, .iconst 1, 1), (169, .if_icmp .ne 8, 3), (172, .iload 6, 2), (174, .goto 19, 3), (177, .iload 6, 2), (179, .ifCond .ge 7, 3), (182, .iconst (-1), 1), (183, .goto 10, 3), (186, .aload_n 0, 1), (187, .getfield 105, 3), (190, .iload 6, 2), (192, .iaload, 1), (193, .ireturn, 1)]
theorem od_X10_broke_1 : ∀ q ∈ op_X10_broke_1, decode cX10_broke q.1 = .ok q.2 := by decide +kernel
def op_X10_canSit_0 : List (Nat × Instr × Nat) := [(0, .aload_n 0, 1), (1, .getfield 16, 3), (4, .iload_n 1, 1), (5, .iaload, 1), (6, .ifCond .lt 24, 3), (9, .aload_n 0, 1), (10, .getfield 16, 3), (13, .iload_n 1, 1), (14, .iaload, 1), (15, .iload_n 2, 1), (16, .if_icmp .ne 18, 3), (19, .aload_n 0, 1), (20, .getfield 19, 3), (23, .iload_n 1, 1), (24, .iaload, 1), (25, .bipush 8, 2), (27, .if_icmp .eq 7, 3), (30, .iconst 1, 1), (31, .goto 4, 3), (34, .iconst 0, 1), (35, .istore 4, 2), (37, .iload 4, 2), (39, .ifCond .eq 16, 3), (42, .aload_n 0, 1), (43, .iload_n 1, 1), (44, .iload_n 3, 1), (45, .invokevirtual 221, 3), (48, .ifCond .eq 7, 3), (51, .iconst 1, 1), (52, .goto 4, 3), (55, .iconst 0, 1), (56, .ireturn, 1)]
theorem od_X10_canSit_0 : ∀ q ∈ op_X10_canSit_0, decode cX10_canSit q.1 = .ok q.2 := by decide +kernel
def op_X10_clash_0 : List (Nat × Instr × Nat) := [(0, .iload_n 2, 1), (1, .aload_n 0, 1), (2, .getfield 120, 3), (5, .iload_n 3, 1), (6, .iaload, 1), (7, .if_icmp .ge 14, 3), (10, .aload_n 0, 1), (11, .getfield 120, 3), (14, .iload_n 3, 1), (15, .iaload, 1), (16, .iload_n 2, 1), (17, .isub, 1), (18, .goto 11, 3), (21, .iload_n 2, 1), (22, .aload_n 0, 1), (23, .getfield 120, 3), (26, .iload_n 3, 1), (27, .iaload, 1), (28, .isub, 1), (29, .istore 4, 2), (31, .iload 4, 2), (33, .aload_n 0, 1), (34, .getfield 123, 3), (37, .if_icmp .ge 46, 3), (40, .aload_n 0, 1), (41, .getfield 117, 3), (44, .iload_n 1, 1), (45, .iaload, 1), (46, .aload_n 0, 1), (47, .getfield 117, 3), (50, .iload_n 3, 1), (51, .iaload, 1), (52, .if_icmp .eq 27, 3), (55, .aload_n 0, 1), (56, .aload_n 0, 1), (57, .getfield 117, 3), (60, .iload_n 1, 1), (61, .iaload, 1), (62, .invokevirtual 311, 3), (65, .aload_n 0, 1), (66, .aload_n 0, 1), (67, .getfield 117, 3), (70, .iload_n 3, 1), (71, .iaload, 1), (72, .invokevirtual 311, 3), (75, .iand, 1), (76, .ifCond .eq 7, 3), (79, .iconst 1, 1), (80, .goto 4, 3), (83, .iconst 0, 1), (84, .ireturn, 1)]
theorem od_X10_clash_0 : ∀ q ∈ op_X10_clash_0, decode cX10_clash q.1 = .ok q.2 := by decide +kernel
def op_X10_clashes_0 : List (Nat × Instr × Nat) := [(0, .iconst 0, 1), (1, .istore_n 1, 1), (2, .iconst 0, 1), (3, .istore_n 2, 1), (4, .iload_n 2, 1), (5, .aload_n 0, 1), (6, .getfield 321, 3), (9, .if_icmp .ge 45, 3), (12, .iconst 0, 1), (13, .istore_n 3, 1), (14, .iload_n 3, 1), (15, .iload_n 2, 1), (16, .if_icmp .ge 32, 3), (19, .iload_n 1, 1), (20, .aload_n 0, 1), (21, .iload_n 2, 1), (22, .aload_n 0, 1), (23, .getfield 120, 3), (26, .iload_n 2, 1), (27, .iaload, 1), (28, .iload_n 3, 1), (29, .invokevirtual 324, 3), (32, .ifCond .eq 7, 3), (35, .iconst 1, 1), (36, .goto 4, 3), (39, .iconst 0, 1), (40, .iadd, 1), (41, .istore_n 1, 1), (42, .iinc 3 1, 3), (45, .goto (-31), 3), (48, .iinc 2 1, 3), (51, .goto (-47), 3), (54, .iload_n 1, 1), (55, .ireturn, 1)]
theorem od_X10_clashes_0 : ∀ q ∈ op_X10_clashes_0, decode cX10_clashes q.1 = .ok q.2 := by decide +kernel
def op_X10_costOf_0 : List (Nat × Instr × Nat) := [(0, .aload_n 0, 1), (1, .getfield 16, 3), (4, .iload_n 1, 1), (5, .iaload, 1), (6, .iload_n 2, 1), (7, .if_icmp .eq 7, 3), (10, .iconst 5, 1), (11, .goto 18, 3), (14, .aload_n 0, 1), (15, .getfield 19, 3), (18, .iload_n 1, 1), (19, .iaload, 1), (20, .iload_n 3, 1), (21, .if_icmp .ne 7, 3), (24, .iconst 0, 1), (25, .goto 4, 3), (28, .iconst 4, 1), (29, .istore 4, 2), (31, .iload 4, 2), (33, .aload_n 0, 1), (34, .iload_n 1, 1), (35, .iload_n 2, 1), (36, .iload_n 3, 1), (37, .invokevirtual 217, 3), (40, .iadd, 1), (41, .ireturn, 1)]
theorem od_X10_costOf_0 : ∀ q ∈ op_X10_costOf_0, decode cX10_costOf q.1 = .ok q.2 := by decide +kernel
def op_X10_count_0 : List (Nat × Instr × Nat) := [(0, .iload_n 1, 1), (1, .tableswitch 96 0 8 #[51, 56, 61, 66, 71, 76, 81, 86, 91], 51), (52, .aload_n 0, 1), (53, .getfield 136, 3), (56, .ireturn, 1), (57, .aload_n 0, 1), (58, .getfield 139, 3), (61, .ireturn, 1), (62, .aload_n 0, 1), (63, .getfield 180, 3), (66, .ireturn, 1), (67, .aload_n 0, 1), (68, .getfield 284, 3), (71, .ireturn, 1), (72, .aload_n 0, 1), (73, .getfield 308, 3), (76, .ireturn, 1), (77, .aload_n 0, 1), (78, .getfield 314, 3), (81, .ireturn, 1), (82, .aload_n 0, 1), (83, .getfield 321, 3), (86, .ireturn, 1), (87, .aload_n 0, 1), (88, .getfield 293, 3), (91, .ireturn, 1), (92, .aload_n 0, 1), (93, .getfield 246, 3), (96, .ireturn, 1), (97, .iconst (-1), 1), (98, .ireturn, 1)]
theorem od_X10_count_0 : ∀ q ∈ op_X10_count_0, decode cX10_count q.1 = .ok q.2 := by decide +kernel
def op_X10_crew_0 : List (Nat × Instr × Nat) := [(0, .aload_n 0, 1), (1, .iload_n 1, 1), (2, .invokevirtual 142, 3), (5, .ifCond .ne 5, 3), (8, .iconst (-1), 1), (9, .ireturn, 1), (10, .iload_n 2, 1), (11, .i2l, 1), (12, .lconst 0, 1), (13, .ldc2_w 232, 3), (16, .invokestatic 155, 3), (19, .ifCond .eq 13, 3), (22, .iload_n 3, 1), (23, .i2l, 1), (24, .lconst 0, 1), (25, .lconst 1, 1), (26, .invokestatic 155, 3), (29, .ifCond .ne 6, 3), (32, .bipush (-2), 2), (34, .ireturn, 1), (35, .aload_n 0, 1), (36, .iload_n 1, 1), (37, .iload_n 2, 1), (38, .invokevirtual 234, 3), (41, .aload_n 0, 1), (42, .getfield 69, 3), (45, .iconst 0, 1), (46, .iaload, 1), (47, .istore 4, 2), (49, .iload 4, 2), (51, .ldc 224, 2), (53, .if_icmp .lt 6, 3), (56, .bipush (-3), 2), (58, .ireturn, 1), (59, .iload_n 3, 1), (60, .ifCond .ne 6, 3), (63, .iload 4, 2), (65, .ireturn, 1), (66, .iconst 0, 1), (67, .istore 5, 2), (69, .iconst 0, 1), (70, .istore 6, 2), (72, .iload 6, 2), (74, .aload_n 0, 1), (75, .getfield 136, 3), (78, .if_icmp .ge 148, 3), (81, .aload_n 0, 1), (82, .getfield 72, 3), (85, .iload 6, 2), (87, .iconst (-1), 1), (88, .iastore, 1), (89, .iconst 0, 1), (90, .istore 7, 2), (92, .iload 7, 2), (94, .aload_n 0, 1), (95, .iload_n 1, 1), (96, .invokevirtual 146, 3), (99, .if_icmp .ge 97, 3), (102, .aload_n 0, 1), (103, .getfield 72, 3)]
theorem od_X10_crew_0 : ∀ q ∈ op_X10_crew_0, decode cX10_crew q.1 = .ok q.2 := by decide +kernel
def op_X10_crew_1 : List (Nat × Instr × Nat) := [(106, .iload 6, 2), (108, .iaload, 1), (109, .ifCond .ge 87, 3), (112, .aload_n 0, 1), (113, .iload 6, 2), (115, .iload_n 1, 1), (116, .iload_n 2, 1), (117, .invokevirtual 225, 3), (120, .ifCond .eq 76, 3), (123, .iload 5, 2), (125, .iload 7, 2), (127, .ishr, 1), (128, .iconst 1, 1), (129, .iand, 1), (130, .ifCond .ne 60, 3), (133, .aload_n 0, 1), (134, .iload 6, 2), (136, .iload_n 1, 1), (137, .iload 7, 2), (139, .invokevirtual 229, 3), (142, .aload_n 0, 1), (143, .getfield 69, 3), (146, .sipush 256, 3), (149, .iload 6, 2), (151, .iconst 1, 1), (152, .iadd, 1), (153, .imul, 1), (154, .iload 5, 2), (156, .iconst 1, 1), (157, .iload 7, 2), (159, .ishl, 1), (160, .ior, 1), (161, .iadd, 1), (162, .iaload, 1), (163, .iadd, 1), (164, .aload_n 0, 1), (165, .getfield 69, 3), (168, .sipush 256, 3), (171, .iload 6, 2), (173, .imul, 1), (174, .iload 5, 2), (176, .iadd, 1), (177, .iaload, 1), (178, .if_icmp .ne 12, 3), (181, .aload_n 0, 1), (182, .getfield 72, 3), (185, .iload 6, 2), (187, .iload 7, 2), (189, .iastore, 1), (190, .iinc 7 1, 3), (193, .goto (-101), 3), (196, .aload_n 0, 1), (197, .getfield 72, 3), (200, .iload 6, 2), (202, .iaload, 1), (203, .ifCond .lt 17, 3), (206, .iload 5, 2), (208, .iconst 1, 1), (209, .aload_n 0, 1), (210, .getfield 72, 3)]
theorem od_X10_crew_1 : ∀ q ∈ op_X10_crew_1, decode cX10_crew q.1 = .ok q.2 := by decide +kernel
def op_X10_crew_2 : List (Nat × Instr × Nat) := [(213, .iload 6, 2), (215, .iaload, 1), (216, .ishl, 1), (217, .ior, 1), (218, .istore 5, 2), (220, .iinc 6 1, 3), (223, .goto (-151), 3), (226, .iconst 0, 1), (227, .istore 6, 2), (229, .iload 6, 2), (231, .aload_n 0, 1), (232, .getfield 136, 3), (235, .if_icmp .ge 75, 3), (238, .aload_n 0, 1), (239, .getfield 16, 3), (242, .iload 6, 2), (244, .iaload, 1), (245, .iload_n 1, 1), (246, .if_icmp .ne 23, 3), (249, .aload_n 0, 1), (250, .getfield 19, 3), (253, .iload 6, 2), (255, .iaload, 1), (256, .bipush 8, 2), (258, .if_icmp .eq 11, 3), (261, .aload_n 0, 1), (262, .getfield 16, 3), (265, .iload 6, 2), (267, .iconst (-1), 1), (268, .iastore, 1), (269, .aload_n 0, 1), (270, .getfield 72, 3), (273, .iload 6, 2), (275, .iaload, 1), (276, .ifCond .ge 6, 3), (279, .goto 25, 3), (282, .aload_n 0, 1), (283, .getfield 16, 3), (286, .iload 6, 2), (288, .iload_n 1, 1), (289, .iastore, 1), (290, .aload_n 0, 1), (291, .getfield 19, 3), (294, .iload 6, 2), (296, .aload_n 0, 1), (297, .getfield 72, 3), (300, .iload 6, 2), (302, .iaload, 1), (303, .iastore, 1), (304, .iinc 6 1, 3), (307, .goto (-78), 3), (310, .iload 4, 2), (312, .ireturn, 1)]
theorem od_X10_crew_2 : ∀ q ∈ op_X10_crew_2, decode cX10_crew q.1 = .ok q.2 := by decide +kernel
def op_X10_day_0 : List (Nat × Instr × Nat) := [(0, .iload_n 1, 1), (1, .i2l, 1), (2, .aload_n 0, 1), (3, .getfield 293, 3), (6, .i2l, 1), (7, .ldc2_w 178, 3), (10, .invokestatic 155, 3), (13, .ifCond .ne 6, 3), (16, .bipush (-2), 2), (18, .ireturn, 1), (19, .aload_n 0, 1), (20, .getfield 293, 3), (23, .istore_n 2, 1), (24, .aload_n 0, 1), (25, .iload_n 1, 1), (26, .putfield 293, 3), (29, .iload_n 2, 1), (30, .ireturn, 1)]
theorem od_X10_day_0 : ∀ q ∈ op_X10_day_0, decode cX10_day q.1 = .ok q.2 := by decide +kernel
def op_X10_determinant_0 : List (Nat × Instr × Nat) := [(0, .iconst 0, 1), (1, .istore_n 2, 1), (2, .iload_n 2, 1), (3, .sipush 128, 3), (6, .if_icmp .ge 24, 3), (9, .aload_n 0, 1), (10, .getfield 63, 3), (13, .iload_n 2, 1), (14, .iload_n 2, 1), (15, .ifCond .ne 7, 3), (18, .lconst 1, 1), (19, .goto 4, 3), (22, .lconst 0, 1), (23, .lastore, 1), (24, .iinc 2 1, 3), (27, .goto (-25), 3), (30, .iconst 0, 1), (31, .istore_n 2, 1), (32, .iload_n 2, 1), (33, .aload_n 0, 1), (34, .getfield 186, 3), (37, .if_icmp .ge 148, 3), (40, .bipush 127, 2), (42, .istore_n 3, 1), (43, .iload_n 3, 1), (44, .ifCond .lt 135, 3), (47, .iload_n 3, 1), (48, .invokestatic 189, 3), (51, .iload_n 2, 1), (52, .if_icmp .ne 121, 3), (55, .aload_n 0, 1), (56, .getfield 63, 3), (59, .iload_n 3, 1), (60, .laload, 1), (61, .lconst 0, 1), (62, .lcmp, 1), (63, .ifCond .ne 6, 3), (66, .goto 107, 3), (69, .iconst 0, 1), (70, .istore 4, 2), (72, .iload 4, 2), (74, .aload_n 0, 1), (75, .getfield 186, 3), (78, .if_icmp .ge 95, 3), (81, .iload_n 3, 1), (82, .iload 4, 2), (84, .ishr, 1), (85, .iconst 1, 1), (86, .iand, 1), (87, .iconst 1, 1), (88, .if_icmp .ne 6, 3), (91, .goto 76, 3), (94, .aload_n 0, 1), (95, .getfield 63, 3), (98, .iload_n 3, 1), (99, .laload, 1), (100, .iload 4, 2), (102, .iload_n 1, 1), (103, .if_icmp .ne 12, 3), (106, .aload_n 0, 1)]
theorem od_X10_determinant_0 : ∀ q ∈ op_X10_determinant_0, decode cX10_determinant q.1 = .ok q.2 := by decide +kernel
def op_X10_determinant_1 : List (Nat × Instr × Nat) := [(107, .getfield 60, 3), (110, .iload_n 2, 1), (111, .laload, 1), (112, .goto 15, 3), (115, .aload_n 0, 1), (116, .getfield 56, 3), (119, .bipush 7, 2), (121, .iload_n 2, 1), (122, .imul, 1), (123, .iload 4, 2), (125, .iadd, 1), (126, .laload, 1), (127, .lmul, 1), (128, .lstore 5, 2), (130, .aload_n 0, 1), (131, .getfield 63, 3), (134, .iload_n 3, 1), (135, .iconst 1, 1), (136, .iload 4, 2), (138, .ishl, 1), (139, .ior, 1), (140, .dup2, 1), (141, .laload, 1), (142, .iload_n 3, 1), (143, .iload 4, 2), (145, .iconst 1, 1), (146, .iadd, 1), (147, .ishr, 1), (148, .invokestatic 189, 3), (151, .iconst 2, 1), (152, .irem, 1), (153, .iconst 1, 1), (154, .if_icmp .ne 9, 3), (157, .lload 5, 2), (159, .lneg, 1), (160, .goto 5, 3), (163, .lload 5, 2), (165, .ladd, 1), (166, .lastore, 1), (167, .iinc 4 1, 3), (170, .goto (-98), 3), (173, .iinc 3 (-1), 3), (176, .goto (-133), 3), (179, .iinc 2 1, 3), (182, .goto (-150), 3), (185, .aload_n 0, 1), (186, .getfield 63, 3), (189, .iconst 1, 1), (190, .aload_n 0, 1), (191, .getfield 186, 3), (194, .ishl, 1), (195, .iconst 1, 1), (196, .isub, 1), (197, .laload, 1), (198, .lreturn, 1)]
theorem od_X10_determinant_1 : ∀ q ∈ op_X10_determinant_1, decode cX10_determinant q.1 = .ok q.2 := by decide +kernel
def op_X10_dislikes_0 : List (Nat × Instr × Nat) := [(0, .aload_n 0, 1), (1, .getfield 29, 3), (4, .iload_n 2, 1), (5, .iaload, 1), (6, .iconst 2, 1), (7, .if_icmp .le 7, 3), (10, .iconst 2, 1), (11, .goto 6, 3), (14, .iload_n 3, 1), (15, .iconst 2, 1), (16, .irem, 1), (17, .istore 4, 2), (19, .aload_n 0, 1), (20, .getfield 7, 3), (23, .iload_n 1, 1), (24, .iaload, 1), (25, .istore 5, 2), (27, .iload 5, 2), (29, .iconst 2, 1), (30, .if_icmp .ge 26, 3), (33, .iload 4, 2), (35, .iconst 2, 1), (36, .if_icmp .ne 7, 3), (39, .iconst 3, 1), (40, .goto 15, 3), (43, .iload 4, 2), (45, .iload 5, 2), (47, .if_icmp .ne 7, 3), (50, .iconst 0, 1), (51, .goto 4, 3), (54, .iconst 2, 1), (55, .ireturn, 1), (56, .iload 5, 2), (58, .iconst 3, 1), (59, .if_icmp .ne 17, 3), (62, .iload 4, 2), (64, .iconst 2, 1), (65, .if_icmp .ne 7, 3), (68, .iconst 0, 1), (69, .goto 18, 3), (72, .iconst 2, 1), (73, .goto 14, 3), (76, .iload 4, 2), (78, .iconst 2, 1), (79, .if_icmp .ne 7, 3), (82, .iconst 1, 1), (83, .goto 4, 3), (86, .iconst 0, 1), (87, .ireturn, 1)]
theorem od_X10_dislikes_0 : ∀ q ∈ op_X10_dislikes_0, decode cX10_dislikes q.1 = .ok q.2 := by decide +kernel
def op_X10_divisor_0 : List (Nat × Instr × Nat) := [(0, .lload_n 0, 1), (1, .lconst 0, 1), (2, .lcmp, 1), (3, .ifCond .ge 8, 3), (6, .lload_n 0, 1), (7, .lneg, 1), (8, .goto 4, 3), (11, .lload_n 0, 1), (12, .lstore 4, 2), (14, .lload_n 2, 1), (15, .lconst 0, 1), (16, .lcmp, 1), (17, .ifCond .ge 8, 3), (20, .lload_n 2, 1), (21, .lneg, 1), (22, .goto 4, 3), (25, .lload_n 2, 1), (26, .lstore 6, 2), (28, .lload 6, 2), (30, .lconst 0, 1), (31, .lcmp, 1), (32, .ifCond .eq 21, 3), (35, .lload 4, 2), (37, .lload 6, 2), (39, .lrem, 1), (40, .lstore 8, 2), (42, .lload 6, 2), (44, .lstore 4, 2), (46, .lload 8, 2), (48, .lstore 6, 2), (50, .goto (-22), 3), (53, .lload 4, 2), (55, .lreturn, 1)]
theorem od_X10_divisor_0 : ∀ q ∈ op_X10_divisor_0, decode cX10_divisor q.1 = .ok q.2 := by decide +kernel
def op_X10_feed_0 : List (Nat × Instr × Nat) := [(0, .iload_n 3, 1), (1, .i2l, 1), (2, .lconst 1, 1), (3, .ldc2_w 244, 3), (6, .invokestatic 155, 3), (9, .ifCond .ne 6, 3), (12, .bipush (-2), 2), (14, .ireturn, 1), (15, .aload_n 0, 1), (16, .getfield 246, 3), (19, .iload_n 3, 1), (20, .iadd, 1), (21, .bipush 120, 2), (23, .if_icmp .le 6, 3), (26, .bipush (-4), 2), (28, .ireturn, 1), (29, .iload_n 3, 1), (30, .iconst 1, 1), (31, .isub, 1), (32, .istore 4, 2), (34, .iload 4, 2), (36, .ifCond .lt 40, 3), (39, .aload_n 0, 1), (40, .getfield 81, 3), (43, .aload_n 0, 1), (44, .getfield 246, 3), (47, .lload_n 1, 1), (48, .bipush 8, 2), (50, .iload 4, 2), (52, .imul, 1), (53, .lshr, 1), (54, .ldc2_w 249, 3), (57, .land, 1), (58, .l2i, 1), (59, .iastore, 1), (60, .aload_n 0, 1), (61, .dup, 1), (62, .getfield 246, 3), (65, .iconst 1, 1), (66, .iadd, 1), (67, .putfield 246, 3), (70, .iinc 4 (-1), 3), (73, .goto (-39), 3), (76, .aload_n 0, 1), (77, .getfield 246, 3), (80, .ireturn, 1)]
theorem od_X10_feed_0 : ∀ q ∈ op_X10_feed_0, decode cX10_feed q.1 = .ok q.2 := by decide +kernel
def op_X10_field_0 : List (Nat × Instr × Nat) := [(0, .aload_n 0, 1), (1, .getfield 293, 3), (4, .bipush 30, 2), (6, .irem, 1), (7, .istore 4, 2), (9, .aload_n 0, 1), (10, .getfield 293, 3), (13, .bipush 30, 2), (15, .idiv, 1), (16, .bipush 12, 2), (18, .irem, 1), (19, .istore 5, 2), (21, .iconst 0, 1), (22, .istore 6, 2), (24, .iconst 0, 1), (25, .istore 7, 2), (27, .iload 7, 2), (29, .aload_n 0, 1), (30, .getfield 136, 3), (33, .if_icmp .ge 39, 3), (36, .aload_n 0, 1), (37, .getfield 16, 3), (40, .iload 7, 2), (42, .iaload, 1), (43, .iload_n 2, 1), (44, .if_icmp .ne 18, 3), (47, .aload_n 0, 1), (48, .getfield 7, 3), (51, .iload 7, 2), (53, .iaload, 1), (54, .iconst 4, 1), (55, .if_icmp .ne 7, 3), (58, .iconst 1, 1), (59, .goto 5, 3), (62, .iload 6, 2), (64, .istore 6, 2), (66, .iinc 7 1, 3), (69, .goto (-42), 3), (72, .iload_n 1, 1), (73, .tableswitch 69 0 5 #[39, 47, 55, 57, 60, 66], 39), (112, .aload_n 0, 1), (113, .getfield 75, 3), (116, .iload 4, 2), (118, .iaload, 1), (119, .ireturn, 1), (120, .aload_n 0, 1), (121, .getfield 78, 3), (124, .iload 4, 2), (126, .iaload, 1), (127, .ireturn, 1), (128, .iload_n 3, 1), (129, .ireturn, 1), (130, .iload 5, 2), (132, .ireturn, 1), (133, .aload_n 0, 1), (134, .iload_n 2, 1), (135, .invokevirtual 146, 3), (138, .ireturn, 1), (139, .iload 6, 2), (141, .ireturn, 1)]
theorem od_X10_field_0 : ∀ q ∈ op_X10_field_0, decode cX10_field q.1 = .ok q.2 := by decide +kernel
def op_X10_field_1 : List (Nat × Instr × Nat) := [(142, .iload 5, 2), (144, .iconst 2, 1), (145, .if_icmp .ge 19, 3), (148, .aload_n 0, 1), (149, .getfield 75, 3), (152, .iload 4, 2), (154, .iaload, 1), (155, .bipush 10, 2), (157, .if_icmp .ge 7, 3), (160, .iconst 1, 1), (161, .goto 4, 3), (164, .iconst 0, 1), (165, .ireturn, 1)]
theorem od_X10_field_1 : ∀ q ∈ op_X10_field_1, decode cX10_field q.1 = .ok q.2 := by decide +kernel
def op_X10_fillCost_0 : List (Nat × Instr × Nat) := [(0, .aload_n 0, 1), (1, .iload_n 1, 1), (2, .invokevirtual 146, 3), (5, .istore_n 3, 1), (6, .iconst 1, 1), (7, .iload_n 3, 1), (8, .ishl, 1), (9, .iconst 1, 1), (10, .isub, 1), (11, .istore 4, 2), (13, .iconst 0, 1), (14, .istore 5, 2), (16, .iload 5, 2), (18, .iload 4, 2), (20, .if_icmp .gt 38, 3), (23, .aload_n 0, 1), (24, .getfield 69, 3), (27, .sipush 256, 3), (30, .aload_n 0, 1), (31, .getfield 136, 3), (34, .imul, 1), (35, .iload 5, 2), (37, .iadd, 1), (38, .iload 5, 2), (40, .iload 4, 2), (42, .if_icmp .ne 7, 3), (45, .iconst 0, 1), (46, .goto 5, 3), (49, .ldc 224, 2), (51, .iastore, 1), (52, .iinc 5 1, 3), (55, .goto (-39), 3), (58, .aload_n 0, 1), (59, .getfield 136, 3), (62, .iconst 1, 1), (63, .isub, 1), (64, .istore 5, 2), (66, .iload 5, 2), (68, .ifCond .lt 143, 3), (71, .iconst 0, 1), (72, .istore 6, 2), (74, .iload 6, 2), (76, .iload 4, 2), (78, .if_icmp .gt 127, 3), (81, .aload_n 0, 1), (82, .getfield 69, 3), (85, .sipush 256, 3), (88, .iload 5, 2), (90, .iconst 1, 1), (91, .iadd, 1), (92, .imul, 1), (93, .iload 6, 2), (95, .iadd, 1), (96, .iaload, 1), (97, .istore 7, 2), (99, .iconst 0, 1), (100, .istore 8, 2), (102, .iload 8, 2), (104, .iload_n 3, 1), (105, .if_icmp .ge 78, 3)]
theorem od_X10_fillCost_0 : ∀ q ∈ op_X10_fillCost_0, decode cX10_fillCost q.1 = .ok q.2 := by decide +kernel
def op_X10_fillCost_1 : List (Nat × Instr × Nat) := [(108, .aload_n 0, 1), (109, .iload 5, 2), (111, .iload_n 1, 1), (112, .iload_n 2, 1), (113, .invokevirtual 225, 3), (116, .ifCond .eq 67, 3), (119, .iload 6, 2), (121, .iload 8, 2), (123, .ishr, 1), (124, .iconst 1, 1), (125, .iand, 1), (126, .iconst 1, 1), (127, .if_icmp .ne 6, 3), (130, .goto 47, 3), (133, .aload_n 0, 1), (134, .iload 5, 2), (136, .iload_n 1, 1), (137, .iload 8, 2), (139, .invokevirtual 229, 3), (142, .aload_n 0, 1), (143, .getfield 69, 3), (146, .sipush 256, 3), (149, .iload 5, 2), (151, .iconst 1, 1), (152, .iadd, 1), (153, .imul, 1), (154, .iload 6, 2), (156, .iconst 1, 1), (157, .iload 8, 2), (159, .ishl, 1), (160, .ior, 1), (161, .iadd, 1), (162, .iaload, 1), (163, .iadd, 1), (164, .istore 9, 2), (166, .iload 9, 2), (168, .iload 7, 2), (170, .if_icmp .ge 7, 3), (173, .iload 9, 2), (175, .istore 7, 2), (177, .iinc 8 1, 3), (180, .goto (-78), 3), (183, .aload_n 0, 1), (184, .getfield 69, 3), (187, .sipush 256, 3), (190, .iload 5, 2), (192, .imul, 1), (193, .iload 6, 2), (195, .iadd, 1), (196, .iload 7, 2), (198, .iastore, 1), (199, .iinc 6 1, 3), (202, .goto (-128), 3), (205, .iinc 5 (-1), 3), (208, .goto (-142), 3), (211, .return_, 1)]
theorem od_X10_fillCost_1 : ∀ q ∈ op_X10_fillCost_1, decode cX10_fillCost q.1 = .ok q.2 := by decide +kernel
def op_X10_findGroups_0 : List (Nat × Instr × Nat) := [(0, .iconst 0, 1), (1, .istore_n 1, 1), (2, .iload_n 1, 1), (3, .bipush 16, 2), (5, .if_icmp .ge 16, 3), (8, .aload_n 0, 1), (9, .getfield 50, 3), (12, .iload_n 1, 1), (13, .iload_n 1, 1), (14, .iastore, 1), (15, .iinc 1 1, 3), (18, .goto (-16), 3), (21, .iconst 1, 1), (22, .istore_n 1, 1), (23, .iload_n 1, 1), (24, .ifCond .eq 106, 3), (27, .iconst 0, 1), (28, .istore_n 1, 1), (29, .iconst 0, 1), (30, .istore_n 2, 1), (31, .iload_n 2, 1), (32, .aload_n 0, 1), (33, .getfield 180, 3), (36, .if_icmp .ge 91, 3), (39, .aload_n 0, 1), (40, .getfield 50, 3), (43, .aload_n 0, 1), (44, .getfield 41, 3), (47, .iload_n 2, 1), (48, .iaload, 1), (49, .iaload, 1), (50, .istore_n 3, 1), (51, .aload_n 0, 1), (52, .getfield 50, 3), (55, .aload_n 0, 1), (56, .getfield 44, 3), (59, .iload_n 2, 1), (60, .iaload, 1), (61, .iaload, 1), (62, .istore 4, 2), (64, .iload_n 3, 1), (65, .iload 4, 2), (67, .if_icmp .ne 6, 3), (70, .goto 51, 3), (73, .aload_n 0, 1), (74, .getfield 50, 3), (77, .aload_n 0, 1), (78, .getfield 41, 3), (81, .iload_n 2, 1), (82, .iaload, 1), (83, .iload_n 3, 1), (84, .iload 4, 2), (86, .if_icmp .ge 7, 3), (89, .iload_n 3, 1), (90, .goto 5, 3), (93, .iload 4, 2), (95, .iastore, 1), (96, .aload_n 0, 1), (97, .getfield 50, 3), (100, .aload_n 0, 1)]
theorem od_X10_findGroups_0 : ∀ q ∈ op_X10_findGroups_0, decode cX10_findGroups q.1 = .ok q.2 := by decide +kernel
def op_X10_findGroups_1 : List (Nat × Instr × Nat) := [(101, .getfield 44, 3), (104, .iload_n 2, 1), (105, .iaload, 1), (106, .iload_n 3, 1), (107, .iload 4, 2), (109, .if_icmp .ge 7, 3), (112, .iload_n 3, 1), (113, .goto 5, 3), (116, .iload 4, 2), (118, .iastore, 1), (119, .iconst 1, 1), (120, .istore_n 1, 1), (121, .iinc 2 1, 3), (124, .goto (-93), 3), (127, .goto (-104), 3), (130, .return_, 1)]
theorem od_X10_findGroups_1 : ∀ q ∈ op_X10_findGroups_1, decode cX10_findGroups q.1 = .ok q.2 := by decide +kernel
def op_X10_fits_0 : List (Nat × Instr × Nat) := [(0, .iconst 1, 1), (1, .istore_n 3, 1), (2, .iload_n 2, 1), (3, .istore 4, 2), (5, .iload 4, 2), (7, .aload_n 0, 1), (8, .getfield 251, 3), (11, .if_icmp .ge 37, 3), (14, .iload_n 3, 1), (15, .ifCond .eq 25, 3), (18, .iload_n 1, 1), (19, .iload 4, 2), (21, .iload_n 2, 1), (22, .isub, 1), (23, .invokestatic 268, 3), (26, .aload_n 0, 1), (27, .getfield 81, 3), (30, .iload 4, 2), (32, .iaload, 1), (33, .if_icmp .ne 7, 3), (36, .iconst 1, 1), (37, .goto 4, 3), (40, .iconst 0, 1), (41, .istore_n 3, 1), (42, .iinc 4 1, 3), (45, .goto (-40), 3), (48, .iload_n 3, 1), (49, .ireturn, 1)]
theorem od_X10_fits_0 : ∀ q ∈ op_X10_fits_0, decode cX10_fits q.1 = .ok q.2 := by decide +kernel
end
section
def op_X10_group_0 : List (Nat × Instr × Nat) := [(0, .aload_n 0, 1), (1, .iload_n 1, 1), (2, .invokevirtual 165, 3), (5, .ifCond .ne 5, 3), (8, .iconst (-1), 1), (9, .ireturn, 1), (10, .aload_n 0, 1), (11, .invokevirtual 183, 3), (14, .aload_n 0, 1), (15, .getfield 50, 3), (18, .iload_n 1, 1), (19, .iaload, 1), (20, .ireturn, 1)]
theorem od_X10_group_0 : ∀ q ∈ op_X10_group_0, decode cX10_group q.1 = .ok q.2 := by decide +kernel
def op_X10_hasCox_0 : List (Nat × Instr × Nat) := [(0, .aload_n 0, 1), (1, .getfield 29, 3), (4, .iload_n 1, 1), (5, .iaload, 1), (6, .iconst 1, 1), (7, .if_icmp .eq 13, 3), (10, .aload_n 0, 1), (11, .getfield 29, 3), (14, .iload_n 1, 1), (15, .iaload, 1), (16, .iconst 2, 1), (17, .if_icmp .ne 7, 3), (20, .iconst 1, 1), (21, .goto 4, 3), (24, .iconst 0, 1), (25, .ireturn, 1)]
theorem od_X10_hasCox_0 : ∀ q ∈ op_X10_hasCox_0, decode cX10_hasCox q.1 = .ok q.2 := by decide +kernel
def op_X10_heat_0 : List (Nat × Instr × Nat) := [(0, .aload_n 0, 1), (1, .iload_n 1, 1), (2, .invokevirtual 142, 3), (5, .ifCond .ne 5, 3), (8, .iconst (-1), 1), (9, .ireturn, 1), (10, .iload_n 2, 1), (11, .i2l, 1), (12, .lconst 0, 1), (13, .ldc2_w 319, 3), (16, .invokestatic 155, 3), (19, .ifCond .ne 6, 3), (22, .bipush (-2), 2), (24, .ireturn, 1), (25, .aload_n 0, 1), (26, .getfield 321, 3), (29, .bipush 20, 2), (31, .if_icmp .ne 6, 3), (34, .bipush (-4), 2), (36, .ireturn, 1), (37, .aload_n 0, 1), (38, .getfield 117, 3), (41, .aload_n 0, 1), (42, .getfield 321, 3), (45, .iload_n 1, 1), (46, .iastore, 1), (47, .aload_n 0, 1), (48, .getfield 120, 3), (51, .aload_n 0, 1), (52, .getfield 321, 3), (55, .iload_n 2, 1), (56, .iastore, 1), (57, .aload_n 0, 1), (58, .dup, 1), (59, .getfield 321, 3), (62, .iconst 1, 1), (63, .iadd, 1), (64, .putfield 321, 3), (67, .aload_n 0, 1), (68, .getfield 321, 3), (71, .iconst 1, 1), (72, .isub, 1), (73, .ireturn, 1)]
theorem od_X10_heat_0 : ∀ q ∈ op_X10_heat_0, decode cX10_heat q.1 = .ok q.2 := by decide +kernel
def op_X10_ill_0 : List (Nat × Instr × Nat) := [(0, .aload_n 0, 1), (1, .iload_n 1, 1), (2, .invokevirtual 165, 3), (5, .ifCond .ne 5, 3), (8, .iconst (-1), 1), (9, .ireturn, 1), (10, .iload_n 2, 1), (11, .i2l, 1), (12, .lconst 0, 1), (13, .lconst 1, 1), (14, .invokestatic 155, 3), (17, .ifCond .ne 6, 3), (20, .bipush (-2), 2), (22, .ireturn, 1), (23, .aload_n 0, 1), (24, .getfield 22, 3), (27, .iload_n 1, 1), (28, .baload, 1), (29, .ifCond .eq 7, 3), (32, .iconst 1, 1), (33, .goto 4, 3), (36, .iconst 0, 1), (37, .istore_n 3, 1), (38, .aload_n 0, 1), (39, .getfield 22, 3), (42, .iload_n 1, 1), (43, .iload_n 2, 1), (44, .iconst 1, 1), (45, .if_icmp .ne 7, 3), (48, .iconst 1, 1), (49, .goto 4, 3), (52, .iconst 0, 1), (53, .bastore, 1), (54, .iload_n 3, 1), (55, .ireturn, 1)]
theorem od_X10_ill_0 : ∀ q ∈ op_X10_ill_0, decode cX10_ill q.1 = .ok q.2 := by decide +kernel
def op_X10_init_0 : List (Nat × Instr × Nat) := [(0, .aload_n 0, 1), (1, .invokespecial 1, 3), (4, .aload_n 0, 1), (5, .bipush 16, 2), (7, .newarray .int, 2), (9, .putfield 7, 3), (12, .aload_n 0, 1), (13, .bipush 16, 2), (15, .newarray .int, 2), (17, .putfield 13, 3), (20, .aload_n 0, 1), (21, .bipush 16, 2), (23, .newarray .int, 2), (25, .putfield 16, 3), (28, .aload_n 0, 1), (29, .bipush 16, 2), (31, .newarray .int, 2), (33, .putfield 19, 3), (36, .aload_n 0, 1), (37, .bipush 16, 2), (39, .newarray .boolean, 2), (41, .putfield 22, 3), (44, .aload_n 0, 1), (45, .bipush 8, 2), (47, .newarray .boolean, 2), (49, .putfield 26, 3), (52, .aload_n 0, 1), (53, .bipush 8, 2), (55, .newarray .int, 2), (57, .putfield 29, 3), (60, .aload_n 0, 1), (61, .bipush 8, 2), (63, .newarray .int, 2), (65, .putfield 32, 3), (68, .aload_n 0, 1), (69, .bipush 8, 2), (71, .newarray .int, 2), (73, .putfield 35, 3), (76, .aload_n 0, 1), (77, .bipush 8, 2), (79, .newarray .int, 2), (81, .putfield 38, 3), (84, .aload_n 0, 1), (85, .bipush 40, 2), (87, .newarray .int, 2), (89, .putfield 41, 3), (92, .aload_n 0, 1), (93, .bipush 40, 2), (95, .newarray .int, 2), (97, .putfield 44, 3), (100, .aload_n 0, 1), (101, .bipush 40, 2), (103, .newarray .int, 2), (105, .putfield 47, 3), (108, .aload_n 0, 1), (109, .bipush 16, 2), (111, .newarray .int, 2), (113, .putfield 50, 3), (116, .aload_n 0, 1), (117, .bipush 16, 2)]
theorem od_X10_init_0 : ∀ q ∈ op_X10_init_0, decode cX10_init q.1 = .ok q.2 := by decide +kernel
def op_X10_init_1 : List (Nat × Instr × Nat) := [(119, .newarray .int, 2), (121, .putfield 53, 3), (124, .aload_n 0, 1), (125, .bipush 49, 2), (127, .newarray .long, 2), (129, .putfield 56, 3), (132, .aload_n 0, 1), (133, .bipush 7, 2), (135, .newarray .long, 2), (137, .putfield 60, 3), (140, .aload_n 0, 1), (141, .sipush 128, 3), (144, .newarray .long, 2), (146, .putfield 63, 3), (149, .aload_n 0, 1), (150, .bipush 16, 2), (152, .newarray .long, 2), (154, .putfield 66, 3), (157, .aload_n 0, 1), (158, .sipush 4352, 3), (161, .newarray .int, 2), (163, .putfield 69, 3), (166, .aload_n 0, 1), (167, .bipush 16, 2), (169, .newarray .int, 2), (171, .putfield 72, 3), (174, .aload_n 0, 1), (175, .bipush 30, 2), (177, .newarray .int, 2), (179, .putfield 75, 3), (182, .aload_n 0, 1), (183, .bipush 30, 2), (185, .newarray .int, 2), (187, .putfield 78, 3), (190, .aload_n 0, 1), (191, .bipush 120, 2), (193, .newarray .int, 2), (195, .putfield 81, 3), (198, .aload_n 0, 1), (199, .bipush 10, 2), (201, .newarray .boolean, 2), (203, .putfield 84, 3), (206, .aload_n 0, 1), (207, .bipush 10, 2), (209, .newarray .int, 2), (211, .putfield 87, 3), (214, .aload_n 0, 1), (215, .bipush 10, 2), (217, .newarray .int, 2), (219, .putfield 90, 3), (222, .aload_n 0, 1), (223, .bipush 120, 2), (225, .newarray .int, 2), (227, .putfield 93, 3), (230, .aload_n 0, 1), (231, .bipush 30, 2), (233, .newarray .int, 2), (235, .putfield 96, 3), (238, .aload_n 0, 1), (239, .bipush 30, 2)]
theorem od_X10_init_1 : ∀ q ∈ op_X10_init_1, decode cX10_init q.1 = .ok q.2 := by decide +kernel
def op_X10_init_2 : List (Nat × Instr × Nat) := [(241, .newarray .int, 2), (243, .putfield 99, 3), (246, .aload_n 0, 1), (247, .bipush 30, 2), (249, .newarray .int, 2), (251, .putfield 102, 3), (254, .aload_n 0, 1), (255, .bipush 30, 2), (257, .newarray .int, 2), (259, .putfield 105, 3), (262, .aload_n 0, 1), (263, .bipush 60, 2), (265, .newarray .int, 2), (267, .putfield 108, 3), (270, .aload_n 0, 1), (271, .bipush 60, 2), (273, .newarray .int, 2), (275, .putfield 111, 3), (278, .aload_n 0, 1), (279, .bipush 60, 2), (281, .newarray .boolean, 2), (283, .putfield 114, 3), (286, .aload_n 0, 1), (287, .bipush 20, 2), (289, .newarray .int, 2), (291, .putfield 117, 3), (294, .aload_n 0, 1), (295, .bipush 20, 2), (297, .newarray .int, 2), (299, .putfield 120, 3), (302, .aload_n 0, 1), (303, .bipush 30, 2), (305, .putfield 123, 3), (308, .aload_n 0, 1), (309, .bipush 8, 2), (311, .newarray .int, 2), (313, .putfield 127, 3), (316, .aload_n 0, 1), (317, .bipush 8, 2), (319, .newarray .int, 2), (321, .putfield 130, 3), (324, .aload_n 0, 1), (325, .iconst 3, 1), (326, .newarray .int, 2), (328, .putfield 133, 3), (331, .iconst 0, 1), (332, .istore_n 1, 1), (333, .iload_n 1, 1), (334, .bipush 8, 2), (336, .if_icmp .ge 16, 3), (339, .aload_n 0, 1), (340, .getfield 127, 3), (343, .iload_n 1, 1), (344, .iconst (-1), 1), (345, .iastore, 1), (346, .iinc 1 1, 3), (349, .goto (-16), 3), (352, .return_, 1)]
theorem od_X10_init_2 : ∀ q ∈ op_X10_init_2, decode cX10_init q.1 = .ok q.2 := by decide +kernel
def op_X10_isBoat_0 : List (Nat × Instr × Nat) := [(0, .iload_n 1, 1), (1, .ifCond .lt 15, 3), (4, .iload_n 1, 1), (5, .aload_n 0, 1), (6, .getfield 139, 3), (9, .if_icmp .ge 7, 3), (12, .iconst 1, 1), (13, .goto 4, 3), (16, .iconst 0, 1), (17, .ireturn, 1)]
theorem od_X10_isBoat_0 : ∀ q ∈ op_X10_isBoat_0, decode cX10_isBoat q.1 = .ok q.2 := by decide +kernel
def op_X10_isDigit_0 : List (Nat × Instr × Nat) := [(0, .iload_n 0, 1), (1, .bipush 48, 2), (3, .if_icmp .lt 13, 3), (6, .iload_n 0, 1), (7, .bipush 57, 2), (9, .if_icmp .gt 7, 3), (12, .iconst 1, 1), (13, .goto 4, 3), (16, .iconst 0, 1), (17, .ireturn, 1)]
theorem od_X10_isDigit_0 : ∀ q ∈ op_X10_isDigit_0, decode cX10_isDigit q.1 = .ok q.2 := by decide +kernel
def op_X10_isIn_0 : List (Nat × Instr × Nat) := [(0, .lload_n 0, 1), (1, .lload_n 2, 1), (2, .lcmp, 1), (3, .ifCond .lt 14, 3), (6, .lload_n 0, 1), (7, .lload 4, 2), (9, .lcmp, 1), (10, .ifCond .gt 7, 3), (13, .iconst 1, 1), (14, .goto 4, 3), (17, .iconst 0, 1), (18, .ireturn, 1)]
theorem od_X10_isIn_0 : ∀ q ∈ op_X10_isIn_0, decode cX10_isIn q.1 = .ok q.2 := by decide +kernel
def op_X10_isOar_0 : List (Nat × Instr × Nat) := [(0, .iload_n 1, 1), (1, .ifCond .lt 15, 3), (4, .iload_n 1, 1), (5, .aload_n 0, 1), (6, .getfield 136, 3), (9, .if_icmp .ge 7, 3), (12, .iconst 1, 1), (13, .goto 4, 3), (16, .iconst 0, 1), (17, .ireturn, 1)]
theorem od_X10_isOar_0 : ∀ q ∈ op_X10_isOar_0, decode cX10_isOar q.1 = .ok q.2 := by decide +kernel
def op_X10_isSeat_0 : List (Nat × Instr × Nat) := [(0, .aload_n 0, 1), (1, .iload_n 1, 1), (2, .invokevirtual 142, 3), (5, .ifCond .eq 34, 3), (8, .iload_n 2, 1), (9, .ifCond .lt 12, 3), (12, .iload_n 2, 1), (13, .aload_n 0, 1), (14, .iload_n 1, 1), (15, .invokevirtual 146, 3), (18, .if_icmp .lt 17, 3), (21, .iload_n 2, 1), (22, .bipush 8, 2), (24, .if_icmp .ne 15, 3), (27, .aload_n 0, 1), (28, .iload_n 1, 1), (29, .invokevirtual 150, 3), (32, .ifCond .eq 7, 3), (35, .iconst 1, 1), (36, .goto 4, 3), (39, .iconst 0, 1), (40, .ireturn, 1)]
theorem od_X10_isSeat_0 : ∀ q ∈ op_X10_isSeat_0, decode cX10_isSeat q.1 = .ok q.2 := by decide +kernel
def op_X10_isSo_0 : List (Nat × Instr × Nat) := [(0, .aload_n 0, 1), (1, .aload_n 0, 1), (2, .getfield 93, 3), (5, .iload_n 1, 1), (6, .iconst 1, 1), (7, .iadd, 1), (8, .iaload, 1), (9, .iload_n 2, 1), (10, .iload_n 3, 1), (11, .invokevirtual 296, 3), (14, .istore 4, 2), (16, .aload_n 0, 1), (17, .getfield 93, 3), (20, .iload_n 1, 1), (21, .iconst 2, 1), (22, .iadd, 1), (23, .iaload, 1), (24, .bipush 61, 2), (26, .if_icmp .ne 24, 3), (29, .iload 4, 2), (31, .aload_n 0, 1), (32, .getfield 93, 3), (35, .iload_n 1, 1), (36, .iconst 3, 1), (37, .iadd, 1), (38, .iaload, 1), (39, .if_icmp .ne 7, 3), (42, .iconst 1, 1), (43, .goto 59, 3), (46, .iconst 0, 1), (47, .goto 55, 3), (50, .aload_n 0, 1), (51, .getfield 93, 3), (54, .iload_n 1, 1), (55, .iconst 2, 1), (56, .iadd, 1), (57, .iaload, 1), (58, .bipush 60, 2), (60, .if_icmp .ne 24, 3), (63, .iload 4, 2), (65, .aload_n 0, 1), (66, .getfield 93, 3), (69, .iload_n 1, 1), (70, .iconst 3, 1), (71, .iadd, 1), (72, .iaload, 1), (73, .if_icmp .ge 7, 3), (76, .iconst 1, 1), (77, .goto 25, 3), (80, .iconst 0, 1), (81, .goto 21, 3), (84, .iload 4, 2), (86, .aload_n 0, 1), (87, .getfield 93, 3), (90, .iload_n 1, 1), (91, .iconst 3, 1), (92, .iadd, 1), (93, .iaload, 1), (94, .if_icmp .le 7, 3), (97, .iconst 1, 1)]
theorem od_X10_isSo_0 : ∀ q ∈ op_X10_isSo_0, decode cX10_isSo q.1 = .ok q.2 := by decide +kernel
def op_X10_isSo_1 : List (Nat × Instr × Nat) := [(98, .goto 4, 3), (101, .iconst 0, 1), (102, .istore 5, 2), (104, .iload 5, 2), (106, .aload_n 0, 1), (107, .getfield 93, 3), (110, .iload_n 1, 1), (111, .iaload, 1), (112, .iconst 1, 1), (113, .if_icmp .ne 7, 3), (116, .iconst 1, 1), (117, .goto 4, 3), (120, .iconst 0, 1), (121, .if_icmp .eq 7, 3), (124, .iconst 1, 1), (125, .goto 4, 3), (128, .iconst 0, 1), (129, .ireturn, 1)]
theorem od_X10_isSo_1 : ∀ q ∈ op_X10_isSo_1, decode cX10_isSo q.1 = .ok q.2 := by decide +kernel
def op_X10_letter_0 : List (Nat × Instr × Nat) := [(0, .iload_n 0, 1), (1, .invokestatic 254, 3), (4, .lstore_n 2, 1), (5, .lload_n 2, 1), (6, .lstore 4, 2), (8, .iconst 0, 1), (9, .istore 6, 2), (11, .lload 4, 2), (13, .lconst 0, 1), (14, .lcmp, 1), (15, .ifCond .le 15, 3), (18, .lload 4, 2), (20, .iconst 5, 1), (21, .lshr, 1), (22, .lstore 4, 2), (24, .iinc 6 1, 3), (27, .goto (-16), 3), (30, .iload_n 1, 1), (31, .iload 6, 2), (33, .if_icmp .lt 5, 3), (36, .iconst 0, 1), (37, .ireturn, 1), (38, .lload_n 2, 1), (39, .iconst 5, 1), (40, .iload 6, 2), (42, .iconst 1, 1), (43, .isub, 1), (44, .iload_n 1, 1), (45, .isub, 1), (46, .imul, 1), (47, .lshr, 1), (48, .ldc2_w 257, 3), (51, .land, 1), (52, .l2i, 1), (53, .istore 7, 2), (55, .iload 7, 2), (57, .bipush 27, 2), (59, .if_icmp .ne 8, 3), (62, .bipush 42, 2), (64, .goto 10, 3), (67, .bipush 97, 2), (69, .iload 7, 2), (71, .iadd, 1), (72, .iconst 1, 1), (73, .isub, 1), (74, .ireturn, 1)]
theorem od_X10_letter_0 : ∀ q ∈ op_X10_letter_0, decode cX10_letter q.1 = .ok q.2 := by decide +kernel
def op_X10_longest_0 : List (Nat × Instr × Nat) := [(0, .iload_n 2, 1), (1, .istore_n 3, 1), (2, .iconst 0, 1), (3, .istore 4, 2), (5, .iload 4, 2), (7, .iconst 3, 1), (8, .if_icmp .ge 17, 3), (11, .aload_n 0, 1), (12, .getfield 133, 3), (15, .iload 4, 2), (17, .iconst 0, 1), (18, .iastore, 1), (19, .iinc 4 1, 3), (22, .goto (-17), 3), (25, .bipush 7, 2), (27, .istore 4, 2), (29, .iload 4, 2), (31, .ifCond .lt 53, 3), (34, .iload_n 1, 1), (35, .iload 4, 2), (37, .ishr, 1), (38, .iconst 1, 1), (39, .iand, 1), (40, .ifCond .ne 6, 3), (43, .goto 35, 3), (46, .aload_n 0, 1), (47, .getfield 130, 3), (50, .iload 4, 2), (52, .iload_n 3, 1), (53, .iconst 3, 1), (54, .irem, 1), (55, .iastore, 1), (56, .aload_n 0, 1), (57, .getfield 133, 3), (60, .iload_n 3, 1), (61, .iconst 3, 1), (62, .irem, 1), (63, .dup2, 1), (64, .iaload, 1), (65, .aload_n 0, 1), (66, .getfield 38, 3), (69, .iload 4, 2), (71, .iaload, 1), (72, .iadd, 1), (73, .iastore, 1), (74, .iload_n 3, 1), (75, .iconst 3, 1), (76, .idiv, 1), (77, .istore_n 3, 1), (78, .iinc 4 (-1), 3), (81, .goto (-52), 3), (84, .aload_n 0, 1), (85, .getfield 133, 3), (88, .iconst 0, 1), (89, .iaload, 1), (90, .aload_n 0, 1), (91, .getfield 133, 3), (94, .iconst 1, 1), (95, .iaload, 1), (96, .if_icmp .le 12, 3)]
theorem od_X10_longest_0 : ∀ q ∈ op_X10_longest_0, decode cX10_longest q.1 = .ok q.2 := by decide +kernel
def op_X10_longest_1 : List (Nat × Instr × Nat) := [(99, .aload_n 0, 1), (100, .getfield 133, 3), (103, .iconst 0, 1), (104, .iaload, 1), (105, .goto 9, 3), (108, .aload_n 0, 1), (109, .getfield 133, 3), (112, .iconst 1, 1), (113, .iaload, 1), (114, .istore 4, 2), (116, .iload 4, 2), (118, .aload_n 0, 1), (119, .getfield 133, 3), (122, .iconst 2, 1), (123, .iaload, 1), (124, .if_icmp .le 8, 3), (127, .iload 4, 2), (129, .goto 9, 3), (132, .aload_n 0, 1), (133, .getfield 133, 3), (136, .iconst 2, 1), (137, .iaload, 1), (138, .ireturn, 1)]
theorem od_X10_longest_1 : ∀ q ∈ op_X10_longest_1, decode cX10_longest q.1 = .ok q.2 := by decide +kernel
def op_X10_look_0 : List (Nat × Instr × Nat) := [(0, .aload_n 0, 1), (1, .iload_n 1, 1), (2, .invokevirtual 142, 3), (5, .ifCond .ne 5, 3), (8, .iconst (-1), 1), (9, .ireturn, 1), (10, .iload_n 2, 1), (11, .i2l, 1), (12, .lconst 0, 1), (13, .lconst 1, 1), (14, .invokestatic 155, 3), (17, .ifCond .ne 6, 3), (20, .bipush (-2), 2), (22, .ireturn, 1), (23, .aload_n 0, 1), (24, .getfield 314, 3), (27, .bipush 60, 2), (29, .if_icmp .ne 6, 3), (32, .bipush (-4), 2), (34, .ireturn, 1), (35, .aload_n 0, 1), (36, .getfield 108, 3), (39, .aload_n 0, 1), (40, .getfield 314, 3), (43, .iload_n 1, 1), (44, .iastore, 1), (45, .aload_n 0, 1), (46, .getfield 111, 3), (49, .aload_n 0, 1), (50, .getfield 314, 3), (53, .aload_n 0, 1), (54, .getfield 308, 3), (57, .iastore, 1), (58, .aload_n 0, 1), (59, .getfield 114, 3), (62, .aload_n 0, 1), (63, .getfield 314, 3), (66, .iload_n 2, 1), (67, .iconst 1, 1), (68, .if_icmp .ne 7, 3), (71, .iconst 1, 1), (72, .goto 4, 3), (75, .iconst 0, 1), (76, .bastore, 1), (77, .aload_n 0, 1), (78, .getfield 26, 3), (81, .iload_n 1, 1), (82, .iload_n 2, 1), (83, .ifCond .ne 7, 3), (86, .iconst 1, 1), (87, .goto 4, 3), (90, .iconst 0, 1), (91, .bastore, 1), (92, .aload_n 0, 1), (93, .dup, 1), (94, .getfield 314, 3), (97, .iconst 1, 1), (98, .iadd, 1), (99, .putfield 314, 3), (102, .aload_n 0, 1)]
theorem od_X10_look_0 : ∀ q ∈ op_X10_look_0, decode cX10_look q.1 = .ok q.2 := by decide +kernel
def op_X10_look_1 : List (Nat × Instr × Nat) := [(103, .getfield 314, 3), (106, .iconst 1, 1), (107, .isub, 1), (108, .ireturn, 1)]
theorem od_X10_look_1 : ∀ q ∈ op_X10_look_1, decode cX10_look q.1 = .ok q.2 := by decide +kernel
def op_X10_may_0 : List (Nat × Instr × Nat) := [(0, .aload_n 0, 1), (1, .iload_n 1, 1), (2, .invokevirtual 142, 3), (5, .ifCond .ne 5, 3), (8, .iconst (-1), 1), (9, .ireturn, 1), (10, .iload_n 2, 1), (11, .i2l, 1), (12, .lconst 0, 1), (13, .ldc2_w 232, 3), (16, .invokestatic 155, 3), (19, .ifCond .eq 12, 3), (22, .aload_n 0, 1), (23, .iload_n 1, 1), (24, .iload_n 2, 1), (25, .invokevirtual 305, 3), (28, .goto 5, 3), (31, .bipush (-2), 2), (33, .ireturn, 1)]
theorem od_X10_may_0 : ∀ q ∈ op_X10_may_0, decode cX10_may q.1 = .ok q.2 := by decide +kernel
def op_X10_mayBeOut_0 : List (Nat × Instr × Nat) := [(0, .aload_n 0, 1), (1, .getfield 22, 3), (4, .iload_n 1, 1), (5, .baload, 1), (6, .ifCond .ne 23, 3), (9, .aload_n 0, 1), (10, .getfield 7, 3), (13, .iload_n 1, 1), (14, .iaload, 1), (15, .iconst 4, 1), (16, .if_icmp .ne 9, 3), (19, .iload_n 2, 1), (20, .bipush 7, 2), (22, .if_icmp .lt 7, 3), (25, .iconst 1, 1), (26, .goto 4, 3), (29, .iconst 0, 1), (30, .ireturn, 1)]
theorem od_X10_mayBeOut_0 : ∀ q ∈ op_X10_mayBeOut_0, decode cX10_mayBeOut q.1 = .ok q.2 := by decide +kernel
def op_X10_misfit_0 : List (Nat × Instr × Nat) := [(0, .aload_n 0, 1), (1, .iload_n 1, 1), (2, .invokevirtual 165, 3), (5, .ifCond .eq 21, 3), (8, .iload_n 2, 1), (9, .i2l, 1), (10, .lconst 0, 1), (11, .lconst 1, 1), (12, .invokestatic 155, 3), (15, .ifCond .eq 11, 3), (18, .aload_n 0, 1), (19, .iload_n 1, 1), (20, .invokevirtual 208, 3), (23, .ifCond .ne 7, 3), (26, .ldc2_w 211, 3), (29, .lreturn, 1), (30, .lconst 0, 1), (31, .lstore_n 3, 1), (32, .iconst 0, 1), (33, .istore 5, 2), (35, .iload 5, 2), (37, .aload_n 0, 1), (38, .getfield 180, 3), (41, .if_icmp .ge 92, 3), (44, .aload_n 0, 1), (45, .getfield 50, 3), (48, .aload_n 0, 1), (49, .getfield 41, 3), (52, .iload 5, 2), (54, .iaload, 1), (55, .iaload, 1), (56, .aload_n 0, 1), (57, .getfield 50, 3), (60, .iload_n 1, 1), (61, .iaload, 1), (62, .if_icmp .eq 6, 3), (65, .goto 62, 3), (68, .aload_n 0, 1), (69, .getfield 66, 3), (72, .aload_n 0, 1), (73, .getfield 41, 3), (76, .iload 5, 2), (78, .iaload, 1), (79, .laload, 1), (80, .aload_n 0, 1), (81, .getfield 66, 3), (84, .aload_n 0, 1), (85, .getfield 44, 3), (88, .iload 5, 2), (90, .iaload, 1), (91, .laload, 1), (92, .lsub, 1), (93, .aload_n 0, 1), (94, .getfield 47, 3), (97, .iload 5, 2), (99, .iaload, 1), (100, .i2l, 1), (101, .aload_n 0, 1), (102, .getfield 200, 3), (105, .lmul, 1)]
theorem od_X10_misfit_0 : ∀ q ∈ op_X10_misfit_0, decode cX10_misfit q.1 = .ok q.2 := by decide +kernel
def op_X10_misfit_1 : List (Nat × Instr × Nat) := [(106, .lsub, 1), (107, .lstore 6, 2), (109, .lload_n 3, 1), (110, .lload 6, 2), (112, .lconst 0, 1), (113, .lcmp, 1), (114, .ifCond .ge 9, 3), (117, .lload 6, 2), (119, .lneg, 1), (120, .goto 5, 3), (123, .lload 6, 2), (125, .ladd, 1), (126, .lstore_n 3, 1), (127, .iinc 5 1, 3), (130, .goto (-95), 3), (133, .lload_n 3, 1), (134, .aload_n 0, 1), (135, .getfield 200, 3), (138, .iload_n 2, 1), (139, .invokestatic 213, 3), (142, .lreturn, 1)]
theorem od_X10_misfit_1 : ∀ q ∈ op_X10_misfit_1, decode cX10_misfit q.1 = .ok q.2 := by decide +kernel
def op_X10_near_0 : List (Nat × Instr × Nat) := [(0, .iload_n 1, 1), (1, .i2l, 1), (2, .lconst 0, 1), (3, .ldc2_w 178, 3), (6, .invokestatic 155, 3), (9, .ifCond .ne 6, 3), (12, .bipush (-2), 2), (14, .ireturn, 1), (15, .aload_n 0, 1), (16, .getfield 123, 3), (19, .istore_n 2, 1), (20, .aload_n 0, 1), (21, .iload_n 1, 1), (22, .putfield 123, 3), (25, .iload_n 2, 1), (26, .ireturn, 1)]
theorem od_X10_near_0 : ∀ q ∈ op_X10_near_0, decode cX10_near q.1 = .ok q.2 := by decide +kernel
def op_X10_oar_0 : List (Nat × Instr × Nat) := [(0, .iload_n 1, 1), (1, .i2l, 1), (2, .lconst 0, 1), (3, .ldc2_w 153, 3), (6, .invokestatic 155, 3), (9, .ifCond .eq 17, 3), (12, .iload_n 2, 1), (13, .i2l, 1), (14, .ldc2_w 159, 3), (17, .ldc2_w 161, 3), (20, .invokestatic 155, 3), (23, .ifCond .ne 6, 3), (26, .bipush (-2), 2), (28, .ireturn, 1), (29, .aload_n 0, 1), (30, .getfield 136, 3), (33, .bipush 16, 2), (35, .if_icmp .ne 6, 3), (38, .bipush (-4), 2), (40, .ireturn, 1), (41, .aload_n 0, 1), (42, .getfield 7, 3), (45, .aload_n 0, 1), (46, .getfield 136, 3), (49, .iload_n 1, 1), (50, .iastore, 1), (51, .aload_n 0, 1), (52, .getfield 13, 3), (55, .aload_n 0, 1), (56, .getfield 136, 3), (59, .iload_n 2, 1), (60, .iastore, 1), (61, .aload_n 0, 1), (62, .getfield 16, 3), (65, .aload_n 0, 1), (66, .getfield 136, 3), (69, .iconst (-1), 1), (70, .iastore, 1), (71, .aload_n 0, 1), (72, .dup, 1), (73, .getfield 136, 3), (76, .iconst 1, 1), (77, .iadd, 1), (78, .putfield 136, 3), (81, .aload_n 0, 1), (82, .getfield 136, 3), (85, .iconst 1, 1), (86, .isub, 1), (87, .ireturn, 1)]
theorem od_X10_oar_0 : ∀ q ∈ op_X10_oar_0, decode cX10_oar q.1 = .ok q.2 := by decide +kernel
def op_X10_out_0 : List (Nat × Instr × Nat) := [(0, .aload_n 0, 1), (1, .iload_n 1, 1), (2, .invokevirtual 142, 3), (5, .ifCond .ne 5, 3), (8, .iconst (-1), 1), (9, .ireturn, 1), (10, .iload_n 2, 1), (11, .i2l, 1), (12, .lconst 0, 1), (13, .ldc2_w 232, 3), (16, .invokestatic 155, 3), (19, .ifCond .ne 6, 3), (22, .bipush (-2), 2), (24, .ireturn, 1), (25, .aload_n 0, 1), (26, .iload_n 1, 1), (27, .iload_n 2, 1), (28, .invokevirtual 305, 3), (31, .ifCond .eq 6, 3), (34, .bipush (-3), 2), (36, .ireturn, 1), (37, .aload_n 0, 1), (38, .getfield 308, 3), (41, .bipush 30, 2), (43, .if_icmp .ne 6, 3), (46, .bipush (-4), 2), (48, .ireturn, 1), (49, .aload_n 0, 1), (50, .getfield 96, 3), (53, .aload_n 0, 1), (54, .getfield 308, 3), (57, .iload_n 1, 1), (58, .iastore, 1), (59, .aload_n 0, 1), (60, .getfield 99, 3), (63, .aload_n 0, 1), (64, .getfield 308, 3), (67, .aload_n 0, 1), (68, .getfield 293, 3), (71, .iastore, 1), (72, .aload_n 0, 1), (73, .getfield 102, 3), (76, .aload_n 0, 1), (77, .getfield 308, 3), (80, .iload_n 2, 1), (81, .iastore, 1), (82, .aload_n 0, 1), (83, .getfield 105, 3), (86, .aload_n 0, 1), (87, .getfield 308, 3), (90, .aload_n 0, 1), (91, .iload_n 1, 1), (92, .invokevirtual 311, 3), (95, .iastore, 1), (96, .aload_n 0, 1), (97, .dup, 1), (98, .getfield 308, 3), (101, .iconst 1, 1), (102, .iadd, 1), (103, .putfield 308, 3)]
theorem od_X10_out_0 : ∀ q ∈ op_X10_out_0, decode cX10_out q.1 = .ok q.2 := by decide +kernel
def op_X10_out_1 : List (Nat × Instr × Nat) := [(106, .aload_n 0, 1), (107, .getfield 308, 3), (110, .iconst 1, 1), (111, .isub, 1), (112, .ireturn, 1)]
theorem od_X10_out_1 : ∀ q ∈ op_X10_out_1, decode cX10_out q.1 = .ok q.2 := by decide +kernel
def op_X10_outing_0 : List (Nat × Instr × Nat) := [(0, .iload_n 1, 1), (1, .i2l, 1), (2, .lconst 0, 1), (3, .aload_n 0, 1), (4, .getfield 308, 3), (7, .iconst 1, 1), (8, .isub, 1), (9, .i2l, 1), (10, .invokestatic 155, 3), (13, .ifCond .ne 5, 3), (16, .iconst (-1), 1), (17, .ireturn, 1), (18, .iload_n 2, 1), (19, .tableswitch 57 0 3 #[29, 36, 43, 50], 29), (48, .aload_n 0, 1), (49, .getfield 96, 3), (52, .iload_n 1, 1), (53, .iaload, 1), (54, .ireturn, 1), (55, .aload_n 0, 1), (56, .getfield 99, 3), (59, .iload_n 1, 1), (60, .iaload, 1), (61, .ireturn, 1), (62, .aload_n 0, 1), (63, .getfield 102, 3), (66, .iload_n 1, 1), (67, .iaload, 1), (68, .ireturn, 1), (69, .aload_n 0, 1), (70, .getfield 105, 3), (73, .iload_n 1, 1), (74, .iaload, 1), (75, .ireturn, 1), (76, .iconst (-1), 1), (77, .ireturn, 1)]
theorem od_X10_outing_0 : ∀ q ∈ op_X10_outing_0, decode cX10_outing q.1 = .ok q.2 := by decide +kernel
def op_X10_parses_0 : List (Nat × Instr × Nat) := [(0, .aload_n 0, 1), (1, .iconst 0, 1), (2, .putfield 251, 3), (5, .aload_n 0, 1), (6, .bipush 6, 2), (8, .bipush 7, 2), (10, .invokevirtual 278, 3), (13, .istore_n 1, 1), (14, .iload_n 1, 1), (15, .ifCond .lt 12, 3), (18, .aload_n 0, 1), (19, .bipush 32, 2), (21, .invokevirtual 275, 3), (24, .ifCond .ne 5, 3), (27, .iconst 0, 1), (28, .ireturn, 1), (29, .aload_n 0, 1), (30, .iconst 0, 1), (31, .iconst 5, 1), (32, .invokevirtual 278, 3), (35, .istore_n 2, 1), (36, .iload_n 2, 1), (37, .ifCond .ge 5, 3), (40, .iconst 0, 1), (41, .ireturn, 1), (42, .aload_n 0, 1), (43, .getfield 84, 3), (46, .aload_n 0, 1), (47, .getfield 284, 3), (50, .iload_n 1, 1), (51, .bipush 7, 2), (53, .if_icmp .ne 7, 3), (56, .iconst 1, 1), (57, .goto 4, 3), (60, .iconst 0, 1), (61, .bastore, 1), (62, .aload_n 0, 1), (63, .getfield 87, 3), (66, .aload_n 0, 1), (67, .getfield 284, 3), (70, .iload_n 2, 1), (71, .iastore, 1), (72, .aload_n 0, 1), (73, .getfield 90, 3), (76, .aload_n 0, 1), (77, .getfield 284, 3), (80, .iconst 0, 1), (81, .iastore, 1), (82, .aload_n 0, 1), (83, .getfield 251, 3), (86, .aload_n 0, 1), (87, .getfield 246, 3), (90, .if_icmp .ne 5, 3), (93, .iconst 1, 1), (94, .ireturn, 1), (95, .aload_n 0, 1), (96, .bipush 32, 2), (98, .invokevirtual 275, 3), (101, .ifCond .eq 23, 3), (104, .aload_n 0, 1)]
theorem od_X10_parses_0 : ∀ q ∈ op_X10_parses_0, decode cX10_parses q.1 = .ok q.2 := by decide +kernel
def op_X10_parses_1 : List (Nat × Instr × Nat) := [(105, .bipush 15, 2), (107, .bipush 15, 2), (109, .invokevirtual 278, 3), (112, .ifCond .lt 12, 3), (115, .aload_n 0, 1), (116, .bipush 32, 2), (118, .invokevirtual 275, 3), (121, .ifCond .ne 5, 3), (124, .iconst 0, 1), (125, .ireturn, 1), (126, .aload_n 0, 1), (127, .bipush 12, 2), (129, .aload_n 0, 1), (130, .getfield 284, 3), (133, .imul, 1), (134, .iconst 4, 1), (135, .aload_n 0, 1), (136, .getfield 90, 3), (139, .aload_n 0, 1), (140, .getfield 284, 3), (143, .iaload, 1), (144, .imul, 1), (145, .iadd, 1), (146, .invokevirtual 287, 3), (149, .ifCond .ne 5, 3), (152, .iconst 0, 1), (153, .ireturn, 1), (154, .aload_n 0, 1), (155, .getfield 90, 3), (158, .aload_n 0, 1), (159, .getfield 284, 3), (162, .dup2, 1), (163, .iaload, 1), (164, .iconst 1, 1), (165, .iadd, 1), (166, .iastore, 1), (167, .aload_n 0, 1), (168, .getfield 251, 3), (171, .aload_n 0, 1), (172, .getfield 246, 3), (175, .if_icmp .ne 5, 3), (178, .iconst 1, 1), (179, .ireturn, 1), (180, .aload_n 0, 1), (181, .getfield 90, 3), (184, .aload_n 0, 1), (185, .getfield 284, 3), (188, .iaload, 1), (189, .iconst 3, 1), (190, .if_icmp .eq 12, 3), (193, .aload_n 0, 1), (194, .bipush 38, 2), (196, .invokevirtual 275, 3), (199, .ifCond .ne (-73), 3), (202, .iconst 0, 1), (203, .ireturn, 1)]
theorem od_X10_parses_1 : ∀ q ∈ op_X10_parses_1, decode cX10_parses q.1 = .ok q.2 := by decide +kernel
def op_X10_part_0 : List (Nat × Instr × Nat) := [(0, .lload_n 0, 1), (1, .lload_n 2, 1), (2, .invokestatic 204, 3), (5, .lstore 5, 2), (7, .iload 4, 2), (9, .ifCond .ne 10, 3), (12, .lload_n 0, 1), (13, .lload 5, 2), (15, .ldiv, 1), (16, .goto 7, 3), (19, .lload_n 2, 1), (20, .lload 5, 2), (22, .ldiv, 1), (23, .lreturn, 1)]
theorem od_X10_part_0 : ∀ q ∈ op_X10_part_0, decode cX10_part q.1 = .ok q.2 := by decide +kernel
def op_X10_race_0 : List (Nat × Instr × Nat) := [(0, .aload_n 0, 1), (1, .iload_n 1, 1), (2, .invokevirtual 165, 3), (5, .ifCond .eq 11, 3), (8, .aload_n 0, 1), (9, .iload_n 2, 1), (10, .invokevirtual 165, 3), (13, .ifCond .ne 5, 3), (16, .iconst (-1), 1), (17, .ireturn, 1), (18, .iload_n 1, 1), (19, .iload_n 2, 1), (20, .if_icmp .eq 17, 3), (23, .iload_n 3, 1), (24, .i2l, 1), (25, .ldc2_w 176, 3), (28, .ldc2_w 178, 3), (31, .invokestatic 155, 3), (34, .ifCond .ne 6, 3), (37, .bipush (-2), 2), (39, .ireturn, 1), (40, .aload_n 0, 1), (41, .getfield 180, 3), (44, .bipush 40, 2), (46, .if_icmp .ne 6, 3), (49, .bipush (-4), 2), (51, .ireturn, 1), (52, .aload_n 0, 1), (53, .getfield 41, 3), (56, .aload_n 0, 1), (57, .getfield 180, 3), (60, .iload_n 1, 1), (61, .iastore, 1), (62, .aload_n 0, 1), (63, .getfield 44, 3), (66, .aload_n 0, 1), (67, .getfield 180, 3), (70, .iload_n 2, 1), (71, .iastore, 1), (72, .aload_n 0, 1), (73, .getfield 47, 3), (76, .aload_n 0, 1), (77, .getfield 180, 3), (80, .iload_n 3, 1), (81, .iastore, 1), (82, .aload_n 0, 1), (83, .dup, 1), (84, .getfield 180, 3), (87, .iconst 1, 1), (88, .iadd, 1), (89, .putfield 180, 3), (92, .aload_n 0, 1), (93, .getfield 180, 3), (96, .ireturn, 1)]
theorem od_X10_race_0 : ∀ q ∈ op_X10_race_0, decode cX10_race q.1 = .ok q.2 := by decide +kernel
def op_X10_rack_0 : List (Nat × Instr × Nat) := [(0, .aload_n 0, 1), (1, .iload_n 1, 1), (2, .invokevirtual 142, 3), (5, .ifCond .eq 12, 3), (8, .aload_n 0, 1), (9, .getfield 127, 3), (12, .iload_n 1, 1), (13, .iaload, 1), (14, .goto 4, 3), (17, .iconst (-1), 1), (18, .ireturn, 1)]
theorem od_X10_rack_0 : ∀ q ∈ op_X10_rack_0, decode cX10_rack q.1 = .ok q.2 := by decide +kernel
def op_X10_rule_0 : List (Nat × Instr × Nat) := [(0, .aload_n 0, 1), (1, .getfield 284, 3), (4, .bipush 10, 2), (6, .if_icmp .ne 6, 3), (9, .bipush (-4), 2), (11, .ireturn, 1), (12, .aload_n 0, 1), (13, .invokevirtual 289, 3), (16, .istore_n 1, 1), (17, .aload_n 0, 1), (18, .iconst 0, 1), (19, .putfield 246, 3), (22, .iload_n 1, 1), (23, .ifCond .ne 11, 3), (26, .bipush (-10), 2), (28, .aload_n 0, 1), (29, .getfield 251, 3), (32, .isub, 1), (33, .ireturn, 1), (34, .aload_n 0, 1), (35, .dup, 1), (36, .getfield 284, 3), (39, .iconst 1, 1), (40, .iadd, 1), (41, .putfield 284, 3), (44, .aload_n 0, 1), (45, .getfield 284, 3), (48, .iconst 1, 1), (49, .isub, 1), (50, .ireturn, 1)]
theorem od_X10_rule_0 : ∀ q ∈ op_X10_rule_0, decode cX10_rule q.1 = .ok q.2 := by decide +kernel
def op_X10_ruled_0 : List (Nat × Instr × Nat) := [(0, .aload_n 0, 1), (1, .iload_n 1, 1), (2, .invokevirtual 142, 3), (5, .ifCond .ne 5, 3), (8, .iconst (-1), 1), (9, .ireturn, 1), (10, .iload_n 2, 1), (11, .i2l, 1), (12, .lconst 0, 1), (13, .ldc2_w 232, 3), (16, .invokestatic 155, 3), (19, .ifCond .eq 12, 3), (22, .aload_n 0, 1), (23, .iload_n 1, 1), (24, .iload_n 2, 1), (25, .invokevirtual 302, 3), (28, .goto 5, 3), (31, .bipush (-2), 2), (33, .ireturn, 1)]
theorem od_X10_ruled_0 : ∀ q ∈ op_X10_ruled_0, decode cX10_ruled q.1 = .ok q.2 := by decide +kernel
def op_X10_seat_0 : List (Nat × Instr × Nat) := [(0, .aload_n 0, 1), (1, .iload_n 1, 1), (2, .iload_n 2, 1), (3, .invokevirtual 168, 3), (6, .ifCond .eq 12, 3), (9, .aload_n 0, 1), (10, .iload_n 1, 1), (11, .iload_n 2, 1), (12, .invokevirtual 172, 3), (15, .goto 4, 3), (18, .iconst (-1), 1), (19, .ireturn, 1)]
theorem od_X10_seat_0 : ∀ q ∈ op_X10_seat_0, decode cX10_seat q.1 = .ok q.2 := by decide +kernel
def op_X10_seatsOf_0 : List (Nat × Instr × Nat) := [(0, .aload_n 0, 1), (1, .getfield 29, 3), (4, .iload_n 1, 1), (5, .iaload, 1), (6, .istore_n 2, 1), (7, .iload_n 2, 1), (8, .ifCond .ne 7, 3), (11, .iconst 2, 1), (12, .goto 23, 3), (15, .iload_n 2, 1), (16, .iconst 2, 1), (17, .if_icmp .ne 8, 3), (20, .bipush 8, 2), (22, .goto 13, 3), (25, .iload_n 2, 1), (26, .iconst 3, 1), (27, .if_icmp .ne 7, 3), (30, .iconst 1, 1), (31, .goto 4, 3), (34, .iconst 4, 1), (35, .ireturn, 1)]
theorem od_X10_seatsOf_0 : ∀ q ∈ op_X10_seatsOf_0, decode cX10_seatsOf q.1 = .ok q.2 := by decide +kernel
def op_X10_shift_0 : List (Nat × Instr × Nat) := [(0, .iload_n 1, 1), (1, .i2l, 1), (2, .lconst 0, 1), (3, .aload_n 0, 1), (4, .getfield 321, 3), (7, .iconst 1, 1), (8, .isub, 1), (9, .i2l, 1), (10, .invokestatic 155, 3), (13, .ifCond .ne 5, 3), (16, .iconst (-1), 1), (17, .ireturn, 1), (18, .aload_n 0, 1), (19, .getfield 120, 3), (22, .iload_n 1, 1), (23, .iaload, 1), (24, .istore_n 2, 1), (25, .iload_n 2, 1), (26, .sipush 1440, 3), (29, .if_icmp .ge 62, 3), (32, .iconst 1, 1), (33, .istore_n 3, 1), (34, .iconst 0, 1), (35, .istore 4, 2), (37, .iload 4, 2), (39, .aload_n 0, 1), (40, .getfield 321, 3), (43, .if_icmp .ge 36, 3), (46, .iload_n 3, 1), (47, .ifCond .eq 32, 3), (50, .iload 4, 2), (52, .iload_n 1, 1), (53, .if_icmp .eq 14, 3), (56, .aload_n 0, 1), (57, .iload_n 1, 1), (58, .iload_n 2, 1), (59, .iload 4, 2), (61, .invokevirtual 324, 3), (64, .ifCond .ne 7, 3), (67, .iconst 1, 1), (68, .goto 4, 3), (71, .iconst 0, 1), (72, .istore_n 3, 1), (73, .iinc 4 1, 3), (76, .goto (-39), 3), (79, .iload_n 3, 1), (80, .ifCond .eq 5, 3), (83, .iload_n 2, 1), (84, .ireturn, 1), (85, .iinc 2 1, 3), (88, .goto (-63), 3), (91, .bipush (-3), 2), (93, .ireturn, 1)]
theorem od_X10_shift_0 : ∀ q ∈ op_X10_shift_0, decode cX10_shift q.1 = .ok q.2 := by decide +kernel
def op_X10_sign_0 : List (Nat × Instr × Nat) := [(0, .aload_n 0, 1), (1, .getfield 251, 3), (4, .aload_n 0, 1), (5, .getfield 246, 3), (8, .if_icmp .ge 15, 3), (11, .aload_n 0, 1), (12, .getfield 81, 3), (15, .aload_n 0, 1), (16, .getfield 251, 3), (19, .iaload, 1), (20, .goto 4, 3), (23, .iconst (-1), 1), (24, .ireturn, 1)]
theorem od_X10_sign_0 : ∀ q ∈ op_X10_sign_0, decode cX10_sign q.1 = .ok q.2 := by decide +kernel
def op_X10_sit_0 : List (Nat × Instr × Nat) := [(0, .aload_n 0, 1), (1, .iload_n 1, 1), (2, .iload_n 2, 1), (3, .invokevirtual 168, 3), (6, .ifCond .eq 16, 3), (9, .iload_n 3, 1), (10, .iconst (-1), 1), (11, .if_icmp .eq 14, 3), (14, .aload_n 0, 1), (15, .iload_n 3, 1), (16, .invokevirtual 165, 3), (19, .ifCond .ne 6, 3), (22, .bipush (-5), 2), (24, .ireturn, 1), (25, .iload_n 3, 1), (26, .ifCond .lt 32, 3), (29, .aload_n 0, 1), (30, .getfield 22, 3), (33, .iload_n 3, 1), (34, .baload, 1), (35, .ifCond .ne 20, 3), (38, .iload_n 2, 1), (39, .bipush 8, 2), (41, .if_icmp .ne 17, 3), (44, .aload_n 0, 1), (45, .getfield 13, 3), (48, .iload_n 3, 1), (49, .iaload, 1), (50, .bipush 70, 2), (52, .if_icmp .le 6, 3), (55, .bipush (-3), 2), (57, .ireturn, 1), (58, .aload_n 0, 1), (59, .iload_n 1, 1), (60, .iload_n 2, 1), (61, .invokevirtual 172, 3), (64, .istore 4, 2), (66, .iload 4, 2), (68, .ifCond .lt 11, 3), (71, .aload_n 0, 1), (72, .getfield 16, 3), (75, .iload 4, 2), (77, .iconst (-1), 1), (78, .iastore, 1), (79, .iload_n 3, 1), (80, .ifCond .lt 17, 3), (83, .aload_n 0, 1), (84, .getfield 16, 3), (87, .iload_n 3, 1), (88, .iload_n 1, 1), (89, .iastore, 1), (90, .aload_n 0, 1), (91, .getfield 19, 3), (94, .iload_n 3, 1), (95, .iload_n 2, 1), (96, .iastore, 1), (97, .iload 4, 2), (99, .ireturn, 1)]
theorem od_X10_sit_0 : ∀ q ∈ op_X10_sit_0, decode cX10_sit q.1 = .ok q.2 := by decide +kernel
def op_X10_sitter_0 : List (Nat × Instr × Nat) := [(0, .iconst (-1), 1), (1, .istore_n 3, 1), (2, .iconst 0, 1), (3, .istore 4, 2), (5, .iload 4, 2), (7, .aload_n 0, 1), (8, .getfield 136, 3), (11, .if_icmp .ge 38, 3), (14, .aload_n 0, 1), (15, .getfield 16, 3), (18, .iload 4, 2), (20, .iaload, 1), (21, .iload_n 1, 1), (22, .if_icmp .ne 19, 3), (25, .aload_n 0, 1), (26, .getfield 19, 3), (29, .iload 4, 2), (31, .iaload, 1), (32, .iload_n 2, 1), (33, .if_icmp .ne 8, 3), (36, .iload 4, 2), (38, .goto 4, 3), (41, .iload_n 3, 1), (42, .istore_n 3, 1), (43, .iinc 4 1, 3), (46, .goto (-41), 3), (49, .iload_n 3, 1), (50, .ireturn, 1)]
theorem od_X10_sitter_0 : ∀ q ∈ op_X10_sitter_0, decode cX10_sitter q.1 = .ok q.2 := by decide +kernel
def op_X10_solves_0 : List (Nat × Instr × Nat) := [(0, .aload_n 0, 1), (1, .invokevirtual 183, 3), (4, .aload_n 0, 1), (5, .getfield 50, 3), (8, .iload_n 1, 1), (9, .iaload, 1), (10, .istore_n 2, 1), (11, .aload_n 0, 1), (12, .iconst 0, 1), (13, .putfield 186, 3), (16, .iconst 0, 1), (17, .istore_n 3, 1), (18, .iload_n 3, 1), (19, .aload_n 0, 1), (20, .getfield 136, 3), (23, .if_icmp .ge 65, 3), (26, .aload_n 0, 1), (27, .getfield 53, 3), (30, .iload_n 3, 1), (31, .iconst (-1), 1), (32, .iastore, 1), (33, .aload_n 0, 1), (34, .getfield 50, 3), (37, .iload_n 3, 1), (38, .iaload, 1), (39, .iload_n 2, 1), (40, .if_icmp .ne 42, 3), (43, .iload_n 3, 1), (44, .iload_n 2, 1), (45, .if_icmp .ne 6, 3), (48, .goto 34, 3), (51, .aload_n 0, 1), (52, .getfield 186, 3), (55, .bipush 6, 2), (57, .if_icmp .ne 5, 3), (60, .iconst 0, 1), (61, .ireturn, 1), (62, .aload_n 0, 1), (63, .getfield 53, 3), (66, .iload_n 3, 1), (67, .aload_n 0, 1), (68, .getfield 186, 3), (71, .iastore, 1), (72, .aload_n 0, 1), (73, .dup, 1), (74, .getfield 186, 3), (77, .iconst 1, 1), (78, .iadd, 1), (79, .putfield 186, 3), (82, .iinc 3 1, 3), (85, .goto (-67), 3), (88, .iconst 0, 1), (89, .istore_n 3, 1), (90, .iload_n 3, 1), (91, .bipush 49, 2), (93, .if_icmp .ge 16, 3), (96, .aload_n 0, 1), (97, .getfield 56, 3), (100, .iload_n 3, 1), (101, .lconst 0, 1)]
theorem od_X10_solves_0 : ∀ q ∈ op_X10_solves_0, decode cX10_solves q.1 = .ok q.2 := by decide +kernel
def op_X10_solves_1 : List (Nat × Instr × Nat) := [(102, .lastore, 1), (103, .iinc 3 1, 3), (106, .goto (-16), 3), (109, .iconst 0, 1), (110, .istore_n 3, 1), (111, .iload_n 3, 1), (112, .bipush 7, 2), (114, .if_icmp .ge 16, 3), (117, .aload_n 0, 1), (118, .getfield 60, 3), (121, .iload_n 3, 1), (122, .lconst 0, 1), (123, .lastore, 1), (124, .iinc 3 1, 3), (127, .goto (-16), 3), (130, .iconst 0, 1), (131, .istore_n 3, 1), (132, .iload_n 3, 1), (133, .aload_n 0, 1), (134, .getfield 180, 3), (137, .if_icmp .ge 92, 3), (140, .aload_n 0, 1), (141, .getfield 50, 3), (144, .aload_n 0, 1), (145, .getfield 41, 3), (148, .iload_n 3, 1), (149, .iaload, 1), (150, .iaload, 1), (151, .iload_n 2, 1), (152, .if_icmp .eq 6, 3), (155, .goto 68, 3), (158, .aload_n 0, 1), (159, .aload_n 0, 1), (160, .getfield 53, 3), (163, .aload_n 0, 1), (164, .getfield 41, 3), (167, .iload_n 3, 1), (168, .iaload, 1), (169, .iaload, 1), (170, .aload_n 0, 1), (171, .getfield 53, 3), (174, .aload_n 0, 1), (175, .getfield 44, 3), (178, .iload_n 3, 1), (179, .iaload, 1), (180, .iaload, 1), (181, .aload_n 0, 1), (182, .getfield 47, 3), (185, .iload_n 3, 1), (186, .iaload, 1), (187, .invokevirtual 192, 3), (190, .aload_n 0, 1), (191, .aload_n 0, 1), (192, .getfield 53, 3), (195, .aload_n 0, 1), (196, .getfield 44, 3), (199, .iload_n 3, 1), (200, .iaload, 1), (201, .iaload, 1), (202, .aload_n 0, 1)]
theorem od_X10_solves_1 : ∀ q ∈ op_X10_solves_1, decode cX10_solves q.1 = .ok q.2 := by decide +kernel
end
section
def op_X10_solves_2 : List (Nat × Instr × Nat) := [(203, .getfield 53, 3), (206, .aload_n 0, 1), (207, .getfield 41, 3), (210, .iload_n 3, 1), (211, .iaload, 1), (212, .iaload, 1), (213, .aload_n 0, 1), (214, .getfield 47, 3), (217, .iload_n 3, 1), (218, .iaload, 1), (219, .ineg, 1), (220, .invokevirtual 192, 3), (223, .iinc 3 1, 3), (226, .goto (-94), 3), (229, .aload_n 0, 1), (230, .aload_n 0, 1), (231, .iconst (-1), 1), (232, .invokevirtual 196, 3), (235, .putfield 200, 3), (238, .iconst 0, 1), (239, .istore_n 3, 1), (240, .iload_n 3, 1), (241, .aload_n 0, 1), (242, .getfield 136, 3), (245, .if_icmp .ge 38, 3), (248, .aload_n 0, 1), (249, .getfield 66, 3), (252, .iload_n 3, 1), (253, .aload_n 0, 1), (254, .getfield 53, 3), (257, .iload_n 3, 1), (258, .iaload, 1), (259, .ifCond .ge 7, 3), (262, .lconst 0, 1), (263, .goto 13, 3), (266, .aload_n 0, 1), (267, .aload_n 0, 1), (268, .getfield 53, 3), (271, .iload_n 3, 1), (272, .iaload, 1), (273, .invokevirtual 196, 3), (276, .lastore, 1), (277, .iinc 3 1, 3), (280, .goto (-40), 3), (283, .iconst 1, 1), (284, .ireturn, 1)]
theorem od_X10_solves_2 : ∀ q ∈ op_X10_solves_2, decode cX10_solves q.1 = .ok q.2 := by decide +kernel
def op_X10_spelled_0 : List (Nat × Instr × Nat) := [(0, .lconst 0, 1), (1, .lstore 6, 2), (3, .iload_n 0, 1), (4, .ifCond .le 13, 3), (7, .lload 6, 2), (9, .iconst 5, 1), (10, .lshl, 1), (11, .iload_n 0, 1), (12, .i2l, 1), (13, .lor, 1), (14, .goto 5, 3), (17, .lload 6, 2), (19, .lstore 6, 2), (21, .iload_n 1, 1), (22, .ifCond .le 13, 3), (25, .lload 6, 2), (27, .iconst 5, 1), (28, .lshl, 1), (29, .iload_n 1, 1), (30, .i2l, 1), (31, .lor, 1), (32, .goto 5, 3), (35, .lload 6, 2), (37, .lstore 6, 2), (39, .iload_n 2, 1), (40, .ifCond .le 13, 3), (43, .lload 6, 2), (45, .iconst 5, 1), (46, .lshl, 1), (47, .iload_n 2, 1), (48, .i2l, 1), (49, .lor, 1), (50, .goto 5, 3), (53, .lload 6, 2), (55, .lstore 6, 2), (57, .iload_n 3, 1), (58, .ifCond .le 13, 3), (61, .lload 6, 2), (63, .iconst 5, 1), (64, .lshl, 1), (65, .iload_n 3, 1), (66, .i2l, 1), (67, .lor, 1), (68, .goto 5, 3), (71, .lload 6, 2), (73, .lstore 6, 2), (75, .iload 4, 2), (77, .ifCond .le 14, 3), (80, .lload 6, 2), (82, .iconst 5, 1), (83, .lshl, 1), (84, .iload 4, 2), (86, .i2l, 1), (87, .lor, 1), (88, .goto 5, 3), (91, .lload 6, 2), (93, .lstore 6, 2), (95, .iload 5, 2), (97, .ifCond .le 14, 3), (100, .lload 6, 2)]
theorem od_X10_spelled_0 : ∀ q ∈ op_X10_spelled_0, decode cX10_spelled q.1 = .ok q.2 := by decide +kernel
def op_X10_spelled_1 : List (Nat × Instr × Nat) := [(102, .iconst 5, 1), (103, .lshl, 1), (104, .iload 5, 2), (106, .i2l, 1), (107, .lor, 1), (108, .goto 5, 3), (111, .lload 6, 2), (113, .lreturn, 1)]
theorem od_X10_spelled_1 : ∀ q ∈ op_X10_spelled_1, decode cX10_spelled q.1 = .ok q.2 := by decide +kernel
def op_X10_strength_0 : List (Nat × Instr × Nat) := [(0, .aload_n 0, 1), (1, .iload_n 1, 1), (2, .invokevirtual 165, 3), (5, .ifCond .eq 21, 3), (8, .iload_n 2, 1), (9, .i2l, 1), (10, .lconst 0, 1), (11, .lconst 1, 1), (12, .invokestatic 155, 3), (15, .ifCond .eq 11, 3), (18, .aload_n 0, 1), (19, .iload_n 1, 1), (20, .invokevirtual 208, 3), (23, .ifCond .ne 7, 3), (26, .ldc2_w 211, 3), (29, .lreturn, 1), (30, .aload_n 0, 1), (31, .getfield 66, 3), (34, .iload_n 1, 1), (35, .laload, 1), (36, .aload_n 0, 1), (37, .getfield 200, 3), (40, .iload_n 2, 1), (41, .invokestatic 213, 3), (44, .lreturn, 1)]
theorem od_X10_strength_0 : ∀ q ∈ op_X10_strength_0, decode cX10_strength q.1 = .ok q.2 := by decide +kernel
def op_X10_sure_0 : List (Nat × Instr × Nat) := [(0, .aload_n 0, 1), (1, .iload_n 1, 1), (2, .invokevirtual 165, 3), (5, .ifCond .eq 11, 3), (8, .aload_n 0, 1), (9, .iload_n 2, 1), (10, .invokevirtual 165, 3), (13, .ifCond .ne 5, 3), (16, .iconst (-1), 1), (17, .ireturn, 1), (18, .iload_n 1, 1), (19, .iload_n 2, 1), (20, .if_icmp .ne 6, 3), (23, .bipush (-2), 2), (25, .ireturn, 1), (26, .iconst 0, 1), (27, .istore_n 3, 1), (28, .iconst 0, 1), (29, .istore 4, 2), (31, .iconst 0, 1), (32, .istore 5, 2), (34, .iload 5, 2), (36, .aload_n 0, 1), (37, .getfield 180, 3), (40, .if_icmp .ge 109, 3), (43, .aload_n 0, 1), (44, .getfield 41, 3), (47, .iload 5, 2), (49, .iaload, 1), (50, .iload_n 1, 1), (51, .if_icmp .ne 24, 3), (54, .aload_n 0, 1), (55, .getfield 44, 3), (58, .iload 5, 2), (60, .iaload, 1), (61, .iload_n 2, 1), (62, .if_icmp .ne 13, 3), (65, .aload_n 0, 1), (66, .getfield 47, 3), (69, .iload 5, 2), (71, .iaload, 1), (72, .goto 37, 3), (75, .aload_n 0, 1), (76, .getfield 41, 3), (79, .iload 5, 2), (81, .iaload, 1), (82, .iload_n 2, 1), (83, .if_icmp .ne 25, 3), (86, .aload_n 0, 1), (87, .getfield 44, 3), (90, .iload 5, 2), (92, .iaload, 1), (93, .iload_n 1, 1), (94, .if_icmp .ne 14, 3), (97, .aload_n 0, 1), (98, .getfield 47, 3), (101, .iload 5, 2), (103, .iaload, 1), (104, .ineg, 1), (105, .goto 4, 3)]
theorem od_X10_sure_0 : ∀ q ∈ op_X10_sure_0, decode cX10_sure q.1 = .ok q.2 := by decide +kernel
def op_X10_sure_1 : List (Nat × Instr × Nat) := [(108, .iconst 0, 1), (109, .istore 6, 2), (111, .iload_n 3, 1), (112, .ifCond .ne 8, 3), (115, .iload 6, 2), (117, .ifCond .le 7, 3), (120, .iconst 1, 1), (121, .goto 4, 3), (124, .iconst 0, 1), (125, .istore_n 3, 1), (126, .iload 4, 2), (128, .ifCond .ne 8, 3), (131, .iload 6, 2), (133, .ifCond .ge 7, 3), (136, .iconst 1, 1), (137, .goto 4, 3), (140, .iconst 0, 1), (141, .istore 4, 2), (143, .iinc 5 1, 3), (146, .goto (-112), 3), (149, .iload_n 3, 1), (150, .ifCond .eq 12, 3), (153, .iload 4, 2), (155, .ifCond .ne 7, 3), (158, .iconst 1, 1), (159, .goto 17, 3), (162, .iload 4, 2), (164, .ifCond .eq 11, 3), (167, .iload_n 3, 1), (168, .ifCond .ne 7, 3), (171, .iconst 2, 1), (172, .goto 4, 3), (175, .iconst 0, 1), (176, .ireturn, 1)]
theorem od_X10_sure_1 : ∀ q ∈ op_X10_sure_1, decode cX10_sure q.1 = .ok q.2 := by decide +kernel
def op_X10_takes_0 : List (Nat × Instr × Nat) := [(0, .aload_n 0, 1), (1, .invokevirtual 271, 3), (4, .iload_n 1, 1), (5, .if_icmp .eq 5, 3), (8, .iconst 0, 1), (9, .ireturn, 1), (10, .aload_n 0, 1), (11, .dup, 1), (12, .getfield 251, 3), (15, .iconst 1, 1), (16, .iadd, 1), (17, .putfield 251, 3), (20, .iconst 1, 1), (21, .ireturn, 1)]
theorem od_X10_takes_0 : ∀ q ∈ op_X10_takes_0, decode cX10_takes q.1 = .ok q.2 := by decide +kernel
def op_X10_tells_0 : List (Nat × Instr × Nat) := [(0, .iload_n 1, 1), (1, .ifCond .ge 4, 3), (4, .return_, 1), (5, .aload_n 0, 1), (6, .getfield 56, 3), (9, .bipush 7, 2), (11, .iload_n 1, 1), (12, .imul, 1), (13, .iload_n 1, 1), (14, .iadd, 1), (15, .dup2, 1), (16, .laload, 1), (17, .lconst 1, 1), (18, .ladd, 1), (19, .lastore, 1), (20, .iload_n 2, 1), (21, .ifCond .lt 18, 3), (24, .aload_n 0, 1), (25, .getfield 56, 3), (28, .bipush 7, 2), (30, .iload_n 1, 1), (31, .imul, 1), (32, .iload_n 2, 1), (33, .iadd, 1), (34, .dup2, 1), (35, .laload, 1), (36, .lconst 1, 1), (37, .lsub, 1), (38, .lastore, 1), (39, .aload_n 0, 1), (40, .getfield 60, 3), (43, .iload_n 1, 1), (44, .dup2, 1), (45, .laload, 1), (46, .iload_n 3, 1), (47, .i2l, 1), (48, .ladd, 1), (49, .lastore, 1), (50, .return_, 1)]
theorem od_X10_tells_0 : ∀ q ∈ op_X10_tells_0, decode cX10_tells q.1 = .ok q.2 := by decide +kernel
def op_X10_test_0 : List (Nat × Instr × Nat) := [(0, .aload_n 0, 1), (1, .bipush 33, 2), (3, .invokevirtual 275, 3), (6, .istore_n 2, 1), (7, .aload_n 0, 1), (8, .bipush 8, 2), (10, .bipush 14, 2), (12, .invokevirtual 278, 3), (15, .istore_n 3, 1), (16, .iload_n 3, 1), (17, .ifCond .ge 5, 3), (20, .iconst 0, 1), (21, .ireturn, 1), (22, .aload_n 0, 1), (23, .invokevirtual 271, 3), (26, .istore 4, 2), (28, .iload 4, 2), (30, .bipush 61, 2), (32, .if_icmp .eq 19, 3), (35, .iload 4, 2), (37, .bipush 60, 2), (39, .if_icmp .eq 12, 3), (42, .iload 4, 2), (44, .bipush 62, 2), (46, .if_icmp .eq 5, 3), (49, .iconst 0, 1), (50, .ireturn, 1), (51, .aload_n 0, 1), (52, .dup, 1), (53, .getfield 251, 3), (56, .iconst 1, 1), (57, .iadd, 1), (58, .putfield 251, 3), (61, .aload_n 0, 1), (62, .invokevirtual 271, 3), (65, .invokestatic 281, 3), (68, .ifCond .ne 5, 3), (71, .iconst 0, 1), (72, .ireturn, 1), (73, .iconst 0, 1), (74, .istore 5, 2), (76, .iconst 0, 1), (77, .istore 6, 2), (79, .iload 6, 2), (81, .iconst 3, 1), (82, .if_icmp .ge 44, 3), (85, .aload_n 0, 1), (86, .invokevirtual 271, 3), (89, .invokestatic 281, 3), (92, .ifCond .eq 34, 3), (95, .bipush 10, 2), (97, .iload 5, 2), (99, .imul, 1), (100, .aload_n 0, 1), (101, .invokevirtual 271, 3), (104, .iadd, 1), (105, .bipush 48, 2), (107, .isub, 1), (108, .istore 5, 2), (110, .aload_n 0, 1)]
theorem od_X10_test_0 : ∀ q ∈ op_X10_test_0, decode cX10_test q.1 = .ok q.2 := by decide +kernel
def op_X10_test_1 : List (Nat × Instr × Nat) := [(111, .dup, 1), (112, .getfield 251, 3), (115, .iconst 1, 1), (116, .iadd, 1), (117, .putfield 251, 3), (120, .iinc 6 1, 3), (123, .goto (-44), 3), (126, .aload_n 0, 1), (127, .getfield 93, 3), (130, .iload_n 1, 1), (131, .iload_n 2, 1), (132, .ifCond .eq 7, 3), (135, .iconst 1, 1), (136, .goto 4, 3), (139, .iconst 0, 1), (140, .iastore, 1), (141, .aload_n 0, 1), (142, .getfield 93, 3), (145, .iload_n 1, 1), (146, .iconst 1, 1), (147, .iadd, 1), (148, .iload_n 3, 1), (149, .bipush 8, 2), (151, .isub, 1), (152, .iastore, 1), (153, .aload_n 0, 1), (154, .getfield 93, 3), (157, .iload_n 1, 1), (158, .iconst 2, 1), (159, .iadd, 1), (160, .iload 4, 2), (162, .iastore, 1), (163, .aload_n 0, 1), (164, .getfield 93, 3), (167, .iload_n 1, 1), (168, .iconst 3, 1), (169, .iadd, 1), (170, .iload 5, 2), (172, .iastore, 1), (173, .iconst 1, 1), (174, .ireturn, 1)]
theorem od_X10_test_1 : ∀ q ∈ op_X10_test_1, decode cX10_test q.1 = .ok q.2 := by decide +kernel
def op_X10_trailer_0 : List (Nat × Instr × Nat) := [(0, .iload_n 1, 1), (1, .i2l, 1), (2, .lconst 0, 1), (3, .iconst 1, 1), (4, .aload_n 0, 1), (5, .getfield 139, 3), (8, .ishl, 1), (9, .iconst 1, 1), (10, .isub, 1), (11, .i2l, 1), (12, .invokestatic 155, 3), (15, .ifCond .eq 15, 3), (18, .iload_n 2, 1), (19, .i2l, 1), (20, .lconst 1, 1), (21, .ldc2_w 178, 3), (24, .invokestatic 155, 3), (27, .ifCond .ne 6, 3), (30, .bipush (-2), 2), (32, .ireturn, 1), (33, .iconst 1, 1), (34, .istore_n 3, 1), (35, .iload_n 1, 1), (36, .invokestatic 189, 3), (39, .istore 4, 2), (41, .iload 4, 2), (43, .ifCond .le 13, 3), (46, .iload_n 3, 1), (47, .iconst 3, 1), (48, .imul, 1), (49, .istore_n 3, 1), (50, .iinc 4 (-1), 3), (53, .goto (-12), 3), (56, .iconst (-1), 1), (57, .istore 4, 2), (59, .iload_n 2, 1), (60, .iconst 1, 1), (61, .iadd, 1), (62, .istore 5, 2), (64, .iconst 0, 1), (65, .istore 6, 2), (67, .iload 6, 2), (69, .iload_n 3, 1), (70, .if_icmp .ge 36, 3), (73, .aload_n 0, 1), (74, .iload_n 1, 1), (75, .iload 6, 2), (77, .invokevirtual 327, 3), (80, .istore 7, 2), (82, .iload 7, 2), (84, .iload 5, 2), (86, .if_icmp .lt 6, 3), (89, .goto 11, 3), (92, .iload 7, 2), (94, .istore 5, 2), (96, .iload 6, 2), (98, .istore 4, 2), (100, .iinc 6 1, 3), (103, .goto (-36), 3), (106, .iload 4, 2)]
theorem od_X10_trailer_0 : ∀ q ∈ op_X10_trailer_0, decode cX10_trailer q.1 = .ok q.2 := by decide +kernel
def op_X10_trailer_1 : List (Nat × Instr × Nat) := [(108, .ifCond .ge 6, 3), (111, .bipush (-3), 2), (113, .ireturn, 1), (114, .aload_n 0, 1), (115, .iload_n 1, 1), (116, .iload 4, 2), (118, .invokevirtual 327, 3), (121, .istore 6, 2), (123, .iconst 0, 1), (124, .istore 7, 2), (126, .iload 7, 2), (128, .bipush 8, 2), (130, .if_icmp .ge 37, 3), (133, .aload_n 0, 1), (134, .getfield 127, 3), (137, .iload 7, 2), (139, .iload_n 1, 1), (140, .iload 7, 2), (142, .ishr, 1), (143, .iconst 1, 1), (144, .iand, 1), (145, .iconst 1, 1), (146, .if_icmp .ne 13, 3), (149, .aload_n 0, 1), (150, .getfield 130, 3), (153, .iload 7, 2), (155, .iaload, 1), (156, .goto 4, 3), (159, .iconst (-1), 1), (160, .iastore, 1), (161, .iinc 7 1, 3), (164, .goto (-38), 3), (167, .iload 6, 2), (169, .ireturn, 1)]
theorem od_X10_trailer_1 : ∀ q ∈ op_X10_trailer_1, decode cX10_trailer q.1 = .ok q.2 := by decide +kernel
def op_X10_unrace_0 : List (Nat × Instr × Nat) := [(0, .aload_n 0, 1), (1, .getfield 180, 3), (4, .ifCond .ne 6, 3), (7, .bipush (-3), 2), (9, .ireturn, 1), (10, .aload_n 0, 1), (11, .dup, 1), (12, .getfield 180, 3), (15, .iconst 1, 1), (16, .isub, 1), (17, .putfield 180, 3), (20, .aload_n 0, 1), (21, .getfield 180, 3), (24, .ireturn, 1)]
theorem od_X10_unrace_0 : ∀ q ∈ op_X10_unrace_0, decode cX10_unrace q.1 = .ok q.2 := by decide +kernel
def op_X10_water_0 : List (Nat × Instr × Nat) := [(0, .iload_n 1, 1), (1, .i2l, 1), (2, .lconst 0, 1), (3, .ldc2_w 238, 3), (6, .invokestatic 155, 3), (9, .ifCond .ne 5, 3), (12, .iconst (-1), 1), (13, .ireturn, 1), (14, .iload_n 2, 1), (15, .i2l, 1), (16, .lconst 0, 1), (17, .ldc2_w 240, 3), (20, .invokestatic 155, 3), (23, .ifCond .eq 15, 3), (26, .iload_n 3, 1), (27, .i2l, 1), (28, .lconst 0, 1), (29, .ldc2_w 242, 3), (32, .invokestatic 155, 3), (35, .ifCond .ne 6, 3), (38, .bipush (-2), 2), (40, .ireturn, 1), (41, .aload_n 0, 1), (42, .getfield 75, 3), (45, .iload_n 1, 1), (46, .iload_n 2, 1), (47, .iastore, 1), (48, .aload_n 0, 1), (49, .getfield 78, 3), (52, .iload_n 1, 1), (53, .iload_n 3, 1), (54, .iastore, 1), (55, .iconst 0, 1), (56, .ireturn, 1)]
theorem od_X10_water_0 : ∀ q ∈ op_X10_water_0, decode cX10_water q.1 = .ok q.2 := by decide +kernel
def op_X10_whoIn_0 : List (Nat × Instr × Nat) := [(0, .iconst 0, 1), (1, .istore_n 2, 1), (2, .iconst 0, 1), (3, .istore_n 3, 1), (4, .iload_n 3, 1), (5, .aload_n 0, 1), (6, .getfield 136, 3), (9, .if_icmp .ge 29, 3), (12, .iload_n 2, 1), (13, .aload_n 0, 1), (14, .getfield 16, 3), (17, .iload_n 3, 1), (18, .iaload, 1), (19, .iload_n 1, 1), (20, .if_icmp .ne 9, 3), (23, .iconst 1, 1), (24, .iload_n 3, 1), (25, .ishl, 1), (26, .goto 4, 3), (29, .iconst 0, 1), (30, .ior, 1), (31, .istore_n 2, 1), (32, .iinc 3 1, 3), (35, .goto (-31), 3), (38, .iload_n 2, 1), (39, .ireturn, 1)]
theorem od_X10_whoIn_0 : ∀ q ∈ op_X10_whoIn_0, decode cX10_whoIn q.1 = .ok q.2 := by decide +kernel
def op_X10_word_0 : List (Nat × Instr × Nat) := [(0, .aload_n 0, 1), (1, .getfield 251, 3), (4, .istore_n 3, 1), (5, .iconst 0, 1), (6, .istore 4, 2), (8, .iconst (-1), 1), (9, .istore 5, 2), (11, .iload_n 1, 1), (12, .istore 6, 2), (14, .iload 6, 2), (16, .iload_n 2, 1), (17, .if_icmp .gt 64, 3), (20, .aload_n 0, 1), (21, .iload 6, 2), (23, .iload_n 3, 1), (24, .invokevirtual 265, 3), (27, .ifCond .ne 6, 3), (30, .goto 45, 3), (33, .iload 6, 2), (35, .aload_n 0, 1), (36, .getfield 251, 3), (39, .iload_n 3, 1), (40, .isub, 1), (41, .invokestatic 268, 3), (44, .ifCond .ne 10, 3), (47, .iload 6, 2), (49, .istore 5, 2), (51, .goto 24, 3), (54, .iload 6, 2), (56, .aload_n 0, 1), (57, .getfield 251, 3), (60, .iload_n 3, 1), (61, .isub, 1), (62, .invokestatic 268, 3), (65, .aload_n 0, 1), (66, .invokevirtual 271, 3), (69, .if_icmp .ne 6, 3), (72, .iinc 4 1, 3), (75, .iinc 6 1, 3), (78, .goto (-64), 3), (81, .iload 5, 2), (83, .ifCond .lt 6, 3), (86, .iload 5, 2), (88, .ireturn, 1), (89, .iload 4, 2), (91, .ifCond .ne 5, 3), (94, .iconst (-1), 1), (95, .ireturn, 1), (96, .aload_n 0, 1), (97, .dup, 1), (98, .getfield 251, 3), (101, .iconst 1, 1), (102, .iadd, 1), (103, .putfield 251, 3), (106, .goto (-101), 3)]
theorem od_X10_word_0 : ∀ q ∈ op_X10_word_0, decode cX10_word q.1 = .ok q.2 := by decide +kernel
def op_X10_wordOf_0 : List (Nat × Instr × Nat) := [(0, .iload_n 0, 1), (1, .tableswitch 265 0 14 #[75, 88, 102, 116, 131, 143, 147, 159, 170, 184, 197, 211, 226, 239, 254], 75), (76, .bipush 16, 2), (78, .iconst 1, 1), (79, .bipush 9, 2), (81, .bipush 18, 2), (83, .iconst 0, 1), (84, .iconst 0, 1), (85, .invokestatic 259, 3), (88, .lreturn, 1), (89, .bipush 6, 2), (91, .bipush 15, 2), (93, .bipush 21, 2), (95, .bipush 18, 2), (97, .iconst 0, 1), (98, .iconst 0, 1), (99, .invokestatic 259, 3), (102, .lreturn, 1), (103, .iconst 5, 1), (104, .bipush 9, 2), (106, .bipush 7, 2), (108, .bipush 8, 2), (110, .bipush 20, 2), (112, .iconst 0, 1), (113, .invokestatic 259, 3), (116, .lreturn, 1), (117, .bipush 19, 2), (119, .bipush 9, 2), (121, .bipush 14, 2), (123, .bipush 7, 2), (125, .bipush 12, 2), (127, .iconst 5, 1), (128, .invokestatic 259, 3), (131, .lreturn, 1), (132, .bipush 17, 2), (134, .bipush 21, 2), (136, .iconst 1, 1), (137, .iconst 4, 1), (138, .iconst 0, 1), (139, .iconst 0, 1), (140, .invokestatic 259, 3), (143, .lreturn, 1), (144, .ldc2_w 263, 3), (147, .lreturn, 1), (148, .bipush 12, 2), (150, .iconst 5, 1), (151, .bipush 20, 2), (153, .iconst 0, 1), (154, .iconst 0, 1), (155, .iconst 0, 1), (156, .invokestatic 259, 3), (159, .lreturn, 1), (160, .iconst 2, 1), (161, .iconst 1, 1), (162, .bipush 18, 2), (164, .iconst 0, 1), (165, .iconst 0, 1), (166, .iconst 0, 1), (167, .invokestatic 259, 3), (170, .lreturn, 1)]
theorem od_X10_wordOf_0 : ∀ q ∈ op_X10_wordOf_0, decode cX10_wordOf q.1 = .ok q.2 := by decide +kernel
def op_X10_wordOf_1 : List (Nat × Instr × Nat) := [(171, .bipush 19, 2), (173, .bipush 20, 2), (175, .bipush 18, 2), (177, .iconst 5, 1), (178, .iconst 1, 1), (179, .bipush 13, 2), (181, .invokestatic 259, 3), (184, .lreturn, 1), (185, .bipush 23, 2), (187, .bipush 9, 2), (189, .bipush 14, 2), (191, .iconst 4, 1), (192, .iconst 0, 1), (193, .iconst 0, 1), (194, .invokestatic 259, 3), (197, .lreturn, 1), (198, .bipush 8, 2), (200, .bipush 15, 2), (202, .bipush 21, 2), (204, .bipush 18, 2), (206, .iconst 0, 1), (207, .iconst 0, 1), (208, .invokestatic 259, 3), (211, .lreturn, 1), (212, .bipush 13, 2), (214, .bipush 15, 2), (216, .bipush 14, 2), (218, .bipush 20, 2), (220, .bipush 8, 2), (222, .iconst 0, 1), (223, .invokestatic 259, 3), (226, .lreturn, 1), (227, .bipush 19, 2), (229, .bipush 9, 2), (231, .bipush 26, 2), (233, .iconst 5, 1), (234, .iconst 0, 1), (235, .iconst 0, 1), (236, .invokestatic 259, 3), (239, .lreturn, 1), (240, .bipush 25, 2), (242, .bipush 15, 2), (244, .bipush 21, 2), (246, .bipush 14, 2), (248, .bipush 7, 2), (250, .iconst 0, 1), (251, .invokestatic 259, 3), (254, .lreturn, 1), (255, .bipush 9, 2), (257, .iconst 3, 1), (258, .iconst 5, 1), (259, .iconst 0, 1), (260, .iconst 0, 1), (261, .iconst 0, 1), (262, .invokestatic 259, 3), (265, .lreturn, 1), (266, .bipush 9, 2), (268, .bipush 6, 2), (270, .iconst 0, 1), (271, .iconst 0, 1)]
theorem od_X10_wordOf_1 : ∀ q ∈ op_X10_wordOf_1, decode cX10_wordOf q.1 = .ok q.2 := by decide +kernel
def op_X10_wordOf_2 : List (Nat × Instr × Nat) := [(272, .iconst 0, 1), (273, .iconst 0, 1), (274, .invokestatic 259, 3), (277, .lreturn, 1)]
theorem od_X10_wordOf_2 : ∀ q ∈ op_X10_wordOf_2, decode cX10_wordOf q.1 = .ok q.2 := by decide +kernel
def op_X1_choose_0 : List (Nat × Instr × Nat) := [(0, .iload_n 1, 1), (1, .sipush 256, 3), (4, .imul, 1), (5, .istore 4, 2), (7, .iconst 0, 1), (8, .istore 5, 2), (10, .iload 5, 2), (12, .iload_n 3, 1), (13, .if_icmp .ge 59, 3), (16, .iload_n 2, 1), (17, .iload 5, 2), (19, .invokestatic 49, 3), (22, .ifCond .eq 44, 3), (25, .aload_n 0, 1), (26, .getfield 13, 3), (29, .iload 4, 2), (31, .sipush 256, 3), (34, .iadd, 1), (35, .iload_n 2, 1), (36, .iconst 1, 1), (37, .iload 5, 2), (39, .ishl, 1), (40, .ixor, 1), (41, .iadd, 1), (42, .iaload, 1), (43, .aload_n 0, 1), (44, .getfield 17, 3), (47, .iload 5, 2), (49, .iaload, 1), (50, .iadd, 1), (51, .aload_n 0, 1), (52, .getfield 13, 3), (55, .iload 4, 2), (57, .iload_n 2, 1), (58, .iadd, 1), (59, .iaload, 1), (60, .if_icmp .ne 6, 3), (63, .iload 5, 2), (65, .ireturn, 1), (66, .iinc 5 1, 3), (69, .goto (-59), 3), (72, .iconst (-1), 1), (73, .ireturn, 1)]
theorem od_X1_choose_0 : ∀ q ∈ op_X1_choose_0, decode cX1_choose q.1 = .ok q.2 := by decide +kernel
def op_X1_fillRow_0 : List (Nat × Instr × Nat) := [(0, .aload_n 1, 1), (1, .iload_n 2, 1), (2, .invokevirtual 23, 3), (5, .istore 5, 2), (7, .iload 4, 2), (9, .sipush 256, 3), (12, .imul, 1), (13, .istore 6, 2), (15, .iload 6, 2), (17, .sipush 256, 3), (20, .iadd, 1), (21, .istore 7, 2), (23, .aload_n 0, 1), (24, .getfield 13, 3), (27, .iload 7, 2), (29, .aload_n 0, 1), (30, .getfield 13, 3), (33, .iload 6, 2), (35, .iconst 1, 1), (36, .iload 5, 2), (38, .ishl, 1), (39, .invokestatic 35, 3), (42, .aload_n 1, 1), (43, .iload_n 2, 1), (44, .iload_n 3, 1), (45, .iload 4, 2), (47, .invokestatic 41, 3), (50, .ifCond .ne 4, 3), (53, .return_, 1), (54, .aload_n 0, 1), (55, .aload_n 1, 1), (56, .iload_n 2, 1), (57, .iload 4, 2), (59, .invokevirtual 45, 3), (62, .iconst 1, 1), (63, .istore 8, 2), (65, .iload 8, 2), (67, .iconst 1, 1), (68, .iload 5, 2), (70, .ishl, 1), (71, .if_icmp .ge 89, 3), (74, .aload_n 0, 1), (75, .getfield 13, 3), (78, .iload 7, 2), (80, .iload 8, 2), (82, .iadd, 1), (83, .iaload, 1), (84, .istore 9, 2), (86, .iconst 0, 1), (87, .istore 10, 2), (89, .iload 10, 2), (91, .iload 5, 2), (93, .if_icmp .ge 49, 3), (96, .iload 8, 2), (98, .iload 10, 2), (100, .invokestatic 49, 3), (103, .ifCond .eq 33, 3), (106, .iload 9, 2), (108, .aload_n 0, 1), (109, .getfield 13, 3)]
theorem od_X1_fillRow_0 : ∀ q ∈ op_X1_fillRow_0, decode cX1_fillRow q.1 = .ok q.2 := by decide +kernel
def op_X1_fillRow_1 : List (Nat × Instr × Nat) := [(112, .iload 7, 2), (114, .iload 8, 2), (116, .iconst 1, 1), (117, .iload 10, 2), (119, .ishl, 1), (120, .ixor, 1), (121, .iadd, 1), (122, .iaload, 1), (123, .aload_n 0, 1), (124, .getfield 17, 3), (127, .iload 10, 2), (129, .iaload, 1), (130, .iadd, 1), (131, .invokestatic 53, 3), (134, .istore 9, 2), (136, .iinc 10 1, 3), (139, .goto (-50), 3), (142, .aload_n 0, 1), (143, .getfield 13, 3), (146, .iload 6, 2), (148, .iload 8, 2), (150, .iadd, 1), (151, .iload 9, 2), (153, .iastore, 1), (154, .iinc 8 1, 3), (157, .goto (-92), 3), (160, .return_, 1)]
theorem od_X1_fillRow_1 : ∀ q ∈ op_X1_fillRow_1, decode cX1_fillRow q.1 = .ok q.2 := by decide +kernel
def op_X1_init_0 : List (Nat × Instr × Nat) := [(0, .aload_n 0, 1), (1, .invokespecial 5, 3), (4, .aload_n 0, 1), (5, .sipush 4352, 3), (8, .newarray .int, 2), (10, .putfield 13, 3), (13, .aload_n 0, 1), (14, .bipush 8, 2), (16, .newarray .int, 2), (18, .putfield 17, 3), (21, .aload_n 0, 1), (22, .bipush 16, 2), (24, .newarray .int, 2), (26, .putfield 20, 3), (29, .return_, 1)]
theorem od_X1_init_0 : ∀ q ∈ op_X1_init_0, decode cX1_init q.1 = .ok q.2 := by decide +kernel
def op_X1_isFree_0 : List (Nat × Instr × Nat) := [(0, .aload_n 0, 1), (1, .iload_n 3, 1), (2, .iload_n 2, 1), (3, .invokevirtual 59, 3), (6, .ifCond .eq 11, 3), (9, .aload_n 0, 1), (10, .iload_n 3, 1), (11, .invokevirtual 62, 3), (14, .ifCond .eq 5, 3), (17, .iconst 0, 1), (18, .ireturn, 1), (19, .aload_n 0, 1), (20, .getfield 66, 3), (23, .iload_n 3, 1), (24, .iaload, 1), (25, .iconst (-1), 1), (26, .if_icmp .eq 12, 3), (29, .aload_n 0, 1), (30, .iload_n 3, 1), (31, .iload_n 1, 1), (32, .invokevirtual 69, 3), (35, .ifCond .eq 7, 3), (38, .iconst 1, 1), (39, .goto 4, 3), (42, .iconst 0, 1), (43, .ireturn, 1)]
theorem od_X1_isFree_0 : ∀ q ∈ op_X1_isFree_0, decode cX1_isFree q.1 = .ok q.2 := by decide +kernel
def op_X1_leastCost_0 : List (Nat × Instr × Nat) := [(0, .iconst 1, 1), (1, .aload_n 1, 1), (2, .iload_n 2, 1), (3, .invokevirtual 23, 3), (6, .ishl, 1), (7, .iconst 1, 1), (8, .isub, 1), (9, .istore 4, 2), (11, .aload_n 1, 1), (12, .getfield 27, 3), (15, .sipush 256, 3), (18, .imul, 1), (19, .istore 5, 2), (21, .iconst 0, 1), (22, .istore 6, 2), (24, .iload 6, 2), (26, .iload 4, 2), (28, .if_icmp .gt 31, 3), (31, .aload_n 0, 1), (32, .getfield 13, 3), (35, .iload 5, 2), (37, .iload 6, 2), (39, .iadd, 1), (40, .iload 6, 2), (42, .ifCond .ne 7, 3), (45, .iconst 0, 1), (46, .goto 6, 3), (49, .sipush 1000, 3), (52, .iastore, 1), (53, .iinc 6 1, 3), (56, .goto (-32), 3), (59, .aload_n 1, 1), (60, .getfield 27, 3), (63, .iconst 1, 1), (64, .isub, 1), (65, .istore 6, 2), (67, .iload 6, 2), (69, .ifCond .lt 18, 3), (72, .aload_n 0, 1), (73, .aload_n 1, 1), (74, .iload_n 2, 1), (75, .iload_n 3, 1), (76, .iload 6, 2), (78, .invokevirtual 31, 3), (81, .iinc 6 (-1), 3), (84, .goto (-17), 3), (87, .aload_n 0, 1), (88, .getfield 13, 3), (91, .iload 4, 2), (93, .iaload, 1), (94, .ireturn, 1)]
theorem od_X1_leastCost_0 : ∀ q ∈ op_X1_leastCost_0, decode cX1_leastCost q.1 = .ok q.2 := by decide +kernel
def op_X1_seatThem_0 : List (Nat × Instr × Nat) := [(0, .iconst 1, 1), (1, .aload_n 1, 1), (2, .iload_n 2, 1), (3, .invokevirtual 23, 3), (6, .ishl, 1), (7, .iconst 1, 1), (8, .isub, 1), (9, .istore 4, 2), (11, .iconst 0, 1), (12, .istore 5, 2), (14, .iload 5, 2), (16, .aload_n 1, 1), (17, .getfield 27, 3), (20, .if_icmp .ge 81, 3), (23, .aload_n 0, 1), (24, .getfield 20, 3), (27, .iload 5, 2), (29, .iconst (-1), 1), (30, .iastore, 1), (31, .aload_n 1, 1), (32, .iload_n 2, 1), (33, .iload_n 3, 1), (34, .iload 5, 2), (36, .invokestatic 41, 3), (39, .ifCond .eq 31, 3), (42, .aload_n 0, 1), (43, .aload_n 1, 1), (44, .iload_n 2, 1), (45, .iload 5, 2), (47, .invokevirtual 45, 3), (50, .aload_n 0, 1), (51, .getfield 20, 3), (54, .iload 5, 2), (56, .aload_n 0, 1), (57, .iload 5, 2), (59, .iload 4, 2), (61, .aload_n 1, 1), (62, .iload_n 2, 1), (63, .invokevirtual 23, 3), (66, .invokevirtual 76, 3), (69, .iastore, 1), (70, .aload_n 0, 1), (71, .getfield 20, 3), (74, .iload 5, 2), (76, .iaload, 1), (77, .iconst (-1), 1), (78, .if_icmp .eq 17, 3), (81, .iload 4, 2), (83, .iconst 1, 1), (84, .aload_n 0, 1), (85, .getfield 20, 3), (88, .iload 5, 2), (90, .iaload, 1), (91, .ishl, 1), (92, .ixor, 1), (93, .istore 4, 2), (95, .iinc 5 1, 3), (98, .goto (-84), 3), (101, .iconst 0, 1), (102, .istore 5, 2)]
theorem od_X1_seatThem_0 : ∀ q ∈ op_X1_seatThem_0, decode cX1_seatThem q.1 = .ok q.2 := by decide +kernel
def op_X1_seatThem_1 : List (Nat × Instr × Nat) := [(104, .iload 5, 2), (106, .aload_n 1, 1), (107, .getfield 27, 3), (110, .if_icmp .ge 69, 3), (113, .aload_n 0, 1), (114, .getfield 20, 3), (117, .iload 5, 2), (119, .iaload, 1), (120, .iconst (-1), 1), (121, .if_icmp .eq 25, 3), (124, .aload_n 1, 1), (125, .getfield 66, 3), (128, .iload 5, 2), (130, .bipush 10, 2), (132, .iload_n 2, 1), (133, .imul, 1), (134, .aload_n 0, 1), (135, .getfield 20, 3), (138, .iload 5, 2), (140, .iaload, 1), (141, .iadd, 1), (142, .iastore, 1), (143, .goto 30, 3), (146, .aload_n 1, 1), (147, .iload 5, 2), (149, .iload_n 2, 1), (150, .invokevirtual 69, 3), (153, .ifCond .eq 20, 3), (156, .aload_n 1, 1), (157, .iload 5, 2), (159, .invokevirtual 62, 3), (162, .ifCond .ne 11, 3), (165, .aload_n 1, 1), (166, .getfield 66, 3), (169, .iload 5, 2), (171, .iconst (-1), 1), (172, .iastore, 1), (173, .iinc 5 1, 3), (176, .goto (-72), 3), (179, .return_, 1)]
theorem od_X1_seatThem_1 : ∀ q ∈ op_X1_seatThem_1, decode cX1_seatThem q.1 = .ok q.2 := by decide +kernel
def op_X1_setPrices_0 : List (Nat × Instr × Nat) := [(0, .aload_n 1, 1), (1, .iload_n 3, 1), (2, .iload_n 2, 1), (3, .invokevirtual 69, 3), (6, .ifCond .eq 7, 3), (9, .iconst 4, 1), (10, .goto 4, 3), (13, .iconst 5, 1), (14, .istore 4, 2), (16, .iconst 0, 1), (17, .istore 5, 2), (19, .iload 5, 2), (21, .aload_n 1, 1), (22, .iload_n 2, 1), (23, .invokevirtual 23, 3), (26, .if_icmp .ge 59, 3), (29, .aload_n 1, 1), (30, .getfield 66, 3), (33, .iload_n 3, 1), (34, .iaload, 1), (35, .bipush 10, 2), (37, .iload_n 2, 1), (38, .imul, 1), (39, .iload 5, 2), (41, .iadd, 1), (42, .if_icmp .ne 7, 3), (45, .iconst 1, 1), (46, .goto 4, 3), (49, .iconst 0, 1), (50, .istore 6, 2), (52, .aload_n 0, 1), (53, .getfield 17, 3), (56, .iload 5, 2), (58, .iload 6, 2), (60, .ifCond .eq 7, 3), (63, .iconst 0, 1), (64, .goto 5, 3), (67, .iload 4, 2), (69, .aload_n 1, 1), (70, .iload_n 3, 1), (71, .iload_n 2, 1), (72, .iload 5, 2), (74, .invokevirtual 72, 3), (77, .iadd, 1), (78, .iastore, 1), (79, .iinc 5 1, 3), (82, .goto (-63), 3), (85, .return_, 1)]
theorem od_X1_setPrices_0 : ∀ q ∈ op_X1_setPrices_0, decode cX1_setPrices q.1 = .ok q.2 := by decide +kernel
def op_X2_addHeat_0 : List (Nat × Instr × Nat) := [(0, .aload_n 0, 1), (1, .getfield 18, 3), (4, .aload_n 0, 1), (5, .getfield 9, 3), (8, .iload_n 1, 1), (9, .iastore, 1), (10, .aload_n 0, 1), (11, .getfield 22, 3), (14, .aload_n 0, 1), (15, .getfield 9, 3), (18, .iload_n 2, 1), (19, .iastore, 1), (20, .aload_n 0, 1), (21, .dup, 1), (22, .getfield 9, 3), (25, .iconst 1, 1), (26, .iadd, 1), (27, .putfield 9, 3), (30, .aload_n 0, 1), (31, .getfield 9, 3), (34, .iconst 1, 1), (35, .isub, 1), (36, .ireturn, 1)]
theorem od_X2_addHeat_0 : ∀ q ∈ op_X2_addHeat_0, decode cX2_addHeat q.1 = .ok q.2 := by decide +kernel
def op_X2_clashingPairs_0 : List (Nat × Instr × Nat) := [(0, .iconst 0, 1), (1, .istore_n 1, 1), (2, .iconst 0, 1), (3, .istore_n 2, 1), (4, .iload_n 2, 1), (5, .aload_n 0, 1), (6, .getfield 9, 3), (9, .if_icmp .ge 40, 3), (12, .iconst 0, 1), (13, .istore_n 3, 1), (14, .iload_n 3, 1), (15, .iload_n 2, 1), (16, .if_icmp .ge 27, 3), (19, .aload_n 0, 1), (20, .iload_n 2, 1), (21, .aload_n 0, 1), (22, .getfield 22, 3), (25, .iload_n 2, 1), (26, .iaload, 1), (27, .iload_n 3, 1), (28, .invokevirtual 31, 3), (31, .ifCond .eq 6, 3), (34, .iinc 1 1, 3), (37, .iinc 3 1, 3), (40, .goto (-26), 3), (43, .iinc 2 1, 3), (46, .goto (-42), 3), (49, .iload_n 1, 1), (50, .ireturn, 1)]
theorem od_X2_clashingPairs_0 : ∀ q ∈ op_X2_clashingPairs_0, decode cX2_clashingPairs q.1 = .ok q.2 := by decide +kernel
def op_X2_firstClash_0 : List (Nat × Instr × Nat) := [(0, .iconst 0, 1), (1, .istore_n 3, 1), (2, .iload_n 3, 1), (3, .aload_n 0, 1), (4, .getfield 9, 3), (7, .if_icmp .ge 21, 3), (10, .aload_n 0, 1), (11, .iload_n 1, 1), (12, .iload_n 2, 1), (13, .iload_n 3, 1), (14, .invokevirtual 31, 3), (17, .ifCond .eq 5, 3), (20, .iload_n 3, 1), (21, .ireturn, 1), (22, .iinc 3 1, 3), (25, .goto (-23), 3), (28, .iconst (-1), 1), (29, .ireturn, 1)]
theorem od_X2_firstClash_0 : ∀ q ∈ op_X2_firstClash_0, decode cX2_firstClash q.1 = .ok q.2 := by decide +kernel
def op_X2_freeMinute_0 : List (Nat × Instr × Nat) := [(0, .aload_n 0, 1), (1, .getfield 22, 3), (4, .iload_n 1, 1), (5, .iaload, 1), (6, .istore_n 2, 1), (7, .iconst 0, 1), (8, .istore_n 3, 1), (9, .iload_n 3, 1), (10, .aload_n 0, 1), (11, .getfield 9, 3), (14, .if_icmp .ge 39, 3), (17, .aload_n 0, 1), (18, .iload_n 1, 1), (19, .iload_n 2, 1), (20, .invokevirtual 35, 3), (23, .istore 4, 2), (25, .iload 4, 2), (27, .iconst (-1), 1), (28, .if_icmp .ne 6, 3), (31, .goto 22, 3), (34, .aload_n 0, 1), (35, .getfield 22, 3), (38, .iload 4, 2), (40, .iaload, 1), (41, .aload_n 0, 1), (42, .getfield 15, 3), (45, .iadd, 1), (46, .istore_n 2, 1), (47, .iinc 3 1, 3), (50, .goto (-41), 3), (53, .iload_n 2, 1), (54, .ireturn, 1)]
theorem od_X2_freeMinute_0 : ∀ q ∈ op_X2_freeMinute_0, decode cX2_freeMinute q.1 = .ok q.2 := by decide +kernel
def op_X2_init_0 : List (Nat × Instr × Nat) := [(0, .aload_n 0, 1), (1, .invokespecial 3, 3), (4, .aload_n 0, 1), (5, .iconst 0, 1), (6, .putfield 9, 3), (9, .aload_n 0, 1), (10, .bipush 30, 2), (12, .putfield 15, 3), (15, .aload_n 0, 1), (16, .bipush 20, 2), (18, .newarray .int, 2), (20, .putfield 18, 3), (23, .aload_n 0, 1), (24, .bipush 20, 2), (26, .newarray .int, 2), (28, .putfield 22, 3), (31, .return_, 1)]
theorem od_X2_init_0 : ∀ q ∈ op_X2_init_0, decode cX2_init q.1 = .ok q.2 := by decide +kernel
def op_X2_wouldClash_0 : List (Nat × Instr × Nat) := [(0, .iload_n 1, 1), (1, .iload_n 3, 1), (2, .if_icmp .eq 40, 3), (5, .aload_n 0, 1), (6, .getfield 18, 3), (9, .iload_n 1, 1), (10, .iaload, 1), (11, .aload_n 0, 1), (12, .getfield 18, 3), (15, .iload_n 3, 1), (16, .iaload, 1), (17, .if_icmp .ne 25, 3), (20, .iload_n 2, 1), (21, .aload_n 0, 1), (22, .getfield 22, 3), (25, .iload_n 3, 1), (26, .iaload, 1), (27, .isub, 1), (28, .invokestatic 25, 3), (31, .aload_n 0, 1), (32, .getfield 15, 3), (35, .if_icmp .ge 7, 3), (38, .iconst 1, 1), (39, .goto 4, 3), (42, .iconst 0, 1), (43, .ireturn, 1)]
theorem od_X2_wouldClash_0 : ∀ q ∈ op_X2_wouldClash_0, decode cX2_wouldClash q.1 = .ok q.2 := by decide +kernel
def op_X3_addLook_0 : List (Nat × Instr × Nat) := [(0, .aload_n 0, 1), (1, .getfield 31, 3), (4, .aload_n 0, 1), (5, .getfield 28, 3), (8, .iload_n 1, 1), (9, .iastore, 1), (10, .aload_n 0, 1), (11, .getfield 34, 3), (14, .aload_n 0, 1), (15, .getfield 28, 3), (18, .iload_n 2, 1), (19, .iastore, 1), (20, .aload_n 0, 1), (21, .getfield 37, 3), (24, .aload_n 0, 1), (25, .getfield 28, 3), (28, .aload_n 0, 1), (29, .getfield 9, 3), (32, .iastore, 1), (33, .aload_n 0, 1), (34, .dup, 1), (35, .getfield 28, 3), (38, .iconst 1, 1), (39, .iadd, 1), (40, .putfield 28, 3), (43, .aload_n 0, 1), (44, .getfield 28, 3), (47, .iconst 1, 1), (48, .isub, 1), (49, .ireturn, 1)]
theorem od_X3_addLook_0 : ∀ q ∈ op_X3_addLook_0, decode cX3_addLook q.1 = .ok q.2 := by decide +kernel
def op_X3_addOuting_0 : List (Nat × Instr × Nat) := [(0, .aload_n 0, 1), (1, .getfield 15, 3), (4, .aload_n 0, 1), (5, .getfield 9, 3), (8, .iload_n 1, 1), (9, .iastore, 1), (10, .aload_n 0, 1), (11, .getfield 19, 3), (14, .aload_n 0, 1), (15, .getfield 9, 3), (18, .iload_n 2, 1), (19, .iastore, 1), (20, .aload_n 0, 1), (21, .getfield 22, 3), (24, .aload_n 0, 1), (25, .getfield 9, 3), (28, .iload_n 3, 1), (29, .iastore, 1), (30, .aload_n 0, 1), (31, .getfield 25, 3), (34, .aload_n 0, 1), (35, .getfield 9, 3), (38, .iload 4, 2), (40, .iastore, 1), (41, .aload_n 0, 1), (42, .dup, 1), (43, .getfield 9, 3), (46, .iconst 1, 1), (47, .iadd, 1), (48, .putfield 9, 3), (51, .aload_n 0, 1), (52, .getfield 9, 3), (55, .iconst 1, 1), (56, .isub, 1), (57, .ireturn, 1)]
theorem od_X3_addOuting_0 : ∀ q ∈ op_X3_addOuting_0, decode cX3_addOuting q.1 = .ok q.2 := by decide +kernel
def op_X3_brokeAt_0 : List (Nat × Instr × Nat) := [(0, .aload_n 0, 1), (1, .aload_n 0, 1), (2, .getfield 31, 3), (5, .iload_n 1, 1), (6, .iaload, 1), (7, .iload_n 1, 1), (8, .invokevirtual 40, 3), (11, .istore_n 2, 1), (12, .aload_n 0, 1), (13, .getfield 34, 3), (16, .iload_n 1, 1), (17, .iaload, 1), (18, .ifCond .ne 22, 3), (21, .iload_n 2, 1), (22, .iconst (-1), 1), (23, .if_icmp .eq 13, 3), (26, .aload_n 0, 1), (27, .getfield 34, 3), (30, .iload_n 2, 1), (31, .iaload, 1), (32, .iconst 1, 1), (33, .if_icmp .ne 7, 3), (36, .iconst 1, 1), (37, .goto 4, 3), (40, .iconst 0, 1), (41, .ireturn, 1)]
theorem od_X3_brokeAt_0 : ∀ q ∈ op_X3_brokeAt_0, decode cX3_brokeAt q.1 = .ok q.2 := by decide +kernel
def op_X3_firstBehind_0 : List (Nat × Instr × Nat) := [(0, .aload_n 0, 1), (1, .aload_n 0, 1), (2, .getfield 31, 3), (5, .iload_n 1, 1), (6, .iaload, 1), (7, .iload_n 1, 1), (8, .invokevirtual 40, 3), (11, .istore_n 2, 1), (12, .iload_n 2, 1), (13, .iconst (-1), 1), (14, .if_icmp .ne 7, 3), (17, .iconst 0, 1), (18, .goto 9, 3), (21, .aload_n 0, 1), (22, .getfield 37, 3), (25, .iload_n 2, 1), (26, .iaload, 1), (27, .ireturn, 1)]
theorem od_X3_firstBehind_0 : ∀ q ∈ op_X3_firstBehind_0, decode cX3_firstBehind q.1 = .ok q.2 := by decide +kernel
def op_X3_firstSuspect_0 : List (Nat × Instr × Nat) := [(0, .aload_n 0, 1), (1, .iload_n 1, 1), (2, .invokevirtual 44, 3), (5, .istore_n 2, 1), (6, .iload_n 2, 1), (7, .aload_n 0, 1), (8, .getfield 37, 3), (11, .iload_n 1, 1), (12, .iaload, 1), (13, .if_icmp .ge 26, 3), (16, .aload_n 0, 1), (17, .getfield 15, 3), (20, .iload_n 2, 1), (21, .iaload, 1), (22, .aload_n 0, 1), (23, .getfield 31, 3), (26, .iload_n 1, 1), (27, .iaload, 1), (28, .if_icmp .ne 5, 3), (31, .iload_n 2, 1), (32, .ireturn, 1), (33, .iinc 2 1, 3), (36, .goto (-30), 3), (39, .iconst (-1), 1), (40, .ireturn, 1)]
theorem od_X3_firstSuspect_0 : ∀ q ∈ op_X3_firstSuspect_0, decode cX3_firstSuspect q.1 = .ok q.2 := by decide +kernel
def op_X3_init_0 : List (Nat × Instr × Nat) := [(0, .aload_n 0, 1), (1, .invokespecial 3, 3), (4, .aload_n 0, 1), (5, .iconst 0, 1), (6, .putfield 9, 3), (9, .aload_n 0, 1), (10, .bipush 30, 2), (12, .newarray .int, 2), (14, .putfield 15, 3), (17, .aload_n 0, 1), (18, .bipush 30, 2), (20, .newarray .int, 2), (22, .putfield 19, 3), (25, .aload_n 0, 1), (26, .bipush 30, 2), (28, .newarray .int, 2), (30, .putfield 22, 3), (33, .aload_n 0, 1), (34, .bipush 30, 2), (36, .newarray .int, 2), (38, .putfield 25, 3), (41, .aload_n 0, 1), (42, .iconst 0, 1), (43, .putfield 28, 3), (46, .aload_n 0, 1), (47, .bipush 60, 2), (49, .newarray .int, 2), (51, .putfield 31, 3), (54, .aload_n 0, 1), (55, .bipush 60, 2), (57, .newarray .int, 2), (59, .putfield 34, 3), (62, .aload_n 0, 1), (63, .bipush 60, 2), (65, .newarray .int, 2), (67, .putfield 37, 3), (70, .return_, 1)]
theorem od_X3_init_0 : ∀ q ∈ op_X3_init_0, decode cX3_init q.1 = .ok q.2 := by decide +kernel
end
section
def op_X3_isBroken_0 : List (Nat × Instr × Nat) := [(0, .aload_n 0, 1), (1, .iload_n 1, 1), (2, .aload_n 0, 1), (3, .getfield 28, 3), (6, .invokevirtual 40, 3), (9, .istore_n 2, 1), (10, .iload_n 2, 1), (11, .iconst (-1), 1), (12, .if_icmp .eq 16, 3), (15, .aload_n 0, 1), (16, .getfield 34, 3), (19, .iload_n 2, 1), (20, .iaload, 1), (21, .ifCond .ne 7, 3), (24, .iconst 1, 1), (25, .goto 4, 3), (28, .iconst 0, 1), (29, .ireturn, 1)]
theorem od_X3_isBroken_0 : ∀ q ∈ op_X3_isBroken_0, decode cX3_isBroken q.1 = .ok q.2 := by decide +kernel
def op_X3_latestLook_0 : List (Nat × Instr × Nat) := [(0, .iload_n 2, 1), (1, .iconst 1, 1), (2, .isub, 1), (3, .istore_n 3, 1), (4, .iload_n 3, 1), (5, .ifCond .lt 21, 3), (8, .aload_n 0, 1), (9, .getfield 31, 3), (12, .iload_n 3, 1), (13, .iaload, 1), (14, .iload_n 1, 1), (15, .if_icmp .ne 5, 3), (18, .iload_n 3, 1), (19, .ireturn, 1), (20, .iinc 3 (-1), 3), (23, .goto (-19), 3), (26, .iconst (-1), 1), (27, .ireturn, 1)]
theorem od_X3_latestLook_0 : ∀ q ∈ op_X3_latestLook_0, decode cX3_latestLook q.1 = .ok q.2 := by decide +kernel
def op_X3_suspects_0 : List (Nat × Instr × Nat) := [(0, .iconst 0, 1), (1, .istore_n 2, 1), (2, .aload_n 0, 1), (3, .iload_n 1, 1), (4, .invokevirtual 44, 3), (7, .istore_n 3, 1), (8, .iload_n 3, 1), (9, .aload_n 0, 1), (10, .getfield 37, 3), (13, .iload_n 1, 1), (14, .iaload, 1), (15, .if_icmp .ge 27, 3), (18, .aload_n 0, 1), (19, .getfield 15, 3), (22, .iload_n 3, 1), (23, .iaload, 1), (24, .aload_n 0, 1), (25, .getfield 31, 3), (28, .iload_n 1, 1), (29, .iaload, 1), (30, .if_icmp .ne 6, 3), (33, .iinc 2 1, 3), (36, .iinc 3 1, 3), (39, .goto (-31), 3), (42, .iload_n 2, 1), (43, .ireturn, 1)]
theorem od_X3_suspects_0 : ∀ q ∈ op_X3_suspects_0, decode cX3_suspects q.1 = .ok q.2 := by decide +kernel
def op_X4_addRace_0 : List (Nat × Instr × Nat) := [(0, .aload_n 0, 1), (1, .getfield 15, 3), (4, .aload_n 0, 1), (5, .getfield 11, 3), (8, .iload_n 1, 1), (9, .iastore, 1), (10, .aload_n 0, 1), (11, .getfield 19, 3), (14, .aload_n 0, 1), (15, .getfield 11, 3), (18, .iload_n 2, 1), (19, .iastore, 1), (20, .aload_n 0, 1), (21, .getfield 22, 3), (24, .aload_n 0, 1), (25, .getfield 11, 3), (28, .iload_n 3, 1), (29, .iastore, 1), (30, .aload_n 0, 1), (31, .dup, 1), (32, .getfield 11, 3), (35, .iconst 1, 1), (36, .iadd, 1), (37, .putfield 11, 3), (40, .aload_n 0, 1), (41, .getfield 11, 3), (44, .ireturn, 1)]
theorem od_X4_addRace_0 : ∀ q ∈ op_X4_addRace_0, decode cX4_addRace q.1 = .ok q.2 := by decide +kernel
def op_X4_addToRow_0 : List (Nat × Instr × Nat) := [(0, .iload_n 1, 1), (1, .ifCond .ge 4, 3), (4, .return_, 1), (5, .aload_n 0, 1), (6, .getfield 38, 3), (9, .iload_n 1, 1), (10, .bipush 7, 2), (12, .imul, 1), (13, .iload_n 1, 1), (14, .iadd, 1), (15, .dup2, 1), (16, .laload, 1), (17, .lconst 1, 1), (18, .ladd, 1), (19, .lastore, 1), (20, .aload_n 0, 1), (21, .getfield 38, 3), (24, .iload_n 1, 1), (25, .bipush 7, 2), (27, .imul, 1), (28, .bipush 6, 2), (30, .iadd, 1), (31, .dup2, 1), (32, .laload, 1), (33, .iload_n 3, 1), (34, .i2l, 1), (35, .ladd, 1), (36, .lastore, 1), (37, .iload_n 2, 1), (38, .ifCond .lt 18, 3), (41, .aload_n 0, 1), (42, .getfield 38, 3), (45, .iload_n 1, 1), (46, .bipush 7, 2), (48, .imul, 1), (49, .iload_n 2, 1), (50, .iadd, 1), (51, .dup2, 1), (52, .laload, 1), (53, .lconst 1, 1), (54, .lsub, 1), (55, .lastore, 1), (56, .return_, 1)]
theorem od_X4_addToRow_0 : ∀ q ∈ op_X4_addToRow_0, decode cX4_addToRow q.1 = .ok q.2 := by decide +kernel
def op_X4_clearCell_0 : List (Nat × Instr × Nat) := [(0, .lload 5, 2), (2, .lconst 0, 1), (3, .lcmp, 1), (4, .ifCond .ne 4, 3), (7, .return_, 1), (8, .aload_n 0, 1), (9, .getfield 38, 3), (12, .iload_n 1, 1), (13, .bipush 7, 2), (15, .imul, 1), (16, .iload_n 2, 1), (17, .iadd, 1), (18, .laload, 1), (19, .lstore 7, 2), (21, .iconst 0, 1), (22, .istore 9, 2), (24, .iload 9, 2), (26, .bipush 7, 2), (28, .if_icmp .ge 58, 3), (31, .lload_n 3, 1), (32, .aload_n 0, 1), (33, .getfield 38, 3), (36, .iload_n 1, 1), (37, .bipush 7, 2), (39, .imul, 1), (40, .iload 9, 2), (42, .iadd, 1), (43, .laload, 1), (44, .lmul, 1), (45, .lload 7, 2), (47, .aload_n 0, 1), (48, .getfield 38, 3), (51, .iload_n 2, 1), (52, .bipush 7, 2), (54, .imul, 1), (55, .iload 9, 2), (57, .iadd, 1), (58, .laload, 1), (59, .lmul, 1), (60, .lsub, 1), (61, .lstore 10, 2), (63, .aload_n 0, 1), (64, .getfield 38, 3), (67, .iload_n 1, 1), (68, .bipush 7, 2), (70, .imul, 1), (71, .iload 9, 2), (73, .iadd, 1), (74, .lload 10, 2), (76, .lload 5, 2), (78, .ldiv, 1), (79, .lastore, 1), (80, .iinc 9 1, 3), (83, .goto (-59), 3), (86, .return_, 1)]
theorem od_X4_clearCell_0 : ∀ q ∈ op_X4_clearCell_0, decode cX4_clearCell q.1 = .ok q.2 := by decide +kernel
def op_X4_eliminate_0 : List (Nat × Instr × Nat) := [(0, .lconst 1, 1), (1, .lstore_n 2, 1), (2, .iconst 0, 1), (3, .istore 4, 2), (5, .iload 4, 2), (7, .iload_n 1, 1), (8, .if_icmp .ge 69, 3), (11, .aload_n 0, 1), (12, .getfield 38, 3), (15, .iload 4, 2), (17, .bipush 7, 2), (19, .imul, 1), (20, .iload 4, 2), (22, .iadd, 1), (23, .laload, 1), (24, .lstore 5, 2), (26, .lload 5, 2), (28, .lconst 0, 1), (29, .lcmp, 1), (30, .ifCond .gt 5, 3), (33, .iconst 0, 1), (34, .ireturn, 1), (35, .iconst 0, 1), (36, .istore 7, 2), (38, .iload 7, 2), (40, .iload_n 1, 1), (41, .if_icmp .ge 27, 3), (44, .iload 7, 2), (46, .iload 4, 2), (48, .if_icmp .eq 14, 3), (51, .aload_n 0, 1), (52, .iload 7, 2), (54, .iload 4, 2), (56, .lload 5, 2), (58, .lload_n 2, 1), (59, .invokevirtual 72, 3), (62, .iinc 7 1, 3), (65, .goto (-27), 3), (68, .lload 5, 2), (70, .lstore_n 2, 1), (71, .iinc 4 1, 3), (74, .goto (-69), 3), (77, .aload_n 0, 1), (78, .lload_n 2, 1), (79, .putfield 31, 3), (82, .iconst 1, 1), (83, .ireturn, 1)]
theorem od_X4_eliminate_0 : ∀ q ∈ op_X4_eliminate_0, decode cX4_eliminate q.1 = .ok q.2 := by decide +kernel
def op_X4_fillCells_0 : List (Nat × Instr × Nat) := [(0, .aload_n 0, 1), (1, .getfield 38, 3), (4, .lconst 0, 1), (5, .invokestatic 62, 3), (8, .iconst 0, 1), (9, .istore_n 2, 1), (10, .iload_n 2, 1), (11, .aload_n 0, 1), (12, .getfield 11, 3), (15, .if_icmp .ge 74, 3), (18, .iload_n 1, 1), (19, .aload_n 0, 1), (20, .getfield 15, 3), (23, .iload_n 2, 1), (24, .iaload, 1), (25, .invokestatic 58, 3), (28, .ifCond .eq 55, 3), (31, .aload_n 0, 1), (32, .getfield 35, 3), (35, .aload_n 0, 1), (36, .getfield 15, 3), (39, .iload_n 2, 1), (40, .iaload, 1), (41, .iaload, 1), (42, .istore_n 3, 1), (43, .aload_n 0, 1), (44, .getfield 35, 3), (47, .aload_n 0, 1), (48, .getfield 19, 3), (51, .iload_n 2, 1), (52, .iaload, 1), (53, .iaload, 1), (54, .istore 4, 2), (56, .aload_n 0, 1), (57, .iload_n 3, 1), (58, .iload 4, 2), (60, .aload_n 0, 1), (61, .getfield 22, 3), (64, .iload_n 2, 1), (65, .iaload, 1), (66, .invokevirtual 68, 3), (69, .aload_n 0, 1), (70, .iload 4, 2), (72, .iload_n 3, 1), (73, .aload_n 0, 1), (74, .getfield 22, 3), (77, .iload_n 2, 1), (78, .iaload, 1), (79, .ineg, 1), (80, .invokevirtual 68, 3), (83, .iinc 2 1, 3), (86, .goto (-76), 3), (89, .return_, 1)]
theorem od_X4_fillCells_0 : ∀ q ∈ op_X4_fillCells_0, decode cX4_fillCells q.1 = .ok q.2 := by decide +kernel
def op_X4_groupOf_0 : List (Nat × Instr × Nat) := [(0, .iconst 1, 1), (1, .iload_n 1, 1), (2, .ishl, 1), (3, .istore_n 2, 1), (4, .iconst 0, 1), (5, .istore_n 3, 1), (6, .iload_n 3, 1), (7, .bipush 16, 2), (9, .if_icmp .ge 72, 3), (12, .iload_n 2, 1), (13, .istore 4, 2), (15, .iconst 0, 1), (16, .istore 5, 2), (18, .iload 5, 2), (20, .aload_n 0, 1), (21, .getfield 11, 3), (24, .if_icmp .ge 42, 3), (27, .iconst 1, 1), (28, .aload_n 0, 1), (29, .getfield 15, 3), (32, .iload 5, 2), (34, .iaload, 1), (35, .ishl, 1), (36, .iconst 1, 1), (37, .aload_n 0, 1), (38, .getfield 19, 3), (41, .iload 5, 2), (43, .iaload, 1), (44, .ishl, 1), (45, .ior, 1), (46, .istore 6, 2), (48, .iload_n 2, 1), (49, .iload 6, 2), (51, .iand, 1), (52, .ifCond .eq 8, 3), (55, .iload_n 2, 1), (56, .iload 6, 2), (58, .ior, 1), (59, .istore_n 2, 1), (60, .iinc 5 1, 3), (63, .goto (-45), 3), (66, .iload_n 2, 1), (67, .iload 4, 2), (69, .if_icmp .ne 6, 3), (72, .goto 9, 3), (75, .iinc 3 1, 3), (78, .goto (-72), 3), (81, .iload_n 2, 1), (82, .ireturn, 1)]
theorem od_X4_groupOf_0 : ∀ q ∈ op_X4_groupOf_0, decode cX4_groupOf q.1 = .ok q.2 := by decide +kernel
def op_X4_init_0 : List (Nat × Instr × Nat) := [(0, .aload_n 0, 1), (1, .invokespecial 5, 3), (4, .aload_n 0, 1), (5, .iconst 0, 1), (6, .putfield 11, 3), (9, .aload_n 0, 1), (10, .bipush 40, 2), (12, .newarray .int, 2), (14, .putfield 15, 3), (17, .aload_n 0, 1), (18, .bipush 40, 2), (20, .newarray .int, 2), (22, .putfield 19, 3), (25, .aload_n 0, 1), (26, .bipush 40, 2), (28, .newarray .int, 2), (30, .putfield 22, 3), (33, .aload_n 0, 1), (34, .bipush 16, 2), (36, .newarray .long, 2), (38, .putfield 27, 3), (41, .aload_n 0, 1), (42, .lconst 1, 1), (43, .putfield 31, 3), (46, .aload_n 0, 1), (47, .bipush 16, 2), (49, .newarray .int, 2), (51, .putfield 35, 3), (54, .aload_n 0, 1), (55, .bipush 42, 2), (57, .newarray .long, 2), (59, .putfield 38, 3), (62, .return_, 1)]
theorem od_X4_init_0 : ∀ q ∈ op_X4_init_0, decode cX4_init q.1 = .ok q.2 := by decide +kernel
def op_X4_leadOver_0 : List (Nat × Instr × Nat) := [(0, .aload_n 0, 1), (1, .getfield 15, 3), (4, .iload_n 3, 1), (5, .iaload, 1), (6, .iload_n 1, 1), (7, .if_icmp .ne 20, 3), (10, .aload_n 0, 1), (11, .getfield 19, 3), (14, .iload_n 3, 1), (15, .iaload, 1), (16, .iload_n 2, 1), (17, .if_icmp .ne 10, 3), (20, .aload_n 0, 1), (21, .getfield 22, 3), (24, .iload_n 3, 1), (25, .iaload, 1), (26, .ireturn, 1), (27, .aload_n 0, 1), (28, .getfield 15, 3), (31, .iload_n 3, 1), (32, .iaload, 1), (33, .iload_n 2, 1), (34, .if_icmp .ne 23, 3), (37, .aload_n 0, 1), (38, .getfield 19, 3), (41, .iload_n 3, 1), (42, .iaload, 1), (43, .iload_n 1, 1), (44, .if_icmp .ne 13, 3), (47, .aload_n 0, 1), (48, .getfield 22, 3), (51, .iload_n 3, 1), (52, .iaload, 1), (53, .ineg, 1), (54, .goto 4, 3), (57, .iconst 0, 1), (58, .ireturn, 1)]
theorem od_X4_leadOver_0 : ∀ q ∈ op_X4_leadOver_0, decode cX4_leadOver q.1 = .ok q.2 := by decide +kernel
def op_X4_misfitAbove_0 : List (Nat × Instr × Nat) := [(0, .lconst 0, 1), (1, .lstore_n 2, 1), (2, .iconst 0, 1), (3, .istore 4, 2), (5, .iload 4, 2), (7, .aload_n 0, 1), (8, .getfield 11, 3), (11, .if_icmp .ge 68, 3), (14, .iload_n 1, 1), (15, .aload_n 0, 1), (16, .getfield 15, 3), (19, .iload 4, 2), (21, .iaload, 1), (22, .invokestatic 58, 3), (25, .ifCond .eq 48, 3), (28, .lload_n 2, 1), (29, .aload_n 0, 1), (30, .getfield 27, 3), (33, .aload_n 0, 1), (34, .getfield 15, 3), (37, .iload 4, 2), (39, .iaload, 1), (40, .laload, 1), (41, .aload_n 0, 1), (42, .getfield 27, 3), (45, .aload_n 0, 1), (46, .getfield 19, 3), (49, .iload 4, 2), (51, .iaload, 1), (52, .laload, 1), (53, .lsub, 1), (54, .aload_n 0, 1), (55, .getfield 22, 3), (58, .iload 4, 2), (60, .iaload, 1), (61, .i2l, 1), (62, .aload_n 0, 1), (63, .getfield 31, 3), (66, .lmul, 1), (67, .lsub, 1), (68, .invokestatic 76, 3), (71, .ladd, 1), (72, .lstore_n 2, 1), (73, .iinc 4 1, 3), (76, .goto (-71), 3), (79, .lload_n 2, 1), (80, .lreturn, 1)]
theorem od_X4_misfitAbove_0 : ∀ q ∈ op_X4_misfitAbove_0, decode cX4_misfitAbove q.1 = .ok q.2 := by decide +kernel
def op_X4_numberRows_0 : List (Nat × Instr × Nat) := [(0, .iconst (-1), 1), (1, .istore_n 2, 1), (2, .iconst 0, 1), (3, .istore_n 3, 1), (4, .iload_n 3, 1), (5, .bipush 16, 2), (7, .if_icmp .ge 34, 3), (10, .aload_n 0, 1), (11, .getfield 35, 3), (14, .iload_n 3, 1), (15, .iconst (-1), 1), (16, .iastore, 1), (17, .iload_n 1, 1), (18, .iload_n 3, 1), (19, .invokestatic 58, 3), (22, .ifCond .eq 13, 3), (25, .aload_n 0, 1), (26, .getfield 35, 3), (29, .iload_n 3, 1), (30, .iload_n 2, 1), (31, .iastore, 1), (32, .iinc 2 1, 3), (35, .iinc 3 1, 3), (38, .goto (-34), 3), (41, .return_, 1)]
theorem od_X4_numberRows_0 : ∀ q ∈ op_X4_numberRows_0, decode cX4_numberRows q.1 = .ok q.2 := by decide +kernel
def op_X4_solve_0 : List (Nat × Instr × Nat) := [(0, .iload_n 1, 1), (1, .invokestatic 41, 3), (4, .iconst 1, 1), (5, .isub, 1), (6, .istore_n 2, 1), (7, .iload_n 2, 1), (8, .bipush 6, 2), (10, .if_icmp .le 5, 3), (13, .iconst 0, 1), (14, .ireturn, 1), (15, .aload_n 0, 1), (16, .iload_n 1, 1), (17, .invokevirtual 47, 3), (20, .aload_n 0, 1), (21, .iload_n 1, 1), (22, .invokevirtual 51, 3), (25, .aload_n 0, 1), (26, .iload_n 2, 1), (27, .invokevirtual 54, 3), (30, .ifCond .ne 5, 3), (33, .iconst 0, 1), (34, .ireturn, 1), (35, .iconst 0, 1), (36, .istore_n 3, 1), (37, .iload_n 3, 1), (38, .bipush 16, 2), (40, .if_icmp .ge 45, 3), (43, .aload_n 0, 1), (44, .getfield 27, 3), (47, .iload_n 3, 1), (48, .aload_n 0, 1), (49, .getfield 35, 3), (52, .iload_n 3, 1), (53, .iaload, 1), (54, .ifCond .lt 23, 3), (57, .aload_n 0, 1), (58, .getfield 38, 3), (61, .aload_n 0, 1), (62, .getfield 35, 3), (65, .iload_n 3, 1), (66, .iaload, 1), (67, .bipush 7, 2), (69, .imul, 1), (70, .bipush 6, 2), (72, .iadd, 1), (73, .laload, 1), (74, .goto 4, 3), (77, .lconst 0, 1), (78, .lastore, 1), (79, .iinc 3 1, 3), (82, .goto (-45), 3), (85, .iconst 1, 1), (86, .ireturn, 1)]
theorem od_X4_solve_0 : ∀ q ∈ op_X4_solve_0, decode cX4_solve q.1 = .ok q.2 := by decide +kernel
def op_X4_whoIsSurelyBetter_0 : List (Nat × Instr × Nat) := [(0, .iconst 0, 1), (1, .istore_n 3, 1), (2, .iconst 0, 1), (3, .istore 4, 2), (5, .iconst 0, 1), (6, .istore 5, 2), (8, .iload 5, 2), (10, .aload_n 0, 1), (11, .getfield 11, 3), (14, .if_icmp .ge 47, 3), (17, .aload_n 0, 1), (18, .iload_n 1, 1), (19, .iload_n 2, 1), (20, .iload 5, 2), (22, .invokevirtual 82, 3), (25, .istore 6, 2), (27, .iload_n 3, 1), (28, .iload 6, 2), (30, .ifCond .le 7, 3), (33, .iconst 1, 1), (34, .goto 4, 3), (37, .iconst 0, 1), (38, .ior, 1), (39, .istore_n 3, 1), (40, .iload 4, 2), (42, .iload 6, 2), (44, .ifCond .ge 7, 3), (47, .iconst 1, 1), (48, .goto 4, 3), (51, .iconst 0, 1), (52, .ior, 1), (53, .istore 4, 2), (55, .iinc 5 1, 3), (58, .goto (-50), 3), (61, .iload_n 3, 1), (62, .iload 4, 2), (64, .if_icmp .ne 5, 3), (67, .iconst 0, 1), (68, .ireturn, 1), (69, .iload_n 3, 1), (70, .ifCond .eq 7, 3), (73, .iconst 1, 1), (74, .goto 4, 3), (77, .iconst 2, 1), (78, .ireturn, 1)]
theorem od_X4_whoIsSurelyBetter_0 : ∀ q ∈ op_X4_whoIsSurelyBetter_0, decode cX4_whoIsSurelyBetter q.1 = .ok q.2 := by decide +kernel
def op_X5_init_0 : List (Nat × Instr × Nat) := [(0, .aload_n 0, 1), (1, .invokespecial 3, 3), (4, .aload_n 0, 1), (5, .bipush 8, 2), (7, .newarray .int, 2), (9, .putfield 11, 3), (12, .aload_n 0, 1), (13, .bipush 8, 2), (15, .newarray .int, 2), (17, .putfield 17, 3), (20, .aload_n 0, 1), (21, .iconst 3, 1), (22, .newarray .int, 2), (24, .putfield 20, 3), (27, .aload_n 0, 1), (28, .iconst 0, 1), (29, .putfield 23, 3), (32, .aload_n 0, 1), (33, .getfield 11, 3), (36, .iconst (-1), 1), (37, .invokestatic 27, 3), (40, .return_, 1)]
theorem od_X5_init_0 : ∀ q ∈ op_X5_init_0, decode cX5_init q.1 = .ok q.2 := by decide +kernel
def op_X5_lay_0 : List (Nat × Instr × Nat) := [(0, .aload_n 0, 1), (1, .invokevirtual 37, 3), (4, .istore 4, 2), (6, .iload 4, 2), (8, .aload_n 0, 1), (9, .getfield 23, 3), (12, .if_icmp .lt 4, 3), (15, .return_, 1), (16, .iload_n 3, 1), (17, .bipush 8, 2), (19, .if_icmp .lt 25, 3), (22, .aload_n 0, 1), (23, .iload 4, 2), (25, .putfield 23, 3), (28, .aload_n 0, 1), (29, .getfield 17, 3), (32, .iconst 0, 1), (33, .aload_n 0, 1), (34, .getfield 11, 3), (37, .iconst 0, 1), (38, .bipush 8, 2), (40, .invokestatic 41, 3), (43, .return_, 1), (44, .iload_n 2, 1), (45, .iload_n 3, 1), (46, .invokestatic 47, 3), (49, .ifCond .ne 13, 3), (52, .aload_n 0, 1), (53, .aload_n 1, 1), (54, .iload_n 2, 1), (55, .iload_n 3, 1), (56, .iconst 1, 1), (57, .iadd, 1), (58, .invokestatic 33, 3), (61, .return_, 1), (62, .iconst 0, 1), (63, .istore 5, 2), (65, .iload 5, 2), (67, .iconst 3, 1), (68, .if_icmp .ge 52, 3), (71, .aload_n 0, 1), (72, .getfield 17, 3), (75, .iload_n 3, 1), (76, .iload 5, 2), (78, .iastore, 1), (79, .aload_n 0, 1), (80, .getfield 20, 3), (83, .iload 5, 2), (85, .dup2, 1), (86, .iaload, 1), (87, .aload_n 1, 1), (88, .iload_n 3, 1), (89, .iaload, 1), (90, .iadd, 1), (91, .iastore, 1), (92, .aload_n 0, 1), (93, .aload_n 1, 1), (94, .iload_n 2, 1), (95, .iload_n 3, 1), (96, .iconst 1, 1)]
theorem od_X5_lay_0 : ∀ q ∈ op_X5_lay_0, decode cX5_lay q.1 = .ok q.2 := by decide +kernel
def op_X5_lay_1 : List (Nat × Instr × Nat) := [(97, .iadd, 1), (98, .invokestatic 33, 3), (101, .aload_n 0, 1), (102, .getfield 20, 3), (105, .iload 5, 2), (107, .dup2, 1), (108, .iaload, 1), (109, .aload_n 1, 1), (110, .iload_n 3, 1), (111, .iaload, 1), (112, .isub, 1), (113, .iastore, 1), (114, .iinc 5 1, 3), (117, .goto (-52), 3), (120, .return_, 1)]
theorem od_X5_lay_1 : ∀ q ∈ op_X5_lay_1, decode cX5_lay q.1 = .ok q.2 := by decide +kernel
def op_X5_load_0 : List (Nat × Instr × Nat) := [(0, .aload_n 0, 1), (1, .getfield 17, 3), (4, .iconst (-1), 1), (5, .invokestatic 27, 3), (8, .aload_n 0, 1), (9, .getfield 20, 3), (12, .iconst 0, 1), (13, .invokestatic 27, 3), (16, .aload_n 0, 1), (17, .iload_n 3, 1), (18, .iconst 1, 1), (19, .iadd, 1), (20, .putfield 23, 3), (23, .aload_n 0, 1), (24, .aload_n 1, 1), (25, .iload_n 2, 1), (26, .iconst 0, 1), (27, .invokestatic 33, 3), (30, .aload_n 0, 1), (31, .getfield 23, 3), (34, .ireturn, 1)]
theorem od_X5_load_0 : ∀ q ∈ op_X5_load_0, decode cX5_load q.1 = .ok q.2 := by decide +kernel
def op_X5_longestRow_0 : List (Nat × Instr × Nat) := [(0, .aload_n 0, 1), (1, .getfield 20, 3), (4, .iconst 0, 1), (5, .iaload, 1), (6, .aload_n 0, 1), (7, .getfield 20, 3), (10, .iconst 1, 1), (11, .iaload, 1), (12, .aload_n 0, 1), (13, .getfield 20, 3), (16, .iconst 2, 1), (17, .iaload, 1), (18, .invokestatic 51, 3), (21, .invokestatic 51, 3), (24, .ireturn, 1)]
theorem od_X5_longestRow_0 : ∀ q ∈ op_X5_longestRow_0, decode cX5_longestRow q.1 = .ok q.2 := by decide +kernel
def op_X6_init_0 : List (Nat × Instr × Nat) := [(0, .aload_n 0, 1), (1, .invokespecial 1, 3), (4, .aload_n 0, 1), (5, .bipush 30, 2), (7, .newarray .int, 2), (9, .putfield 9, 3), (12, .aload_n 0, 1), (13, .bipush 30, 2), (15, .newarray .int, 2), (17, .putfield 13, 3), (20, .return_, 1)]
theorem od_X6_init_0 : ∀ q ∈ op_X6_init_0, decode cX6_init q.1 = .ok q.2 := by decide +kernel
def op_X7_asked_0 : List (Nat × Instr × Nat) := [(0, .aload_n 0, 1), (1, .getfield 9, 3), (4, .iconst 1, 1), (5, .isub, 1), (6, .istore_n 2, 1), (7, .iload_n 2, 1), (8, .ifCond .lt 39, 3), (11, .aload_n 0, 1), (12, .getfield 19, 3), (15, .iload_n 2, 1), (16, .iaload, 1), (17, .iload_n 1, 1), (18, .if_icmp .eq 13, 3), (21, .aload_n 0, 1), (22, .getfield 19, 3), (25, .iload_n 2, 1), (26, .iaload, 1), (27, .iconst 5, 1), (28, .if_icmp .ne 13, 3), (31, .aload_n 0, 1), (32, .iload_n 2, 1), (33, .invokevirtual 80, 3), (36, .ifCond .eq 5, 3), (39, .iload_n 2, 1), (40, .ireturn, 1), (41, .iinc 2 (-1), 3), (44, .goto (-37), 3), (47, .iconst (-1), 1), (48, .ireturn, 1)]
theorem od_X7_asked_0 : ∀ q ∈ op_X7_asked_0, decode cX7_asked q.1 = .ok q.2 := by decide +kernel
def op_X7_init_0 : List (Nat × Instr × Nat) := [(0, .aload_n 0, 1), (1, .invokespecial 3, 3), (4, .aload_n 0, 1), (5, .iconst 0, 1), (6, .putfield 9, 3), (9, .aload_n 0, 1), (10, .bipush 10, 2), (12, .newarray .int, 2), (14, .putfield 15, 3), (17, .aload_n 0, 1), (18, .bipush 10, 2), (20, .newarray .int, 2), (22, .putfield 19, 3), (25, .aload_n 0, 1), (26, .bipush 10, 2), (28, .newarray .int, 2), (30, .putfield 22, 3), (33, .aload_n 0, 1), (34, .bipush 30, 2), (36, .newarray .boolean, 2), (38, .putfield 25, 3), (41, .aload_n 0, 1), (42, .bipush 30, 2), (44, .newarray .int, 2), (46, .putfield 29, 3), (49, .aload_n 0, 1), (50, .bipush 30, 2), (52, .newarray .int, 2), (54, .putfield 32, 3), (57, .aload_n 0, 1), (58, .bipush 30, 2), (60, .newarray .int, 2), (62, .putfield 35, 3), (65, .aload_n 0, 1), (66, .bipush 7, 2), (68, .newarray .int, 2), (70, .putfield 38, 3), (73, .return_, 1)]
theorem od_X7_init_0 : ∀ q ∈ op_X7_init_0, decode cX7_init q.1 = .ok q.2 := by decide +kernel
def op_X7_isSo_0 : List (Nat × Instr × Nat) := [(0, .aload_n 0, 1), (1, .getfield 38, 3), (4, .aload_n 0, 1), (5, .getfield 29, 3), (8, .iload_n 1, 1), (9, .iaload, 1), (10, .iaload, 1), (11, .istore_n 2, 1), (12, .aload_n 0, 1), (13, .getfield 32, 3), (16, .iload_n 1, 1), (17, .iaload, 1), (18, .ifCond .ne 19, 3), (21, .iload_n 2, 1), (22, .aload_n 0, 1), (23, .getfield 35, 3), (26, .iload_n 1, 1), (27, .iaload, 1), (28, .if_icmp .ne 7, 3), (31, .iconst 1, 1), (32, .goto 4, 3), (35, .iconst 0, 1), (36, .ireturn, 1), (37, .aload_n 0, 1), (38, .getfield 32, 3), (41, .iload_n 1, 1), (42, .iaload, 1), (43, .iconst 1, 1), (44, .if_icmp .ne 21, 3), (47, .iload_n 2, 1), (48, .aload_n 0, 1), (49, .getfield 35, 3), (52, .iload_n 1, 1), (53, .iaload, 1), (54, .if_icmp .ge 7, 3), (57, .iconst 1, 1), (58, .goto 22, 3), (61, .iconst 0, 1), (62, .goto 18, 3), (65, .iload_n 2, 1), (66, .aload_n 0, 1), (67, .getfield 35, 3), (70, .iload_n 1, 1), (71, .iaload, 1), (72, .if_icmp .le 7, 3), (75, .iconst 1, 1), (76, .goto 4, 3), (79, .iconst 0, 1), (80, .ireturn, 1)]
theorem od_X7_isSo_0 : ∀ q ∈ op_X7_isSo_0, decode cX7_isSo q.1 = .ok q.2 := by decide +kernel
def op_X7_keepRead_0 : List (Nat × Instr × Nat) := [(0, .aload_n 0, 1), (1, .dup, 1), (2, .getfield 9, 3), (5, .iconst 1, 1), (6, .iadd, 1), (7, .putfield 9, 3), (10, .aload_n 0, 1), (11, .getfield 9, 3), (14, .iconst 1, 1), (15, .isub, 1), (16, .ireturn, 1)]
theorem od_X7_keepRead_0 : ∀ q ∈ op_X7_keepRead_0, decode cX7_keepRead q.1 = .ok q.2 := by decide +kernel
def op_X7_read_0 : List (Nat × Instr × Nat) := [(0, .aload_n 1, 1), (1, .iconst 0, 1), (2, .putfield 41, 3), (5, .aload_n 0, 1), (6, .getfield 22, 3), (9, .aload_n 0, 1), (10, .getfield 9, 3), (13, .iconst 0, 1), (14, .iastore, 1), (15, .aload_n 0, 1), (16, .getfield 15, 3), (19, .aload_n 0, 1), (20, .getfield 9, 3), (23, .aload_n 1, 1), (24, .ldc 46, 2), (26, .invokevirtual 48, 3), (29, .iastore, 1), (30, .aload_n 0, 1), (31, .getfield 15, 3), (34, .aload_n 0, 1), (35, .getfield 9, 3), (38, .iaload, 1), (39, .iconst (-1), 1), (40, .if_icmp .ne 5, 3), (43, .iconst 0, 1), (44, .ireturn, 1), (45, .aload_n 0, 1), (46, .getfield 19, 3), (49, .aload_n 0, 1), (50, .getfield 9, 3), (53, .aload_n 1, 1), (54, .ldc 52, 2), (56, .invokevirtual 48, 3), (59, .iastore, 1), (60, .aload_n 0, 1), (61, .getfield 19, 3), (64, .aload_n 0, 1), (65, .getfield 9, 3), (68, .iaload, 1), (69, .iconst (-1), 1), (70, .if_icmp .ne 5, 3), (73, .iconst 0, 1), (74, .ireturn, 1), (75, .aload_n 1, 1), (76, .invokevirtual 54, 3), (79, .ifCond .eq 5, 3), (82, .iconst 1, 1), (83, .ireturn, 1), (84, .aload_n 1, 1), (85, .ldc 58, 2), (87, .invokevirtual 48, 3), (90, .iconst (-1), 1), (91, .if_icmp .eq 15, 3), (94, .aload_n 0, 1), (95, .aload_n 1, 1), (96, .invokevirtual 60, 3), (99, .ifCond .eq 7, 3), (102, .iconst 1, 1), (103, .goto 4, 3), (106, .iconst 0, 1)]
theorem od_X7_read_0 : ∀ q ∈ op_X7_read_0, decode cX7_read q.1 = .ok q.2 := by decide +kernel
def op_X7_read_1 : List (Nat × Instr × Nat) := [(107, .ireturn, 1)]
theorem od_X7_read_1 : ∀ q ∈ op_X7_read_1, decode cX7_read q.1 = .ok q.2 := by decide +kernel
def op_X7_readTest_0 : List (Nat × Instr × Nat) := [(0, .aload_n 0, 1), (1, .getfield 25, 3), (4, .iload_n 2, 1), (5, .aload_n 1, 1), (6, .bipush 33, 2), (8, .invokevirtual 68, 3), (11, .bastore, 1), (12, .aload_n 0, 1), (13, .getfield 29, 3), (16, .iload_n 2, 1), (17, .aload_n 1, 1), (18, .ldc 72, 2), (20, .invokevirtual 48, 3), (23, .iastore, 1), (24, .aload_n 0, 1), (25, .getfield 29, 3), (28, .iload_n 2, 1), (29, .iaload, 1), (30, .iconst (-1), 1), (31, .if_icmp .ne 5, 3), (34, .iconst 0, 1), (35, .ireturn, 1), (36, .aload_n 0, 1), (37, .getfield 32, 3), (40, .iload_n 2, 1), (41, .aload_n 1, 1), (42, .ldc 74, 2), (44, .invokevirtual 48, 3), (47, .iastore, 1), (48, .aload_n 0, 1), (49, .getfield 32, 3), (52, .iload_n 2, 1), (53, .iaload, 1), (54, .iconst (-1), 1), (55, .if_icmp .ne 5, 3), (58, .iconst 0, 1), (59, .ireturn, 1), (60, .aload_n 0, 1), (61, .getfield 35, 3), (64, .iload_n 2, 1), (65, .aload_n 1, 1), (66, .invokevirtual 76, 3), (69, .iastore, 1), (70, .aload_n 0, 1), (71, .getfield 35, 3), (74, .iload_n 2, 1), (75, .iaload, 1), (76, .iconst (-1), 1), (77, .if_icmp .eq 7, 3), (80, .iconst 1, 1), (81, .goto 4, 3), (84, .iconst 0, 1), (85, .ireturn, 1)]
theorem od_X7_readTest_0 : ∀ q ∈ op_X7_readTest_0, decode cX7_readTest q.1 = .ok q.2 := by decide +kernel
def op_X7_readTests_0 : List (Nat × Instr × Nat) := [(0, .iconst 0, 1), (1, .istore_n 2, 1), (2, .iload_n 2, 1), (3, .iconst 3, 1), (4, .if_icmp .ge 64, 3), (7, .aload_n 0, 1), (8, .aload_n 1, 1), (9, .aload_n 0, 1), (10, .getfield 9, 3), (13, .iconst 3, 1), (14, .imul, 1), (15, .iload_n 2, 1), (16, .iadd, 1), (17, .invokevirtual 64, 3), (20, .ifCond .ne 5, 3), (23, .iconst 0, 1), (24, .ireturn, 1), (25, .aload_n 0, 1), (26, .getfield 22, 3), (29, .aload_n 0, 1), (30, .getfield 9, 3), (33, .iload_n 2, 1), (34, .iconst 1, 1), (35, .iadd, 1), (36, .iastore, 1), (37, .aload_n 1, 1), (38, .invokevirtual 54, 3), (41, .ifCond .eq 5, 3), (44, .iconst 1, 1), (45, .ireturn, 1), (46, .iload_n 2, 1), (47, .iconst 2, 1), (48, .if_icmp .eq 12, 3), (51, .aload_n 1, 1), (52, .bipush 38, 2), (54, .invokevirtual 68, 3), (57, .ifCond .ne 5, 3), (60, .iconst 0, 1), (61, .ireturn, 1), (62, .iinc 2 1, 3), (65, .goto (-63), 3), (68, .iconst 0, 1), (69, .ireturn, 1)]
theorem od_X7_readTests_0 : ∀ q ∈ op_X7_readTests_0, decode cX7_readTests q.1 = .ok q.2 := by decide +kernel
def op_X7_testsHold_0 : List (Nat × Instr × Nat) := [(0, .iconst 0, 1), (1, .istore_n 2, 1), (2, .iload_n 2, 1), (3, .aload_n 0, 1), (4, .getfield 22, 3), (7, .iload_n 1, 1), (8, .iaload, 1), (9, .if_icmp .ge 31, 3), (12, .iload_n 1, 1), (13, .iconst 3, 1), (14, .imul, 1), (15, .iload_n 2, 1), (16, .iadd, 1), (17, .istore_n 3, 1), (18, .aload_n 0, 1), (19, .iload_n 3, 1), (20, .invokevirtual 84, 3), (23, .aload_n 0, 1), (24, .getfield 25, 3), (27, .iload_n 3, 1), (28, .baload, 1), (29, .if_icmp .ne 5, 3), (32, .iconst 0, 1), (33, .ireturn, 1), (34, .iinc 2 1, 3), (37, .goto (-35), 3), (40, .iconst 1, 1), (41, .ireturn, 1)]
theorem od_X7_testsHold_0 : ∀ q ∈ op_X7_testsHold_0, decode cX7_testsHold q.1 = .ok q.2 := by decide +kernel
def op_X8_append_0 : List (Nat × Instr × Nat) := [(0, .iload_n 3, 1), (1, .iconst 1, 1), (2, .isub, 1), (3, .istore 4, 2), (5, .iload 4, 2), (7, .ifCond .lt 40, 3), (10, .aload_n 0, 1), (11, .getfield 18, 3), (14, .aload_n 0, 1), (15, .getfield 9, 3), (18, .lload_n 1, 1), (19, .bipush 8, 2), (21, .iload 4, 2), (23, .imul, 1), (24, .lushr, 1), (25, .ldc2_w 22, 3), (28, .land, 1), (29, .l2i, 1), (30, .iastore, 1), (31, .aload_n 0, 1), (32, .dup, 1), (33, .getfield 9, 3), (36, .iconst 1, 1), (37, .iadd, 1), (38, .putfield 9, 3), (41, .iinc 4 (-1), 3), (44, .goto (-39), 3), (47, .aload_n 0, 1), (48, .getfield 9, 3), (51, .ireturn, 1)]
theorem od_X8_append_0 : ∀ q ∈ op_X8_append_0, decode cX8_append q.1 = .ok q.2 := by decide +kernel
def op_X8_countSame_0 : List (Nat × Instr × Nat) := [(0, .iconst 0, 1), (1, .istore 4, 2), (3, .iload_n 2, 1), (4, .istore 5, 2), (6, .iload 5, 2), (8, .iload_n 3, 1), (9, .if_icmp .ge 50, 3), (12, .aload_n 0, 1), (13, .getfield 15, 3), (16, .iload 4, 2), (18, .iadd, 1), (19, .aload_n 0, 1), (20, .getfield 9, 3), (23, .if_icmp .ge 36, 3), (26, .aload_n 0, 1), (27, .getfield 18, 3), (30, .aload_n 0, 1), (31, .getfield 15, 3), (34, .iload 4, 2), (36, .iadd, 1), (37, .iaload, 1), (38, .aload_n 1, 1), (39, .iload 5, 2), (41, .invokevirtual 29, 3), (44, .if_icmp .eq 6, 3), (47, .goto 12, 3), (50, .iinc 4 1, 3), (53, .iinc 5 1, 3), (56, .goto (-50), 3), (59, .iload 4, 2), (61, .ireturn, 1)]
theorem od_X8_countSame_0 : ∀ q ∈ op_X8_countSame_0, decode cX8_countSame q.1 = .ok q.2 := by decide +kernel
def op_X8_init_0 : List (Nat × Instr × Nat) := [(0, .aload_n 0, 1), (1, .invokespecial 3, 3), (4, .aload_n 0, 1), (5, .iconst 0, 1), (6, .putfield 9, 3), (9, .aload_n 0, 1), (10, .iconst 0, 1), (11, .putfield 15, 3), (14, .aload_n 0, 1), (15, .bipush 120, 2), (17, .newarray .int, 2), (19, .putfield 18, 3), (22, .return_, 1)]
theorem od_X8_init_0 : ∀ q ∈ op_X8_init_0, decode cX8_init q.1 = .ok q.2 := by decide +kernel
def op_X8_isAtEnd_0 : List (Nat × Instr × Nat) := [(0, .aload_n 0, 1), (1, .getfield 15, 3), (4, .aload_n 0, 1), (5, .getfield 9, 3), (8, .if_icmp .lt 7, 3), (11, .iconst 1, 1), (12, .goto 4, 3), (15, .iconst 0, 1), (16, .ireturn, 1)]
theorem od_X8_isAtEnd_0 : ∀ q ∈ op_X8_isAtEnd_0, decode cX8_isAtEnd q.1 = .ok q.2 := by decide +kernel
def op_X8_skip_0 : List (Nat × Instr × Nat) := [(0, .aload_n 0, 1), (1, .invokevirtual 43, 3), (4, .ifCond .ne 16, 3), (7, .aload_n 0, 1), (8, .getfield 18, 3), (11, .aload_n 0, 1), (12, .getfield 15, 3), (15, .iaload, 1), (16, .iload_n 1, 1), (17, .if_icmp .eq 5, 3), (20, .iconst 0, 1), (21, .ireturn, 1), (22, .aload_n 0, 1), (23, .dup, 1), (24, .getfield 15, 3), (27, .iconst 1, 1), (28, .iadd, 1), (29, .putfield 15, 3), (32, .iconst 1, 1), (33, .ireturn, 1)]
theorem od_X8_skip_0 : ∀ q ∈ op_X8_skip_0, decode cX8_skip q.1 = .ok q.2 := by decide +kernel
def op_X8_takeNumber_0 : List (Nat × Instr × Nat) := [(0, .iconst (-1), 1), (1, .istore_n 1, 1), (2, .iconst 0, 1), (3, .istore_n 2, 1), (4, .iload_n 2, 1), (5, .iconst 3, 1), (6, .if_icmp .ge 71, 3), (9, .aload_n 0, 1), (10, .getfield 15, 3), (13, .aload_n 0, 1), (14, .getfield 9, 3), (17, .if_icmp .ge 60, 3), (20, .aload_n 0, 1), (21, .getfield 18, 3), (24, .aload_n 0, 1), (25, .getfield 15, 3), (28, .iaload, 1), (29, .bipush 48, 2), (31, .bipush 57, 2), (33, .invokestatic 47, 3), (36, .ifCond .eq 41, 3), (39, .bipush 10, 2), (41, .iload_n 1, 1), (42, .iconst 0, 1), (43, .invokestatic 37, 3), (46, .imul, 1), (47, .aload_n 0, 1), (48, .getfield 18, 3), (51, .aload_n 0, 1), (52, .getfield 15, 3), (55, .iaload, 1), (56, .iadd, 1), (57, .bipush 48, 2), (59, .isub, 1), (60, .istore_n 1, 1), (61, .aload_n 0, 1), (62, .dup, 1), (63, .getfield 15, 3), (66, .iconst 1, 1), (67, .iadd, 1), (68, .putfield 15, 3), (71, .iinc 2 1, 3), (74, .goto (-70), 3), (77, .iload_n 1, 1), (78, .ireturn, 1)]
theorem od_X8_takeNumber_0 : ∀ q ∈ op_X8_takeNumber_0, decode cX8_takeNumber q.1 = .ok q.2 := by decide +kernel
def op_X8_takeWord_0 : List (Nat × Instr × Nat) := [(0, .iconst 0, 1), (1, .istore_n 2, 1), (2, .iconst 0, 1), (3, .istore_n 3, 1), (4, .iconst 0, 1), (5, .istore 4, 2), (7, .iconst 0, 1), (8, .istore 5, 2), (10, .iload 5, 2), (12, .aload_n 1, 1), (13, .invokevirtual 24, 3), (16, .if_icmp .gt 78, 3), (19, .iload 5, 2), (21, .aload_n 1, 1), (22, .invokevirtual 24, 3), (25, .if_icmp .eq 14, 3), (28, .aload_n 1, 1), (29, .iload 5, 2), (31, .invokevirtual 29, 3), (34, .bipush 124, 2), (36, .if_icmp .ne 52, 3), (39, .aload_n 0, 1), (40, .aload_n 1, 1), (41, .iload_n 3, 1), (42, .iload 5, 2), (44, .invokevirtual 33, 3), (47, .istore 6, 2), (49, .iload 6, 2), (51, .iload 5, 2), (53, .iload_n 3, 1), (54, .isub, 1), (55, .if_icmp .ne 16, 3), (58, .aload_n 0, 1), (59, .dup, 1), (60, .getfield 15, 3), (63, .iload 6, 2), (65, .iadd, 1), (66, .putfield 15, 3), (69, .iload_n 2, 1), (70, .ireturn, 1), (71, .iload 4, 2), (73, .iload 6, 2), (75, .invokestatic 37, 3), (78, .istore 4, 2), (80, .iload 5, 2), (82, .iconst 1, 1), (83, .iadd, 1), (84, .istore_n 3, 1), (85, .iinc 2 1, 3), (88, .iinc 5 1, 3), (91, .goto (-81), 3), (94, .aload_n 0, 1), (95, .dup, 1), (96, .getfield 15, 3), (99, .iload 4, 2), (101, .iadd, 1), (102, .putfield 15, 3), (105, .iconst (-1), 1), (106, .ireturn, 1)]
theorem od_X8_takeWord_0 : ∀ q ∈ op_X8_takeWord_0, decode cX8_takeWord q.1 = .ok q.2 := by decide +kernel
def op_X9_about_0 : List (Nat × Instr × Nat) := [(0, .aload_n 0, 1), (1, .getfield 12, 3), (4, .iload_n 1, 1), (5, .invokevirtual 96, 3), (8, .ifCond .ne 5, 3), (11, .iconst (-1), 1), (12, .ireturn, 1), (13, .iload_n 2, 1), (14, .tableswitch 70 0 3 #[30, 40, 50, 60], 30), (44, .aload_n 0, 1), (45, .getfield 12, 3), (48, .getfield 118, 3), (51, .iload_n 1, 1), (52, .iaload, 1), (53, .ireturn, 1), (54, .aload_n 0, 1), (55, .getfield 12, 3), (58, .getfield 121, 3), (61, .iload_n 1, 1), (62, .iaload, 1), (63, .ireturn, 1), (64, .aload_n 0, 1), (65, .getfield 12, 3), (68, .getfield 100, 3), (71, .iload_n 1, 1), (72, .iaload, 1), (73, .ireturn, 1), (74, .aload_n 0, 1), (75, .getfield 12, 3), (78, .getfield 124, 3), (81, .iload_n 1, 1), (82, .iaload, 1), (83, .ireturn, 1), (84, .iconst (-1), 1), (85, .ireturn, 1)]
theorem od_X9_about_0 : ∀ q ∈ op_X9_about_0, decode cX9_about q.1 = .ok q.2 := by decide +kernel
def op_X9_askedRule_0 : List (Nat × Instr × Nat) := [(0, .aload_n 0, 1), (1, .getfield 74, 3), (4, .bipush 30, 2), (6, .idiv, 1), (7, .bipush 12, 2), (9, .irem, 1), (10, .istore_n 3, 1), (11, .aload_n 0, 1), (12, .getfield 35, 3), (15, .getfield 181, 3), (18, .aload_n 0, 1), (19, .getfield 74, 3), (22, .bipush 30, 2), (24, .irem, 1), (25, .iaload, 1), (26, .istore 4, 2), (28, .aload_n 0, 1), (29, .getfield 49, 3), (32, .getfield 301, 3), (35, .astore 5, 2), (37, .aload 5, 2), (39, .iconst 0, 1), (40, .iload 4, 2), (42, .iastore, 1), (43, .aload 5, 2), (45, .iconst 1, 1), (46, .aload_n 0, 1), (47, .getfield 35, 3), (50, .getfield 184, 3), (53, .aload_n 0, 1), (54, .getfield 74, 3), (57, .bipush 30, 2), (59, .irem, 1), (60, .iaload, 1), (61, .iastore, 1), (62, .aload 5, 2), (64, .iconst 2, 1), (65, .iload_n 2, 1), (66, .iastore, 1), (67, .aload 5, 2), (69, .iconst 3, 1), (70, .iload_n 3, 1), (71, .iastore, 1), (72, .aload 5, 2), (74, .iconst 4, 1), (75, .aload_n 0, 1), (76, .getfield 12, 3), (79, .iload_n 1, 1), (80, .invokevirtual 304, 3), (83, .iastore, 1), (84, .aload 5, 2), (86, .iconst 5, 1), (87, .aload_n 0, 1), (88, .getfield 12, 3), (91, .iload_n 1, 1), (92, .invokevirtual 307, 3), (95, .ifCond .eq 7, 3), (98, .iconst 1, 1), (99, .goto 4, 3), (102, .iconst 0, 1)]
theorem od_X9_askedRule_0 : ∀ q ∈ op_X9_askedRule_0, decode cX9_askedRule q.1 = .ok q.2 := by decide +kernel
def op_X9_askedRule_1 : List (Nat × Instr × Nat) := [(103, .iastore, 1), (104, .aload 5, 2), (106, .bipush 6, 2), (108, .iload_n 3, 1), (109, .iconst 2, 1), (110, .if_icmp .ge 14, 3), (113, .iload 4, 2), (115, .bipush 10, 2), (117, .if_icmp .ge 7, 3), (120, .iconst 1, 1), (121, .goto 4, 3), (124, .iconst 0, 1), (125, .iastore, 1), (126, .aload_n 0, 1), (127, .getfield 49, 3), (130, .aload_n 0, 1), (131, .getfield 12, 3), (134, .getfield 310, 3), (137, .iload_n 1, 1), (138, .iaload, 1), (139, .invokevirtual 313, 3), (142, .ireturn, 1)]
theorem od_X9_askedRule_1 : ∀ q ∈ op_X9_askedRule_1, decode cX9_askedRule q.1 = .ok q.2 := by decide +kernel
def op_X9_between_0 : List (Nat × Instr × Nat) := [(0, .aload_n 0, 1), (1, .getfield 12, 3), (4, .iload_n 1, 1), (5, .invokevirtual 96, 3), (8, .ifCond .eq 14, 3), (11, .aload_n 0, 1), (12, .getfield 12, 3), (15, .iload_n 2, 1), (16, .invokevirtual 96, 3), (19, .ifCond .ne 7, 3), (22, .ldc2_w 143, 3), (25, .lreturn, 1), (26, .aload_n 0, 1), (27, .getfield 21, 3), (30, .iload_n 1, 1), (31, .invokevirtual 133, 3), (34, .istore 4, 2), (36, .iload 4, 2), (38, .iload_n 2, 1), (39, .invokestatic 157, 3), (42, .ifCond .eq 15, 3), (45, .aload_n 0, 1), (46, .getfield 21, 3), (49, .iload 4, 2), (51, .invokevirtual 140, 3), (54, .ifCond .ne 7, 3), (57, .ldc2_w 143, 3), (60, .lreturn, 1), (61, .aload_n 0, 1), (62, .getfield 21, 3), (65, .getfield 145, 3), (68, .iload_n 1, 1), (69, .laload, 1), (70, .aload_n 0, 1), (71, .getfield 21, 3), (74, .getfield 145, 3), (77, .iload_n 2, 1), (78, .laload, 1), (79, .lsub, 1), (80, .aload_n 0, 1), (81, .getfield 21, 3), (84, .getfield 149, 3), (87, .iload_n 3, 1), (88, .invokestatic 153, 3), (91, .lreturn, 1)]
theorem od_X9_between_0 : ∀ q ∈ op_X9_between_0, decode cX9_between q.1 = .ok q.2 := by decide +kernel
end
section
def op_X9_boat_0 : List (Nat × Instr × Nat) := [(0, .iload_n 1, 1), (1, .iconst 0, 1), (2, .iconst 4, 1), (3, .invokestatic 78, 3), (6, .ifCond .eq 14, 3), (9, .iload 4, 2), (11, .iconst 1, 1), (12, .bipush 99, 2), (14, .invokestatic 78, 3), (17, .ifCond .ne 6, 3), (20, .bipush (-2), 2), (22, .ireturn, 1), (23, .iload_n 2, 1), (24, .bipush 30, 2), (26, .sipush 150, 3), (29, .invokestatic 78, 3), (32, .ifCond .eq 14, 3), (35, .iload_n 3, 1), (36, .iload_n 2, 1), (37, .sipush 150, 3), (40, .invokestatic 78, 3), (43, .ifCond .ne 6, 3), (46, .bipush (-2), 2), (48, .ireturn, 1), (49, .aload_n 0, 1), (50, .getfield 12, 3), (53, .getfield 89, 3), (56, .bipush 8, 2), (58, .if_icmp .ge 18, 3), (61, .aload_n 0, 1), (62, .getfield 12, 3), (65, .iload_n 1, 1), (66, .iload_n 2, 1), (67, .iload_n 3, 1), (68, .iload 4, 2), (70, .invokevirtual 92, 3), (73, .goto 5, 3), (76, .bipush (-4), 2), (78, .ireturn, 1)]
theorem od_X9_boat_0 : ∀ q ∈ op_X9_boat_0, decode cX9_boat q.1 = .ok q.2 := by decide +kernel
def op_X9_broke_0 : List (Nat × Instr × Nat) := [(0, .iload_n 1, 1), (1, .iconst 0, 1), (2, .aload_n 0, 1), (3, .getfield 56, 3), (6, .getfield 221, 3), (9, .iconst 1, 1), (10, .isub, 1), (11, .invokestatic 78, 3), (14, .ifCond .eq 12, 3), (17, .iload_n 2, 1), (18, .iconst 0, 1), (19, .iconst 2, 1), (20, .invokestatic 78, 3), (23, .ifCond .ne 5, 3), (26, .iconst (-1), 1), (27, .ireturn, 1), (28, .aload_n 0, 1), (29, .getfield 56, 3), (32, .iload_n 1, 1), (33, .invokevirtual 227, 3), (36, .ifCond .ne 6, 3), (39, .bipush (-3), 2), (41, .ireturn, 1), (42, .iload_n 2, 1), (43, .ifCond .ne 12, 3), (46, .aload_n 0, 1), (47, .getfield 56, 3), (50, .iload_n 1, 1), (51, .invokevirtual 230, 3), (54, .ireturn, 1), (55, .aload_n 0, 1), (56, .getfield 56, 3), (59, .iload_n 1, 1), (60, .invokevirtual 233, 3), (63, .istore_n 3, 1), (64, .iload_n 2, 1), (65, .iconst 1, 1), (66, .if_icmp .eq 8, 3), (69, .iload_n 3, 1), (70, .iconst (-1), 1), (71, .if_icmp .ne 7, 3), (74, .iload_n 3, 1), (75, .goto 12, 3), (78, .aload_n 0, 1), (79, .getfield 56, 3), (82, .getfield 236, 3), (85, .iload_n 3, 1), (86, .iaload, 1), (87, .ireturn, 1)]
theorem od_X9_broke_0 : ∀ q ∈ op_X9_broke_0, decode cX9_broke q.1 = .ok q.2 := by decide +kernel
def op_X9_clashes_0 : List (Nat × Instr × Nat) := [(0, .aload_n 0, 1), (1, .getfield 63, 3), (4, .invokevirtual 255, 3), (7, .ireturn, 1)]
theorem od_X9_clashes_0 : ∀ q ∈ op_X9_clashes_0, decode cX9_clashes q.1 = .ok q.2 := by decide +kernel
def op_X9_commonDivisor_0 : List (Nat × Instr × Nat) := [(0, .lload_n 0, 1), (1, .lstore 4, 2), (3, .lload_n 2, 1), (4, .lstore 6, 2), (6, .iconst 0, 1), (7, .istore 8, 2), (9, .iload 8, 2), (11, .sipush 200, 3), (14, .if_icmp .ge 31, 3), (17, .lload 6, 2), (19, .lconst 0, 1), (20, .lcmp, 1), (21, .ifCond .eq 24, 3), (24, .lload 4, 2), (26, .lload 6, 2), (28, .lrem, 1), (29, .lstore 9, 2), (31, .lload 6, 2), (33, .lstore 4, 2), (35, .lload 9, 2), (37, .lstore 6, 2), (39, .iinc 8 1, 3), (42, .goto (-33), 3), (45, .lload 4, 2), (47, .lreturn, 1)]
theorem od_X9_commonDivisor_0 : ∀ q ∈ op_X9_commonDivisor_0, decode cX9_commonDivisor q.1 = .ok q.2 := by decide +kernel
def op_X9_count_0 : List (Nat × Instr × Nat) := [(0, .iload_n 1, 1), (1, .tableswitch 120 0 8 #[51, 59, 67, 75, 83, 91, 99, 107, 112], 51), (52, .aload_n 0, 1), (53, .getfield 12, 3), (56, .getfield 82, 3), (59, .ireturn, 1), (60, .aload_n 0, 1), (61, .getfield 12, 3), (64, .getfield 89, 3), (67, .ireturn, 1), (68, .aload_n 0, 1), (69, .getfield 21, 3), (72, .getfield 127, 3), (75, .ireturn, 1), (76, .aload_n 0, 1), (77, .getfield 49, 3), (80, .getfield 194, 3), (83, .ireturn, 1), (84, .aload_n 0, 1), (85, .getfield 56, 3), (88, .getfield 212, 3), (91, .ireturn, 1), (92, .aload_n 0, 1), (93, .getfield 56, 3), (96, .getfield 221, 3), (99, .ireturn, 1), (100, .aload_n 0, 1), (101, .getfield 63, 3), (104, .getfield 248, 3), (107, .ireturn, 1), (108, .aload_n 0, 1), (109, .getfield 74, 3), (112, .ireturn, 1), (113, .aload_n 0, 1), (114, .getfield 42, 3), (117, .getfield 187, 3), (120, .ireturn, 1), (121, .iconst (-1), 1), (122, .ireturn, 1)]
theorem od_X9_count_0 : ∀ q ∈ op_X9_count_0, decode cX9_count q.1 = .ok q.2 := by decide +kernel
def op_X9_crew_0 : List (Nat × Instr × Nat) := [(0, .aload_n 0, 1), (1, .getfield 12, 3), (4, .iload_n 1, 1), (5, .invokevirtual 167, 3), (8, .ifCond .ne 5, 3), (11, .iconst (-1), 1), (12, .ireturn, 1), (13, .iload_n 2, 1), (14, .invokestatic 170, 3), (17, .ifCond .eq 12, 3), (20, .iload_n 3, 1), (21, .iconst 0, 1), (22, .iconst 1, 1), (23, .invokestatic 78, 3), (26, .ifCond .ne 6, 3), (29, .bipush (-2), 2), (31, .ireturn, 1), (32, .aload_n 0, 1), (33, .getfield 28, 3), (36, .aload_n 0, 1), (37, .getfield 12, 3), (40, .iload_n 1, 1), (41, .iload_n 2, 1), (42, .invokevirtual 173, 3), (45, .istore 4, 2), (47, .iload 4, 2), (49, .sipush 1000, 3), (52, .if_icmp .lt 6, 3), (55, .bipush (-3), 2), (57, .ireturn, 1), (58, .iload_n 3, 1), (59, .iconst 1, 1), (60, .if_icmp .ne 16, 3), (63, .aload_n 0, 1), (64, .getfield 28, 3), (67, .aload_n 0, 1), (68, .getfield 12, 3), (71, .iload_n 1, 1), (72, .iload_n 2, 1), (73, .invokevirtual 177, 3), (76, .iload 4, 2), (78, .ireturn, 1)]
theorem od_X9_crew_0 : ∀ q ∈ op_X9_crew_0, decode cX9_crew q.1 = .ok q.2 := by decide +kernel
def op_X9_day_0 : List (Nat × Instr × Nat) := [(0, .iload_n 1, 1), (1, .aload_n 0, 1), (2, .getfield 74, 3), (5, .sipush 999, 3), (8, .invokestatic 78, 3), (11, .ifCond .ne 6, 3), (14, .bipush (-2), 2), (16, .ireturn, 1), (17, .aload_n 0, 1), (18, .getfield 74, 3), (21, .istore_n 2, 1), (22, .aload_n 0, 1), (23, .iload_n 1, 1), (24, .putfield 74, 3), (27, .iload_n 2, 1), (28, .ireturn, 1)]
theorem od_X9_day_0 : ∀ q ∈ op_X9_day_0, decode cX9_day q.1 = .ok q.2 := by decide +kernel
def op_X9_feed_0 : List (Nat × Instr × Nat) := [(0, .iload_n 3, 1), (1, .iconst 1, 1), (2, .bipush 8, 2), (4, .invokestatic 78, 3), (7, .ifCond .ne 6, 3), (10, .bipush (-2), 2), (12, .ireturn, 1), (13, .aload_n 0, 1), (14, .getfield 42, 3), (17, .getfield 187, 3), (20, .iload_n 3, 1), (21, .iadd, 1), (22, .bipush 120, 2), (24, .if_icmp .gt 15, 3), (27, .aload_n 0, 1), (28, .getfield 42, 3), (31, .lload_n 1, 1), (32, .iload_n 3, 1), (33, .invokevirtual 190, 3), (36, .goto 5, 3), (39, .bipush (-4), 2), (41, .ireturn, 1)]
theorem od_X9_feed_0 : ∀ q ∈ op_X9_feed_0, decode cX9_feed q.1 = .ok q.2 := by decide +kernel
def op_X9_group_0 : List (Nat × Instr × Nat) := [(0, .aload_n 0, 1), (1, .getfield 12, 3), (4, .iload_n 1, 1), (5, .invokevirtual 96, 3), (8, .ifCond .eq 17, 3), (11, .aload_n 0, 1), (12, .getfield 21, 3), (15, .iload_n 1, 1), (16, .invokevirtual 133, 3), (19, .invokestatic 137, 3), (22, .goto 4, 3), (25, .iconst (-1), 1), (26, .ireturn, 1)]
theorem od_X9_group_0 : ∀ q ∈ op_X9_group_0, decode cX9_group q.1 = .ok q.2 := by decide +kernel
def op_X9_has_0 : List (Nat × Instr × Nat) := [(0, .iload_n 0, 1), (1, .iload_n 1, 1), (2, .ishr, 1), (3, .iconst 1, 1), (4, .iand, 1), (5, .ifCond .eq 7, 3), (8, .iconst 1, 1), (9, .goto 4, 3), (12, .iconst 0, 1), (13, .ireturn, 1)]
theorem od_X9_has_0 : ∀ q ∈ op_X9_has_0, decode cX9_has q.1 = .ok q.2 := by decide +kernel
def op_X9_heat_0 : List (Nat × Instr × Nat) := [(0, .aload_n 0, 1), (1, .getfield 12, 3), (4, .iload_n 1, 1), (5, .invokevirtual 167, 3), (8, .ifCond .ne 5, 3), (11, .iconst (-1), 1), (12, .ireturn, 1), (13, .iload_n 2, 1), (14, .iconst 0, 1), (15, .sipush 1439, 3), (18, .invokestatic 78, 3), (21, .ifCond .ne 6, 3), (24, .bipush (-2), 2), (26, .ireturn, 1), (27, .aload_n 0, 1), (28, .getfield 63, 3), (31, .getfield 248, 3), (34, .bipush 20, 2), (36, .if_icmp .ge 15, 3), (39, .aload_n 0, 1), (40, .getfield 63, 3), (43, .iload_n 1, 1), (44, .iload_n 2, 1), (45, .invokevirtual 249, 3), (48, .goto 5, 3), (51, .bipush (-4), 2), (53, .ireturn, 1)]
theorem od_X9_heat_0 : ∀ q ∈ op_X9_heat_0, decode cX9_heat q.1 = .ok q.2 := by decide +kernel
def op_X9_ill_0 : List (Nat × Instr × Nat) := [(0, .aload_n 0, 1), (1, .getfield 12, 3), (4, .iload_n 1, 1), (5, .invokevirtual 96, 3), (8, .ifCond .ne 5, 3), (11, .iconst (-1), 1), (12, .ireturn, 1), (13, .iload_n 2, 1), (14, .iconst 0, 1), (15, .iconst 1, 1), (16, .invokestatic 78, 3), (19, .ifCond .ne 6, 3), (22, .bipush (-2), 2), (24, .ireturn, 1), (25, .aload_n 0, 1), (26, .getfield 12, 3), (29, .getfield 100, 3), (32, .iload_n 1, 1), (33, .iaload, 1), (34, .istore_n 3, 1), (35, .aload_n 0, 1), (36, .getfield 12, 3), (39, .getfield 100, 3), (42, .iload_n 1, 1), (43, .iload_n 2, 1), (44, .iastore, 1), (45, .iload_n 3, 1), (46, .ireturn, 1)]
theorem od_X9_ill_0 : ∀ q ∈ op_X9_ill_0, decode cX9_ill q.1 = .ok q.2 := by decide +kernel
def op_X9_init_0 : List (Nat × Instr × Nat) := [(0, .aload_n 0, 1), (1, .invokespecial 3, 3), (4, .aload_n 0, 1), (5, .new 9, 3), (8, .dup, 1), (9, .invokespecial 11, 3), (12, .putfield 12, 3), (15, .aload_n 0, 1), (16, .new 18, 3), (19, .dup, 1), (20, .invokespecial 20, 3), (23, .putfield 21, 3), (26, .aload_n 0, 1), (27, .new 25, 3), (30, .dup, 1), (31, .invokespecial 27, 3), (34, .putfield 28, 3), (37, .aload_n 0, 1), (38, .new 32, 3), (41, .dup, 1), (42, .invokespecial 34, 3), (45, .putfield 35, 3), (48, .aload_n 0, 1), (49, .new 39, 3), (52, .dup, 1), (53, .invokespecial 41, 3), (56, .putfield 42, 3), (59, .aload_n 0, 1), (60, .new 46, 3), (63, .dup, 1), (64, .invokespecial 48, 3), (67, .putfield 49, 3), (70, .aload_n 0, 1), (71, .new 53, 3), (74, .dup, 1), (75, .invokespecial 55, 3), (78, .putfield 56, 3), (81, .aload_n 0, 1), (82, .new 60, 3), (85, .dup, 1), (86, .invokespecial 62, 3), (89, .putfield 63, 3), (92, .aload_n 0, 1), (93, .new 67, 3), (96, .dup, 1), (97, .invokespecial 69, 3), (100, .putfield 70, 3), (103, .aload_n 0, 1), (104, .iconst 0, 1), (105, .putfield 74, 3), (108, .return_, 1)]
theorem od_X9_init_0 : ∀ q ∈ op_X9_init_0, decode cX9_init q.1 = .ok q.2 := by decide +kernel
def op_X9_isHour_0 : List (Nat × Instr × Nat) := [(0, .iload_n 0, 1), (1, .iconst 0, 1), (2, .bipush 23, 2), (4, .invokestatic 78, 3), (7, .ireturn, 1)]
theorem od_X9_isHour_0 : ∀ q ∈ op_X9_isHour_0, decode cX9_isHour q.1 = .ok q.2 := by decide +kernel
def op_X9_leastOf_0 : List (Nat × Instr × Nat) := [(0, .iconst 0, 1), (1, .istore_n 1, 1), (2, .iload_n 1, 1), (3, .bipush 16, 2), (5, .if_icmp .ge 19, 3), (8, .iload_n 0, 1), (9, .iload_n 1, 1), (10, .invokestatic 157, 3), (13, .ifCond .eq 5, 3), (16, .iload_n 1, 1), (17, .ireturn, 1), (18, .iinc 1 1, 3), (21, .goto (-19), 3), (24, .iconst (-1), 1), (25, .ireturn, 1)]
theorem od_X9_leastOf_0 : ∀ q ∈ op_X9_leastOf_0, decode cX9_leastOf q.1 = .ok q.2 := by decide +kernel
def op_X9_look_0 : List (Nat × Instr × Nat) := [(0, .aload_n 0, 1), (1, .getfield 12, 3), (4, .iload_n 1, 1), (5, .invokevirtual 167, 3), (8, .ifCond .ne 5, 3), (11, .iconst (-1), 1), (12, .ireturn, 1), (13, .iload_n 2, 1), (14, .iconst 0, 1), (15, .iconst 1, 1), (16, .invokestatic 78, 3), (19, .ifCond .ne 6, 3), (22, .bipush (-2), 2), (24, .ireturn, 1), (25, .aload_n 0, 1), (26, .getfield 56, 3), (29, .getfield 221, 3), (32, .bipush 60, 2), (34, .if_icmp .ge 15, 3), (37, .aload_n 0, 1), (38, .getfield 56, 3), (41, .iload_n 1, 1), (42, .iload_n 2, 1), (43, .invokevirtual 224, 3), (46, .goto 5, 3), (49, .bipush (-4), 2), (51, .ireturn, 1)]
theorem od_X9_look_0 : ∀ q ∈ op_X9_look_0, decode cX9_look q.1 = .ok q.2 := by decide +kernel
def op_X9_may_0 : List (Nat × Instr × Nat) := [(0, .aload_n 0, 1), (1, .getfield 12, 3), (4, .iload_n 1, 1), (5, .invokevirtual 167, 3), (8, .ifCond .ne 5, 3), (11, .iconst (-1), 1), (12, .ireturn, 1), (13, .iload_n 2, 1), (14, .invokestatic 170, 3), (17, .ifCond .eq 12, 3), (20, .aload_n 0, 1), (21, .iload_n 1, 1), (22, .iload_n 2, 1), (23, .invokevirtual 209, 3), (26, .goto 5, 3), (29, .bipush (-2), 2), (31, .ireturn, 1)]
theorem od_X9_may_0 : ∀ q ∈ op_X9_may_0, decode cX9_may q.1 = .ok q.2 := by decide +kernel
def op_X9_misfit_0 : List (Nat × Instr × Nat) := [(0, .aload_n 0, 1), (1, .getfield 12, 3), (4, .iload_n 1, 1), (5, .invokevirtual 96, 3), (8, .ifCond .ne 7, 3), (11, .ldc2_w 143, 3), (14, .lreturn, 1), (15, .aload_n 0, 1), (16, .getfield 21, 3), (19, .iload_n 1, 1), (20, .invokevirtual 133, 3), (23, .istore_n 3, 1), (24, .aload_n 0, 1), (25, .getfield 21, 3), (28, .iload_n 3, 1), (29, .invokevirtual 140, 3), (32, .ifCond .ne 7, 3), (35, .ldc2_w 143, 3), (38, .lreturn, 1), (39, .aload_n 0, 1), (40, .getfield 21, 3), (43, .iload_n 3, 1), (44, .invokevirtual 160, 3), (47, .aload_n 0, 1), (48, .getfield 21, 3), (51, .getfield 149, 3), (54, .iload_n 2, 1), (55, .invokestatic 153, 3), (58, .lreturn, 1)]
theorem od_X9_misfit_0 : ∀ q ∈ op_X9_misfit_0, decode cX9_misfit q.1 = .ok q.2 := by decide +kernel
def op_X9_near_0 : List (Nat × Instr × Nat) := [(0, .iload_n 1, 1), (1, .iconst 0, 1), (2, .sipush 999, 3), (5, .invokestatic 78, 3), (8, .ifCond .ne 6, 3), (11, .bipush (-2), 2), (13, .ireturn, 1), (14, .aload_n 0, 1), (15, .getfield 63, 3), (18, .getfield 252, 3), (21, .istore_n 2, 1), (22, .aload_n 0, 1), (23, .getfield 63, 3), (26, .iload_n 1, 1), (27, .putfield 252, 3), (30, .iload_n 2, 1), (31, .ireturn, 1)]
theorem od_X9_near_0 : ∀ q ∈ op_X9_near_0, decode cX9_near q.1 = .ok q.2 := by decide +kernel
def op_X9_oar_0 : List (Nat × Instr × Nat) := [(0, .iload_n 1, 1), (1, .iconst 0, 1), (2, .iconst 4, 1), (3, .invokestatic 78, 3), (6, .ifCond .eq 15, 3), (9, .iload_n 2, 1), (10, .bipush 30, 2), (12, .sipush 150, 3), (15, .invokestatic 78, 3), (18, .ifCond .ne 6, 3), (21, .bipush (-2), 2), (23, .ireturn, 1), (24, .aload_n 0, 1), (25, .getfield 12, 3), (28, .getfield 82, 3), (31, .bipush 16, 2), (33, .if_icmp .ge 15, 3), (36, .aload_n 0, 1), (37, .getfield 12, 3), (40, .iload_n 1, 1), (41, .iload_n 2, 1), (42, .invokevirtual 85, 3), (45, .goto 5, 3), (48, .bipush (-4), 2), (50, .ireturn, 1)]
theorem od_X9_oar_0 : ∀ q ∈ op_X9_oar_0, decode cX9_oar q.1 = .ok q.2 := by decide +kernel
def op_X9_out_0 : List (Nat × Instr × Nat) := [(0, .aload_n 0, 1), (1, .getfield 12, 3), (4, .iload_n 1, 1), (5, .invokevirtual 167, 3), (8, .ifCond .ne 5, 3), (11, .iconst (-1), 1), (12, .ireturn, 1), (13, .iload_n 2, 1), (14, .invokestatic 170, 3), (17, .ifCond .ne 6, 3), (20, .bipush (-2), 2), (22, .ireturn, 1), (23, .aload_n 0, 1), (24, .iload_n 1, 1), (25, .iload_n 2, 1), (26, .invokevirtual 209, 3), (29, .ifCond .eq 6, 3), (32, .bipush (-3), 2), (34, .ireturn, 1), (35, .aload_n 0, 1), (36, .getfield 56, 3), (39, .getfield 212, 3), (42, .bipush 30, 2), (44, .if_icmp .ge 27, 3), (47, .aload_n 0, 1), (48, .getfield 56, 3), (51, .iload_n 1, 1), (52, .aload_n 0, 1), (53, .getfield 74, 3), (56, .iload_n 2, 1), (57, .aload_n 0, 1), (58, .getfield 12, 3), (61, .iload_n 1, 1), (62, .invokevirtual 215, 3), (65, .invokevirtual 218, 3), (68, .goto 5, 3), (71, .bipush (-4), 2), (73, .ireturn, 1)]
theorem od_X9_out_0 : ∀ q ∈ op_X9_out_0, decode cX9_out q.1 = .ok q.2 := by decide +kernel
def op_X9_outing_0 : List (Nat × Instr × Nat) := [(0, .iload_n 1, 1), (1, .iconst 0, 1), (2, .aload_n 0, 1), (3, .getfield 56, 3), (6, .getfield 212, 3), (9, .iconst 1, 1), (10, .isub, 1), (11, .invokestatic 78, 3), (14, .ifCond .ne 5, 3), (17, .iconst (-1), 1), (18, .ireturn, 1), (19, .iload_n 2, 1), (20, .tableswitch 72 0 3 #[32, 42, 52, 62], 32), (52, .aload_n 0, 1), (53, .getfield 56, 3), (56, .getfield 239, 3), (59, .iload_n 1, 1), (60, .iaload, 1), (61, .ireturn, 1), (62, .aload_n 0, 1), (63, .getfield 56, 3), (66, .getfield 242, 3), (69, .iload_n 1, 1), (70, .iaload, 1), (71, .ireturn, 1), (72, .aload_n 0, 1), (73, .getfield 56, 3), (76, .getfield 245, 3), (79, .iload_n 1, 1), (80, .iaload, 1), (81, .ireturn, 1), (82, .aload_n 0, 1), (83, .getfield 56, 3), (86, .getfield 236, 3), (89, .iload_n 1, 1), (90, .iaload, 1), (91, .ireturn, 1), (92, .iconst (-1), 1), (93, .ireturn, 1)]
theorem od_X9_outing_0 : ∀ q ∈ op_X9_outing_0, decode cX9_outing q.1 = .ok q.2 := by decide +kernel
def op_X9_partOf_0 : List (Nat × Instr × Nat) := [(0, .lload_n 0, 1), (1, .invokestatic 270, 3), (4, .lload_n 2, 1), (5, .invokestatic 276, 3), (8, .lstore 5, 2), (10, .lload 5, 2), (12, .lconst 0, 1), (13, .lcmp, 1), (14, .ifCond .eq 13, 3), (17, .iload 4, 2), (19, .iconst 0, 1), (20, .iconst 1, 1), (21, .invokestatic 78, 3), (24, .ifCond .ne 7, 3), (27, .ldc2_w 143, 3), (30, .lreturn, 1), (31, .iload 4, 2), (33, .ifCond .ne 7, 3), (36, .lload_n 0, 1), (37, .goto 4, 3), (40, .lload_n 2, 1), (41, .lload 5, 2), (43, .ldiv, 1), (44, .lreturn, 1)]
theorem od_X9_partOf_0 : ∀ q ∈ op_X9_partOf_0, decode cX9_partOf q.1 = .ok q.2 := by decide +kernel
def op_X9_race_0 : List (Nat × Instr × Nat) := [(0, .aload_n 0, 1), (1, .getfield 12, 3), (4, .iload_n 1, 1), (5, .invokevirtual 96, 3), (8, .ifCond .eq 14, 3), (11, .aload_n 0, 1), (12, .getfield 12, 3), (15, .iload_n 2, 1), (16, .invokevirtual 96, 3), (19, .ifCond .ne 5, 3), (22, .iconst (-1), 1), (23, .ireturn, 1), (24, .iload_n 1, 1), (25, .iload_n 2, 1), (26, .if_icmp .eq 16, 3), (29, .iload_n 3, 1), (30, .sipush (-999), 3), (33, .sipush 999, 3), (36, .invokestatic 78, 3), (39, .ifCond .ne 6, 3), (42, .bipush (-2), 2), (44, .ireturn, 1), (45, .aload_n 0, 1), (46, .getfield 21, 3), (49, .getfield 127, 3), (52, .bipush 40, 2), (54, .if_icmp .ge 16, 3), (57, .aload_n 0, 1), (58, .getfield 21, 3), (61, .iload_n 1, 1), (62, .iload_n 2, 1), (63, .iload_n 3, 1), (64, .invokevirtual 130, 3), (67, .goto 5, 3), (70, .bipush (-4), 2), (72, .ireturn, 1)]
theorem od_X9_race_0 : ∀ q ∈ op_X9_race_0, decode cX9_race q.1 = .ok q.2 := by decide +kernel
def op_X9_rack_0 : List (Nat × Instr × Nat) := [(0, .aload_n 0, 1), (1, .getfield 12, 3), (4, .iload_n 1, 1), (5, .invokevirtual 167, 3), (8, .ifCond .eq 15, 3), (11, .aload_n 0, 1), (12, .getfield 70, 3), (15, .getfield 267, 3), (18, .iload_n 1, 1), (19, .iaload, 1), (20, .goto 4, 3), (23, .iconst (-1), 1), (24, .ireturn, 1)]
theorem od_X9_rack_0 : ∀ q ∈ op_X9_rack_0, decode cX9_rack q.1 = .ok q.2 := by decide +kernel
def op_X9_rule_0 : List (Nat × Instr × Nat) := [(0, .aload_n 0, 1), (1, .getfield 49, 3), (4, .getfield 194, 3), (7, .bipush 10, 2), (9, .if_icmp .lt 6, 3), (12, .bipush (-4), 2), (14, .ireturn, 1), (15, .aload_n 0, 1), (16, .getfield 49, 3), (19, .aload_n 0, 1), (20, .getfield 42, 3), (23, .invokevirtual 195, 3), (26, .istore_n 1, 1), (27, .aload_n 0, 1), (28, .getfield 42, 3), (31, .iconst 0, 1), (32, .putfield 187, 3), (35, .iload_n 1, 1), (36, .ifCond .eq 13, 3), (39, .aload_n 0, 1), (40, .getfield 49, 3), (43, .invokevirtual 199, 3), (46, .goto 13, 3), (49, .bipush (-10), 2), (51, .aload_n 0, 1), (52, .getfield 42, 3), (55, .getfield 203, 3), (58, .isub, 1), (59, .ireturn, 1)]
theorem od_X9_rule_0 : ∀ q ∈ op_X9_rule_0, decode cX9_rule q.1 = .ok q.2 := by decide +kernel
def op_X9_ruled_0 : List (Nat × Instr × Nat) := [(0, .aload_n 0, 1), (1, .getfield 12, 3), (4, .iload_n 1, 1), (5, .invokevirtual 167, 3), (8, .ifCond .ne 5, 3), (11, .iconst (-1), 1), (12, .ireturn, 1), (13, .iload_n 2, 1), (14, .invokestatic 170, 3), (17, .ifCond .eq 12, 3), (20, .aload_n 0, 1), (21, .iload_n 1, 1), (22, .iload_n 2, 1), (23, .invokevirtual 206, 3), (26, .goto 5, 3), (29, .bipush (-2), 2), (31, .ireturn, 1)]
theorem od_X9_ruled_0 : ∀ q ∈ op_X9_ruled_0, decode cX9_ruled q.1 = .ok q.2 := by decide +kernel
def op_X9_seat_0 : List (Nat × Instr × Nat) := [(0, .aload_n 0, 1), (1, .getfield 12, 3), (4, .iload_n 1, 1), (5, .iload_n 2, 1), (6, .invokevirtual 104, 3), (9, .ifCond .eq 15, 3), (12, .aload_n 0, 1), (13, .getfield 12, 3), (16, .iload_n 1, 1), (17, .iload_n 2, 1), (18, .invokevirtual 115, 3), (21, .goto 4, 3), (24, .iconst (-1), 1), (25, .ireturn, 1)]
theorem od_X9_seat_0 : ∀ q ∈ op_X9_seat_0, decode cX9_seat q.1 = .ok q.2 := by decide +kernel
def op_X9_shift_0 : List (Nat × Instr × Nat) := [(0, .iload_n 1, 1), (1, .iconst 0, 1), (2, .aload_n 0, 1), (3, .getfield 63, 3), (6, .getfield 248, 3), (9, .iconst 1, 1), (10, .isub, 1), (11, .invokestatic 78, 3), (14, .ifCond .ne 5, 3), (17, .iconst (-1), 1), (18, .ireturn, 1), (19, .aload_n 0, 1), (20, .getfield 63, 3), (23, .iload_n 1, 1), (24, .invokevirtual 258, 3), (27, .istore_n 2, 1), (28, .iload_n 2, 1), (29, .sipush 1439, 3), (32, .if_icmp .gt 7, 3), (35, .iload_n 2, 1), (36, .goto 5, 3), (39, .bipush (-3), 2), (41, .ireturn, 1)]
theorem od_X9_shift_0 : ∀ q ∈ op_X9_shift_0, decode cX9_shift q.1 = .ok q.2 := by decide +kernel
def op_X9_sit_0 : List (Nat × Instr × Nat) := [(0, .aload_n 0, 1), (1, .getfield 12, 3), (4, .iload_n 1, 1), (5, .iload_n 2, 1), (6, .invokevirtual 104, 3), (9, .ifCond .eq 19, 3), (12, .iload_n 3, 1), (13, .iconst (-1), 1), (14, .if_icmp .eq 17, 3), (17, .aload_n 0, 1), (18, .getfield 12, 3), (21, .iload_n 3, 1), (22, .invokevirtual 96, 3), (25, .ifCond .ne 6, 3), (28, .bipush (-5), 2), (30, .ireturn, 1), (31, .iload_n 3, 1), (32, .iconst (-1), 1), (33, .if_icmp .eq 18, 3), (36, .aload_n 0, 1), (37, .getfield 12, 3), (40, .iload_n 3, 1), (41, .iload_n 2, 1), (42, .invokevirtual 108, 3), (45, .ifCond .ne 6, 3), (48, .bipush (-3), 2), (50, .ireturn, 1), (51, .aload_n 0, 1), (52, .getfield 12, 3), (55, .iload_n 1, 1), (56, .iload_n 2, 1), (57, .iload_n 3, 1), (58, .invokevirtual 111, 3), (61, .ireturn, 1)]
theorem od_X9_sit_0 : ∀ q ∈ op_X9_sit_0, decode cX9_sit q.1 = .ok q.2 := by decide +kernel
def op_X9_strength_0 : List (Nat × Instr × Nat) := [(0, .aload_n 0, 1), (1, .getfield 12, 3), (4, .iload_n 1, 1), (5, .invokevirtual 96, 3), (8, .ifCond .eq 21, 3), (11, .aload_n 0, 1), (12, .getfield 21, 3), (15, .aload_n 0, 1), (16, .getfield 21, 3), (19, .iload_n 1, 1), (20, .invokevirtual 133, 3), (23, .invokevirtual 140, 3), (26, .ifCond .ne 7, 3), (29, .ldc2_w 143, 3), (32, .lreturn, 1), (33, .aload_n 0, 1), (34, .getfield 21, 3), (37, .getfield 145, 3), (40, .iload_n 1, 1), (41, .laload, 1), (42, .aload_n 0, 1), (43, .getfield 21, 3), (46, .getfield 149, 3), (49, .iload_n 2, 1), (50, .invokestatic 153, 3), (53, .lreturn, 1)]
theorem od_X9_strength_0 : ∀ q ∈ op_X9_strength_0, decode cX9_strength q.1 = .ok q.2 := by decide +kernel
def op_X9_sure_0 : List (Nat × Instr × Nat) := [(0, .aload_n 0, 1), (1, .getfield 12, 3), (4, .iload_n 1, 1), (5, .invokevirtual 96, 3), (8, .ifCond .eq 14, 3), (11, .aload_n 0, 1), (12, .getfield 12, 3), (15, .iload_n 2, 1), (16, .invokevirtual 96, 3), (19, .ifCond .ne 5, 3), (22, .iconst (-1), 1), (23, .ireturn, 1), (24, .iload_n 1, 1), (25, .iload_n 2, 1), (26, .if_icmp .ne 8, 3), (29, .bipush (-2), 2), (31, .goto 12, 3), (34, .aload_n 0, 1), (35, .getfield 21, 3), (38, .iload_n 1, 1), (39, .iload_n 2, 1), (40, .invokevirtual 164, 3), (43, .ireturn, 1)]
theorem od_X9_sure_0 : ∀ q ∈ op_X9_sure_0, decode cX9_sure q.1 = .ok q.2 := by decide +kernel
def op_X9_trailer_0 : List (Nat × Instr × Nat) := [(0, .iload_n 1, 1), (1, .aload_n 0, 1), (2, .getfield 12, 3), (5, .getfield 89, 3), (8, .iushr, 1), (9, .ifCond .ne 14, 3), (12, .iload_n 2, 1), (13, .iconst 1, 1), (14, .sipush 999, 3), (17, .invokestatic 78, 3), (20, .ifCond .ne 6, 3), (23, .bipush (-2), 2), (25, .ireturn, 1), (26, .aload_n 0, 1), (27, .getfield 70, 3), (30, .aload_n 0, 1), (31, .getfield 12, 3), (34, .getfield 261, 3), (37, .iload_n 1, 1), (38, .iload_n 2, 1), (39, .invokevirtual 263, 3), (42, .istore_n 3, 1), (43, .iload_n 3, 1), (44, .iload_n 2, 1), (45, .if_icmp .gt 7, 3), (48, .iload_n 3, 1), (49, .goto 5, 3), (52, .bipush (-3), 2), (54, .ireturn, 1)]
theorem od_X9_trailer_0 : ∀ q ∈ op_X9_trailer_0, decode cX9_trailer q.1 = .ok q.2 := by decide +kernel
def op_X9_unrace_0 : List (Nat × Instr × Nat) := [(0, .aload_n 0, 1), (1, .getfield 21, 3), (4, .getfield 127, 3), (7, .ifCond .ne 6, 3), (10, .bipush (-3), 2), (12, .ireturn, 1), (13, .aload_n 0, 1), (14, .getfield 21, 3), (17, .dup, 1), (18, .getfield 127, 3), (21, .iconst 1, 1), (22, .isub, 1), (23, .putfield 127, 3), (26, .aload_n 0, 1), (27, .getfield 21, 3), (30, .getfield 127, 3), (33, .ireturn, 1)]
theorem od_X9_unrace_0 : ∀ q ∈ op_X9_unrace_0, decode cX9_unrace q.1 = .ok q.2 := by decide +kernel
def op_X9_water_0 : List (Nat × Instr × Nat) := [(0, .iload_n 1, 1), (1, .iconst 0, 1), (2, .bipush 29, 2), (4, .invokestatic 78, 3), (7, .ifCond .ne 5, 3), (10, .iconst (-1), 1), (11, .ireturn, 1), (12, .iload_n 2, 1), (13, .iconst 0, 1), (14, .sipush 200, 3), (17, .invokestatic 78, 3), (20, .ifCond .eq 13, 3), (23, .iload_n 3, 1), (24, .iconst 0, 1), (25, .bipush 12, 2), (27, .invokestatic 78, 3), (30, .ifCond .ne 6, 3), (33, .bipush (-2), 2), (35, .ireturn, 1), (36, .aload_n 0, 1), (37, .getfield 35, 3), (40, .getfield 181, 3), (43, .iload_n 1, 1), (44, .iload_n 2, 1), (45, .iastore, 1), (46, .aload_n 0, 1), (47, .getfield 35, 3), (50, .getfield 184, 3), (53, .iload_n 1, 1), (54, .iload_n 3, 1), (55, .iastore, 1), (56, .iconst 0, 1), (57, .ireturn, 1)]
theorem od_X9_water_0 : ∀ q ∈ op_X9_water_0, decode cX9_water q.1 = .ok q.2 := by decide +kernel
def op_X9_whyAshore_0 : List (Nat × Instr × Nat) := [(0, .aload_n 0, 1), (1, .getfield 56, 3), (4, .iload_n 1, 1), (5, .invokevirtual 280, 3), (8, .ifCond .eq 5, 3), (11, .iconst 1, 1), (12, .ireturn, 1), (13, .aload_n 0, 1), (14, .getfield 12, 3), (17, .iload_n 1, 1), (18, .invokevirtual 283, 3), (21, .ifCond .ne 5, 3), (24, .iconst 2, 1), (25, .ireturn, 1), (26, .aload_n 0, 1), (27, .getfield 12, 3), (30, .iload_n 1, 1), (31, .invokevirtual 286, 3), (34, .aload_n 0, 1), (35, .getfield 12, 3), (38, .getfield 289, 3), (41, .iload_n 1, 1), (42, .iaload, 1), (43, .aload_n 0, 1), (44, .getfield 12, 3), (47, .getfield 292, 3), (50, .iload_n 1, 1), (51, .iaload, 1), (52, .invokestatic 78, 3), (55, .ifCond .ne 5, 3), (58, .iconst 3, 1), (59, .ireturn, 1), (60, .aload_n 0, 1), (61, .getfield 12, 3), (64, .iload_n 1, 1), (65, .iload_n 2, 1), (66, .invokevirtual 295, 3), (69, .ifCond .ne 5, 3), (72, .iconst 4, 1), (73, .ireturn, 1), (74, .aload_n 0, 1), (75, .iload_n 1, 1), (76, .iload_n 2, 1), (77, .invokevirtual 206, 3), (80, .istore_n 3, 1), (81, .iload_n 3, 1), (82, .iconst (-1), 1), (83, .if_icmp .eq 20, 3), (86, .aload_n 0, 1), (87, .getfield 49, 3), (90, .getfield 298, 3), (93, .iload_n 3, 1), (94, .iaload, 1), (95, .iconst 1, 1), (96, .if_icmp .ne 7, 3), (99, .iconst 5, 1), (100, .goto 4, 3), (103, .iconst 0, 1), (104, .ireturn, 1)]
theorem od_X9_whyAshore_0 : ∀ q ∈ op_X9_whyAshore_0, decode cX9_whyAshore q.1 = .ok q.2 := by decide +kernel
def op_X9_within_0 : List (Nat × Instr × Nat) := [(0, .iload_n 0, 1), (1, .iload_n 1, 1), (2, .if_icmp .lt 12, 3), (5, .iload_n 0, 1), (6, .iload_n 2, 1), (7, .if_icmp .gt 7, 3), (10, .iconst 1, 1), (11, .goto 4, 3), (14, .iconst 0, 1), (15, .ireturn, 1)]
theorem od_X9_within_0 : ∀ q ∈ op_X9_within_0, decode cX9_within q.1 = .ok q.2 := by decide +kernel
end
section
/-! THE ABSTRACT MACHINE. Values are whole numbers; a cell is a row of whole numbers; a reference is the number of a cell.
Cells below 1000 are the program's own; from 1000 on stand cells that nobody writes (static arrays, texts, the script). -/
abbrev mm_V : Type := Int ⊕ (Int ⊕ Option Nat)
abbrev v_i (z : Int) : mm_V := Sum.inl z
abbrev v_l (z : Int) : mm_V := Sum.inr (Sum.inl z)
abbrev v_r (a : Nat) : mm_V := Sum.inr (Sum.inr (some a))
abbrev v_n : mm_V := Sum.inr (Sum.inr none)
def mm_cv (ad : Nat → Nat) : mm_V → Value
  | .inl z => .int (Int32.ofInt z)
  | .inr (.inl z) => .long (Int64.ofInt z)
  | .inr (.inr none) => .null
  | .inr (.inr (some a)) => .ref (ad a)
abbrev mm_S : Type := (FieldType × Nat) ⊕ (Nat × List mm_V)
abbrev mm_M : Type := Nat → Nat → Int
def mm_fv (ad : Nat → Nat) (f : Nat → Int) (k : Nat) : mm_V → Value
  | .inl _ => .int (Int32.ofInt (f k))
  | .inr (.inl _) => .long (Int64.ofInt (f k))
  | .inr (.inr none) => .null
  | .inr (.inr (some a)) => .ref (ad a)
def mm_ar (n : Nat) (t : FieldType) (f : Nat → Int) : vp_A := match t with
  | .long => (n, .inr (.inl (fun j => Int64.ofInt (f j))))
  | _ => (n, .inl (fun j => Int32.ofInt (f j)))
def mm_ce (ty : FieldType → ClassId) (ad : Nat → Nat) (f : Nat → Int) : mm_S → va_E
  | .inl q => .inl (ty q.1, mm_ar q.2 q.1 f)
  | .inr q => .inr (q.1, q.2.mapIdx (mm_fv ad f))
def mm_ws (ty : FieldType → ClassId) (ad : Nat → Nat) (La : List mm_S) (M : mm_M) : va_W := La.mapIdx (fun i s => (ad i, mm_ce ty ad (M i) s))
def mm_up (M : mm_M) (i k : Nat) (v : Int) : mm_M := fun i' k' => if i' = i ∧ k' = k then v else M i' k'
theorem mm_up_ne {M : mm_M} {i k : Nat} {v : Int} {j : Nat} (h : ¬ j = i) : mm_up M i k v j = M j := by
  funext q
  simp [mm_up, h]
theorem mm_up_eq {M : mm_M} {i k : Nat} {v : Int} : mm_up M i k v i k = v := by simp [mm_up]
theorem mm_up_k {M : mm_M} {i k j : Nat} {v : Int} (h : ¬ j = k) : mm_up M i k v i j = M i j := by simp [mm_up, h]
theorem mm_ws_at {ty : FieldType → ClassId} {ad : Nat → Nat} {La : List mm_S} {M : mm_M} {i : Nat} {q : mm_S} (h : La[i]? = some q) : (mm_ws ty ad La M)[i]? = some (ad i, mm_ce ty ad (M i) q) := by
  simp [mm_ws, List.getElem?_mapIdx, h]
theorem mm_ws_up {ty : FieldType → ClassId} {ad : Nat → Nat} {La : List mm_S} {M : mm_M} {i k : Nat} {v : Int} {q : mm_S} (h : La[i]? = some q) :
    (mm_ws ty ad La M).set i (ad i, mm_ce ty ad (mm_up M i k v i) q) = mm_ws ty ad La (mm_up M i k v) := by
  have hi : i < La.length := (List.getElem?_eq_some_iff.mp h).1
  apply List.ext_getElem?
  intro j
  by_cases hj : j = i
  · subst hj
    rw [List.getElem?_set_self (by simpa [mm_ws] using hi), mm_ws_at h]
  · rw [List.getElem?_set_ne (Ne.symm hj)]
    simp only [mm_ws, List.getElem?_mapIdx, mm_up_ne hj]
/-- the same with a cell's own row: what the heap has after a store -/
theorem mm_ws_set {ty : FieldType → ClassId} {ad : Nat → Nat} {La : List mm_S} {M : mm_M} {i k : Nat} {v : Int} {q : mm_S} {x : va_E} (h : La[i]? = some q) (hx : x = mm_ce ty ad (mm_up M i k v i) q) :
    (mm_ws ty ad La M).set i (ad i, x) = mm_ws ty ad La (mm_up M i k v) := by rw [hx]; exact mm_ws_up h
def mm_tys (ty : FieldType → ClassId) : List (ClassId × FieldType) := [(ty .int, .int), (ty .long, .long), (ty .boolean, .boolean)]
/-! what nobody writes -/
def mm_seats : Nat → Int := fun j => ([2, 4, 8, 1, 4] : List Int).getD j 0
def mm_disl : Nat → Int := fun j => ([0, 2, 3, 2, 0, 3, 0, 0, 1, 2, 2, 0, 0, 0, 1] : List Int).getD j 0
def mm_str : List (Nat × String × List Int) := [
  (46, "let |bar ", [108, 101, 116, 32, 124, 98, 97, 114, 32]),
  (52, "pair|four|eight|single|quad|*", [112, 97, 105, 114, 124, 102, 111, 117, 114, 124, 101, 105, 103, 104, 116, 124, 115, 105, 110, 103, 108, 101, 124, 113, 117, 97, 100, 124, 42]),
  (58, " if ", [32, 105, 102, 32]),
  (72, "stream|wind|hour|month|size|young|ice", [115, 116, 114, 101, 97, 109, 124, 119, 105, 110, 100, 124, 104, 111, 117, 114, 124, 109, 111, 110, 116, 104, 124, 115, 105, 122, 101, 124, 121, 111, 117, 110, 103, 124, 105, 99, 101]),
  (74, "=|<|>", [61, 124, 60, 124, 62])]
def mm_slen : List Nat := mm_str.map (fun q => q.2.2.length)
def mm_sbyt : List (List Int32) := mm_str.map (fun q => q.2.2.map Int32.ofInt)
def mm_nest : List (String × Nat × MethodName × String) := [
  (RX9, 11, yX0_init, RX9), (RX9, 20, yX4_init, RX9), (RX9, 27, yX1_init, RX9), (RX9, 34, yX6_init, RX9), (RX9, 41, yX8_init, RX9), (RX9, 48, yX7_init, RX9), (RX9, 55, yX3_init, RX9), (RX9, 62, yX2_init, RX9),
  (RX0, 54, yX9_within, RX9), (RX4, 58, yX9_has, RX9), (RX1, 49, yX9_has, RX9), (RX8, 47, yX9_within, RX9), (RX5, 47, yX9_has, RX9)]
def mm_RO (X : Nat × (Nat → Int)) (ad : Nat → Nat) (A : Nat → Prop) (U : State) (H : Heap) : Prop :=
  (va_T .int (ad 1000) 5 (fun j => .int (Int32.ofInt (mm_seats j))) A U H ∧ va_Z RX0 "SEATS" "[I" (.ref (ad 1000)) A U H) ∧
  (va_T .int (ad 1001) 15 (fun j => .int (Int32.ofInt (mm_disl j))) A U H ∧ va_Z RX0 "DISLIKES" "[I" (.ref (ad 1001)) A U H) ∧
  va_Z RJ0 "COMPACT_STRINGS" "Z" (.int 1) A U H ∧
  vk_S 5 mm_slen mm_sbyt (fun i => ad (1002 + i)) (fun i => ad (1007 + i)) A U H ∧
  (∀ (i : Nat) (q : Nat × String × List Int), mm_str[i]? = some q → vk_R RX7 q.1 q.2.1 (ad (1002 + i)) U) ∧
  va_T .int (ad 1012) X.1 (fun j => .int (Int32.ofInt (X.2 j))) A U H ∧
  (∀ q ∈ mm_nest, va_Nw (.methodLinkNest q.1 q.2.1 q.2.2.1 q.2.2.2) U) ∧
  (va_Z RJ3 "SIOOBE_FORMATTER" "Ljava/util/function/BiFunction;" .null A U H ∨ va_Z RJ3 "SIOOBE_FORMATTER" "Ljava/util/function/BiFunction;" (.ref (ad 1013)) A U H)
theorem mm_RO.move {X : Nat × (Nat → Int)} {ad : Nat → Nat} {A B : Nat → Prop} {s U : State} {H : Heap} (h : mm_RO X ad A s s.heap) (hW : s.WarmedH U.vm) (hk : ∀ a : Nat, a < s.heap.size → ¬ A a → H[a]? = s.heap[a]?) (hU : U.heap = H) (hAB : ∀ q, B q → A q) : mm_RO X ad B U U.heap := by
  obtain ⟨⟨h1, h2⟩, ⟨h3, h4⟩, h5, h6, h7, h8, h9, h10⟩ := h
  rw [hU]
  exact ⟨⟨((h1.kept hk).moved hW.alike).narrow hAB, ((h2.kept hk).moved hW.alike).narrow hAB⟩, ⟨((h3.kept hk).moved hW.alike).narrow hAB, ((h4.kept hk).moved hW.alike).narrow hAB⟩, ((h5.kept hk).moved hW.alike).narrow hAB, ((h6.kept hk).moved hW.alike).narrow hAB, fun i q hq => (h7 i q hq).warm hW, ((h8.kept hk).moved hW.alike).narrow hAB, fun q hq => (h9 q hq).warmM hW, h10.imp (fun h => ((h.kept hk).moved hW.alike).narrow hAB) (fun h => ((h.kept hk).moved hW.alike).narrow hAB)⟩
theorem mm_RO.ad {X : Nat × (Nat → Int)} {ad ad' : Nat → Nat} {A : Nat → Prop} {s : State} {H : Heap} (h : mm_RO X ad A s H) (hq : ∀ i, 1000 ≤ i → ad' i = ad i) : mm_RO X ad' A s H := by
  have e1 : (fun i => ad' (1002 + i)) = (fun i => ad (1002 + i)) := funext fun i => hq _ (by omega)
  have e2 : (fun i => ad' (1007 + i)) = (fun i => ad (1007 + i)) := funext fun i => hq _ (by omega)
  obtain ⟨h1, h3, h5, h6, h7, h8, h9, h10⟩ := h
  refine ⟨?_, ?_, h5, ?_, fun i q hi => ?_, ?_, h9, ?_⟩
  · rw [hq 1000 (by omega)]; exact h1
  · rw [hq 1001 (by omega)]; exact h3
  · rw [e1, e2]; exact h6
  · rw [hq (1002 + i) (by omega)]; exact h7 i q hi
  · rw [hq 1012 (by omega)]; exact h8
  · rw [hq 1013 (by omega)]; exact h10
/-! the judgement -/
abbrev mm_Po : Type := Option mm_V → List mm_S → mm_M → Prop
def mm_At (X : Nat × (Nat → Int)) (d mc ms : Nat) (mi : mm_Mi) (p : Program) (R : Room) (s : State) (m : MethodId) (args : Array Value) (meth : Method) (c : Code) (A : Nat → Prop) (ad : Nat → Nat) (ty : FieldType → ClassId) (D : va_G) : Prop :=
  p.tables.exec = Jvm.exec ∧ c.code = mi.2.1 ∧ c.maxLocals = mi.2.2.1 ∧ s.vm.findClass mi.1.cls = some m.cls ∧ (∀ w ∈ mm_tbl, w.before args s = true) ∧ (d + 1 ≤ R.frames ∧ 60 * (d + 1) ≤ R.locals ∧ mc ≤ R.cells ∧ ms ≤ R.slots) ∧ mm_RO X ad A s s.heap ∧ va_K D vwCl (mm_tys ty) s ∧ (∀ q, s.heap.size ≤ q → A q) ∧ (mi.1.name = "<init>" → meth.name = "<init>")
def mm_Wd (A : Nat → Prop) (ad : Nat → Nat) (ty : FieldType → ClassId) (D : va_G) (La : List mm_S) (M : mm_M) (H0 H : Heap) (locs : List Loc) : Prop :=
  va_P D vwCl (mm_ws ty ad La M) H ∧ va_D A (mm_ws ty ad La M) ∧ va_S A H0 H locs
def mm_rt (mi : mm_Mi) (pc : Nat) (r : Option mm_V) : Prop := match r with
  | none => decode mi.2.1 pc = .ok (.return_, 1) ∧ mi.2.2.2 = none
  | some (.inl z) => decode mi.2.1 pc = .ok (.ireturn, 1) ∧ ∃ t, mi.2.2.2 = some t ∧ narrow t (.int (Int32.ofInt z)) = .int (Int32.ofInt z)
  | some (.inr (.inl _)) => decode mi.2.1 pc = .ok (.lreturn, 1) ∧ mi.2.2.2 = some .long
  | some (.inr (.inr _)) => False
def mm_lo (ad : Nat → Nat) (L : List (Nat × mm_V)) : List (Nat × Value) := L.map (fun q => (q.1, mm_cv ad q.2))
def mm_G (X : Nat × (Nat → Int)) (d mc ms : Nat) (mi : mm_Mi) (Po : mm_Po) (pc : Nat) (L : List (Nat × mm_V)) (st : List mm_V) (La : List mm_S) (M : mm_M) (ck cs : Nat) : Prop :=
  ∀ (p : Program) (l : Launch) (e : Env) (R : Room) (s : State) (m : MethodId) (args : Array Value) (below : List Frame) (meth : Method) (c : Code) (A : Nat → Prop) (ad : Nat → Nat) (ty : FieldType → ClassId) (D : va_G) (H : Heap) (locs : List Loc) (ls : Array Slot) (Q : State → Prop),
    mm_At X d mc ms mi p R s m args meth c A ad ty D → mm_Wd A ad ty D La M s.heap H locs → lv_has ls mi.2.2.1 (mm_lo ad L) →
    (∀ (r : Option mm_V) (La' : List mm_S) (M' : mm_M) (ad' : Nat → Nat) (H' : Heap) (locs' : List Loc) (ls' : Array Slot) (pc' ck' cs' : Nat), Po r La' M' → mm_rt mi pc' r → (∀ i, i < La.length ∨ 1000 ≤ i → ad' i = ad i) → mm_Wd A ad' ty D La' M' s.heap H' locs' → ck' ≤ mc → cs' ≤ ms → W p l e R s m args below meth c H' locs' ck' cs' Q (F0 m pc' ls' (r.toList.map (mm_cv ad')))) →
    ck ≤ mc → cs ≤ ms → W p l e R s m args below meth c H locs ck cs Q (F0 m pc ls (st.map (mm_cv ad)))
def mm_la : Nat → List mm_V → List (Nat × mm_V)
  | _, [] => []
  | i, .inl z :: vs => (i, .inl z) :: mm_la (i + 1) vs
  | i, .inr (.inl z) :: vs => (i, .inr (.inl z)) :: mm_la (i + 2) vs
  | i, .inr (.inr a) :: vs => (i, .inr (.inr a)) :: mm_la (i + 1) vs
theorem mm_la_eq (ad : Nat → Nat) : ∀ (vs : List mm_V) (i : Nat), mm_lo ad (mm_la i vs) = lv_args i (vs.map (mm_cv ad))
  | [], i => rfl
  | .inl z :: vs, i => congrArg (List.cons (i, Value.int (Int32.ofInt z))) (mm_la_eq ad vs (i + 1))
  | .inr (.inl z) :: vs, i => congrArg (List.cons (i, Value.long (Int64.ofInt z))) (mm_la_eq ad vs (i + 2))
  | .inr (.inr none) :: vs, i => congrArg (List.cons (i, Value.null)) (mm_la_eq ad vs (i + 1))
  | .inr (.inr (some a)) :: vs, i => congrArg (List.cons (i, Value.ref (ad a))) (mm_la_eq ad vs (i + 1))
/-- how many words values take -/
def mm_wd : List mm_V → Nat
  | [] => 0
  | .inl _ :: vs => 1 + mm_wd vs
  | .inr (.inl _) :: vs => 2 + mm_wd vs
  | .inr (.inr _) :: vs => 1 + mm_wd vs
theorem mm_wd_sl (ad : Nat → Nat) : ∀ vs : List mm_V, (lg_sl (vs.map (mm_cv ad))).length = mm_wd vs
  | [] => rfl
  | .inl z :: vs => by
    show (([Slot.val (Value.int (Int32.ofInt z))] : List Slot) ++ lg_sl (vs.map (mm_cv ad))).length = 1 + mm_wd vs
    rw [List.length_append, mm_wd_sl ad vs]; rfl
  | .inr (.inl z) :: vs => by
    show (([Slot.val (Value.long (Int64.ofInt z)), Slot.second] : List Slot) ++ lg_sl (vs.map (mm_cv ad))).length = 2 + mm_wd vs
    rw [List.length_append, mm_wd_sl ad vs]; rfl
  | .inr (.inr none) :: vs => by
    show (([Slot.val Value.null] : List Slot) ++ lg_sl (vs.map (mm_cv ad))).length = 1 + mm_wd vs
    rw [List.length_append, mm_wd_sl ad vs]; rfl
  | .inr (.inr (some a)) :: vs => by
    show (([Slot.val (Value.ref (ad a))] : List Slot) ++ lg_sl (vs.map (mm_cv ad))).length = 1 + mm_wd vs
    rw [List.length_append, mm_wd_sl ad vs]; rfl
theorem mm_wd_cat (ad : Nat → Nat) : ∀ vs : List mm_V, ((vs.map (mm_cv ad)).map fun v => v.category).sum = mm_wd vs
  | [] => rfl
  | .inl z :: vs => congrArg (fun n => 1 + n) (mm_wd_cat ad vs)
  | .inr (.inl z) :: vs => congrArg (fun n => 2 + n) (mm_wd_cat ad vs)
  | .inr (.inr none) :: vs => congrArg (fun n => 1 + n) (mm_wd_cat ad vs)
  | .inr (.inr (some a)) :: vs => congrArg (fun n => 1 + n) (mm_wd_cat ad vs)
/-- references among values lie below n, or among what nobody writes -/
def mm_vk (n : Nat) : List mm_V → Bool
  | [] => true
  | .inr (.inr (some a)) :: vs => (decide (a < n) || decide (1000 ≤ a)) && mm_vk n vs
  | _ :: vs => mm_vk n vs
theorem mm_vk_map {n : Nat} {ad ad' : Nat → Nat} (had : ∀ i, i < n ∨ 1000 ≤ i → ad' i = ad i) : ∀ (vs : List mm_V), mm_vk n vs = true → vs.map (mm_cv ad') = vs.map (mm_cv ad)
  | [], _ => rfl
  | .inl z :: vs, h => by
    have h2 := mm_vk_map had vs h
    simp [mm_cv, h2]
  | .inr (.inl z) :: vs, h => by
    have h2 := mm_vk_map had vs h
    simp [mm_cv, h2]
  | .inr (.inr none) :: vs, h => by
    have h2 := mm_vk_map had vs h
    simp [mm_cv, h2]
  | .inr (.inr (some a)) :: vs, h => by
    simp only [mm_vk, Bool.and_eq_true, Bool.or_eq_true, decide_eq_true_eq] at h
    have h2 := mm_vk_map had vs h.2
    simp [mm_cv, h2, had a h.1]
theorem mm_vk_lo {n : Nat} {ad ad' : Nat → Nat} (had : ∀ i, i < n ∨ 1000 ≤ i → ad' i = ad i) (L : List (Nat × mm_V)) (h : mm_vk n (L.map (fun q => q.2)) = true) : mm_lo ad' L = mm_lo ad L := by
  have h2 := mm_vk_map had _ h
  rw [List.map_map, List.map_map] at h2
  simp only [mm_lo]
  apply List.ext_getElem?
  intro j
  have h3 := congrArg (fun l => l[j]?) h2
  simp only [List.getElem?_map, Function.comp] at h3 ⊢
  cases hq : L[j]? with
  | none => rfl
  | some q =>
    rw [hq] at h3
    simp only [Option.map_some, Option.some.injEq] at h3 ⊢
    exact congrArg (fun v => (q.1, v)) h3
def mm_rm (d mc ms : Nat) : Room := { frames := d + 1, cells := mc, slots := ms, locals := 60 * (d + 1) }
def mm_E (X : Nat × (Nat → Int)) (d mc ms : Nat) (mi : mm_Mi) (As : List mm_V) (Po : mm_Po) (La : List mm_S) (M : mm_M) : Prop := mm_G X d mc ms mi Po 0 (mm_la 0 As) [] La M 0 0
def mm_Pc (X : Nat × (Nat → Int)) (As : List mm_V) (La : List mm_S) (M : mm_M) (ad : Nat → Nat) (ty : FieldType → ClassId) (D : va_G) (sz : Nat) : Array Value → State → Prop :=
  va_Pc (As.map (mm_cv ad)) (fun U => U.heap.size = sz ∧ mm_RO X ad (va_A (mm_ws ty ad La M) sz) U U.heap ∧ va_K D vwCl (mm_tys ty) U ∧ va_P D vwCl (mm_ws ty ad La M) U.heap ∧ va_D (fun _ => True) (mm_ws ty ad La M))
def mm_Qc (Po : mm_Po) (La : List mm_S) (M : mm_M) (ad : Nat → Nat) (ty : FieldType → ClassId) (D : va_G) (sz : Nat) : Array Value → State → Outcome → State → Prop := fun _ st o t =>
  ∃ (r : Option mm_V) (La' : List mm_S) (M' : mm_M) (ad' : Nat → Nat), o = .returned (r.map (mm_cv ad')) ∧ Po r La' M' ∧ (∀ i, i < La.length ∨ 1000 ≤ i → ad' i = ad i) ∧ va_P D vwCl (mm_ws ty ad' La' M') t.heap ∧ va_D (va_A (mm_ws ty ad La M) sz) (mm_ws ty ad' La' M') ∧ va_F (va_A (mm_ws ty ad La M) sz) st t
def mm_wz (mi : mm_Mi) : List Cond := Cond.code mi.1 mi.2.1 mi.2.2.1 mi.2.2.2 :: mm_tbl
set_option maxHeartbeats 4000000 in
theorem mm_met {X : Nat × (Nat → Int)} {d mc ms : Nat} {mi : mm_Mi} {As : List mm_V} {Po : mm_Po} {La : List mm_S} {M : mm_M} (hy : plainName mi.1.cls = true) (hn : mm_wd As ≤ mi.2.2.1) (hE : mm_E X d mc ms mi As Po La M) (l : Launch) (ad : Nat → Nat) (ty : FieldType → ClassId) (D : va_G) (sz : Nat) :
    Met l mi.1 (mm_wz mi) (mm_rm d mc ms) (mm_Pc X As La M ad ty D sz) (mm_Qc Po La M ad ty D sz) mc ms (va_A (mm_ws ty ad La M) sz) := by
  refine Met.ofW (cc := mi.2.1) (maxL := mi.2.2.1) (ret := mi.2.2.2) hy rfl ?_
  intro p e s m args below meth c s₁ B hml hv
  obtain ⟨rfl, hsz, hRO, hK, hP, hD0⟩ := hv
  have hx := B.exec
  have hb := B.bytes
  have hr := B.returns
  have hts := atoms_spec (ws := mm_wz mi) B.pre
  have hown : s.vm.findClass mi.1.cls = some m.cls := findClass_of_methodNamed B.named
  have hlocks := B.notSynchronized
  have hnm : meth.name = mi.1.name := (name_of_methodNamed B.named B.method).1
  subst hsz
  have hD := hD0.self (sz := s.heap.size)
  have hl := lv_entry (As.map (mm_cv ad)) (n := mi.2.2.1) (by rw [mm_wd_sl]; exact hn)
  rw [lg_entry_eq]
  rw [← mm_la_eq] at hl
  refine hE p l e (mm_rm d mc ms) s m _ below meth c (va_A (mm_ws ty ad La M) s.heap.size) ad ty D s.heap [] _ _ ⟨hx, hb, hml, hown, fun w hw => hts w (List.mem_cons_of_mem _ hw), ⟨Nat.le_refl _, Nat.le_refl _, Nat.le_refl _, Nat.le_refl _⟩, hRO, hK, fun q h => Or.inr h, fun h => hnm.trans h⟩ ⟨hP, hD, va_S.rf⟩ hl ?_ (Nat.zero_le _) (Nat.zero_le _)
  intro r La' M' ad' H' locs' ls' pc' ck' cs' hPo hrt had hWd h1 h2
  refine W.widen h1 h2 ?_
  have post : ∀ t : State, t.heap = H' → mm_Qc Po La M ad ty D s.heap.size (As.map (mm_cv ad)).toArray s (.returned (r.map (mm_cv ad'))) t := by
    intro t ht
    exact ⟨r, La', M', ad', rfl, hPo, had, by rw [ht]; exact hWd.1, hWd.2.1, hWd.2.2.F ht⟩
  match r, hrt with
  | none, hrt => exact W.vret hx hb (hr.trans hrt.2) (fun t ht _ => post t ht) hWd.2.2.2.2 hrt.1
  | some (.inl z), hrt =>
    obtain ⟨h3, t0, h4, h5⟩ := hrt
    exact W.zret hx hb (hr.trans h4) h5 (fun t ht _ => post t ht) hWd.2.2.2.2 h3
  | some (.inr (.inl z)), hrt => exact W.lret hx hb (hr.trans hrt.2) (fun t ht _ => post t ht) hWd.2.2.2.2 hrt.1
end
section
theorem mm_dc {b : ByteArray} {ops : List (Nat × Instr × Nat)} (h : ∀ q ∈ ops, decode b q.1 = .ok q.2) (k : Nat) {pc : Nat} {i : Instr × Nat} (hk : ops[k]? = some (pc, i)) : decode b pc = .ok i := h (pc, i) (List.mem_of_getElem? hk)
def mm_lk : List (Nat × mm_V) → Nat → Option mm_V
  | [], _ => none
  | (j, v) :: t, i => if j = i then some v else mm_lk t i
theorem mm_lk_mem : ∀ {L : List (Nat × mm_V)} {i : Nat} {v : mm_V}, mm_lk L i = some v → (i, v) ∈ L
  | [], _, _, h => by cases h
  | (j, w) :: t, i, v, h => by
    unfold mm_lk at h
    by_cases hj : j = i
    · rw [if_pos hj] at h
      cases h
      subst hj
      exact List.mem_cons_self
    · rw [if_neg hj] at h
      exact List.mem_cons_of_mem _ (mm_lk_mem h)
theorem mm_lv {ad : Nat → Nat} {ls : Array Slot} {n : Nat} {L : List (Nat × mm_V)} {i : Nat} {v : mm_V} (h : lv_has ls n (mm_lo ad L)) (hl : mm_lk L i = some v) : ls[i]? = some (.val (mm_cv ad v)) := h.2.2 (i, mm_cv ad v) (List.mem_map.mpr ⟨(i, v), mm_lk_mem hl, rfl⟩)
def mm_two : mm_V → Bool
  | .inr (.inl _) => true
  | _ => false
theorem mm_two_cat (ad : Nat → Nat) (v : mm_V) : ((mm_cv ad v).category == 2) = mm_two v := by
  rcases v with z | z | _ | a <;> rfl
def mm_in : List (Nat × mm_V) → Nat → mm_V → List (Nat × mm_V)
  | [], i, v => [(i, v)]
  | (j, w) :: t, i, v => if i < j then (i, v) :: (j, w) :: t else (j, w) :: mm_in t i v
theorem mm_in_mem {i : Nat} {v : mm_V} : ∀ {L : List (Nat × mm_V)} {q : Nat × mm_V}, q ∈ mm_in L i v → q = (i, v) ∨ q ∈ L
  | [], q, h => Or.inl (List.mem_singleton.mp h)
  | (j, w) :: t, q, h => by
    unfold mm_in at h
    by_cases hj : i < j
    · rw [if_pos hj] at h
      rcases List.mem_cons.mp h with h | h
      · exact Or.inl h
      · exact Or.inr h
    · rw [if_neg hj] at h
      rcases List.mem_cons.mp h with h | h
      · exact Or.inr (h ▸ List.mem_cons_self)
      · rcases mm_in_mem h with h | h
        · exact Or.inl h
        · exact Or.inr (List.mem_cons_of_mem _ h)
/-- a store into the locals: of a value of one word, of two -/
def mm_s1 (L : List (Nat × mm_V)) (i : Nat) (v : mm_V) : List (Nat × mm_V) := mm_in (L.filter (fun q => !(q.1 == i) && !(q.1 + 1 == i && mm_two q.2))) i v
def mm_s2 (L : List (Nat × mm_V)) (i : Nat) (v : mm_V) : List (Nat × mm_V) := mm_in (L.filter (fun q => !(q.1 == i) && (!(q.1 == i + 1) && !(q.1 + 1 == i && mm_two q.2)))) i v
theorem mm_h1 {ad : Nat → Nat} {ls : Array Slot} {n i : Nat} {L : List (Nat × mm_V)} {v : mm_V} (h : lv_has ls n ((i, mm_cv ad v) :: (mm_lo ad L).filter (fun q => !(q.1 == i) && !(q.1 + 1 == i && q.2.category == 2)))) : lv_has ls n (mm_lo ad (mm_s1 L i v)) := by
  refine ⟨h.1, h.2.1, fun q hq => h.2.2 q ?_⟩
  obtain ⟨w, hw, rfl⟩ := List.mem_map.mp hq
  rcases mm_in_mem hw with rfl | hw
  · exact List.mem_cons_self
  · obtain ⟨h3, h4⟩ := List.mem_filter.mp hw
    refine List.mem_cons_of_mem _ (List.mem_filter.mpr ⟨List.mem_map.mpr ⟨w, h3, rfl⟩, ?_⟩)
    simpa only [mm_two_cat] using h4
theorem mm_h2 {ad : Nat → Nat} {ls : Array Slot} {n i : Nat} {L : List (Nat × mm_V)} {v : mm_V} (h : lv_has ls n ((i, mm_cv ad v) :: (mm_lo ad L).filter (fun q => !(q.1 == i) && (!(q.1 == i + 1) && !(q.1 + 1 == i && q.2.category == 2))))) : lv_has ls n (mm_lo ad (mm_s2 L i v)) := by
  refine ⟨h.1, h.2.1, fun q hq => h.2.2 q ?_⟩
  obtain ⟨w, hw, rfl⟩ := List.mem_map.mp hq
  rcases mm_in_mem hw with rfl | hw
  · exact List.mem_cons_self
  · obtain ⟨h3, h4⟩ := List.mem_filter.mp hw
    refine List.mem_cons_of_mem _ (List.mem_filter.mpr ⟨List.mem_map.mpr ⟨w, h3, rfl⟩, ?_⟩)
    simpa only [mm_two_cat] using h4
abbrev mm_r32 (z : Int) : Prop := -2147483648 ≤ z ∧ z < 2147483648
abbrev mm_r64 (z : Int) : Prop := -9223372036854775808 ≤ z ∧ z < 9223372036854775808
theorem mm_o32 {z : Int} (h : mm_r32 z) : (Int32.ofInt z).toInt = z := Int32.toInt_ofInt_of_le (by omega) (by omega)
theorem mm_o64 {z : Int} (h : mm_r64 z) : (Int64.ofInt z).toInt = z := Int64.toInt_ofInt_of_le (by omega) (by omega)
theorem mm_lt32 {a b : Int} (ha : mm_r32 a) (hb : mm_r32 b) : Int32.ofInt a < Int32.ofInt b ↔ a < b := by rw [Int32.lt_iff_toInt_lt, mm_o32 ha, mm_o32 hb]
theorem mm_le32 {a b : Int} (ha : mm_r32 a) (hb : mm_r32 b) : Int32.ofInt a ≤ Int32.ofInt b ↔ a ≤ b := by rw [Int32.le_iff_toInt_le, mm_o32 ha, mm_o32 hb]
theorem mm_eq32 {a b : Int} (ha : mm_r32 a) (hb : mm_r32 b) : Int32.ofInt a = Int32.ofInt b ↔ a = b := by rw [← Int32.toInt_inj, mm_o32 ha, mm_o32 hb]
theorem mm_lt64 {a b : Int} (ha : mm_r64 a) (hb : mm_r64 b) : Int64.ofInt a < Int64.ofInt b ↔ a < b := by rw [Int64.lt_iff_toInt_lt, mm_o64 ha, mm_o64 hb]
theorem mm_eq64 {a b : Int} (ha : mm_r64 a) (hb : mm_r64 b) : Int64.ofInt a = Int64.ofInt b ↔ a = b := by rw [← Int64.toInt_inj, mm_o64 ha, mm_o64 hb]
theorem mm_ix {j : Int} {n : Nat} (h0 : 0 ≤ j) (h1 : j < n) (hn : n < 2147483648) : vp_in (Int32.ofInt j) n ∧ (Int32.ofInt j).toNatClampNeg = j.toNat := by
  have hj : (Int32.ofInt j).toInt = j := mm_o32 (by omega)
  refine ⟨vp_in_iff.mpr (by rw [hj]; exact ⟨h0, h1⟩), ?_⟩
  show (Int32.ofInt j).toInt.toNat = _
  rw [hj]
def mm_cmp (x y : Int) : Int := if y < x then 1 else if x = y then 0 else -1
theorem mm_cmp64 {x y : Int} (hx : mm_r64 x) (hy : mm_r64 y) : lg_cmp (Int64.ofInt x) (Int64.ofInt y) = Int32.ofInt (mm_cmp x y) := by
  unfold lg_cmp mm_cmp
  by_cases h1 : y < x
  · rw [if_pos ((mm_lt64 hy hx).mpr h1), if_pos h1]; rfl
  · rw [if_neg (fun h => h1 ((mm_lt64 hy hx).mp h)), if_neg h1]
    by_cases h2 : x = y
    · rw [if_pos (by rw [h2]), if_pos h2]; rfl
    · rw [if_neg (fun h => h2 ((mm_eq64 hx hy).mp h)), if_neg h2]; rfl
/-! numbers' words: what no ring gives -/
def fx_shl (x y : Int) : Int := (Int32.ofInt x <<< (Int32.ofInt y &&& 31)).toInt
def fx_shr (x y : Int) : Int := (Int32.ofInt x >>> (Int32.ofInt y &&& 31)).toInt
def fx_ushr (x y : Int) : Int := ((Int32.ofInt x).toUInt32 >>> ((Int32.ofInt y).toUInt32 &&& Int32.toUInt32 31)).toInt32.toInt
def fx_and (x y : Int) : Int := (Int32.ofInt x &&& Int32.ofInt y).toInt
def fx_or (x y : Int) : Int := (Int32.ofInt x ||| Int32.ofInt y).toInt
def fx_xor (x y : Int) : Int := (Int32.ofInt x ^^^ Int32.ofInt y).toInt
def fx_lshl (x y : Int) : Int := (Int64.ofInt x <<< ((Int32.ofInt y).toInt64 &&& 63)).toInt
def fx_lshr (x y : Int) : Int := (Int64.ofInt x >>> ((Int32.ofInt y).toInt64 &&& 63)).toInt
def fx_lushr (x y : Int) : Int := ((Int64.ofInt x).toUInt64 >>> ((Int32.ofInt y).toInt64.toUInt64 &&& Int64.toUInt64 63)).toInt64.toInt
def fx_land (x y : Int) : Int := (Int64.ofInt x &&& Int64.ofInt y).toInt
def fx_lor (x y : Int) : Int := (Int64.ofInt x ||| Int64.ofInt y).toInt
section MMR
variable {X : Nat × (Nat → Int)} {d mc ms : Nat} {mi : mm_Mi} {Po : mm_Po} {pc : Nat} {L : List (Nat × mm_V)} {st : List mm_V} {La : List mm_S} {M : mm_M} {ck cs : Nat}
theorem mm_topi {z : Int} (k : ∀ y : Int, y = z → mm_G X d mc ms mi Po pc L (v_i y :: st) La M ck cs) : mm_G X d mc ms mi Po pc L (v_i z :: st) La M ck cs := k z rfl
theorem mm_topl {z : Int} (k : ∀ y : Int, y = z → mm_G X d mc ms mi Po pc L (v_l y :: st) La M ck cs) : mm_G X d mc ms mi Po pc L (v_l z :: st) La M ck cs := k z rfl
theorem mm_nm (k : ∀ N : mm_M, N = M → mm_G X d mc ms mi Po pc L st La N ck cs) : mm_G X d mc ms mi Po pc L st La M ck cs := k M rfl
theorem mm_mo {Po' : mm_Po} (h : ∀ r La' M', Po' r La' M' → Po r La' M') (k : mm_G X d mc ms mi Po' pc L st La M ck cs) : mm_G X d mc ms mi Po pc L st La M ck cs :=
  fun p l e R s m args below meth c A ad ty D H locs ls Q hAt hWd hL hK h1 h2 => k p l e R s m args below meth c A ad ty D H locs ls Q hAt hWd hL (fun r La' M' ad' H' locs' ls' pc' ck' cs' hPo => hK r La' M' ad' H' locs' ls' pc' ck' cs' (h r La' M' hPo)) h1 h2
def mm_pk (L : List (Nat × mm_V)) (ks : List Nat) : List (Nat × mm_V) := ks.filterMap (fun k => L[k]?)
/-- fewer locals -/
theorem mm_less {L' : List (Nat × mm_V)} (ks : List Nat) (hl : mm_pk L ks = L') (k : mm_G X d mc ms mi Po pc L' st La M ck cs) : mm_G X d mc ms mi Po pc L st La M ck cs := by
  intro p l e R s m args below meth c A ad ty D H locs ls Q hAt hWd hL hK h1 h2
  refine k p l e R s m args below meth c A ad ty D H locs ls Q hAt hWd ⟨hL.1, hL.2.1, fun q hq => hL.2.2 q ?_⟩ hK h1 h2
  obtain ⟨w, hw, rfl⟩ := List.mem_map.mp hq
  rw [← hl] at hw
  obtain ⟨j, -, hj⟩ := List.mem_filterMap.mp hw
  exact List.mem_map.mpr ⟨w, List.mem_of_getElem? hj, rfl⟩
theorem mm_iconst {n : Int} (hd : decode mi.2.1 pc = .ok (.iconst n, 1))  (k : mm_G X d mc ms mi Po (pc + 1) L (v_i (n) :: st) La M ck cs) : mm_G X d mc ms mi Po pc L (st) La M ck cs := by
  intro p l e R s m args below meth c A ad ty D H locs ls Q hAt hWd hL hK h1 h2
  have hx := hAt.1
  have hb := hAt.2.1
  have kk := k p l e R s m args below meth c A ad ty D H locs ls Q hAt hWd hL hK h1 h2
  change W p l e R s m args below meth c H locs ck cs Q (F0 m (pc + 1) ls (.int (Int32.ofInt (n)) :: st.map (mm_cv ad))) at kk
  show W p l e R s m args below meth c H locs ck cs Q (F0 m pc ls (st.map (mm_cv ad)))
  exact lv_iconst hx hb hd rfl kk
theorem mm_bipush {n : Int} (hd : decode mi.2.1 pc = .ok (.bipush n, 2)) (h : (Int8.ofInt n).toInt32 = Int32.ofInt n) (k : mm_G X d mc ms mi Po (pc + 2) L (v_i (n) :: st) La M ck cs) : mm_G X d mc ms mi Po pc L (st) La M ck cs := by
  intro p l e R s m args below meth c A ad ty D H locs ls Q hAt hWd hL hK h1 h2
  have hx := hAt.1
  have hb := hAt.2.1
  have kk := k p l e R s m args below meth c A ad ty D H locs ls Q hAt hWd hL hK h1 h2
  change W p l e R s m args below meth c H locs ck cs Q (F0 m (pc + 2) ls (.int (Int32.ofInt (n)) :: st.map (mm_cv ad))) at kk
  show W p l e R s m args below meth c H locs ck cs Q (F0 m pc ls (st.map (mm_cv ad)))
  exact lv_bipush hx hb hd h kk
theorem mm_sipush {n : Int} (hd : decode mi.2.1 pc = .ok (.sipush n, 3)) (h : (Int16.ofInt n).toInt32 = Int32.ofInt n) (k : mm_G X d mc ms mi Po (pc + 3) L (v_i (n) :: st) La M ck cs) : mm_G X d mc ms mi Po pc L (st) La M ck cs := by
  intro p l e R s m args below meth c A ad ty D H locs ls Q hAt hWd hL hK h1 h2
  have hx := hAt.1
  have hb := hAt.2.1
  have kk := k p l e R s m args below meth c A ad ty D H locs ls Q hAt hWd hL hK h1 h2
  change W p l e R s m args below meth c H locs ck cs Q (F0 m (pc + 3) ls (.int (Int32.ofInt (n)) :: st.map (mm_cv ad))) at kk
  show W p l e R s m args below meth c H locs ck cs Q (F0 m pc ls (st.map (mm_cv ad)))
  exact lv_sipush hx hb hd h kk
theorem mm_lconst {n : Fin 2} (hd : decode mi.2.1 pc = .ok (.lconst n, 1))  (k : mm_G X d mc ms mi Po (pc + 1) L (v_l (((n : Nat) : Int)) :: st) La M ck cs) : mm_G X d mc ms mi Po pc L (st) La M ck cs := by
  intro p l e R s m args below meth c A ad ty D H locs ls Q hAt hWd hL hK h1 h2
  have hx := hAt.1
  have hb := hAt.2.1
  have kk := k p l e R s m args below meth c A ad ty D H locs ls Q hAt hWd hL hK h1 h2
  change W p l e R s m args below meth c H locs ck cs Q (F0 m (pc + 1) ls (.long (Int64.ofInt (((n : Nat) : Int))) :: st.map (mm_cv ad))) at kk
  show W p l e R s m args below meth c H locs ck cs Q (F0 m pc ls (st.map (mm_cv ad)))
  refine lv_lconst hx hb hd ?_ kk
  rcases n with ⟨_ | _ | n, hn⟩
  · rfl
  · rfl
  · omega
theorem mm_iload_n {j : Fin 4} {z : Int} (hd : decode mi.2.1 pc = .ok (.iload_n j, 1)) (hl : mm_lk L (j : Nat) = some (v_i (z))) (k : mm_G X d mc ms mi Po (pc + 1) L (v_i (z) :: st) La M ck cs) : mm_G X d mc ms mi Po pc L (st) La M ck cs := by
  intro p l e R s m args below meth c A ad ty D H locs ls Q hAt hWd hL hK h1 h2
  have hx := hAt.1
  have hb := hAt.2.1
  have kk := k p l e R s m args below meth c A ad ty D H locs ls Q hAt hWd hL hK h1 h2
  change W p l e R s m args below meth c H locs ck cs Q (F0 m (pc + 1) ls (.int (Int32.ofInt (z)) :: st.map (mm_cv ad))) at kk
  show W p l e R s m args below meth c H locs ck cs Q (F0 m pc ls (st.map (mm_cv ad)))
  exact lv_iload_n hx hb hd rfl (mm_lv hL hl) kk
theorem mm_iload {j : Nat} {z : Int} (hd : decode mi.2.1 pc = .ok (.iload j, 2)) (hl : mm_lk L j = some (v_i (z))) (k : mm_G X d mc ms mi Po (pc + 2) L (v_i (z) :: st) La M ck cs) : mm_G X d mc ms mi Po pc L (st) La M ck cs := by
  intro p l e R s m args below meth c A ad ty D H locs ls Q hAt hWd hL hK h1 h2
  have hx := hAt.1
  have hb := hAt.2.1
  have kk := k p l e R s m args below meth c A ad ty D H locs ls Q hAt hWd hL hK h1 h2
  change W p l e R s m args below meth c H locs ck cs Q (F0 m (pc + 2) ls (.int (Int32.ofInt (z)) :: st.map (mm_cv ad))) at kk
  show W p l e R s m args below meth c H locs ck cs Q (F0 m pc ls (st.map (mm_cv ad)))
  exact lv_iload hx hb hd (mm_lv hL hl) kk
theorem mm_istore_n {j : Fin 4} {z : Int} {L' : List (Nat × mm_V)} (hd : decode mi.2.1 pc = .ok (.istore_n j, 1)) (hn : (j : Nat) < mi.2.2.1) (hl : mm_s1 L (j : Nat) (v_i (z)) = L') (k : mm_G X d mc ms mi Po (pc + 1) L' st La M ck cs) : mm_G X d mc ms mi Po pc L (v_i (z) :: st) La M ck cs := by
  intro p l e R s m args below meth c A ad ty D H locs ls Q hAt hWd hL hK h1 h2
  have hx := hAt.1
  have hb := hAt.2.1
  subst hl
  show W p l e R s m args below meth c H locs ck cs Q (F0 m pc ls (.int (Int32.ofInt (z)) :: st.map (mm_cv ad)))
  refine lv_istore_n hx hb hd rfl hL hn rfl (fun ls hl => ?_)
  exact k p l e R s m args below meth c A ad ty D H locs ls Q hAt hWd (mm_h1 hl) hK h1 h2
theorem mm_istore {j : Nat} {z : Int} {L' : List (Nat × mm_V)} (hd : decode mi.2.1 pc = .ok (.istore j, 2)) (hn : (j : Nat) < mi.2.2.1) (hl : mm_s1 L (j : Nat) (v_i (z)) = L') (k : mm_G X d mc ms mi Po (pc + 2) L' st La M ck cs) : mm_G X d mc ms mi Po pc L (v_i (z) :: st) La M ck cs := by
  intro p l e R s m args below meth c A ad ty D H locs ls Q hAt hWd hL hK h1 h2
  have hx := hAt.1
  have hb := hAt.2.1
  subst hl
  show W p l e R s m args below meth c H locs ck cs Q (F0 m pc ls (.int (Int32.ofInt (z)) :: st.map (mm_cv ad)))
  refine lv_istore hx hb hd hL hn rfl (fun ls hl => ?_)
  exact k p l e R s m args below meth c A ad ty D H locs ls Q hAt hWd (mm_h1 hl) hK h1 h2
theorem mm_lload_n {j : Fin 4} {z : Int} (hd : decode mi.2.1 pc = .ok (.lload_n j, 1)) (hl : mm_lk L (j : Nat) = some (v_l (z))) (k : mm_G X d mc ms mi Po (pc + 1) L (v_l (z) :: st) La M ck cs) : mm_G X d mc ms mi Po pc L (st) La M ck cs := by
  intro p l e R s m args below meth c A ad ty D H locs ls Q hAt hWd hL hK h1 h2
  have hx := hAt.1
  have hb := hAt.2.1
  have kk := k p l e R s m args below meth c A ad ty D H locs ls Q hAt hWd hL hK h1 h2
  change W p l e R s m args below meth c H locs ck cs Q (F0 m (pc + 1) ls (.long (Int64.ofInt (z)) :: st.map (mm_cv ad))) at kk
  show W p l e R s m args below meth c H locs ck cs Q (F0 m pc ls (st.map (mm_cv ad)))
  exact lv_lload_n hx hb hd rfl (mm_lv hL hl) kk
theorem mm_lload {j : Nat} {z : Int} (hd : decode mi.2.1 pc = .ok (.lload j, 2)) (hl : mm_lk L j = some (v_l (z))) (k : mm_G X d mc ms mi Po (pc + 2) L (v_l (z) :: st) La M ck cs) : mm_G X d mc ms mi Po pc L (st) La M ck cs := by
  intro p l e R s m args below meth c A ad ty D H locs ls Q hAt hWd hL hK h1 h2
  have hx := hAt.1
  have hb := hAt.2.1
  have kk := k p l e R s m args below meth c A ad ty D H locs ls Q hAt hWd hL hK h1 h2
  change W p l e R s m args below meth c H locs ck cs Q (F0 m (pc + 2) ls (.long (Int64.ofInt (z)) :: st.map (mm_cv ad))) at kk
  show W p l e R s m args below meth c H locs ck cs Q (F0 m pc ls (st.map (mm_cv ad)))
  exact lv_lload hx hb hd (mm_lv hL hl) kk
theorem mm_lstore_n {j : Fin 4} {z : Int} {L' : List (Nat × mm_V)} (hd : decode mi.2.1 pc = .ok (.lstore_n j, 1)) (hn : (j : Nat) + 1 < mi.2.2.1) (hl : mm_s2 L (j : Nat) (v_l (z)) = L') (k : mm_G X d mc ms mi Po (pc + 1) L' st La M ck cs) : mm_G X d mc ms mi Po pc L (v_l (z) :: st) La M ck cs := by
  intro p l e R s m args below meth c A ad ty D H locs ls Q hAt hWd hL hK h1 h2
  have hx := hAt.1
  have hb := hAt.2.1
  subst hl
  show W p l e R s m args below meth c H locs ck cs Q (F0 m pc ls (.long (Int64.ofInt (z)) :: st.map (mm_cv ad)))
  refine lv_lstore_n hx hb hd rfl hL hn rfl (fun ls hl => ?_)
  exact k p l e R s m args below meth c A ad ty D H locs ls Q hAt hWd (mm_h2 hl) hK h1 h2
theorem mm_lstore {j : Nat} {z : Int} {L' : List (Nat × mm_V)} (hd : decode mi.2.1 pc = .ok (.lstore j, 2)) (hn : (j : Nat) + 1 < mi.2.2.1) (hl : mm_s2 L (j : Nat) (v_l (z)) = L') (k : mm_G X d mc ms mi Po (pc + 2) L' st La M ck cs) : mm_G X d mc ms mi Po pc L (v_l (z) :: st) La M ck cs := by
  intro p l e R s m args below meth c A ad ty D H locs ls Q hAt hWd hL hK h1 h2
  have hx := hAt.1
  have hb := hAt.2.1
  subst hl
  show W p l e R s m args below meth c H locs ck cs Q (F0 m pc ls (.long (Int64.ofInt (z)) :: st.map (mm_cv ad)))
  refine lv_lstore hx hb hd hL hn rfl (fun ls hl => ?_)
  exact k p l e R s m args below meth c A ad ty D H locs ls Q hAt hWd (mm_h2 hl) hK h1 h2
theorem mm_aload_n {j : Fin 4} {z : Nat} (hd : decode mi.2.1 pc = .ok (.aload_n j, 1)) (hl : mm_lk L (j : Nat) = some (v_r (z))) (k : mm_G X d mc ms mi Po (pc + 1) L (v_r (z) :: st) La M ck cs) : mm_G X d mc ms mi Po pc L (st) La M ck cs := by
  intro p l e R s m args below meth c A ad ty D H locs ls Q hAt hWd hL hK h1 h2
  have hx := hAt.1
  have hb := hAt.2.1
  have kk := k p l e R s m args below meth c A ad ty D H locs ls Q hAt hWd hL hK h1 h2
  change W p l e R s m args below meth c H locs ck cs Q (F0 m (pc + 1) ls (.ref (ad (z)) :: st.map (mm_cv ad))) at kk
  show W p l e R s m args below meth c H locs ck cs Q (F0 m pc ls (st.map (mm_cv ad)))
  exact lv_aload_n hx hb hd rfl (mm_lv hL hl) kk
theorem mm_aload {j : Nat} {z : Nat} (hd : decode mi.2.1 pc = .ok (.aload j, 2)) (hl : mm_lk L j = some (v_r (z))) (k : mm_G X d mc ms mi Po (pc + 2) L (v_r (z) :: st) La M ck cs) : mm_G X d mc ms mi Po pc L (st) La M ck cs := by
  intro p l e R s m args below meth c A ad ty D H locs ls Q hAt hWd hL hK h1 h2
  have hx := hAt.1
  have hb := hAt.2.1
  have kk := k p l e R s m args below meth c A ad ty D H locs ls Q hAt hWd hL hK h1 h2
  change W p l e R s m args below meth c H locs ck cs Q (F0 m (pc + 2) ls (.ref (ad (z)) :: st.map (mm_cv ad))) at kk
  show W p l e R s m args below meth c H locs ck cs Q (F0 m pc ls (st.map (mm_cv ad)))
  exact lv_aload hx hb hd (mm_lv hL hl) kk
theorem mm_astore_n {j : Fin 4} {z : Nat} {L' : List (Nat × mm_V)} (hd : decode mi.2.1 pc = .ok (.astore_n j, 1)) (hn : (j : Nat) < mi.2.2.1) (hl : mm_s1 L (j : Nat) (v_r (z)) = L') (k : mm_G X d mc ms mi Po (pc + 1) L' st La M ck cs) : mm_G X d mc ms mi Po pc L (v_r (z) :: st) La M ck cs := by
  intro p l e R s m args below meth c A ad ty D H locs ls Q hAt hWd hL hK h1 h2
  have hx := hAt.1
  have hb := hAt.2.1
  subst hl
  show W p l e R s m args below meth c H locs ck cs Q (F0 m pc ls (.ref (ad (z)) :: st.map (mm_cv ad)))
  refine lv_astore_n hx hb hd rfl hL hn rfl (fun ls hl => ?_)
  exact k p l e R s m args below meth c A ad ty D H locs ls Q hAt hWd (mm_h1 hl) hK h1 h2
theorem mm_astore {j : Nat} {z : Nat} {L' : List (Nat × mm_V)} (hd : decode mi.2.1 pc = .ok (.astore j, 2)) (hn : (j : Nat) < mi.2.2.1) (hl : mm_s1 L (j : Nat) (v_r (z)) = L') (k : mm_G X d mc ms mi Po (pc + 2) L' st La M ck cs) : mm_G X d mc ms mi Po pc L (v_r (z) :: st) La M ck cs := by
  intro p l e R s m args below meth c A ad ty D H locs ls Q hAt hWd hL hK h1 h2
  have hx := hAt.1
  have hb := hAt.2.1
  subst hl
  show W p l e R s m args below meth c H locs ck cs Q (F0 m pc ls (.ref (ad (z)) :: st.map (mm_cv ad)))
  refine lv_astore hx hb hd hL hn rfl (fun ls hl => ?_)
  exact k p l e R s m args below meth c A ad ty D H locs ls Q hAt hWd (mm_h1 hl) hK h1 h2
theorem mm_iinc {j : Nat} {n z : Int} {L' : List (Nat × mm_V)} (hd : decode mi.2.1 pc = .ok (.iinc j n, 3)) (hv : mm_lk L j = some (v_i z)) (hn : j < mi.2.2.1) (hl : mm_s1 L j (v_i (z + n)) = L') (k : mm_G X d mc ms mi Po (pc + 3) L' st La M ck cs) : mm_G X d mc ms mi Po pc L st La M ck cs := by
  intro p l e R s m args below meth c A ad ty D H locs ls Q hAt hWd hL hK h1 h2
  have hx := hAt.1
  have hb := hAt.2.1
  subst hl
  obtain ⟨q, hq⟩ := List.getElem?_of_mem (List.mem_map.mpr ⟨(j, v_i z), mm_lk_mem hv, rfl⟩ : (j, mm_cv ad (v_i z)) ∈ mm_lo ad L)
  refine lv_iinc (v := Int32.ofInt (z + n)) hx hb hd hL hq (by rw [Int32.ofInt_add]) hn rfl (fun ls hl => ?_)
  exact k p l e R s m args below meth c A ad ty D H locs ls Q hAt hWd (mm_h1 hl) hK h1 h2
theorem mm_iadd {x y : Int} (hd : decode mi.2.1 pc = .ok (.iadd, 1))  (k : mm_G X d mc ms mi Po (pc + 1) L (v_i (x + y) :: st) La M ck cs) : mm_G X d mc ms mi Po pc L (v_i (y) :: v_i (x) :: st) La M ck cs := by
  intro p l e R s m args below meth c A ad ty D H locs ls Q hAt hWd hL hK h1 h2
  have hx := hAt.1
  have hb := hAt.2.1
  have kk := k p l e R s m args below meth c A ad ty D H locs ls Q hAt hWd hL hK h1 h2
  change W p l e R s m args below meth c H locs ck cs Q (F0 m (pc + 1) ls (.int (Int32.ofInt (x + y)) :: st.map (mm_cv ad))) at kk
  show W p l e R s m args below meth c H locs ck cs Q (F0 m pc ls (.int (Int32.ofInt (y)) :: .int (Int32.ofInt (x)) :: st.map (mm_cv ad)))
  rw [Int32.ofInt_add] at kk
  exact lv_iadd hx hb hd kk
theorem mm_ladd {x y : Int} (hd : decode mi.2.1 pc = .ok (.ladd, 1))  (k : mm_G X d mc ms mi Po (pc + 1) L (v_l (x + y) :: st) La M ck cs) : mm_G X d mc ms mi Po pc L (v_l (y) :: v_l (x) :: st) La M ck cs := by
  intro p l e R s m args below meth c A ad ty D H locs ls Q hAt hWd hL hK h1 h2
  have hx := hAt.1
  have hb := hAt.2.1
  have kk := k p l e R s m args below meth c A ad ty D H locs ls Q hAt hWd hL hK h1 h2
  change W p l e R s m args below meth c H locs ck cs Q (F0 m (pc + 1) ls (.long (Int64.ofInt (x + y)) :: st.map (mm_cv ad))) at kk
  show W p l e R s m args below meth c H locs ck cs Q (F0 m pc ls (.long (Int64.ofInt (y)) :: .long (Int64.ofInt (x)) :: st.map (mm_cv ad)))
  rw [Int64.ofInt_add] at kk
  exact lv_ladd hx hb hd kk
theorem mm_isub {x y : Int} (hd : decode mi.2.1 pc = .ok (.isub, 1))  (k : mm_G X d mc ms mi Po (pc + 1) L (v_i (x - y) :: st) La M ck cs) : mm_G X d mc ms mi Po pc L (v_i (y) :: v_i (x) :: st) La M ck cs := by
  intro p l e R s m args below meth c A ad ty D H locs ls Q hAt hWd hL hK h1 h2
  have hx := hAt.1
  have hb := hAt.2.1
  have kk := k p l e R s m args below meth c A ad ty D H locs ls Q hAt hWd hL hK h1 h2
  change W p l e R s m args below meth c H locs ck cs Q (F0 m (pc + 1) ls (.int (Int32.ofInt (x - y)) :: st.map (mm_cv ad))) at kk
  show W p l e R s m args below meth c H locs ck cs Q (F0 m pc ls (.int (Int32.ofInt (y)) :: .int (Int32.ofInt (x)) :: st.map (mm_cv ad)))
  rw [Int32.ofInt_sub] at kk
  exact lv_isub hx hb hd kk
theorem mm_lsub {x y : Int} (hd : decode mi.2.1 pc = .ok (.lsub, 1))  (k : mm_G X d mc ms mi Po (pc + 1) L (v_l (x - y) :: st) La M ck cs) : mm_G X d mc ms mi Po pc L (v_l (y) :: v_l (x) :: st) La M ck cs := by
  intro p l e R s m args below meth c A ad ty D H locs ls Q hAt hWd hL hK h1 h2
  have hx := hAt.1
  have hb := hAt.2.1
  have kk := k p l e R s m args below meth c A ad ty D H locs ls Q hAt hWd hL hK h1 h2
  change W p l e R s m args below meth c H locs ck cs Q (F0 m (pc + 1) ls (.long (Int64.ofInt (x - y)) :: st.map (mm_cv ad))) at kk
  show W p l e R s m args below meth c H locs ck cs Q (F0 m pc ls (.long (Int64.ofInt (y)) :: .long (Int64.ofInt (x)) :: st.map (mm_cv ad)))
  rw [Int64.ofInt_sub] at kk
  exact lv_lsub hx hb hd kk
theorem mm_imul {x y : Int} (hd : decode mi.2.1 pc = .ok (.imul, 1))  (k : mm_G X d mc ms mi Po (pc + 1) L (v_i (x * y) :: st) La M ck cs) : mm_G X d mc ms mi Po pc L (v_i (y) :: v_i (x) :: st) La M ck cs := by
  intro p l e R s m args below meth c A ad ty D H locs ls Q hAt hWd hL hK h1 h2
  have hx := hAt.1
  have hb := hAt.2.1
  have kk := k p l e R s m args below meth c A ad ty D H locs ls Q hAt hWd hL hK h1 h2
  change W p l e R s m args below meth c H locs ck cs Q (F0 m (pc + 1) ls (.int (Int32.ofInt (x * y)) :: st.map (mm_cv ad))) at kk
  show W p l e R s m args below meth c H locs ck cs Q (F0 m pc ls (.int (Int32.ofInt (y)) :: .int (Int32.ofInt (x)) :: st.map (mm_cv ad)))
  rw [Int32.ofInt_mul] at kk
  exact lv_imul hx hb hd kk
theorem mm_lmul {x y : Int} (hd : decode mi.2.1 pc = .ok (.lmul, 1))  (k : mm_G X d mc ms mi Po (pc + 1) L (v_l (x * y) :: st) La M ck cs) : mm_G X d mc ms mi Po pc L (v_l (y) :: v_l (x) :: st) La M ck cs := by
  intro p l e R s m args below meth c A ad ty D H locs ls Q hAt hWd hL hK h1 h2
  have hx := hAt.1
  have hb := hAt.2.1
  have kk := k p l e R s m args below meth c A ad ty D H locs ls Q hAt hWd hL hK h1 h2
  change W p l e R s m args below meth c H locs ck cs Q (F0 m (pc + 1) ls (.long (Int64.ofInt (x * y)) :: st.map (mm_cv ad))) at kk
  show W p l e R s m args below meth c H locs ck cs Q (F0 m pc ls (.long (Int64.ofInt (y)) :: .long (Int64.ofInt (x)) :: st.map (mm_cv ad)))
  rw [Int64.ofInt_mul] at kk
  exact lv_lmul hx hb hd kk
theorem mm_ineg {x : Int} (hd : decode mi.2.1 pc = .ok (.ineg, 1))  (k : mm_G X d mc ms mi Po (pc + 1) L (v_i (-x) :: st) La M ck cs) : mm_G X d mc ms mi Po pc L (v_i (x) :: st) La M ck cs := by
  intro p l e R s m args below meth c A ad ty D H locs ls Q hAt hWd hL hK h1 h2
  have hx := hAt.1
  have hb := hAt.2.1
  have kk := k p l e R s m args below meth c A ad ty D H locs ls Q hAt hWd hL hK h1 h2
  change W p l e R s m args below meth c H locs ck cs Q (F0 m (pc + 1) ls (.int (Int32.ofInt (-x)) :: st.map (mm_cv ad))) at kk
  show W p l e R s m args below meth c H locs ck cs Q (F0 m pc ls (.int (Int32.ofInt (x)) :: st.map (mm_cv ad)))
  rw [Int32.ofInt_neg] at kk
  exact lv_ineg hx hb hd kk
theorem mm_lneg {x : Int} (hd : decode mi.2.1 pc = .ok (.lneg, 1))  (k : mm_G X d mc ms mi Po (pc + 1) L (v_l (-x) :: st) La M ck cs) : mm_G X d mc ms mi Po pc L (v_l (x) :: st) La M ck cs := by
  intro p l e R s m args below meth c A ad ty D H locs ls Q hAt hWd hL hK h1 h2
  have hx := hAt.1
  have hb := hAt.2.1
  have kk := k p l e R s m args below meth c A ad ty D H locs ls Q hAt hWd hL hK h1 h2
  change W p l e R s m args below meth c H locs ck cs Q (F0 m (pc + 1) ls (.long (Int64.ofInt (-x)) :: st.map (mm_cv ad))) at kk
  show W p l e R s m args below meth c H locs ck cs Q (F0 m pc ls (.long (Int64.ofInt (x)) :: st.map (mm_cv ad)))
  rw [Int64.ofInt_neg] at kk
  exact lv_lneg hx hb hd kk
theorem mm_iand {x y : Int} (hd : decode mi.2.1 pc = .ok (.iand, 1))  (k : mm_G X d mc ms mi Po (pc + 1) L (v_i (fx_and x y) :: st) La M ck cs) : mm_G X d mc ms mi Po pc L (v_i (y) :: v_i (x) :: st) La M ck cs := by
  intro p l e R s m args below meth c A ad ty D H locs ls Q hAt hWd hL hK h1 h2
  have hx := hAt.1
  have hb := hAt.2.1
  have kk := k p l e R s m args below meth c A ad ty D H locs ls Q hAt hWd hL hK h1 h2
  change W p l e R s m args below meth c H locs ck cs Q (F0 m (pc + 1) ls (.int (Int32.ofInt (fx_and x y)) :: st.map (mm_cv ad))) at kk
  show W p l e R s m args below meth c H locs ck cs Q (F0 m pc ls (.int (Int32.ofInt (y)) :: .int (Int32.ofInt (x)) :: st.map (mm_cv ad)))
  rw [fx_and, Int32.ofInt_toInt] at kk
  exact lv_iand hx hb hd kk
theorem mm_ior {x y : Int} (hd : decode mi.2.1 pc = .ok (.ior, 1))  (k : mm_G X d mc ms mi Po (pc + 1) L (v_i (fx_or x y) :: st) La M ck cs) : mm_G X d mc ms mi Po pc L (v_i (y) :: v_i (x) :: st) La M ck cs := by
  intro p l e R s m args below meth c A ad ty D H locs ls Q hAt hWd hL hK h1 h2
  have hx := hAt.1
  have hb := hAt.2.1
  have kk := k p l e R s m args below meth c A ad ty D H locs ls Q hAt hWd hL hK h1 h2
  change W p l e R s m args below meth c H locs ck cs Q (F0 m (pc + 1) ls (.int (Int32.ofInt (fx_or x y)) :: st.map (mm_cv ad))) at kk
  show W p l e R s m args below meth c H locs ck cs Q (F0 m pc ls (.int (Int32.ofInt (y)) :: .int (Int32.ofInt (x)) :: st.map (mm_cv ad)))
  rw [fx_or, Int32.ofInt_toInt] at kk
  exact lv_ior hx hb hd kk
theorem mm_ixor {x y : Int} (hd : decode mi.2.1 pc = .ok (.ixor, 1))  (k : mm_G X d mc ms mi Po (pc + 1) L (v_i (fx_xor x y) :: st) La M ck cs) : mm_G X d mc ms mi Po pc L (v_i (y) :: v_i (x) :: st) La M ck cs := by
  intro p l e R s m args below meth c A ad ty D H locs ls Q hAt hWd hL hK h1 h2
  have hx := hAt.1
  have hb := hAt.2.1
  have kk := k p l e R s m args below meth c A ad ty D H locs ls Q hAt hWd hL hK h1 h2
  change W p l e R s m args below meth c H locs ck cs Q (F0 m (pc + 1) ls (.int (Int32.ofInt (fx_xor x y)) :: st.map (mm_cv ad))) at kk
  show W p l e R s m args below meth c H locs ck cs Q (F0 m pc ls (.int (Int32.ofInt (y)) :: .int (Int32.ofInt (x)) :: st.map (mm_cv ad)))
  rw [fx_xor, Int32.ofInt_toInt] at kk
  exact lv_ixor hx hb hd kk
theorem mm_ishl {x y : Int} (hd : decode mi.2.1 pc = .ok (.ishl, 1))  (k : mm_G X d mc ms mi Po (pc + 1) L (v_i (fx_shl x y) :: st) La M ck cs) : mm_G X d mc ms mi Po pc L (v_i (y) :: v_i (x) :: st) La M ck cs := by
  intro p l e R s m args below meth c A ad ty D H locs ls Q hAt hWd hL hK h1 h2
  have hx := hAt.1
  have hb := hAt.2.1
  have kk := k p l e R s m args below meth c A ad ty D H locs ls Q hAt hWd hL hK h1 h2
  change W p l e R s m args below meth c H locs ck cs Q (F0 m (pc + 1) ls (.int (Int32.ofInt (fx_shl x y)) :: st.map (mm_cv ad))) at kk
  show W p l e R s m args below meth c H locs ck cs Q (F0 m pc ls (.int (Int32.ofInt (y)) :: .int (Int32.ofInt (x)) :: st.map (mm_cv ad)))
  rw [fx_shl, Int32.ofInt_toInt] at kk
  exact lv_ishl hx hb hd kk
theorem mm_lshl {x y : Int} (hd : decode mi.2.1 pc = .ok (.lshl, 1))  (k : mm_G X d mc ms mi Po (pc + 1) L (v_l (fx_lshl x y) :: st) La M ck cs) : mm_G X d mc ms mi Po pc L (v_i (y) :: v_l (x) :: st) La M ck cs := by
  intro p l e R s m args below meth c A ad ty D H locs ls Q hAt hWd hL hK h1 h2
  have hx := hAt.1
  have hb := hAt.2.1
  have kk := k p l e R s m args below meth c A ad ty D H locs ls Q hAt hWd hL hK h1 h2
  change W p l e R s m args below meth c H locs ck cs Q (F0 m (pc + 1) ls (.long (Int64.ofInt (fx_lshl x y)) :: st.map (mm_cv ad))) at kk
  show W p l e R s m args below meth c H locs ck cs Q (F0 m pc ls (.int (Int32.ofInt (y)) :: .long (Int64.ofInt (x)) :: st.map (mm_cv ad)))
  rw [fx_lshl, Int64.ofInt_toInt] at kk
  exact lv_lshl hx hb hd rfl kk
theorem mm_ishr {x y : Int} (hd : decode mi.2.1 pc = .ok (.ishr, 1))  (k : mm_G X d mc ms mi Po (pc + 1) L (v_i (fx_shr x y) :: st) La M ck cs) : mm_G X d mc ms mi Po pc L (v_i (y) :: v_i (x) :: st) La M ck cs := by
  intro p l e R s m args below meth c A ad ty D H locs ls Q hAt hWd hL hK h1 h2
  have hx := hAt.1
  have hb := hAt.2.1
  have kk := k p l e R s m args below meth c A ad ty D H locs ls Q hAt hWd hL hK h1 h2
  change W p l e R s m args below meth c H locs ck cs Q (F0 m (pc + 1) ls (.int (Int32.ofInt (fx_shr x y)) :: st.map (mm_cv ad))) at kk
  show W p l e R s m args below meth c H locs ck cs Q (F0 m pc ls (.int (Int32.ofInt (y)) :: .int (Int32.ofInt (x)) :: st.map (mm_cv ad)))
  rw [fx_shr, Int32.ofInt_toInt] at kk
  exact lv_ishr hx hb hd kk
theorem mm_lshr {x y : Int} (hd : decode mi.2.1 pc = .ok (.lshr, 1))  (k : mm_G X d mc ms mi Po (pc + 1) L (v_l (fx_lshr x y) :: st) La M ck cs) : mm_G X d mc ms mi Po pc L (v_i (y) :: v_l (x) :: st) La M ck cs := by
  intro p l e R s m args below meth c A ad ty D H locs ls Q hAt hWd hL hK h1 h2
  have hx := hAt.1
  have hb := hAt.2.1
  have kk := k p l e R s m args below meth c A ad ty D H locs ls Q hAt hWd hL hK h1 h2
  change W p l e R s m args below meth c H locs ck cs Q (F0 m (pc + 1) ls (.long (Int64.ofInt (fx_lshr x y)) :: st.map (mm_cv ad))) at kk
  show W p l e R s m args below meth c H locs ck cs Q (F0 m pc ls (.int (Int32.ofInt (y)) :: .long (Int64.ofInt (x)) :: st.map (mm_cv ad)))
  rw [fx_lshr, Int64.ofInt_toInt] at kk
  exact lv_lshr hx hb hd rfl kk
theorem mm_iushr {x y : Int} (hd : decode mi.2.1 pc = .ok (.iushr, 1))  (k : mm_G X d mc ms mi Po (pc + 1) L (v_i (fx_ushr x y) :: st) La M ck cs) : mm_G X d mc ms mi Po pc L (v_i (y) :: v_i (x) :: st) La M ck cs := by
  intro p l e R s m args below meth c A ad ty D H locs ls Q hAt hWd hL hK h1 h2
  have hx := hAt.1
  have hb := hAt.2.1
  have kk := k p l e R s m args below meth c A ad ty D H locs ls Q hAt hWd hL hK h1 h2
  change W p l e R s m args below meth c H locs ck cs Q (F0 m (pc + 1) ls (.int (Int32.ofInt (fx_ushr x y)) :: st.map (mm_cv ad))) at kk
  show W p l e R s m args below meth c H locs ck cs Q (F0 m pc ls (.int (Int32.ofInt (y)) :: .int (Int32.ofInt (x)) :: st.map (mm_cv ad)))
  rw [fx_ushr, Int32.ofInt_toInt] at kk
  exact lv_iushr hx hb hd rfl kk
theorem mm_lushr {x y : Int} (hd : decode mi.2.1 pc = .ok (.lushr, 1))  (k : mm_G X d mc ms mi Po (pc + 1) L (v_l (fx_lushr x y) :: st) La M ck cs) : mm_G X d mc ms mi Po pc L (v_i (y) :: v_l (x) :: st) La M ck cs := by
  intro p l e R s m args below meth c A ad ty D H locs ls Q hAt hWd hL hK h1 h2
  have hx := hAt.1
  have hb := hAt.2.1
  have kk := k p l e R s m args below meth c A ad ty D H locs ls Q hAt hWd hL hK h1 h2
  change W p l e R s m args below meth c H locs ck cs Q (F0 m (pc + 1) ls (.long (Int64.ofInt (fx_lushr x y)) :: st.map (mm_cv ad))) at kk
  show W p l e R s m args below meth c H locs ck cs Q (F0 m pc ls (.int (Int32.ofInt (y)) :: .long (Int64.ofInt (x)) :: st.map (mm_cv ad)))
  rw [fx_lushr, Int64.ofInt_toInt] at kk
  exact lv_lushr hx hb hd rfl kk
theorem mm_land {x y : Int} (hd : decode mi.2.1 pc = .ok (.land, 1))  (k : mm_G X d mc ms mi Po (pc + 1) L (v_l (fx_land x y) :: st) La M ck cs) : mm_G X d mc ms mi Po pc L (v_l (y) :: v_l (x) :: st) La M ck cs := by
  intro p l e R s m args below meth c A ad ty D H locs ls Q hAt hWd hL hK h1 h2
  have hx := hAt.1
  have hb := hAt.2.1
  have kk := k p l e R s m args below meth c A ad ty D H locs ls Q hAt hWd hL hK h1 h2
  change W p l e R s m args below meth c H locs ck cs Q (F0 m (pc + 1) ls (.long (Int64.ofInt (fx_land x y)) :: st.map (mm_cv ad))) at kk
  show W p l e R s m args below meth c H locs ck cs Q (F0 m pc ls (.long (Int64.ofInt (y)) :: .long (Int64.ofInt (x)) :: st.map (mm_cv ad)))
  rw [fx_land, Int64.ofInt_toInt] at kk
  exact lv_land hx hb hd kk
theorem mm_lor {x y : Int} (hd : decode mi.2.1 pc = .ok (.lor, 1))  (k : mm_G X d mc ms mi Po (pc + 1) L (v_l (fx_lor x y) :: st) La M ck cs) : mm_G X d mc ms mi Po pc L (v_l (y) :: v_l (x) :: st) La M ck cs := by
  intro p l e R s m args below meth c A ad ty D H locs ls Q hAt hWd hL hK h1 h2
  have hx := hAt.1
  have hb := hAt.2.1
  have kk := k p l e R s m args below meth c A ad ty D H locs ls Q hAt hWd hL hK h1 h2
  change W p l e R s m args below meth c H locs ck cs Q (F0 m (pc + 1) ls (.long (Int64.ofInt (fx_lor x y)) :: st.map (mm_cv ad))) at kk
  show W p l e R s m args below meth c H locs ck cs Q (F0 m pc ls (.long (Int64.ofInt (y)) :: .long (Int64.ofInt (x)) :: st.map (mm_cv ad)))
  rw [fx_lor, Int64.ofInt_toInt] at kk
  exact lv_lor hx hb hd kk
theorem mm_idiv {x y : Int} (hd : decode mi.2.1 pc = .ok (.idiv, 1)) (ha : mm_r32 x) (hb0 : mm_r32 y) (hne : y ≠ 0) (k : mm_G X d mc ms mi Po (pc + 1) L (v_i (x.tdiv y) :: st) La M ck cs) : mm_G X d mc ms mi Po pc L (v_i (y) :: v_i (x) :: st) La M ck cs := by
  intro p l e R s m args below meth c A ad ty D H locs ls Q hAt hWd hL hK h1 h2
  have hx := hAt.1
  have hb := hAt.2.1
  have kk := k p l e R s m args below meth c A ad ty D H locs ls Q hAt hWd hL hK h1 h2
  change W p l e R s m args below meth c H locs ck cs Q (F0 m (pc + 1) ls (.int (Int32.ofInt (x.tdiv y)) :: st.map (mm_cv ad))) at kk
  show W p l e R s m args below meth c H locs ck cs Q (F0 m pc ls (.int (Int32.ofInt (y)) :: .int (Int32.ofInt (x)) :: st.map (mm_cv ad)))
  rw [Int32.ofInt_tdiv (show (-2147483648 : Int) ≤ x from ha.1) (show x ≤ 2147483647 by omega) (show (-2147483648 : Int) ≤ y from hb0.1) (show y ≤ 2147483647 by omega)] at kk
  exact lv_idiv hx hb hd (fun h => hne ((mm_eq32 hb0 (by omega)).mp h)) kk
theorem mm_irem {x y : Int} (hd : decode mi.2.1 pc = .ok (.irem, 1)) (ha : mm_r32 x) (hb0 : mm_r32 y) (hne : y ≠ 0) (k : mm_G X d mc ms mi Po (pc + 1) L (v_i (x.tmod y) :: st) La M ck cs) : mm_G X d mc ms mi Po pc L (v_i (y) :: v_i (x) :: st) La M ck cs := by
  intro p l e R s m args below meth c A ad ty D H locs ls Q hAt hWd hL hK h1 h2
  have hx := hAt.1
  have hb := hAt.2.1
  have kk := k p l e R s m args below meth c A ad ty D H locs ls Q hAt hWd hL hK h1 h2
  change W p l e R s m args below meth c H locs ck cs Q (F0 m (pc + 1) ls (.int (Int32.ofInt (x.tmod y)) :: st.map (mm_cv ad))) at kk
  show W p l e R s m args below meth c H locs ck cs Q (F0 m pc ls (.int (Int32.ofInt (y)) :: .int (Int32.ofInt (x)) :: st.map (mm_cv ad)))
  have e : Int32.ofInt (x.tmod y) = Int32.ofInt x - Int32.ofInt x / Int32.ofInt y * Int32.ofInt y := by
    rw [← Int32.ofInt_tdiv (show (-2147483648 : Int) ≤ x from ha.1) (show x ≤ 2147483647 by omega) (show (-2147483648 : Int) ≤ y from hb0.1) (show y ≤ 2147483647 by omega), ← Int32.ofInt_mul, ← Int32.ofInt_sub]
    congr 1
    have := Int.tmod_add_mul_tdiv x y
    rw [Int.mul_comm] at this
    omega
  rw [e] at kk
  exact lv_irem hx hb hd (fun h => hne ((mm_eq32 hb0 (by omega)).mp h)) kk
theorem mm_ldiv {x y : Int} (hd : decode mi.2.1 pc = .ok (.ldiv, 1)) (ha : mm_r64 x) (hb0 : mm_r64 y) (hne : y ≠ 0) (k : mm_G X d mc ms mi Po (pc + 1) L (v_l (x.tdiv y) :: st) La M ck cs) : mm_G X d mc ms mi Po pc L (v_l (y) :: v_l (x) :: st) La M ck cs := by
  intro p l e R s m args below meth c A ad ty D H locs ls Q hAt hWd hL hK h1 h2
  have hx := hAt.1
  have hb := hAt.2.1
  have kk := k p l e R s m args below meth c A ad ty D H locs ls Q hAt hWd hL hK h1 h2
  change W p l e R s m args below meth c H locs ck cs Q (F0 m (pc + 1) ls (.long (Int64.ofInt (x.tdiv y)) :: st.map (mm_cv ad))) at kk
  show W p l e R s m args below meth c H locs ck cs Q (F0 m pc ls (.long (Int64.ofInt (y)) :: .long (Int64.ofInt (x)) :: st.map (mm_cv ad)))
  rw [Int64.ofInt_tdiv (show (-9223372036854775808 : Int) ≤ x from ha.1) (show x ≤ 9223372036854775807 by omega) (show (-9223372036854775808 : Int) ≤ y from hb0.1) (show y ≤ 9223372036854775807 by omega)] at kk
  exact lv_ldiv hx hb hd (fun h => hne ((mm_eq64 hb0 (by omega)).mp h)) kk
theorem mm_lrem {x y : Int} (hd : decode mi.2.1 pc = .ok (.lrem, 1)) (ha : mm_r64 x) (hb0 : mm_r64 y) (hne : y ≠ 0) (k : mm_G X d mc ms mi Po (pc + 1) L (v_l (x.tmod y) :: st) La M ck cs) : mm_G X d mc ms mi Po pc L (v_l (y) :: v_l (x) :: st) La M ck cs := by
  intro p l e R s m args below meth c A ad ty D H locs ls Q hAt hWd hL hK h1 h2
  have hx := hAt.1
  have hb := hAt.2.1
  have kk := k p l e R s m args below meth c A ad ty D H locs ls Q hAt hWd hL hK h1 h2
  change W p l e R s m args below meth c H locs ck cs Q (F0 m (pc + 1) ls (.long (Int64.ofInt (x.tmod y)) :: st.map (mm_cv ad))) at kk
  show W p l e R s m args below meth c H locs ck cs Q (F0 m pc ls (.long (Int64.ofInt (y)) :: .long (Int64.ofInt (x)) :: st.map (mm_cv ad)))
  have e : Int64.ofInt (x.tmod y) = Int64.ofInt x - Int64.ofInt x / Int64.ofInt y * Int64.ofInt y := by
    rw [← Int64.ofInt_tdiv (show (-9223372036854775808 : Int) ≤ x from ha.1) (show x ≤ 9223372036854775807 by omega) (show (-9223372036854775808 : Int) ≤ y from hb0.1) (show y ≤ 9223372036854775807 by omega), ← Int64.ofInt_mul, ← Int64.ofInt_sub]
    congr 1
    have := Int.tmod_add_mul_tdiv x y
    rw [Int.mul_comm] at this
    omega
  rw [e] at kk
  exact lv_lrem hx hb hd (fun h => hne ((mm_eq64 hb0 (by omega)).mp h)) kk
theorem mm_i2l {x : Int} (hd : decode mi.2.1 pc = .ok (.i2l, 1)) (ha : mm_r32 x) (k : mm_G X d mc ms mi Po (pc + 1) L (v_l (x) :: st) La M ck cs) : mm_G X d mc ms mi Po pc L (v_i (x) :: st) La M ck cs := by
  intro p l e R s m args below meth c A ad ty D H locs ls Q hAt hWd hL hK h1 h2
  have hx := hAt.1
  have hb := hAt.2.1
  have kk := k p l e R s m args below meth c A ad ty D H locs ls Q hAt hWd hL hK h1 h2
  change W p l e R s m args below meth c H locs ck cs Q (F0 m (pc + 1) ls (.long (Int64.ofInt (x)) :: st.map (mm_cv ad))) at kk
  show W p l e R s m args below meth c H locs ck cs Q (F0 m pc ls (.int (Int32.ofInt (x)) :: st.map (mm_cv ad)))
  exact lv_i2l hx hb hd (Int32.toInt64_ofInt (show (-2147483648 : Int) ≤ x from ha.1) (show x ≤ 2147483647 by omega)) kk
theorem mm_l2i {x : Int} (hd : decode mi.2.1 pc = .ok (.l2i, 1))  (k : mm_G X d mc ms mi Po (pc + 1) L (v_i (x) :: st) La M ck cs) : mm_G X d mc ms mi Po pc L (v_l (x) :: st) La M ck cs := by
  intro p l e R s m args below meth c A ad ty D H locs ls Q hAt hWd hL hK h1 h2
  have hx := hAt.1
  have hb := hAt.2.1
  have kk := k p l e R s m args below meth c A ad ty D H locs ls Q hAt hWd hL hK h1 h2
  change W p l e R s m args below meth c H locs ck cs Q (F0 m (pc + 1) ls (.int (Int32.ofInt (x)) :: st.map (mm_cv ad))) at kk
  show W p l e R s m args below meth c H locs ck cs Q (F0 m pc ls (.long (Int64.ofInt (x)) :: st.map (mm_cv ad)))
  exact lv_l2i hx hb hd Int64.toInt32_ofInt kk
theorem mm_i2c {x : Int} (hd : decode mi.2.1 pc = .ok (.i2c, 1)) (ha : ((Int32.ofInt x).toUInt32 % 65536).toInt32 = Int32.ofInt x) (k : mm_G X d mc ms mi Po (pc + 1) L (v_i (x) :: st) La M ck cs) : mm_G X d mc ms mi Po pc L (v_i (x) :: st) La M ck cs := by
  intro p l e R s m args below meth c A ad ty D H locs ls Q hAt hWd hL hK h1 h2
  have hx := hAt.1
  have hb := hAt.2.1
  have kk := k p l e R s m args below meth c A ad ty D H locs ls Q hAt hWd hL hK h1 h2
  change W p l e R s m args below meth c H locs ck cs Q (F0 m (pc + 1) ls (.int (Int32.ofInt (x)) :: st.map (mm_cv ad))) at kk
  show W p l e R s m args below meth c H locs ck cs Q (F0 m pc ls (.int (Int32.ofInt (x)) :: st.map (mm_cv ad)))
  exact lv_i2c hx hb hd ha kk
theorem mm_lcmp {x y : Int} (hd : decode mi.2.1 pc = .ok (.lcmp, 1)) (ha : mm_r64 x) (hb0 : mm_r64 y) (k : mm_G X d mc ms mi Po (pc + 1) L (v_i (mm_cmp x y) :: st) La M ck cs) : mm_G X d mc ms mi Po pc L (v_l (y) :: v_l (x) :: st) La M ck cs := by
  intro p l e R s m args below meth c A ad ty D H locs ls Q hAt hWd hL hK h1 h2
  have hx := hAt.1
  have hb := hAt.2.1
  have kk := k p l e R s m args below meth c A ad ty D H locs ls Q hAt hWd hL hK h1 h2
  change W p l e R s m args below meth c H locs ck cs Q (F0 m (pc + 1) ls (.int (Int32.ofInt (mm_cmp x y)) :: st.map (mm_cv ad))) at kk
  show W p l e R s m args below meth c H locs ck cs Q (F0 m pc ls (.long (Int64.ofInt (y)) :: .long (Int64.ofInt (x)) :: st.map (mm_cv ad)))
  rw [← mm_cmp64 ha hb0] at kk
  exact W.lcmp hx hb hd kk
theorem mm_dup_i {x : Int} (hd : decode mi.2.1 pc = .ok (.dup, 1))  (k : mm_G X d mc ms mi Po (pc + 1) L (v_i (x) :: v_i (x) :: st) La M ck cs) : mm_G X d mc ms mi Po pc L (v_i (x) :: st) La M ck cs := by
  intro p l e R s m args below meth c A ad ty D H locs ls Q hAt hWd hL hK h1 h2
  have hx := hAt.1
  have hb := hAt.2.1
  have kk := k p l e R s m args below meth c A ad ty D H locs ls Q hAt hWd hL hK h1 h2
  change W p l e R s m args below meth c H locs ck cs Q (F0 m (pc + 1) ls (.int (Int32.ofInt (x)) :: .int (Int32.ofInt (x)) :: st.map (mm_cv ad))) at kk
  show W p l e R s m args below meth c H locs ck cs Q (F0 m pc ls (.int (Int32.ofInt (x)) :: st.map (mm_cv ad)))
  exact lv_dup hx hb hd rfl kk
theorem mm_dup_r {x : Nat} (hd : decode mi.2.1 pc = .ok (.dup, 1))  (k : mm_G X d mc ms mi Po (pc + 1) L (v_r (x) :: v_r (x) :: st) La M ck cs) : mm_G X d mc ms mi Po pc L (v_r (x) :: st) La M ck cs := by
  intro p l e R s m args below meth c A ad ty D H locs ls Q hAt hWd hL hK h1 h2
  have hx := hAt.1
  have hb := hAt.2.1
  have kk := k p l e R s m args below meth c A ad ty D H locs ls Q hAt hWd hL hK h1 h2
  change W p l e R s m args below meth c H locs ck cs Q (F0 m (pc + 1) ls (.ref (ad (x)) :: .ref (ad (x)) :: st.map (mm_cv ad))) at kk
  show W p l e R s m args below meth c H locs ck cs Q (F0 m pc ls (.ref (ad (x)) :: st.map (mm_cv ad)))
  exact lv_dup hx hb hd rfl kk
theorem mm_dup2_ir {x : Int} {y : Nat} (hd : decode mi.2.1 pc = .ok (.dup2, 1))  (k : mm_G X d mc ms mi Po (pc + 1) L (v_i (x) :: v_r (y) :: v_i (x) :: v_r (y) :: st) La M ck cs) : mm_G X d mc ms mi Po pc L (v_i (x) :: v_r (y) :: st) La M ck cs := by
  intro p l e R s m args below meth c A ad ty D H locs ls Q hAt hWd hL hK h1 h2
  have hx := hAt.1
  have hb := hAt.2.1
  have kk := k p l e R s m args below meth c A ad ty D H locs ls Q hAt hWd hL hK h1 h2
  change W p l e R s m args below meth c H locs ck cs Q (F0 m (pc + 1) ls (.int (Int32.ofInt (x)) :: .ref (ad (y)) :: .int (Int32.ofInt (x)) :: .ref (ad (y)) :: st.map (mm_cv ad))) at kk
  show W p l e R s m args below meth c H locs ck cs Q (F0 m pc ls (.int (Int32.ofInt (x)) :: .ref (ad (y)) :: st.map (mm_cv ad)))
  exact lv_dup2_11 hx hb hd rfl rfl kk
theorem mm_pop_i {x : Int} (hd : decode mi.2.1 pc = .ok (.pop, 1))  (k : mm_G X d mc ms mi Po (pc + 1) L (st) La M ck cs) : mm_G X d mc ms mi Po pc L (v_i (x) :: st) La M ck cs := by
  intro p l e R s m args below meth c A ad ty D H locs ls Q hAt hWd hL hK h1 h2
  have hx := hAt.1
  have hb := hAt.2.1
  have kk := k p l e R s m args below meth c A ad ty D H locs ls Q hAt hWd hL hK h1 h2
  change W p l e R s m args below meth c H locs ck cs Q (F0 m (pc + 1) ls (st.map (mm_cv ad))) at kk
  show W p l e R s m args below meth c H locs ck cs Q (F0 m pc ls (.int (Int32.ofInt (x)) :: st.map (mm_cv ad)))
  exact lv_pop hx hb hd rfl kk
theorem mm_goto {off : Int} (tgt : Nat) (hd : decode mi.2.1 pc = .ok (.goto off, 3)) (ht : (pc : Int) + off = (tgt : Int)) (k : mm_G X d mc ms mi Po tgt L st La M ck cs) : mm_G X d mc ms mi Po pc L st La M ck cs := by
  intro p l e R s m args below meth c A ad ty D H locs ls Q hAt hWd hL hK h1 h2
  have hx := hAt.1
  have hb := hAt.2.1
  have kk := k p l e R s m args below meth c A ad ty D H locs ls Q hAt hWd hL hK h1 h2
  exact lv_goto hx hb hd ht kk
theorem mm_icmp_eq {x y off : Int} (tgt : Nat) (hd : decode mi.2.1 pc = .ok (.if_icmp .eq off, 3)) (ht : (pc : Int) + off = (tgt : Int)) (ha : mm_r32 x) (hb0 : mm_r32 y) (kt : x = y → mm_G X d mc ms mi Po tgt L st La M ck cs) (kf : ¬ x = y → mm_G X d mc ms mi Po (pc + 3) L st La M ck cs) : mm_G X d mc ms mi Po pc L (v_i y :: v_i x :: st) La M ck cs := by
  intro p l e R s m args below meth c A ad ty D H locs ls Q hAt hWd hL hK h1 h2
  have hx := hAt.1
  have hb := hAt.2.1
  show W p l e R s m args below meth c H locs ck cs Q (F0 m pc ls (.int (Int32.ofInt y) :: .int (Int32.ofInt x) :: st.map (mm_cv ad)))
  exact lv_icmp_eq hx hb hd ht (fun h => kt ((mm_eq32 ha hb0).mp h) p l e R s m args below meth c A ad ty D H locs ls Q hAt hWd hL hK h1 h2) (fun h => kf (fun h3 => h ((mm_eq32 ha hb0).mpr h3)) p l e R s m args below meth c A ad ty D H locs ls Q hAt hWd hL hK h1 h2)
theorem mm_if_eq {x off : Int} (tgt : Nat) (hd : decode mi.2.1 pc = .ok (.ifCond .eq off, 3)) (ht : (pc : Int) + off = (tgt : Int)) (ha : mm_r32 x) (kt : x = 0 → mm_G X d mc ms mi Po tgt L st La M ck cs) (kf : ¬ x = 0 → mm_G X d mc ms mi Po (pc + 3) L st La M ck cs) : mm_G X d mc ms mi Po pc L (v_i x :: st) La M ck cs := by
  intro p l e R s m args below meth c A ad ty D H locs ls Q hAt hWd hL hK h1 h2
  have hx := hAt.1
  have hb := hAt.2.1
  have hb0 : mm_r32 0 := by decide
  show W p l e R s m args below meth c H locs ck cs Q (F0 m pc ls (.int (Int32.ofInt x) :: st.map (mm_cv ad)))
  exact lv_if_eq hx hb hd ht (fun h => kt ((mm_eq32 ha hb0).mp h) p l e R s m args below meth c A ad ty D H locs ls Q hAt hWd hL hK h1 h2) (fun h => kf (fun h3 => h ((mm_eq32 ha hb0).mpr h3)) p l e R s m args below meth c A ad ty D H locs ls Q hAt hWd hL hK h1 h2)
theorem mm_icmp_ne {x y off : Int} (tgt : Nat) (hd : decode mi.2.1 pc = .ok (.if_icmp .ne off, 3)) (ht : (pc : Int) + off = (tgt : Int)) (ha : mm_r32 x) (hb0 : mm_r32 y) (kt : ¬ x = y → mm_G X d mc ms mi Po tgt L st La M ck cs) (kf : x = y → mm_G X d mc ms mi Po (pc + 3) L st La M ck cs) : mm_G X d mc ms mi Po pc L (v_i y :: v_i x :: st) La M ck cs := by
  intro p l e R s m args below meth c A ad ty D H locs ls Q hAt hWd hL hK h1 h2
  have hx := hAt.1
  have hb := hAt.2.1
  show W p l e R s m args below meth c H locs ck cs Q (F0 m pc ls (.int (Int32.ofInt y) :: .int (Int32.ofInt x) :: st.map (mm_cv ad)))
  exact lv_icmp_ne hx hb hd ht (fun h => kt (fun h3 => h ((mm_eq32 ha hb0).mpr h3)) p l e R s m args below meth c A ad ty D H locs ls Q hAt hWd hL hK h1 h2) (fun h => kf ((mm_eq32 ha hb0).mp h) p l e R s m args below meth c A ad ty D H locs ls Q hAt hWd hL hK h1 h2)
theorem mm_if_ne {x off : Int} (tgt : Nat) (hd : decode mi.2.1 pc = .ok (.ifCond .ne off, 3)) (ht : (pc : Int) + off = (tgt : Int)) (ha : mm_r32 x) (kt : ¬ x = 0 → mm_G X d mc ms mi Po tgt L st La M ck cs) (kf : x = 0 → mm_G X d mc ms mi Po (pc + 3) L st La M ck cs) : mm_G X d mc ms mi Po pc L (v_i x :: st) La M ck cs := by
  intro p l e R s m args below meth c A ad ty D H locs ls Q hAt hWd hL hK h1 h2
  have hx := hAt.1
  have hb := hAt.2.1
  have hb0 : mm_r32 0 := by decide
  show W p l e R s m args below meth c H locs ck cs Q (F0 m pc ls (.int (Int32.ofInt x) :: st.map (mm_cv ad)))
  exact lv_if_ne hx hb hd ht (fun h => kt (fun h3 => h ((mm_eq32 ha hb0).mpr h3)) p l e R s m args below meth c A ad ty D H locs ls Q hAt hWd hL hK h1 h2) (fun h => kf ((mm_eq32 ha hb0).mp h) p l e R s m args below meth c A ad ty D H locs ls Q hAt hWd hL hK h1 h2)
theorem mm_icmp_lt {x y off : Int} (tgt : Nat) (hd : decode mi.2.1 pc = .ok (.if_icmp .lt off, 3)) (ht : (pc : Int) + off = (tgt : Int)) (ha : mm_r32 x) (hb0 : mm_r32 y) (kt : x < y → mm_G X d mc ms mi Po tgt L st La M ck cs) (kf : y ≤ x → mm_G X d mc ms mi Po (pc + 3) L st La M ck cs) : mm_G X d mc ms mi Po pc L (v_i y :: v_i x :: st) La M ck cs := by
  intro p l e R s m args below meth c A ad ty D H locs ls Q hAt hWd hL hK h1 h2
  have hx := hAt.1
  have hb := hAt.2.1
  show W p l e R s m args below meth c H locs ck cs Q (F0 m pc ls (.int (Int32.ofInt y) :: .int (Int32.ofInt x) :: st.map (mm_cv ad)))
  exact lv_icmp_lt hx hb hd ht (fun h => kt ((mm_lt32 ha hb0).mp h) p l e R s m args below meth c A ad ty D H locs ls Q hAt hWd hL hK h1 h2) (fun h => kf (Int.not_lt.mp (fun h3 => h ((mm_lt32 ha hb0).mpr h3))) p l e R s m args below meth c A ad ty D H locs ls Q hAt hWd hL hK h1 h2)
theorem mm_if_lt {x off : Int} (tgt : Nat) (hd : decode mi.2.1 pc = .ok (.ifCond .lt off, 3)) (ht : (pc : Int) + off = (tgt : Int)) (ha : mm_r32 x) (kt : x < 0 → mm_G X d mc ms mi Po tgt L st La M ck cs) (kf : 0 ≤ x → mm_G X d mc ms mi Po (pc + 3) L st La M ck cs) : mm_G X d mc ms mi Po pc L (v_i x :: st) La M ck cs := by
  intro p l e R s m args below meth c A ad ty D H locs ls Q hAt hWd hL hK h1 h2
  have hx := hAt.1
  have hb := hAt.2.1
  have hb0 : mm_r32 0 := by decide
  show W p l e R s m args below meth c H locs ck cs Q (F0 m pc ls (.int (Int32.ofInt x) :: st.map (mm_cv ad)))
  exact lv_if_lt hx hb hd ht (fun h => kt ((mm_lt32 ha hb0).mp h) p l e R s m args below meth c A ad ty D H locs ls Q hAt hWd hL hK h1 h2) (fun h => kf (Int.not_lt.mp (fun h3 => h ((mm_lt32 ha hb0).mpr h3))) p l e R s m args below meth c A ad ty D H locs ls Q hAt hWd hL hK h1 h2)
theorem mm_icmp_ge {x y off : Int} (tgt : Nat) (hd : decode mi.2.1 pc = .ok (.if_icmp .ge off, 3)) (ht : (pc : Int) + off = (tgt : Int)) (ha : mm_r32 x) (hb0 : mm_r32 y) (kt : y ≤ x → mm_G X d mc ms mi Po tgt L st La M ck cs) (kf : x < y → mm_G X d mc ms mi Po (pc + 3) L st La M ck cs) : mm_G X d mc ms mi Po pc L (v_i y :: v_i x :: st) La M ck cs := by
  intro p l e R s m args below meth c A ad ty D H locs ls Q hAt hWd hL hK h1 h2
  have hx := hAt.1
  have hb := hAt.2.1
  show W p l e R s m args below meth c H locs ck cs Q (F0 m pc ls (.int (Int32.ofInt y) :: .int (Int32.ofInt x) :: st.map (mm_cv ad)))
  exact lv_icmp_ge hx hb hd ht (fun h => kt ((mm_le32 hb0 ha).mp h) p l e R s m args below meth c A ad ty D H locs ls Q hAt hWd hL hK h1 h2) (fun h => kf (Int.not_le.mp (fun h3 => h ((mm_le32 hb0 ha).mpr h3))) p l e R s m args below meth c A ad ty D H locs ls Q hAt hWd hL hK h1 h2)
theorem mm_if_ge {x off : Int} (tgt : Nat) (hd : decode mi.2.1 pc = .ok (.ifCond .ge off, 3)) (ht : (pc : Int) + off = (tgt : Int)) (ha : mm_r32 x) (kt : 0 ≤ x → mm_G X d mc ms mi Po tgt L st La M ck cs) (kf : x < 0 → mm_G X d mc ms mi Po (pc + 3) L st La M ck cs) : mm_G X d mc ms mi Po pc L (v_i x :: st) La M ck cs := by
  intro p l e R s m args below meth c A ad ty D H locs ls Q hAt hWd hL hK h1 h2
  have hx := hAt.1
  have hb := hAt.2.1
  have hb0 : mm_r32 0 := by decide
  show W p l e R s m args below meth c H locs ck cs Q (F0 m pc ls (.int (Int32.ofInt x) :: st.map (mm_cv ad)))
  exact lv_if_ge hx hb hd ht (fun h => kt ((mm_le32 hb0 ha).mp h) p l e R s m args below meth c A ad ty D H locs ls Q hAt hWd hL hK h1 h2) (fun h => kf (Int.not_le.mp (fun h3 => h ((mm_le32 hb0 ha).mpr h3))) p l e R s m args below meth c A ad ty D H locs ls Q hAt hWd hL hK h1 h2)
theorem mm_icmp_gt {x y off : Int} (tgt : Nat) (hd : decode mi.2.1 pc = .ok (.if_icmp .gt off, 3)) (ht : (pc : Int) + off = (tgt : Int)) (ha : mm_r32 x) (hb0 : mm_r32 y) (kt : y < x → mm_G X d mc ms mi Po tgt L st La M ck cs) (kf : x ≤ y → mm_G X d mc ms mi Po (pc + 3) L st La M ck cs) : mm_G X d mc ms mi Po pc L (v_i y :: v_i x :: st) La M ck cs := by
  intro p l e R s m args below meth c A ad ty D H locs ls Q hAt hWd hL hK h1 h2
  have hx := hAt.1
  have hb := hAt.2.1
  show W p l e R s m args below meth c H locs ck cs Q (F0 m pc ls (.int (Int32.ofInt y) :: .int (Int32.ofInt x) :: st.map (mm_cv ad)))
  exact lv_icmp_gt hx hb hd ht (fun h => kt ((mm_lt32 hb0 ha).mp h) p l e R s m args below meth c A ad ty D H locs ls Q hAt hWd hL hK h1 h2) (fun h => kf (Int.not_lt.mp (fun h3 => h ((mm_lt32 hb0 ha).mpr h3))) p l e R s m args below meth c A ad ty D H locs ls Q hAt hWd hL hK h1 h2)
theorem mm_if_gt {x off : Int} (tgt : Nat) (hd : decode mi.2.1 pc = .ok (.ifCond .gt off, 3)) (ht : (pc : Int) + off = (tgt : Int)) (ha : mm_r32 x) (kt : 0 < x → mm_G X d mc ms mi Po tgt L st La M ck cs) (kf : x ≤ 0 → mm_G X d mc ms mi Po (pc + 3) L st La M ck cs) : mm_G X d mc ms mi Po pc L (v_i x :: st) La M ck cs := by
  intro p l e R s m args below meth c A ad ty D H locs ls Q hAt hWd hL hK h1 h2
  have hx := hAt.1
  have hb := hAt.2.1
  have hb0 : mm_r32 0 := by decide
  show W p l e R s m args below meth c H locs ck cs Q (F0 m pc ls (.int (Int32.ofInt x) :: st.map (mm_cv ad)))
  exact lv_if_gt hx hb hd ht (fun h => kt ((mm_lt32 hb0 ha).mp h) p l e R s m args below meth c A ad ty D H locs ls Q hAt hWd hL hK h1 h2) (fun h => kf (Int.not_lt.mp (fun h3 => h ((mm_lt32 hb0 ha).mpr h3))) p l e R s m args below meth c A ad ty D H locs ls Q hAt hWd hL hK h1 h2)
theorem mm_icmp_le {x y off : Int} (tgt : Nat) (hd : decode mi.2.1 pc = .ok (.if_icmp .le off, 3)) (ht : (pc : Int) + off = (tgt : Int)) (ha : mm_r32 x) (hb0 : mm_r32 y) (kt : x ≤ y → mm_G X d mc ms mi Po tgt L st La M ck cs) (kf : y < x → mm_G X d mc ms mi Po (pc + 3) L st La M ck cs) : mm_G X d mc ms mi Po pc L (v_i y :: v_i x :: st) La M ck cs := by
  intro p l e R s m args below meth c A ad ty D H locs ls Q hAt hWd hL hK h1 h2
  have hx := hAt.1
  have hb := hAt.2.1
  show W p l e R s m args below meth c H locs ck cs Q (F0 m pc ls (.int (Int32.ofInt y) :: .int (Int32.ofInt x) :: st.map (mm_cv ad)))
  exact lv_icmp_le hx hb hd ht (fun h => kt ((mm_le32 ha hb0).mp h) p l e R s m args below meth c A ad ty D H locs ls Q hAt hWd hL hK h1 h2) (fun h => kf (Int.not_le.mp (fun h3 => h ((mm_le32 ha hb0).mpr h3))) p l e R s m args below meth c A ad ty D H locs ls Q hAt hWd hL hK h1 h2)
theorem mm_if_le {x off : Int} (tgt : Nat) (hd : decode mi.2.1 pc = .ok (.ifCond .le off, 3)) (ht : (pc : Int) + off = (tgt : Int)) (ha : mm_r32 x) (kt : x ≤ 0 → mm_G X d mc ms mi Po tgt L st La M ck cs) (kf : 0 < x → mm_G X d mc ms mi Po (pc + 3) L st La M ck cs) : mm_G X d mc ms mi Po pc L (v_i x :: st) La M ck cs := by
  intro p l e R s m args below meth c A ad ty D H locs ls Q hAt hWd hL hK h1 h2
  have hx := hAt.1
  have hb := hAt.2.1
  have hb0 : mm_r32 0 := by decide
  show W p l e R s m args below meth c H locs ck cs Q (F0 m pc ls (.int (Int32.ofInt x) :: st.map (mm_cv ad)))
  exact lv_if_le hx hb hd ht (fun h => kt ((mm_le32 ha hb0).mp h) p l e R s m args below meth c A ad ty D H locs ls Q hAt hWd hL hK h1 h2) (fun h => kf (Int.not_le.mp (fun h3 => h ((mm_le32 ha hb0).mpr h3))) p l e R s m args below meth c A ad ty D H locs ls Q hAt hWd hL hK h1 h2)
theorem mm_tabOut {x dflt lo hi : Int} {offs : Array Int} {len : Nat} (tgt : Nat) (hd : decode mi.2.1 pc = .ok (.tableswitch dflt lo hi offs, len)) (ha : mm_r32 x) (h : x < lo ∨ hi < x) (ht : (pc : Int) + dflt = (tgt : Int)) (k : mm_G X d mc ms mi Po tgt L st La M ck cs) : mm_G X d mc ms mi Po pc L (v_i x :: st) La M ck cs := by
  intro p l e R s m args below meth c A ad ty D H locs ls Q hAt hWd hL hK h1 h2
  have hx := hAt.1
  have hb := hAt.2.1
  have kk := k p l e R s m args below meth c A ad ty D H locs ls Q hAt hWd hL hK h1 h2
  exact lv_tableOut hx hb hd (by rw [mm_o32 ha]; exact h) ht kk
theorem mm_tabIn {x dflt lo hi off : Int} {offs : Array Int} {len : Nat} (tgt : Nat) (hd : decode mi.2.1 pc = .ok (.tableswitch dflt lo hi offs, len)) (ha : mm_r32 x) (h3 : lo ≤ x) (h4 : x ≤ hi) (ho : offs[(x - lo).toNat]? = some off) (ht : (pc : Int) + off = (tgt : Int)) (k : mm_G X d mc ms mi Po tgt L st La M ck cs) : mm_G X d mc ms mi Po pc L (v_i x :: st) La M ck cs := by
  intro p l e R s m args below meth c A ad ty D H locs ls Q hAt hWd hL hK h1 h2
  have hx := hAt.1
  have hb := hAt.2.1
  have kk := k p l e R s m args below meth c A ad ty D H locs ls Q hAt hWd hL hK h1 h2
  exact lv_tableIn hx hb hd (by rw [mm_o32 ha]; omega) (by rw [mm_o32 ha]; omega) (by rw [mm_o32 ha]; exact ho) ht kk
theorem mm_ret (hd : decode mi.2.1 pc = .ok (.return_, 1)) (hr : mi.2.2.2 = none) (h : Po none La M) : mm_G X d mc ms mi Po pc L [] La M ck cs := by
  intro p l e R s m args below meth c A ad ty D H locs ls Q hAt hWd hL hK h1 h2
  have hx := hAt.1
  have hb := hAt.2.1
  exact hK none La M ad H locs ls pc ck cs h ⟨hd, hr⟩ (fun _ _ => rfl) hWd h1 h2
theorem mm_iret {z : Int} (hd : decode mi.2.1 pc = .ok (.ireturn, 1)) (hr : mi.2.2.2 = some .int) (h : Po (some (v_i z)) La M) : mm_G X d mc ms mi Po pc L [v_i z] La M ck cs := by
  intro p l e R s m args below meth c A ad ty D H locs ls Q hAt hWd hL hK h1 h2
  have hx := hAt.1
  have hb := hAt.2.1
  exact hK (some (v_i z)) La M ad H locs ls pc ck cs h ⟨hd, .int, hr, rfl⟩ (fun _ _ => rfl) hWd h1 h2
theorem mm_zret {z : Int} (t : FieldType) (hd : decode mi.2.1 pc = .ok (.ireturn, 1)) (hr : mi.2.2.2 = some t) (hn : narrow t (.int (Int32.ofInt z)) = .int (Int32.ofInt z)) (h : Po (some (v_i z)) La M) : mm_G X d mc ms mi Po pc L [v_i z] La M ck cs := by
  intro p l e R s m args below meth c A ad ty D H locs ls Q hAt hWd hL hK h1 h2
  have hx := hAt.1
  have hb := hAt.2.1
  exact hK (some (v_i z)) La M ad H locs ls pc ck cs h ⟨hd, t, hr, hn⟩ (fun _ _ => rfl) hWd h1 h2
theorem mm_lret {z : Int} (hd : decode mi.2.1 pc = .ok (.lreturn, 1)) (hr : mi.2.2.2 = some .long) (h : Po (some (v_l z)) La M) : mm_G X d mc ms mi Po pc L [v_l z] La M ck cs := by
  intro p l e R s m args below meth c A ad ty D H locs ls Q hAt hWd hL hK h1 h2
  have hx := hAt.1
  have hb := hAt.2.1
  exact hK (some (v_l z)) La M ad H locs ls pc ck cs h ⟨hd, hr⟩ (fun _ _ => rfl) hWd h1 h2
theorem mm_ldc {i : Nat} {z : Int} (hd : decode mi.2.1 pc = .ok (.ldc i, 2)) (w : Cond.constant mi.1.cls i (Int32.ofInt z) ∈ mm_tbl) (k : mm_G X d mc ms mi Po (pc + 2) L (v_i (z) :: st) La M ck cs) : mm_G X d mc ms mi Po pc L (st) La M ck cs := by
  intro p l e R s m args below meth c A ad ty D H locs ls Q hAt hWd hL hK h1 h2
  have hx := hAt.1
  have hb := hAt.2.1
  have kk := k p l e R s m args below meth c A ad ty D H locs ls Q hAt hWd hL hK h1 h2
  change W p l e R s m args below meth c H locs ck cs Q (F0 m (pc + 2) ls (.int (Int32.ofInt (z)) :: st.map (mm_cv ad))) at kk
  show W p l e R s m args below meth c H locs ck cs Q (F0 m pc ls (st.map (mm_cv ad)))
  exact lv_ldc hx hb hAt.2.2.2.1 (hAt.2.2.2.2.1 _ w) hd kk
theorem mm_ldcw {i : Nat} {z : Int} (hd : decode mi.2.1 pc = .ok (.ldc_w i, 3)) (w : Cond.constant mi.1.cls i (Int32.ofInt z) ∈ mm_tbl) (k : mm_G X d mc ms mi Po (pc + 3) L (v_i (z) :: st) La M ck cs) : mm_G X d mc ms mi Po pc L (st) La M ck cs := by
  intro p l e R s m args below meth c A ad ty D H locs ls Q hAt hWd hL hK h1 h2
  have hx := hAt.1
  have hb := hAt.2.1
  have kk := k p l e R s m args below meth c A ad ty D H locs ls Q hAt hWd hL hK h1 h2
  change W p l e R s m args below meth c H locs ck cs Q (F0 m (pc + 3) ls (.int (Int32.ofInt (z)) :: st.map (mm_cv ad))) at kk
  show W p l e R s m args below meth c H locs ck cs Q (F0 m pc ls (st.map (mm_cv ad)))
  exact lv_ldcw hx hb hAt.2.2.2.1 (hAt.2.2.2.2.1 _ w) hd kk
theorem mm_ldc2 {i : Nat} {z : Int} (hd : decode mi.2.1 pc = .ok (.ldc2_w i, 3)) (w : Cond.constantLong mi.1.cls i (Int64.ofInt z) ∈ mm_tbl) (k : mm_G X d mc ms mi Po (pc + 3) L (v_l (z) :: st) La M ck cs) : mm_G X d mc ms mi Po pc L (st) La M ck cs := by
  intro p l e R s m args below meth c A ad ty D H locs ls Q hAt hWd hL hK h1 h2
  have hx := hAt.1
  have hb := hAt.2.1
  have kk := k p l e R s m args below meth c A ad ty D H locs ls Q hAt hWd hL hK h1 h2
  change W p l e R s m args below meth c H locs ck cs Q (F0 m (pc + 3) ls (.long (Int64.ofInt (z)) :: st.map (mm_cv ad))) at kk
  show W p l e R s m args below meth c H locs ck cs Q (F0 m pc ls (st.map (mm_cv ad)))
  exact lv_ldc2 hx hb hAt.2.2.2.1 (hAt.2.2.2.2.1 _ w) hd kk
end MMR
end
section
section MMH
variable {X : Nat × (Nat → Int)} {d mc ms : Nat} {mi : mm_Mi} {Po : mm_Po} {pc : Nat} {L : List (Nat × mm_V)} {st : List mm_V} {La : List mm_S} {M : mm_M} {ck cs : Nat}
theorem mm_fs_at {ad : Nat → Nat} {f : Nat → Int} {fs : List mm_V} {k : Nat} {v : mm_V} (h : fs[k]? = some v) : (fs.mapIdx (mm_fv ad f))[k]? = some (mm_fv ad f k v) := by
  simp [List.getElem?_mapIdx, h]
theorem mm_getI {idx b ci N k : Nat} {C : String} {T : u_T} {fs : List mm_V} {z : Int} (hd : decode mi.2.1 pc = .ok (.getfield idx, 3)) (hc : vwCl[ci]? = some (C, T, N)) (hin : ∀ w ∈ u_ws C T N, w ∈ mm_tbl) (hk : k < N) (w : Cond.fieldLink mi.1.cls idx (T k).1 (T k).2.1 (T k).2.2.1 ∈ mm_tbl) (hb : La[b]? = some (.inr (ci, fs))) (hf : fs[k]? = some (v_i z)) (K : mm_G X d mc ms mi Po (pc + 3) L (v_i (M b k) :: st) La M ck cs) : mm_G X d mc ms mi Po pc L (v_r b :: st) La M ck cs := by
  intro p l e R s m args below meth c A ad ty D H locs ls Q hAt hWd hL hK h1 h2
  have kk := K p l e R s m args below meth c A ad ty D H locs ls Q hAt hWd hL hK h1 h2
  exact va_get hAt.1 hAt.2.1 hAt.2.2.2.2.1 hin hAt.2.2.2.1 hAt.2.2.2.2.2.2.2.1 hWd.1 b (mm_ws_at hb) hc k hk (hAt.2.2.2.2.1 _ w) (fun _ h => h) (mm_fs_at hf) hd kk
theorem mm_getL {idx b ci N k : Nat} {C : String} {T : u_T} {fs : List mm_V} {z : Int} (hd : decode mi.2.1 pc = .ok (.getfield idx, 3)) (hc : vwCl[ci]? = some (C, T, N)) (hin : ∀ w ∈ u_ws C T N, w ∈ mm_tbl) (hk : k < N) (w : Cond.fieldLink mi.1.cls idx (T k).1 (T k).2.1 (T k).2.2.1 ∈ mm_tbl) (hb : La[b]? = some (.inr (ci, fs))) (hf : fs[k]? = some (v_l z)) (K : mm_G X d mc ms mi Po (pc + 3) L (v_l (M b k) :: st) La M ck cs) : mm_G X d mc ms mi Po pc L (v_r b :: st) La M ck cs := by
  intro p l e R s m args below meth c A ad ty D H locs ls Q hAt hWd hL hK h1 h2
  have kk := K p l e R s m args below meth c A ad ty D H locs ls Q hAt hWd hL hK h1 h2
  exact va_get hAt.1 hAt.2.1 hAt.2.2.2.2.1 hin hAt.2.2.2.1 hAt.2.2.2.2.2.2.2.1 hWd.1 b (mm_ws_at hb) hc k hk (hAt.2.2.2.2.1 _ w) (fun _ h => h) (mm_fs_at hf) hd kk
theorem mm_getR {idx b ci N k a : Nat} {C : String} {T : u_T} {fs : List mm_V} (hd : decode mi.2.1 pc = .ok (.getfield idx, 3)) (hc : vwCl[ci]? = some (C, T, N)) (hin : ∀ w ∈ u_ws C T N, w ∈ mm_tbl) (hk : k < N) (w : Cond.fieldLink mi.1.cls idx (T k).1 (T k).2.1 (T k).2.2.1 ∈ mm_tbl) (hb : La[b]? = some (.inr (ci, fs))) (hf : fs[k]? = some (v_r a)) (K : mm_G X d mc ms mi Po (pc + 3) L (v_r a :: st) La M ck cs) : mm_G X d mc ms mi Po pc L (v_r b :: st) La M ck cs := by
  intro p l e R s m args below meth c A ad ty D H locs ls Q hAt hWd hL hK h1 h2
  have kk := K p l e R s m args below meth c A ad ty D H locs ls Q hAt hWd hL hK h1 h2
  exact va_get hAt.1 hAt.2.1 hAt.2.2.2.2.1 hin hAt.2.2.2.1 hAt.2.2.2.2.2.2.2.1 hWd.1 b (mm_ws_at hb) hc k hk (hAt.2.2.2.2.1 _ w) (fun _ h => h) (mm_fs_at hf) hd kk
theorem mm_fs_up {ad : Nat → Nat} {M : mm_M} {b k : Nat} {v : Int} {fs : List mm_V} {q : mm_V} {w : Value} (h : fs[k]? = some q) (hw : w = mm_fv ad (mm_up M b k v b) k q) : (fs.mapIdx (mm_fv ad (M b))).set k w = fs.mapIdx (mm_fv ad (mm_up M b k v b)) := by
  have hk : k < fs.length := (List.getElem?_eq_some_iff.mp h).1
  apply List.ext_getElem?
  intro j
  by_cases hj : j = k
  · subst hj
    rw [List.getElem?_set_self (by simpa using hk), mm_fs_at h, hw]
  · rw [List.getElem?_set_ne (Ne.symm hj)]
    simp only [List.getElem?_mapIdx]
    congr 1
    funext x
    rcases x with x | x | _ | a <;> simp only [mm_fv, mm_up_k hj]
theorem mm_putI {idx b ci N k : Nat} {C : String} {T : u_T} {fs : List mm_V} {z x : Int} {ty0 : Nat → FieldType} (hd : decode mi.2.1 pc = .ok (.putfield idx, 3)) (hc : vwCl[ci]? = some (C, T, N)) (hin : ∀ w ∈ u_ws C T N, w ∈ mm_tbl) (hty : ∀ k, k < N → parseFieldDescriptor (T k).2.2.1 = some (ty0 k)) (hnm : ∀ a, a < N → ∀ b, b < N → a ≠ b → (T a).2.1 ≠ (T b).2.1) (hk : k < N) (w : Cond.fieldLink mi.1.cls idx (T k).1 (T k).2.1 (T k).2.2.1 ∈ mm_tbl) (hfin : (T k).2.2.2 = false) (ht : ty0 k = .int) (hb : La[b]? = some (.inr (ci, fs))) (hf : fs[k]? = some (v_i z)) (K : mm_G X d mc ms mi Po (pc + 3) L st La (mm_up M b k x) ck cs) : mm_G X d mc ms mi Po pc L (v_i x :: v_r b :: st) La M ck cs := by
  intro p l e R s m args below meth c A ad ty D H locs ls Q hAt hWd hL hK h1 h2
  refine va_put (v := .int (Int32.ofInt x)) (ty := .int) hAt.1 hAt.2.1 hAt.2.2.2.2.1 hin ty0 hty hnm hAt.2.2.2.1 hAt.2.2.2.2.2.2.2.1 hWd.1 hWd.2.1 hWd.2.2 b (mm_ws_at hb) hc k hk (hAt.2.2.2.2.1 _ w) (fun _ h => h) hfin (by rw [hty k hk, ht]) rfl rfl (by simpa using (List.getElem?_eq_some_iff.mp hf).1) hd (fun H1 locs1 hP hD hS => ?_)
  rw [mm_fs_up (v := x) hf (by simp only [mm_fv, mm_up_eq])] at hP hD
  have hP : va_P D vwCl (mm_ws ty ad La (mm_up M b k x)) H1 := by rw [← mm_ws_up (k := k) (v := x) hb]; exact hP
  have hD : va_D A (mm_ws ty ad La (mm_up M b k x)) := by rw [← mm_ws_up (k := k) (v := x) hb]; exact hD
  exact K p l e R s m args below meth c A ad ty D H1 locs1 ls Q hAt ⟨hP, hD, hS⟩ hL hK h1 h2
theorem mm_putL {idx b ci N k : Nat} {C : String} {T : u_T} {fs : List mm_V} {z x : Int} {ty0 : Nat → FieldType} (hd : decode mi.2.1 pc = .ok (.putfield idx, 3)) (hc : vwCl[ci]? = some (C, T, N)) (hin : ∀ w ∈ u_ws C T N, w ∈ mm_tbl) (hty : ∀ k, k < N → parseFieldDescriptor (T k).2.2.1 = some (ty0 k)) (hnm : ∀ a, a < N → ∀ b, b < N → a ≠ b → (T a).2.1 ≠ (T b).2.1) (hk : k < N) (w : Cond.fieldLink mi.1.cls idx (T k).1 (T k).2.1 (T k).2.2.1 ∈ mm_tbl) (hfin : (T k).2.2.2 = false) (ht : ty0 k = .long) (hb : La[b]? = some (.inr (ci, fs))) (hf : fs[k]? = some (v_l z)) (K : mm_G X d mc ms mi Po (pc + 3) L st La (mm_up M b k x) ck cs) : mm_G X d mc ms mi Po pc L (v_l x :: v_r b :: st) La M ck cs := by
  intro p l e R s m args below meth c A ad ty D H locs ls Q hAt hWd hL hK h1 h2
  refine va_put (v := .long (Int64.ofInt x)) (ty := .long) hAt.1 hAt.2.1 hAt.2.2.2.2.1 hin ty0 hty hnm hAt.2.2.2.1 hAt.2.2.2.2.2.2.2.1 hWd.1 hWd.2.1 hWd.2.2 b (mm_ws_at hb) hc k hk (hAt.2.2.2.2.1 _ w) (fun _ h => h) hfin (by rw [hty k hk, ht]) rfl rfl (by simpa using (List.getElem?_eq_some_iff.mp hf).1) hd (fun H1 locs1 hP hD hS => ?_)
  rw [mm_fs_up (v := x) hf (by simp only [mm_fv, mm_up_eq])] at hP hD
  have hP : va_P D vwCl (mm_ws ty ad La (mm_up M b k x)) H1 := by rw [← mm_ws_up (k := k) (v := x) hb]; exact hP
  have hD : va_D A (mm_ws ty ad La (mm_up M b k x)) := by rw [← mm_ws_up (k := k) (v := x) hb]; exact hD
  exact K p l e R s m args below meth c A ad ty D H1 locs1 ls Q hAt ⟨hP, hD, hS⟩ hL hK h1 h2
/-- a final field of references, in a constructor -/
theorem mm_ws_ref {ty : FieldType → ClassId} {ad : Nat → Nat} {M : mm_M} {b k ci a : Nat} {fs : List mm_V} (hb : La[b]? = some (.inr (ci, fs))) (hk : k < fs.length) :
    (mm_ws ty ad La M).set b (ad b, .inr (ci, (fs.mapIdx (mm_fv ad (M b))).set k (.ref (ad a)))) = mm_ws ty ad (La.set b (.inr (ci, fs.set k (v_r a)))) M := by
  have hi : b < La.length := (List.getElem?_eq_some_iff.mp hb).1
  apply List.ext_getElem?
  intro j
  by_cases hj : j = b
  · subst hj
    rw [List.getElem?_set_self (by simpa [mm_ws] using hi), mm_ws_at (List.getElem?_set_self hi)]
    have e : (fs.mapIdx (mm_fv ad (M j))).set k (.ref (ad a)) = (fs.set k (v_r a)).mapIdx (mm_fv ad (M j)) := by
      apply List.ext_getElem?
      intro i
      by_cases hik : i = k
      · subst hik
        rw [List.getElem?_set_self (by simpa using hk), mm_fs_at (List.getElem?_set_self hk)]
        rfl
      · rw [List.getElem?_set_ne (Ne.symm hik)]
        simp only [List.getElem?_mapIdx, List.getElem?_set_ne (Ne.symm hik)]
    rw [e]
    rfl
  · rw [List.getElem?_set_ne (Ne.symm hj)]
    simp only [mm_ws, List.getElem?_mapIdx, List.getElem?_set_ne (Ne.symm hj)]
theorem mm_putR {idx b ci N k a : Nat} {C : String} {T : u_T} {fs : List mm_V} {ty0 : Nat → FieldType} {La' : List mm_S} (hd : decode mi.2.1 pc = .ok (.putfield idx, 3)) (hc : vwCl[ci]? = some (C, T, N)) (hin : ∀ w ∈ u_ws C T N, w ∈ mm_tbl) (hty : ∀ k, k < N → parseFieldDescriptor (T k).2.2.1 = some (ty0 k)) (hnm : ∀ a, a < N → ∀ b, b < N → a ≠ b → (T a).2.1 ≠ (T b).2.1) (hk : k < N) (w : Cond.fieldLink mi.1.cls idx (T k).1 (T k).2.1 (T k).2.2.1 ∈ mm_tbl) (hfin : (T k).2.2.2 = true) (hinit : mi.1.name = "<init>") (hdecl : (T k).1 = mi.1.cls) (hn : ∀ q : Nat, narrow (ty0 k) (.ref q) = .ref q) (hfit : ∀ q : Nat, fits (ty0 k) (.ref q) = true) (hb : La[b]? = some (.inr (ci, fs))) (hf : k < fs.length) (hL' : La.set b (.inr (ci, fs.set k (v_r a))) = La') (K : mm_G X d mc ms mi Po (pc + 3) L st La' M ck cs) : mm_G X d mc ms mi Po pc L (v_r a :: v_r b :: st) La M ck cs := by
  intro p l e R s m args below meth c A ad ty D H locs ls Q hAt hWd hL hK h1 h2
  subst hL'
  refine va_putF (v := .ref (ad a)) (ty := ty0 k) hAt.1 hAt.2.1 hAt.2.2.2.2.1 hin ty0 hty hnm hAt.2.2.2.1 hAt.2.2.2.2.2.2.2.1 hWd.1 hWd.2.1 hWd.2.2 b (mm_ws_at hb) hc k hk (hAt.2.2.2.2.1 _ w) (fun _ h => h) hfin (hAt.2.2.2.2.2.2.2.2.2 hinit) hdecl (hty k hk) (hn _) (hfit _) (by simpa using hf) hd (fun H1 locs1 hP hD hS => ?_)
  rw [mm_ws_ref hb hf] at hP hD
  exact K p l e R s m args below meth c A ad ty D H1 locs1 ls Q hAt ⟨hP, hD, hS⟩ hL (fun r La' M' ad' H' locs' ls' pc' ck' cs' q1 q2 q3 => hK r La' M' ad' H' locs' ls' pc' ck' cs' q1 q2 (fun i hi => q3 i (by rw [List.length_set]; exact hi))) h1 h2
/-! arrays -/
theorem mm_iald {b n : Nat} {j : Int} (hd : decode mi.2.1 pc = .ok (.iaload, 1)) (hb : La[b]? = some (.inl (.int, n))) (h0 : 0 ≤ j) (h3 : j < n) (hn : n < 2147483648) (K : mm_G X d mc ms mi Po (pc + 1) L (v_i (M b j.toNat) :: st) La M ck cs) : mm_G X d mc ms mi Po pc L (v_i j :: v_r b :: st) La M ck cs := by
  intro p l e R s m args below meth c A ad ty D H locs ls Q hAt hWd hL hK h1 h2
  have kk := K p l e R s m args below meth c A ad ty D H locs ls Q hAt hWd hL hK h1 h2
  obtain ⟨q1, q2⟩ := mm_ix h0 h3 hn
  refine va_iald (f := fun j => Int32.ofInt (M b j)) hAt.1 hAt.2.1 hAt.2.2.2.2.2.2.2.1 hWd.1 b 0 (mm_ws_at hb) rfl q1 hd ?_
  rw [q2]
  exact kk
theorem mm_zald {b n : Nat} {j : Int} (hd : decode mi.2.1 pc = .ok (.baload, 1)) (hb : La[b]? = some (.inl (.boolean, n))) (h0 : 0 ≤ j) (h3 : j < n) (hn : n < 2147483648) (K : mm_G X d mc ms mi Po (pc + 1) L (v_i (M b j.toNat) :: st) La M ck cs) : mm_G X d mc ms mi Po pc L (v_i j :: v_r b :: st) La M ck cs := by
  intro p l e R s m args below meth c A ad ty D H locs ls Q hAt hWd hL hK h1 h2
  have kk := K p l e R s m args below meth c A ad ty D H locs ls Q hAt hWd hL hK h1 h2
  obtain ⟨q1, q2⟩ := mm_ix h0 h3 hn
  refine va_zald (f := fun j => Int32.ofInt (M b j)) hAt.1 hAt.2.1 hAt.2.2.2.2.2.2.2.1 hWd.1 b 2 (mm_ws_at hb) rfl q1 hd ?_
  rw [q2]
  exact kk
theorem mm_lald {b n : Nat} {j : Int} (hd : decode mi.2.1 pc = .ok (.laload, 1)) (hb : La[b]? = some (.inl (.long, n))) (h0 : 0 ≤ j) (h3 : j < n) (hn : n < 2147483648) (K : mm_G X d mc ms mi Po (pc + 1) L (v_l (M b j.toNat) :: st) La M ck cs) : mm_G X d mc ms mi Po pc L (v_i j :: v_r b :: st) La M ck cs := by
  intro p l e R s m args below meth c A ad ty D H locs ls Q hAt hWd hL hK h1 h2
  have kk := K p l e R s m args below meth c A ad ty D H locs ls Q hAt hWd hL hK h1 h2
  obtain ⟨q1, q2⟩ := mm_ix h0 h3 hn
  refine va_lald (f := fun j => Int64.ofInt (M b j)) hAt.1 hAt.2.1 hAt.2.2.2.2.2.2.2.1 hWd.1 b 1 (mm_ws_at hb) rfl q1 hd ?_
  rw [q2]
  exact kk
theorem mm_arr_i {ty : FieldType → ClassId} {ad : Nat → Nat} {b n k : Nat} {x : Int} : (Sum.inl (ty .int, n, .inl (upd (fun j => Int32.ofInt (M b j)) k (Int32.ofInt x))) : va_E) = mm_ce ty ad (mm_up M b k x b) (.inl (.int, n)) := by
  have e : upd (fun j => Int32.ofInt (M b j)) k (Int32.ofInt x) = fun j => Int32.ofInt (mm_up M b k x b j) := by
    funext j
    by_cases hj : j = k
    · subst hj; simp [upd, mm_up]
    · simp [upd, mm_up, hj]
  rw [e]; rfl
theorem mm_arr_z {ty : FieldType → ClassId} {ad : Nat → Nat} {b n k : Nat} {x : Int} : (Sum.inl (ty .boolean, n, .inl (upd (fun j => Int32.ofInt (M b j)) k (Int32.ofInt x))) : va_E) = mm_ce ty ad (mm_up M b k x b) (.inl (.boolean, n)) := by
  have e : upd (fun j => Int32.ofInt (M b j)) k (Int32.ofInt x) = fun j => Int32.ofInt (mm_up M b k x b j) := by
    funext j
    by_cases hj : j = k
    · subst hj; simp [upd, mm_up]
    · simp [upd, mm_up, hj]
  rw [e]; rfl
theorem mm_arr_l {ty : FieldType → ClassId} {ad : Nat → Nat} {b n k : Nat} {x : Int} : (Sum.inl (ty .long, n, .inr (.inl (vp_updL (fun j => Int64.ofInt (M b j)) k (Int64.ofInt x)))) : va_E) = mm_ce ty ad (mm_up M b k x b) (.inl (.long, n)) := by
  have e : vp_updL (fun j => Int64.ofInt (M b j)) k (Int64.ofInt x) = fun j => Int64.ofInt (mm_up M b k x b j) := by
    funext j
    by_cases hj : j = k
    · subst hj; simp [vp_updL, mm_up]
    · simp [vp_updL, mm_up, hj]
  rw [e]; rfl
theorem mm_iast {b n : Nat} {j x : Int} (hd : decode mi.2.1 pc = .ok (.iastore, 1)) (hb : La[b]? = some (.inl (.int, n))) (h0 : 0 ≤ j) (h3 : j < n) (hn : n < 2147483648) (K : mm_G X d mc ms mi Po (pc + 1) L st La (mm_up M b j.toNat x) ck cs) : mm_G X d mc ms mi Po pc L (v_i x :: v_i j :: v_r b :: st) La M ck cs := by
  intro p l e R s m args below meth c A ad ty D H locs ls Q hAt hWd hL hK h1 h2
  obtain ⟨q1, q2⟩ := mm_ix h0 h3 hn
  refine va_iast (f := fun j => Int32.ofInt (M b j)) hAt.1 hAt.2.1 hAt.2.2.2.2.2.2.2.1 hWd.1 hWd.2.1 hWd.2.2 b 0 (mm_ws_at hb) rfl q1 hd (fun H1 locs1 hP hD hS => ?_)
  rw [q2, mm_ws_set hb mm_arr_i] at hP hD
  exact K p l e R s m args below meth c A ad ty D H1 locs1 ls Q hAt ⟨hP, hD, hS⟩ hL hK h1 h2
theorem mm_last {b n : Nat} {j x : Int} (hd : decode mi.2.1 pc = .ok (.lastore, 1)) (hb : La[b]? = some (.inl (.long, n))) (h0 : 0 ≤ j) (h3 : j < n) (hn : n < 2147483648) (K : mm_G X d mc ms mi Po (pc + 1) L st La (mm_up M b j.toNat x) ck cs) : mm_G X d mc ms mi Po pc L (v_l x :: v_i j :: v_r b :: st) La M ck cs := by
  intro p l e R s m args below meth c A ad ty D H locs ls Q hAt hWd hL hK h1 h2
  obtain ⟨q1, q2⟩ := mm_ix h0 h3 hn
  refine va_last (f := fun j => Int64.ofInt (M b j)) hAt.1 hAt.2.1 hAt.2.2.2.2.2.2.2.1 hWd.1 hWd.2.1 hWd.2.2 b 1 (mm_ws_at hb) rfl q1 hd (fun H1 locs1 hP hD hS => ?_)
  rw [q2, mm_ws_set hb mm_arr_l] at hP hD
  exact K p l e R s m args below meth c A ad ty D H1 locs1 ls Q hAt ⟨hP, hD, hS⟩ hL hK h1 h2
theorem mm_zast {b n : Nat} {j x : Int} (hd : decode mi.2.1 pc = .ok (.bastore, 1)) (hb : La[b]? = some (.inl (.boolean, n))) (h0 : 0 ≤ j) (h3 : j < n) (hn : n < 2147483648) (hz : x = 0 ∨ x = 1) (K : mm_G X d mc ms mi Po (pc + 1) L st La (mm_up M b j.toNat x) ck cs) : mm_G X d mc ms mi Po pc L (v_i x :: v_i j :: v_r b :: st) La M ck cs := by
  intro p l e R s m args below meth c A ad ty D H locs ls Q hAt hWd hL hK h1 h2
  obtain ⟨q1, q2⟩ := mm_ix h0 h3 hn
  have q3 : vp_nar .boolean (Int32.ofInt x) = Int32.ofInt x := by rcases hz with rfl | rfl <;> rfl
  refine va_zast (f := fun j => Int32.ofInt (M b j)) hAt.1 hAt.2.1 hAt.2.2.2.2.2.2.2.1 hWd.1 hWd.2.1 hWd.2.2 b 2 (mm_ws_at hb) rfl q1 hd (fun H1 locs1 hP hD hS => ?_)
  rw [q2, q3, mm_ws_set hb mm_arr_z] at hP hD
  exact K p l e R s m args below meth c A ad ty D H1 locs1 ls Q hAt ⟨hP, hD, hS⟩ hL hK h1 h2
theorem mm_alen {b n : Nat} {t : FieldType} (hd : decode mi.2.1 pc = .ok (.arraylength, 1)) (hb : La[b]? = some (.inl (t, n))) (ht : t = .int ∨ t = .long ∨ t = .boolean) (K : mm_G X d mc ms mi Po (pc + 1) L (v_i (n : Int) :: st) La M ck cs) : mm_G X d mc ms mi Po pc L (v_r b :: st) La M ck cs := by
  intro p l e R s m args below meth c A ad ty D H locs ls Q hAt hWd hL hK h1 h2
  have kk := K p l e R s m args below meth c A ad ty D H locs ls Q hAt hWd hL hK h1 h2
  rcases ht with rfl | rfl | rfl
  · exact va_alen hAt.1 hAt.2.1 hAt.2.2.2.2.2.2.2.1 hWd.1 b 0 (mm_ws_at hb) rfl rfl hd kk
  · exact va_alen hAt.1 hAt.2.1 hAt.2.2.2.2.2.2.2.1 hWd.1 b 1 (mm_ws_at hb) rfl rfl hd kk
  · exact va_alen hAt.1 hAt.2.1 hAt.2.2.2.2.2.2.2.1 hWd.1 b 2 (mm_ws_at hb) rfl rfl hd kk
/-! what nobody writes -/
theorem mm_getS0 {idx : Nat} (hd : decode mi.2.1 pc = .ok (.getstatic idx, 3)) (w : Cond.fieldLink mi.1.cls idx RX0 "SEATS" "[I" ∈ mm_tbl) (K : mm_G X d mc ms mi Po (pc + 3) L (v_r 1000 :: st) La M ck cs) : mm_G X d mc ms mi Po pc L st La M ck cs := by
  intro p l e R s m args below meth c A ad ty D H locs ls Q hAt hWd hL hK h1 h2
  have kk := K p l e R s m args below meth c A ad ty D H locs ls Q hAt hWd hL hK h1 h2
  exact va_gets hAt.1 hAt.2.1 hAt.2.2.2.2.2.2.1.1.2 hWd.2.2 hAt.2.2.2.1 (hAt.2.2.2.2.1 _ w) (fun _ h => h) hd kk
theorem mm_getS1 {idx : Nat} (hd : decode mi.2.1 pc = .ok (.getstatic idx, 3)) (w : Cond.fieldLink mi.1.cls idx RX0 "DISLIKES" "[I" ∈ mm_tbl) (K : mm_G X d mc ms mi Po (pc + 3) L (v_r 1001 :: st) La M ck cs) : mm_G X d mc ms mi Po pc L st La M ck cs := by
  intro p l e R s m args below meth c A ad ty D H locs ls Q hAt hWd hL hK h1 h2
  have kk := K p l e R s m args below meth c A ad ty D H locs ls Q hAt hWd hL hK h1 h2
  exact va_gets hAt.1 hAt.2.1 hAt.2.2.2.2.2.2.1.2.1.2 hWd.2.2 hAt.2.2.2.1 (hAt.2.2.2.2.1 _ w) (fun _ h => h) hd kk
theorem mm_getS2 {idx : Nat} (hd : decode mi.2.1 pc = .ok (.getstatic idx, 3)) (w : Cond.fieldLink mi.1.cls idx RJ0 "COMPACT_STRINGS" "Z" ∈ mm_tbl) (K : mm_G X d mc ms mi Po (pc + 3) L (v_i 1 :: st) La M ck cs) : mm_G X d mc ms mi Po pc L st La M ck cs := by
  intro p l e R s m args below meth c A ad ty D H locs ls Q hAt hWd hL hK h1 h2
  have kk := K p l e R s m args below meth c A ad ty D H locs ls Q hAt hWd hL hK h1 h2
  exact va_gets hAt.1 hAt.2.1 hAt.2.2.2.2.2.2.1.2.2.1 hWd.2.2 hAt.2.2.2.1 (hAt.2.2.2.2.1 _ w) (fun _ h => h) hd kk
theorem mm_ald0 {j : Int} (hd : decode mi.2.1 pc = .ok (.iaload, 1)) (h0 : 0 ≤ j) (h3 : j < 5) (K : mm_G X d mc ms mi Po (pc + 1) L (v_i (mm_seats j.toNat) :: st) La M ck cs) : mm_G X d mc ms mi Po pc L (v_i j :: v_r 1000 :: st) La M ck cs := by
  intro p l e R s m args below meth c A ad ty D H locs ls Q hAt hWd hL hK h1 h2
  have kk := K p l e R s m args below meth c A ad ty D H locs ls Q hAt hWd hL hK h1 h2
  obtain ⟨q1, q2⟩ := mm_ix (n := 5) h0 (by omega) (by omega)
  exact va_ti hAt.1 hAt.2.1 hAt.2.2.2.2.2.2.1.1.1 hWd.2.2 q1 (by rw [q2]; rfl) hd kk
theorem mm_ald1 {j : Int} (hd : decode mi.2.1 pc = .ok (.iaload, 1)) (h0 : 0 ≤ j) (h3 : j < 15) (K : mm_G X d mc ms mi Po (pc + 1) L (v_i (mm_disl j.toNat) :: st) La M ck cs) : mm_G X d mc ms mi Po pc L (v_i j :: v_r 1001 :: st) La M ck cs := by
  intro p l e R s m args below meth c A ad ty D H locs ls Q hAt hWd hL hK h1 h2
  have kk := K p l e R s m args below meth c A ad ty D H locs ls Q hAt hWd hL hK h1 h2
  obtain ⟨q1, q2⟩ := mm_ix (n := 15) h0 (by omega) (by omega)
  exact va_ti hAt.1 hAt.2.1 hAt.2.2.2.2.2.2.1.2.1.1 hWd.2.2 q1 (by rw [q2]; rfl) hd kk
theorem mm_aldX {j : Int} (hd : decode mi.2.1 pc = .ok (.iaload, 1)) (h0 : 0 ≤ j) (h3 : j < X.1) (hn : X.1 < 2147483648) (K : mm_G X d mc ms mi Po (pc + 1) L (v_i (X.2 j.toNat) :: st) La M ck cs) : mm_G X d mc ms mi Po pc L (v_i j :: v_r 1012 :: st) La M ck cs := by
  intro p l e R s m args below meth c A ad ty D H locs ls Q hAt hWd hL hK h1 h2
  have kk := K p l e R s m args below meth c A ad ty D H locs ls Q hAt hWd hL hK h1 h2
  obtain ⟨q1, q2⟩ := mm_ix h0 h3 hn
  exact va_ti hAt.1 hAt.2.1 hAt.2.2.2.2.2.2.1.2.2.2.2.2.1 hWd.2.2 q1 (by rw [q2]; rfl) hd kk
theorem mm_alenT {t : FieldType} {q N : Nat} {f : (Nat → Nat) → Nat → Value} (hT : ∀ (ad : Nat → Nat) (A : Nat → Prop) (U : State) (H : Heap), mm_RO X ad A U H → va_T t (ad q) N (f ad) A U H) (hd : decode mi.2.1 pc = .ok (.arraylength, 1)) (K : mm_G X d mc ms mi Po (pc + 1) L (v_i (N : Int) :: st) La M ck cs) : mm_G X d mc ms mi Po pc L (v_r q :: st) La M ck cs := by
  intro p l e R s m args below meth c A ad ty D H locs ls Q hAt hWd hL hK h1 h2
  have kk := K p l e R s m args below meth c A ad ty D H locs ls Q hAt hWd hL hK h1 h2
  obtain ⟨cell, g1, g2, g3, g4, g5, g6, g7⟩ := hT ad A s s.heap hAt.2.2.2.2.2.2.1
  exact W.alen (n := Int32.ofNat N) hAt.1 hAt.2.1 (by rw [hWd.2.2.2.1 _ (Array.getElem?_eq_some_iff.mp g1).1 g7]; exact g1) g2 g5 rfl rfl hd kk
theorem mm_alenX (hd : decode mi.2.1 pc = .ok (.arraylength, 1)) (K : mm_G X d mc ms mi Po (pc + 1) L (v_i (X.1 : Int) :: st) La M ck cs) : mm_G X d mc ms mi Po pc L (v_r 1012 :: st) La M ck cs :=
  mm_alenT (fun ad A U H h => h.2.2.2.2.2.1) hd K
/-- a text's bytes -/
theorem mm_sval {i n : Nat} (hn : mm_slen[i]? = some n) : ∀ (ad : Nat → Nat) (A : Nat → Prop) (U : State) (H : Heap), mm_RO X ad A U H → va_T .byte (ad (1007 + i)) n (fun j => .int ((mm_sbyt.getD i []).getD j 0)) A U H := by
  intro ad A U H h
  have hi : i < 5 := by have := (List.getElem?_eq_some_iff.mp hn).1; exact this
  have h2 := (h.2.2.2.1.1 i hi).2.2.2
  have e : mm_slen.getD i 0 = n := by simp [List.getD, hn]
  rw [e] at h2
  exact h2
theorem mm_ldcS {i k : Nat} {tx : String} {bs : List Int} (hd : decode mi.2.1 pc = .ok (.ldc k, 2)) (ho : mi.1.cls = RX7) (hi : mm_str[i]? = some (k, tx, bs)) (K : mm_G X d mc ms mi Po (pc + 2) L (v_r (1002 + i) :: st) La M ck cs) : mm_G X d mc ms mi Po pc L st La M ck cs := by
  intro p l e R s m args below meth c A ad ty D H locs ls Q hAt hWd hL hK h1 h2
  have kk := K p l e R s m args below meth c A ad ty D H locs ls Q hAt hWd hL hK h1 h2
  exact va_ldcS (own := RX7) hAt.1 hAt.2.1 (by rw [← ho]; exact hAt.2.2.2.1) (hAt.2.2.2.2.2.2.1.2.2.2.2.1 i _ hi) hd kk
theorem mm_getC {idx i : Nat} (hi : i < 5) (hd : decode mi.2.1 pc = .ok (.getfield idx, 3)) (w : Cond.fieldLink mi.1.cls idx RJ0 "coder" "B" ∈ mm_tbl) (K : mm_G X d mc ms mi Po (pc + 3) L (v_i 0 :: st) La M ck cs) : mm_G X d mc ms mi Po pc L (v_r (1002 + i) :: st) La M ck cs := by
  intro p l e R s m args below meth c A ad ty D H locs ls Q hAt hWd hL hK h1 h2
  have kk := K p l e R s m args below meth c A ad ty D H locs ls Q hAt hWd hL hK h1 h2
  exact vk_getf hAt.1 hAt.2.1 (hAt.2.2.2.2.2.2.1.2.2.2.1.1 i hi).2.1 hWd.2.2 hAt.2.2.2.1 (hAt.2.2.2.2.1 _ w) (fun _ h => h) hd kk
theorem mm_getV {idx i : Nat} (hi : i < 5) (hd : decode mi.2.1 pc = .ok (.getfield idx, 3)) (w : Cond.fieldLink mi.1.cls idx RJ0 "value" "[B" ∈ mm_tbl) (K : mm_G X d mc ms mi Po (pc + 3) L (v_r (1007 + i) :: st) La M ck cs) : mm_G X d mc ms mi Po pc L (v_r (1002 + i) :: st) La M ck cs := by
  intro p l e R s m args below meth c A ad ty D H locs ls Q hAt hWd hL hK h1 h2
  have kk := K p l e R s m args below meth c A ad ty D H locs ls Q hAt hWd hL hK h1 h2
  exact vk_getf hAt.1 hAt.2.1 (hAt.2.2.2.2.2.2.1.2.2.2.1.1 i hi).2.2.1 hWd.2.2 hAt.2.2.2.1 (hAt.2.2.2.2.1 _ w) (fun _ h => h) hd kk
theorem mm_bald {i n : Nat} {j v : Int} (hn : mm_slen[i]? = some n) (h0 : 0 ≤ j) (h3 : j < n) (hb3 : n < 2147483648) (hv : (mm_sbyt.getD i []).getD j.toNat 0 = Int32.ofInt v) (hd : decode mi.2.1 pc = .ok (.baload, 1)) (K : mm_G X d mc ms mi Po (pc + 1) L (v_i v :: st) La M ck cs) : mm_G X d mc ms mi Po pc L (v_i j :: v_r (1007 + i) :: st) La M ck cs := by
  intro p l e R s m args below meth c A ad ty D H locs ls Q hAt hWd hL hK h1 h2
  have kk := K p l e R s m args below meth c A ad ty D H locs ls Q hAt hWd hL hK h1 h2
  obtain ⟨q1, q2⟩ := mm_ix h0 h3 hb3
  exact va_tb hAt.1 hAt.2.1 (mm_sval hn ad A s s.heap hAt.2.2.2.2.2.2.1) hWd.2.2 q1 (by rw [q2, hv]; rfl) hd kk
theorem mm_alenB {i n : Nat} (hn : mm_slen[i]? = some n) (hd : decode mi.2.1 pc = .ok (.arraylength, 1)) (K : mm_G X d mc ms mi Po (pc + 1) L (v_i (n : Int) :: st) La M ck cs) : mm_G X d mc ms mi Po pc L (v_r (1007 + i) :: st) La M ck cs :=
  mm_alenT (mm_sval hn) hd K
end MMH
end
section
section MMC
variable {X : Nat × (Nat → Int)} {d mc ms : Nat} {mi : mm_Mi} {Po : mm_Po} {pc : Nat} {L : List (Nat × mm_V)} {st : List mm_V} {La : List mm_S} {M : mm_M} {ck cs : Nat}
theorem mm_Pc_blind {As : List mm_V} {ad : Nat → Nat} {ty : FieldType → ClassId} {D : va_G} {sz : Nat} : FrameBlind (mm_Pc X As La M ad ty D sz) := by
  intro a U g mk h
  obtain ⟨h0, h1, h2, h3, h4, h5⟩ := h
  exact ⟨h0, h1, mm_RO.move (s := U) (U := U.calling g mk a) h2 (State.WarmedH.refl U) (fun _ _ _ => rfl) rfl (fun _ h => h), va_K.moved (u := U) (U := U.calling g mk a) (Vm.Alike.refl U.vm) h3, h4, h5⟩
theorem mm_A_sub {A : Nat → Prop} {ad : Nat → Nat} {ty : FieldType → ClassId} {D : va_G} {H0 H : Heap} {locs : List Loc} (hWd : mm_Wd A ad ty D La M H0 H locs) (hA : ∀ q, H0.size ≤ q → A q) : ∀ q, va_A (mm_ws ty ad La M) H.size q → A q := by
  intro q h
  rcases h with ⟨k, e, h⟩ | h
  · exact hWd.2.1.2 k _ h
  · exact hA q (Nat.le_trans hWd.2.2.1 h)
/-- a callee's start -/
theorem mm_pre {As : List mm_V} {p : Program} {R : Room} {s : State} {m : MethodId} {args : Array Value} {meth : Method} {c : Code} {A : Nat → Prop} {ad : Nat → Nat} {ty : FieldType → ClassId} {D : va_G} {H : Heap} {locs : List Loc} (hAt : mm_At X d mc ms mi p R s m args meth c A ad ty D) (hWd : mm_Wd A ad ty D La M s.heap H locs) (U : State) (hU : U.heap = H) (hW : s.WarmedH U.vm) : mm_Pc X As La M ad ty D H.size (As.map (mm_cv ad)).toArray U := by
  refine ⟨rfl, by rw [hU], mm_RO.move hAt.2.2.2.2.2.2.1 hW hWd.2.2.2.1 hU (mm_A_sub hWd hAt.2.2.2.2.2.2.2.2.1), va_K.moved hW.alike hAt.2.2.2.2.2.2.2.1, by rw [hU]; exact hWd.1, hWd.2.1.weaken (fun _ _ _ _ => trivial)⟩
theorem mm_vk_app {n : Nat} {vs : List mm_V} : ∀ {rest : List mm_V}, mm_vk n (rest ++ vs) = true → mm_vk n rest = true ∧ mm_vk n vs = true
  | [], h => ⟨rfl, h⟩
  | .inl x :: rest, h => mm_vk_app (rest := rest) h
  | .inr (.inl x) :: rest, h => mm_vk_app (rest := rest) h
  | .inr (.inr none) :: rest, h => mm_vk_app (rest := rest) h
  | .inr (.inr (some x)) :: rest, h => by
    simp only [List.cons_append, mm_vk, Bool.and_eq_true] at h ⊢
    exact ⟨⟨h.1, (mm_vk_app h.2).1⟩, (mm_vk_app h.2).2⟩
/-- behind a call -/
theorem mm_after {mc' ms' : Nat} {rest : List mm_V} {Po' : mm_Po} {p : Program} {l : Launch} {e : Env} {R : Room} {s : State} {m : MethodId} {args : Array Value} {below : List Frame} {meth : Method} {c : Code} {A : Nat → Prop} {ad : Nat → Nat} {ty : FieldType → ClassId} {D : va_G} {H : Heap} {locs : List Loc} {ls : Array Slot} {Q : State → Prop} {st0 : List Value} {a : Array Value}
    (hAt : mm_At X d mc ms mi p R s m args meth c A ad ty D) (hWd : mm_Wd A ad ty D La M s.heap H locs) (hL : lv_has ls mi.2.2.1 (mm_lo ad L))
    (hK : ∀ (r : Option mm_V) (La' : List mm_S) (M' : mm_M) (ad' : Nat → Nat) (H' : Heap) (locs' : List Loc) (ls' : Array Slot) (pc' ck' cs' : Nat), Po r La' M' → mm_rt mi pc' r → (∀ i, i < La.length ∨ 1000 ≤ i → ad' i = ad i) → mm_Wd A ad' ty D La' M' s.heap H' locs' → ck' ≤ mc → cs' ≤ ms → W p l e R s m args below meth c H' locs' ck' cs' Q (F0 m pc' ls' (r.toList.map (mm_cv ad'))))
    (hv : mm_vk La.length (rest ++ L.map (fun q => q.2)) = true) (hm : ck + mc' ≤ mc ∧ cs + ms' ≤ ms)
    (hr : va_Run p l e R s m args below meth c H locs ck cs mc' ms' (F0 m pc ls st0) (rest.map (mm_cv ad)) (mm_Qc Po' La M ad ty D H.size a) (va_A (mm_ws ty ad La M) H.size))
    (hP : ∀ r La' M', Po' r La' M' → La.length ≤ La'.length ∧ mm_G X d mc ms mi Po (pc + 3) L (r.toList ++ rest) La' M' (ck + mc') (cs + ms')) :
    W p l e R s m args below meth c H locs ck cs Q (F0 m pc ls st0) := by
  intro T hT Z
  obtain ⟨v, st₀, t, T', Lq, h0, Z', hLq, e1, e2, ⟨r, La', M', ad', hv1, hPo, had, hP', hD', hF⟩, go⟩ := hr T hT Z
  obtain ⟨hlen, hG⟩ := hP r La' M' hPo
  have hvv : v = r.map (mm_cv ad') := by injection hv1
  have hF : H.size ≤ t.heap.size ∧ ∀ q : Nat, q < H.size → ¬ va_A (mm_ws ty ad La M) H.size q → t.heap[q]? = H[q]? := by
    unfold va_F at hF
    rw [h0] at hF
    exact hF
  have hAs := mm_A_sub hWd hAt.2.2.2.2.2.2.2.2.1
  have hv2 := mm_vk_app hv
  have hWd' : mm_Wd A ad' ty D La' M' s.heap T'.heap (locs ++ Lq) := by
    rw [e1]
    refine ⟨hP', hD'.weaken (fun _ _ _ h => hAs _ h), Nat.le_trans hWd.2.2.1 hF.1, fun q h3 h4 => ?_, fun q hq => ?_⟩
    · rw [hF.2 q (Nat.lt_of_lt_of_le h3 hWd.2.2.1) (fun z => h4 (hAs q z))]
      exact hWd.2.2.2.1 q h3 h4
    · rcases List.mem_append.mp hq with h | h
      · exact hWd.2.2.2.2 q h
      · exact hAs _ (hLq q h)
  have hAt' : mm_At X d mc ms mi p R s m args meth c A ad' ty D := ⟨hAt.1, hAt.2.1, hAt.2.2.1, hAt.2.2.2.1, hAt.2.2.2.2.1, hAt.2.2.2.2.2.1, hAt.2.2.2.2.2.2.1.ad (fun i hi => had i (Or.inr hi)), hAt.2.2.2.2.2.2.2⟩
  obtain ⟨t2, a1, b1⟩ := hG p l e R s m args below meth c A ad' ty D T'.heap (locs ++ Lq) ls Q hAt' hWd' (by rw [mm_vk_lo had L hv2.2]; exact hL) (fun r2 La2 M2 ad2 H2 locs2 ls2 pc2 ck2 cs2 q1 q2 q3 => hK r2 La2 M2 ad2 H2 locs2 ls2 pc2 ck2 cs2 q1 q2 (fun i hi => (q3 i (hi.imp (fun h => Nat.lt_of_lt_of_le h hlen) id)).trans (had i hi))) hm.1 hm.2 T' rfl Z'
  refine ⟨t2, go t2 ?_, b1⟩
  have hfr : (F0 m (pc + 3) ls ((r.toList ++ rest).map (mm_cv ad'))) = { F0 m pc ls st0 with pc := (F0 m pc ls st0).pc + 3, stack := v.toList ++ rest.map (mm_cv ad) } := by
    rw [hvv, List.map_append, mm_vk_map had rest hv2.1]
    cases r <;> rfl
  rw [hfr] at a1
  exact a1
/-- what a callee must be: no special class, so many arguments, so many locals -/
def mm_yk (mi' : mm_Mi) (n w : Nat) : Bool := plainName mi'.1.cls && !(mi'.1.cls == "java/lang/invoke/MethodHandle") && !(mi'.1.cls == "java/lang/invoke/VarHandle") && ((parseMethodDescriptor mi'.1.desc).map (fun q => q.parameters.length) == some n) && decide (mi'.2.2.1 ≤ 41) && decide (w ≤ mi'.2.2.1)
theorem mm_yk_of {mi' : mm_Mi} {n w : Nat} (h : mm_yk mi' n w = true) : plainName mi'.1.cls = true ∧ (mi'.1.cls ≠ "java/lang/invoke/MethodHandle" ∧ mi'.1.cls ≠ "java/lang/invoke/VarHandle" ∧ (parseMethodDescriptor mi'.1.desc).map (fun q => q.parameters.length) = some n) ∧ mi'.2.2.1 ≤ 41 ∧ w ≤ mi'.2.2.1 := by
  simp only [mm_yk, Bool.and_eq_true, Bool.not_eq_true', beq_eq_false_iff_ne, beq_iff_eq, decide_eq_true_eq] at h
  exact ⟨h.1.1.1.1.1, ⟨h.1.1.1.1.2, h.1.1.1.2, h.1.1.2⟩, h.1.2, h.2⟩
theorem mm_gz {mi' : mm_Mi} (wc : Cond.code mi'.1 mi'.2.1 mi'.2.2.1 mi'.2.2.2 ∈ mm_tbl) : GoodIn mm_tbl (mm_wz mi') := fun w h => (List.mem_cons.mp h).elim (fun e => e ▸ mm_gg _ wc) (fun h => mm_gg w h)
theorem mm_mono {mi' : mm_Mi} {mc' ms' : Nat} {As : List mm_V} {Po' Po2 : mm_Po} (h : ∀ r La' M', Po' r La' M' → Po2 r La' M') (E : mm_E X d mc' ms' mi' As Po' La M) : mm_E X d mc' ms' mi' As Po2 La M := mm_mo h E
/-- the post of a callee, with: cells only come -/
def mm_Pn (La : List mm_S) (P : mm_Po) : mm_Po := fun r La' M' => La.length ≤ La'.length ∧ P r La' M'
theorem mm_callV {idx b ci mc' ms' : Nat} {mi' : mm_Mi} {q : vw_C} {fs : List mm_V} (As rest : List mm_V) (hd : decode mi.2.1 pc = .ok (.invokevirtual idx, 3)) (hst : st = As.reverse ++ v_r b :: rest)
    (wl : Cond.methodLink mi.1.cls idx mi'.1 ∈ mm_tbl) (wi : Cond.instanceMethod mi'.1 ∈ mm_tbl) (wv : Cond.selects mi'.1.cls mi'.1 mi'.1 ∈ mm_tbl) (wn : Cond.initialized mi'.1.cls ∈ mm_tbl) (wc : Cond.code mi'.1 mi'.2.1 mi'.2.2.1 mi'.2.2.2 ∈ mm_tbl)
    (hy : mm_yk mi' As.length (mm_wd (v_r b :: As)) = true) (hb : La[b]? = some (.inr (ci, fs))) (hc : vwCl[ci]? = some q) (hq : q.1 = mi'.1.cls) (hcat : mm_wd rest ≤ 8) (hv : mm_vk La.length (rest ++ L.map (fun q => q.2)) = true) (hm : ck + mc' ≤ mc ∧ cs + ms' ≤ ms)
    (E : mm_E X d mc' ms' mi' (v_r b :: As) (mm_Pn La (fun r La' M' => mm_G X (d + 1) mc ms mi Po (pc + 3) L (r.toList ++ rest) La' M' (ck + mc') (cs + ms'))) La M) : mm_G X (d + 1) mc ms mi Po pc L st La M ck cs := by
  intro p l e R s m args below meth c A ad ty D H locs ls Q hAt hWd hL hK h1 h2
  obtain ⟨y1, y2, y3, y4⟩ := mm_yk_of hy
  obtain ⟨r1, r2, r3, r4⟩ := hAt.2.2.2.2.2.1
  have hts := hAt.2.2.2.2.1
  have hM := mm_met y1 y4 E l ad ty D H.size
  have cb := callB_of (own := mi.1.cls) (index := idx) (y := mi'.1) (bytes := mi'.2.1) (maxL := mi'.2.2.1) (ret := mi'.2.2.2) (ws := mm_wz mi') (R := R) (rm := mm_rm d mc' ms') (mc := mc') (ms := ms') As.length hts (mm_gz wc) rfl rfl rfl (hts _ wn) (hts _ wl) y2 (by simp only [mm_rm]; omega)
  have hrun := va_runV (e := e) (below := below) (meth := meth) (g := F0 m pc ls (st.map (mm_cv ad))) (As := As.map (mm_cv ad)) (rest := rest.map (mm_cv ad)) (b := ad b) (C := mi'.1.cls) (cells := ck) (slots := cs) (locs := locs) ⟨hAt.1, hAt.2.1, hAt.2.2.1, hAt.2.2.2.1, hts⟩ hM ⟨cb, hts _ wi, hts _ wv⟩ ⟨mm_Pc_blind, by rw [← hq]; exact va_recv hAt.2.2.2.2.2.2.2.1 hWd.1 hc (mm_ws_at hb), fun U hU hW => mm_pre (As := v_r b :: As) hAt hWd U hU hW⟩ rfl (by simp) hL.1 (by rw [hst]; simp [mm_cv]) (lv_room (by rw [mm_wd_cat]; exact hcat)) hd ⟨Nat.le_trans hm.1 r3, Nat.le_trans hm.2 r4⟩
  exact mm_after hAt hWd hL hK hv hm hrun (fun _ _ _ h => h)
theorem mm_callS {idx mc' ms' : Nat} {mi' : mm_Mi} (As rest : List mm_V) (hd : decode mi.2.1 pc = .ok (.invokestatic idx, 3)) (hst : st = As.reverse ++ rest)
    (wl : Cond.methodLink mi.1.cls idx mi'.1 ∈ mm_tbl) (wi : Cond.static mi'.1 ∈ mm_tbl) (wn : Cond.initialized mi'.1.cls ∈ mm_tbl) (wc : Cond.code mi'.1 mi'.2.1 mi'.2.2.1 mi'.2.2.2 ∈ mm_tbl)
    (hy : mm_yk mi' As.length (mm_wd As) = true) (hcat : mm_wd rest ≤ 8) (hv : mm_vk La.length (rest ++ L.map (fun q => q.2)) = true) (hm : ck + mc' ≤ mc ∧ cs + ms' ≤ ms)
    (E : mm_E X d mc' ms' mi' As (mm_Pn La (fun r La' M' => mm_G X (d + 1) mc ms mi Po (pc + 3) L (r.toList ++ rest) La' M' (ck + mc') (cs + ms'))) La M) : mm_G X (d + 1) mc ms mi Po pc L st La M ck cs := by
  intro p l e R s m args below meth c A ad ty D H locs ls Q hAt hWd hL hK h1 h2
  obtain ⟨y1, y2, y3, y4⟩ := mm_yk_of hy
  obtain ⟨r1, r2, r3, r4⟩ := hAt.2.2.2.2.2.1
  have hts := hAt.2.2.2.2.1
  have hM := mm_met y1 y4 E l ad ty D H.size
  have cb := callB_of (own := mi.1.cls) (index := idx) (y := mi'.1) (bytes := mi'.2.1) (maxL := mi'.2.2.1) (ret := mi'.2.2.2) (ws := mm_wz mi') (R := R) (rm := mm_rm d mc' ms') (mc := mc') (ms := ms') As.length hts (mm_gz wc) rfl rfl rfl (hts _ wn) (hts _ wl) y2 (by simp only [mm_rm]; omega)
  have hrun := va_runS (e := e) (below := below) (meth := meth) (g := F0 m pc ls (st.map (mm_cv ad))) (As := As.map (mm_cv ad)) (rest := rest.map (mm_cv ad)) (cells := ck) (slots := cs) (locs := locs) ⟨hAt.1, hAt.2.1, hAt.2.2.1, hAt.2.2.2.1, hts⟩ hM ⟨cb, hts _ wi⟩ ⟨mm_Pc_blind, fun U hU hW => mm_pre (As := As) hAt hWd U hU hW⟩ rfl (by simp) hL.1 (by rw [hst]; simp) (lv_room (by rw [mm_wd_cat]; exact hcat)) hd ⟨Nat.le_trans hm.1 r3, Nat.le_trans hm.2 r4⟩
  exact mm_after hAt hWd hL hK hv hm hrun (fun _ _ _ h => h)
/-- a method of a text that nobody writes -/
theorem mm_callT {idx i mc' ms' : Nat} {mi' : mm_Mi} (As rest : List mm_V) (hd : decode mi.2.1 pc = .ok (.invokevirtual idx, 3)) (hst : st = As.reverse ++ v_r (1002 + i) :: rest)
    (wl : Cond.methodLink mi.1.cls idx mi'.1 ∈ mm_tbl) (wi : Cond.instanceMethod mi'.1 ∈ mm_tbl) (wv : Cond.selects mi'.1.cls mi'.1 mi'.1 ∈ mm_tbl) (wn : Cond.initialized mi'.1.cls ∈ mm_tbl) (wc : Cond.code mi'.1 mi'.2.1 mi'.2.2.1 mi'.2.2.2 ∈ mm_tbl)
    (hy : mm_yk mi' As.length (mm_wd (v_r (1002 + i) :: As)) = true) (hi : i < 5) (hq : mi'.1.cls = "java/lang/String") (hcat : mm_wd rest ≤ 8) (hv : mm_vk La.length (rest ++ L.map (fun q => q.2)) = true) (hm : ck + mc' ≤ mc ∧ cs + ms' ≤ ms)
    (E : mm_E X d mc' ms' mi' (v_r (1002 + i) :: As) (mm_Pn La (fun r La' M' => mm_G X (d + 1) mc ms mi Po (pc + 3) L (r.toList ++ rest) La' M' (ck + mc') (cs + ms'))) La M) : mm_G X (d + 1) mc ms mi Po pc L st La M ck cs := by
  intro p l e R s m args below meth c A ad ty D H locs ls Q hAt hWd hL hK h1 h2
  obtain ⟨y1, y2, y3, y4⟩ := mm_yk_of hy
  obtain ⟨r1, r2, r3, r4⟩ := hAt.2.2.2.2.2.1
  have hts := hAt.2.2.2.2.1
  have hM := mm_met y1 y4 E l ad ty D H.size
  have cb := callB_of (own := mi.1.cls) (index := idx) (y := mi'.1) (bytes := mi'.2.1) (maxL := mi'.2.2.1) (ret := mi'.2.2.2) (ws := mm_wz mi') (R := R) (rm := mm_rm d mc' ms') (mc := mc') (ms := ms') As.length hts (mm_gz wc) rfl rfl rfl (hts _ wn) (hts _ wl) y2 (by simp only [mm_rm]; omega)
  have hrun := va_runV (e := e) (below := below) (meth := meth) (g := F0 m pc ls (st.map (mm_cv ad))) (As := As.map (mm_cv ad)) (rest := rest.map (mm_cv ad)) (b := ad (1002 + i)) (C := mi'.1.cls) (cells := ck) (slots := cs) (locs := locs) ⟨hAt.1, hAt.2.1, hAt.2.2.1, hAt.2.2.2.1, hts⟩ hM ⟨cb, hts _ wi, hts _ wv⟩ ⟨mm_Pc_blind, by rw [hq]; exact vk_recv (adK := fun i => ad (1002 + i)) (i := i) hAt.2.2.2.2.2.2.1.2.2.2.1 hi hWd.2.2, fun U hU hW => mm_pre (As := v_r (1002 + i) :: As) hAt hWd U hU hW⟩ rfl (by simp) hL.1 (by rw [hst]; simp [mm_cv]) (lv_room (by rw [mm_wd_cat]; exact hcat)) hd ⟨Nat.le_trans hm.1 r3, Nat.le_trans hm.2 r4⟩
  exact mm_after hAt hWd hL hK hv hm hrun (fun _ _ _ h => h)
/-- a nest mate's static method -/
theorem mm_callN {idx mc' ms' : Nat} {mi' : mm_Mi} (As rest : List mm_V) (hd : decode mi.2.1 pc = .ok (.invokestatic idx, 3)) (hst : st = As.reverse ++ rest)
    (wl : (mi.1.cls, idx, mi'.1, RX9) ∈ mm_nest) (wi : Cond.static mi'.1 ∈ mm_tbl) (wn : Cond.initialized mi'.1.cls ∈ mm_tbl) (wc : Cond.code mi'.1 mi'.2.1 mi'.2.2.1 mi'.2.2.2 ∈ mm_tbl)
    (hy : mm_yk mi' As.length (mm_wd As) = true) (hcat : mm_wd rest ≤ 8) (hv : mm_vk La.length (rest ++ L.map (fun q => q.2)) = true) (hm : ck + mc' ≤ mc ∧ cs + ms' ≤ ms)
    (E : mm_E X d mc' ms' mi' As (mm_Pn La (fun r La' M' => mm_G X (d + 1) mc ms mi Po (pc + 3) L (r.toList ++ rest) La' M' (ck + mc') (cs + ms'))) La M) : mm_G X (d + 1) mc ms mi Po pc L st La M ck cs := by
  intro p l e R s m args below meth c A ad ty D H locs ls Q hAt hWd hL hK h1 h2
  obtain ⟨y1, y2, y3, y4⟩ := mm_yk_of hy
  obtain ⟨r1, r2, r3, r4⟩ := hAt.2.2.2.2.2.1
  have hts := hAt.2.2.2.2.1
  have hM := mm_met y1 y4 E l ad ty D H.size
  have cb := va_cnB (args := args) (s := s) (R := R) (own := mi.1.cls) (host := RX9) (index := idx) (y := mi'.1) (bytes := mi'.2.1) (maxL := mi'.2.2.1) (ret := mi'.2.2.2) (ws := mm_wz mi') (rm := mm_rm d mc' ms') (mc := mc') (ms := ms') As.length hts (mm_gz wc) rfl rfl rfl (hAt.2.2.2.2.2.2.1.2.2.2.2.2.2.1 _ wl) (hts _ wn) y2 (by simp only [mm_rm]; omega)
  have hrun := va_runSN (e := e) (below := below) (meth := meth) (g := F0 m pc ls (st.map (mm_cv ad))) (As := As.map (mm_cv ad)) (rest := rest.map (mm_cv ad)) (cells := ck) (slots := cs) (locs := locs) ⟨hAt.1, hAt.2.1, hAt.2.2.1, hAt.2.2.2.1, hts⟩ hM ⟨cb, hts _ wi, trivial⟩ ⟨mm_Pc_blind, fun U hU hW => mm_pre (As := As) hAt hWd U hU hW⟩ rfl (by simp) hL.1 (by rw [hst]; simp) (lv_room (by rw [mm_wd_cat]; exact hcat)) hd ⟨Nat.le_trans hm.1 r3, Nat.le_trans hm.2 r4⟩
  exact mm_after hAt hWd hL hK hv hm hrun (fun _ _ _ h => h)
/-- a constructor; a nest mate's -/
theorem mm_callI {idx b mc' ms' : Nat} {mi' : mm_Mi} (As rest : List mm_V) (hd : decode mi.2.1 pc = .ok (.invokespecial idx, 3)) (hst : st = As.reverse ++ v_r b :: rest)
    (wl : Cond.methodLink mi.1.cls idx mi'.1 ∈ mm_tbl) (wi : Cond.instanceMethod mi'.1 ∈ mm_tbl) (wn : Cond.initialized mi'.1.cls ∈ mm_tbl) (wc : Cond.code mi'.1 mi'.2.1 mi'.2.2.1 mi'.2.2.2 ∈ mm_tbl) (hi : mi'.1.name = "<init>") (hret : mi'.2.2.2 = none)
    (hy : mm_yk mi' As.length (mm_wd (v_r b :: As)) = true) (hcat : mm_wd rest ≤ 8) (hv : mm_vk La.length (rest ++ L.map (fun q => q.2)) = true) (hm : ck + mc' ≤ mc ∧ cs + ms' ≤ ms)
    (E : mm_E X d mc' ms' mi' (v_r b :: As) (mm_Pn La (fun r La' M' => mm_G X (d + 1) mc ms mi Po (pc + 3) L (r.toList ++ rest) La' M' (ck + mc') (cs + ms'))) La M) : mm_G X (d + 1) mc ms mi Po pc L st La M ck cs := by
  intro p l e R s m args below meth c A ad ty D H locs ls Q hAt hWd hL hK h1 h2
  obtain ⟨y1, y2, y3, y4⟩ := mm_yk_of hy
  obtain ⟨r1, r2, r3, r4⟩ := hAt.2.2.2.2.2.1
  have hts := hAt.2.2.2.2.1
  have hM := mm_met y1 y4 E l ad ty D H.size
  have cb := callB_of (own := mi.1.cls) (index := idx) (y := mi'.1) (bytes := mi'.2.1) (maxL := mi'.2.2.1) (ret := none) (ws := mm_wz mi') (R := R) (rm := mm_rm d mc' ms') (mc := mc') (ms := ms') As.length hts (mm_gz wc) (by rw [mm_wz, hret]) rfl rfl (hts _ wn) (hts _ wl) y2 (by simp only [mm_rm]; omega)
  have hrun := va_runI (e := e) (below := below) (meth := meth) (g := F0 m pc ls (st.map (mm_cv ad))) (As := As.map (mm_cv ad)) (rest := rest.map (mm_cv ad)) (b := ad b) (cells := ck) (slots := cs) (locs := locs) ⟨hAt.1, hAt.2.1, hAt.2.2.1, hAt.2.2.2.1, hts⟩ hM ⟨cb, hi, hts _ wi⟩ ⟨mm_Pc_blind, fun U hU hW => mm_pre (As := v_r b :: As) hAt hWd U hU hW⟩ rfl (by simp) hL.1 (by rw [hst]; simp [mm_cv]) (lv_room (by rw [mm_wd_cat]; exact hcat)) hd ⟨Nat.le_trans hm.1 r3, Nat.le_trans hm.2 r4⟩
  exact mm_after hAt hWd hL hK hv hm hrun (fun _ _ _ h => h)
theorem mm_callJ {idx b mc' ms' : Nat} {mi' : mm_Mi} (As rest : List mm_V) (hd : decode mi.2.1 pc = .ok (.invokespecial idx, 3)) (hst : st = As.reverse ++ v_r b :: rest)
    (wl : (mi.1.cls, idx, mi'.1, RX9) ∈ mm_nest) (wi : Cond.instanceMethod mi'.1 ∈ mm_tbl) (wn : Cond.initialized mi'.1.cls ∈ mm_tbl) (wc : Cond.code mi'.1 mi'.2.1 mi'.2.2.1 mi'.2.2.2 ∈ mm_tbl) (hi : mi'.1.name = "<init>") (hret : mi'.2.2.2 = none)
    (hy : mm_yk mi' As.length (mm_wd (v_r b :: As)) = true) (hcat : mm_wd rest ≤ 8) (hv : mm_vk La.length (rest ++ L.map (fun q => q.2)) = true) (hm : ck + mc' ≤ mc ∧ cs + ms' ≤ ms)
    (E : mm_E X d mc' ms' mi' (v_r b :: As) (mm_Pn La (fun r La' M' => mm_G X (d + 1) mc ms mi Po (pc + 3) L (r.toList ++ rest) La' M' (ck + mc') (cs + ms'))) La M) : mm_G X (d + 1) mc ms mi Po pc L st La M ck cs := by
  intro p l e R s m args below meth c A ad ty D H locs ls Q hAt hWd hL hK h1 h2
  obtain ⟨y1, y2, y3, y4⟩ := mm_yk_of hy
  obtain ⟨r1, r2, r3, r4⟩ := hAt.2.2.2.2.2.1
  have hts := hAt.2.2.2.2.1
  have hM := mm_met y1 y4 E l ad ty D H.size
  have cb := va_cnB (args := args) (s := s) (R := R) (own := mi.1.cls) (host := RX9) (index := idx) (y := mi'.1) (bytes := mi'.2.1) (maxL := mi'.2.2.1) (ret := none) (ws := mm_wz mi') (rm := mm_rm d mc' ms') (mc := mc') (ms := ms') As.length hts (mm_gz wc) (by rw [mm_wz, hret]) rfl rfl (hAt.2.2.2.2.2.2.1.2.2.2.2.2.2.1 _ wl) (hts _ wn) y2 (by simp only [mm_rm]; omega)
  have hrun := va_runIN (e := e) (below := below) (meth := meth) (g := F0 m pc ls (st.map (mm_cv ad))) (As := As.map (mm_cv ad)) (rest := rest.map (mm_cv ad)) (b := ad b) (cells := ck) (slots := cs) (locs := locs) ⟨hAt.1, hAt.2.1, hAt.2.2.1, hAt.2.2.2.1, hts⟩ hM ⟨cb, hi, hts _ wi⟩ ⟨mm_Pc_blind, fun U hU hW => mm_pre (As := v_r b :: As) hAt hWd U hU hW⟩ rfl (by simp) hL.1 (by rw [hst]; simp [mm_cv]) (lv_room (by rw [mm_wd_cat]; exact hcat)) hd ⟨Nat.le_trans hm.1 r3, Nat.le_trans hm.2 r4⟩
  exact mm_after hAt hWd hL hK hv hm hrun (fun _ _ _ h => h)
theorem mm_oinit {idx b : Nat} (hd : decode mi.2.1 pc = .ok (.invokespecial idx, 3)) (wl : Cond.methodLink mi.1.cls idx objectInit ∈ mm_tbl) (wi : Cond.instanceMethod objectInit ∈ mm_tbl) (wc : Cond.code objectInit ⟨#[0xb1]⟩ 1 none ∈ mm_tbl) (hcat : mm_wd st ≤ 8) (K : mm_G X d mc ms mi Po (pc + 3) L st La M ck cs) : mm_G X d mc ms mi Po pc L (v_r b :: st) La M ck cs := by
  intro p l e R s m args below meth c A ad ty D H locs ls Q hAt hWd hL hK h1 h2
  have kk := K p l e R s m args below meth c A ad ty D H locs ls Q hAt hWd hL hK h1 h2
  obtain ⟨r1, r2, r3, r4⟩ := hAt.2.2.2.2.2.1
  have hts := hAt.2.2.2.2.1
  have h8 : 2 * (F0 m pc ls (mm_cv ad (v_r b) :: st.map (mm_cv ad))).monitorRoom + ((st.map (mm_cv ad)).map fun v => v.category).sum ≤ 8 := lv_room (by rw [mm_wd_cat]; exact hcat)
  exact W.objInit hAt.1 hAt.2.1 hAt.2.2.2.1 (hts _ wl) (hts _ wi) (hts _ wc) (g := F0 m pc ls (mm_cv ad (v_r b) :: st.map (mm_cv ad))) rfl (by rw [hAt.2.2.1]; exact hL.1) rfl hd (by omega) (by omega) kk
end MMC
end
section
section MMN
variable {X : Nat × (Nat → Int)} {d mc ms : Nat} {mi : mm_Mi} {Po : mm_Po} {pc : Nat} {L : List (Nat × mm_V)} {st : List mm_V} {La : List mm_S} {M : mm_M} {ck cs : Nat}
/-- the references in the cells lie below n, or among what nobody writes -/
def mm_nk (n : Nat) : List mm_S → Bool
  | [] => true
  | .inl _ :: t => mm_nk n t
  | .inr q :: t => mm_vk n q.2 && mm_nk n t
theorem mm_nk_at {n : Nat} : ∀ {La : List mm_S} {i c : Nat} {fs : List mm_V}, mm_nk n La = true → La[i]? = some (.inr (c, fs)) → mm_vk n fs = true
  | [], i, c, fs, _, h => by simp at h
  | .inl q :: t, 0, c, fs, _, h => by simp at h
  | .inr q :: t, 0, c, fs, hk, h => by
    simp only [mm_nk, Bool.and_eq_true] at hk
    simp only [List.getElem?_cons_zero, Option.some.injEq, Sum.inr.injEq] at h
    rw [h] at hk
    exact hk.1
  | .inl q :: t, i + 1, c, fs, hk, h => mm_nk_at (La := t) (i := i) hk (by simpa using h)
  | .inr q :: t, i + 1, c, fs, hk, h => by
    simp only [mm_nk, Bool.and_eq_true] at hk
    exact mm_nk_at (La := t) (i := i) hk.2 (by simpa using h)
theorem mm_vk_at {n : Nat} : ∀ {fs : List mm_V} {k a : Nat}, mm_vk n fs = true → fs[k]? = some (v_r a) → a < n ∨ 1000 ≤ a
  | [], k, a, _, h => by simp at h
  | v :: t, 0, a, hk, h => by
    simp only [List.getElem?_cons_zero, Option.some.injEq] at h
    subst h
    simp only [mm_vk, Bool.and_eq_true, Bool.or_eq_true, decide_eq_true_eq] at hk
    exact hk.1
  | v :: t, k + 1, a, hk, h => by
    have hk2 : mm_vk n t = true := by
      rcases v with v | v | _ | v
      · exact hk
      · exact hk
      · exact hk
      · simp only [mm_vk, Bool.and_eq_true] at hk
        exact hk.2
    exact mm_vk_at (fs := t) (k := k) hk2 (by simpa using h)
def mm_ad (ad : Nat → Nat) (n q : Nat) : Nat → Nat := fun i => if i = n then q else ad i
theorem mm_ad_ok {ad : Nat → Nat} {n q : Nat} (hn : n < 1000) : ∀ i, i < n ∨ 1000 ≤ i → mm_ad ad n q i = ad i := fun i h => if_neg (by omega)
theorem mm_ws_new {ty : FieldType → ClassId} {ad : Nat → Nat} {q : Nat} {sh : mm_S} (hl : La.length < 1000) (hc : mm_nk La.length La = true) :
    mm_ws ty (mm_ad ad La.length q) (La ++ [sh]) M = mm_ws ty ad La M ++ [(q, mm_ce ty (mm_ad ad La.length q) (M La.length) sh)] := by
  apply List.ext_getElem?
  intro j
  have hz : (mm_ws ty ad La M).length = La.length := by simp [mm_ws]
  by_cases hj : j < La.length
  · rw [List.getElem?_append_left (by rw [hz]; exact hj)]
    simp only [mm_ws, List.getElem?_mapIdx, List.getElem?_append_left hj]
    have hsome : La[j]? = some La[j] := List.getElem?_eq_getElem hj
    rw [hsome]
    simp only [Option.map_some, mm_ad_ok hl j (Or.inl hj)]
    congr 2
    cases hs : La[j] with
    | inl x => rfl
    | inr x =>
      obtain ⟨c, fs⟩ := x
      rw [hs] at hsome
      have hv := mm_nk_at hc hsome
      simp only [mm_ce]
      congr 2
      apply List.ext_getElem?
      intro k
      simp only [List.getElem?_mapIdx]
      cases hf : fs[k]? with
      | none => rfl
      | some v =>
        rcases v with v | v | _ | a
        · rfl
        · rfl
        · rfl
        · simp only [Option.map_some, mm_fv, mm_ad_ok hl a (mm_vk_at hv hf)]
  · by_cases hj2 : j = La.length
    · subst hj2
      rw [List.getElem?_append_right (by rw [hz]; exact Nat.le_refl _), hz, Nat.sub_self]
      simp [mm_ws, List.getElem?_mapIdx, mm_ad]
    · have h3 : La.length + 1 ≤ j := by omega
      rw [List.getElem?_eq_none (by simp [mm_ws]; omega), List.getElem?_eq_none (by simp [hz]; omega)]
theorem mm_grow {sh : mm_S} {p : Program} {l : Launch} {e : Env} {R : Room} {s : State} {m : MethodId} {args : Array Value} {below : List Frame} {meth : Method} {c : Code} {A : Nat → Prop} {ad : Nat → Nat} {ty : FieldType → ClassId} {D : va_G} {H1 : Heap} {locs : List Loc} {ls : Array Slot} {Q : State → Prop} {q pc2 ck2 cs2 : Nat} (hAt : mm_At X d mc ms mi p R s m args meth c A ad ty D) (hL : lv_has ls mi.2.2.1 (mm_lo ad L))
    (hK : ∀ (r : Option mm_V) (La' : List mm_S) (M' : mm_M) (ad' : Nat → Nat) (H' : Heap) (locs' : List Loc) (ls' : Array Slot) (pc' ck' cs' : Nat), Po r La' M' → mm_rt mi pc' r → (∀ i, i < La.length ∨ 1000 ≤ i → ad' i = ad i) → mm_Wd A ad' ty D La' M' s.heap H' locs' → ck' ≤ mc → cs' ≤ ms → W p l e R s m args below meth c H' locs' ck' cs' Q (F0 m pc' ls' (r.toList.map (mm_cv ad'))))
    (hl : La.length < 1000) (hc : mm_nk La.length La = true) (hv : mm_vk La.length (st ++ L.map (fun q => q.2)) = true) (hm : ck2 ≤ mc ∧ cs2 ≤ ms)
    (hP : va_P D vwCl (mm_ws ty ad La M ++ [(q, mm_ce ty (mm_ad ad La.length q) (M La.length) sh)]) H1) (hD : va_D A (mm_ws ty ad La M ++ [(q, mm_ce ty (mm_ad ad La.length q) (M La.length) sh)])) (hS : va_S A s.heap H1 locs)
    (K : mm_G X d mc ms mi Po pc2 L (v_r La.length :: st) (La ++ [sh]) M ck2 cs2) : W p l e R s m args below meth c H1 locs ck2 cs2 Q (F0 m pc2 ls (.ref q :: st.map (mm_cv ad))) := by
  have had := mm_ad_ok (ad := ad) (q := q) hl
  have hv2 := mm_vk_app hv
  rw [← mm_ws_new hl hc] at hP hD
  have kk := K p l e R s m args below meth c A (mm_ad ad La.length q) ty D H1 locs ls Q ⟨hAt.1, hAt.2.1, hAt.2.2.1, hAt.2.2.2.1, hAt.2.2.2.2.1, hAt.2.2.2.2.2.1, hAt.2.2.2.2.2.2.1.ad (fun i hi => had i (Or.inr hi)), hAt.2.2.2.2.2.2.2⟩ ⟨hP, hD, hS⟩ (by rw [mm_vk_lo had L hv2.2]; exact hL) (fun r2 La2 M2 ad2 H2 locs2 ls2 pc2 ck2 cs2 q1 q2 q3 => hK r2 La2 M2 ad2 H2 locs2 ls2 pc2 ck2 cs2 q1 q2 (fun i hi => (q3 i (by simp; omega)).trans (had i hi))) hm.1 hm.2
  have e1 : (v_r La.length :: st).map (mm_cv (mm_ad ad La.length q)) = .ref q :: st.map (mm_cv ad) := by
    rw [List.map_cons, mm_vk_map had st hv2.1]
    simp [mm_cv, mm_ad]
  rw [e1] at kk
  exact kk
theorem mm_newa {at0 : ArrayType} {t : FieldType} {n : Nat} (hd : decode mi.2.1 pc = .ok (.newarray at0, 2)) (w : Cond.arrayClass (newarray.typeOf at0) ∈ mm_tbl) (ht : newarray.typeOf at0 = t) (hk : t = .int ∨ t = .long ∨ t = .boolean) (hn : n ≤ 5000) (hm : ck + 1 ≤ mc ∧ cs + n ≤ ms) (hl : La.length < 1000) (hc : mm_nk La.length La = true) (hv : mm_vk La.length (st ++ L.map (fun q => q.2)) = true) (hz : ∀ k, M La.length k = 0)
    (K : mm_G X d mc ms mi Po (pc + 2) L (v_r La.length :: st) (La ++ [.inl (t, n)]) M (ck + 1) (cs + n)) : mm_G X d mc ms mi Po pc L (v_i (n : Int) :: st) La M ck cs := by
  intro p l e R s m args below meth c A ad ty D H locs ls Q hAt hWd hL hK h1 h2
  obtain ⟨r1, r2, r3, r4⟩ := hAt.2.2.2.2.2.1
  have hts := hAt.2.2.2.2.1
  have hKK := hAt.2.2.2.2.2.2.2.1
  have hMz : M La.length = fun _ => 0 := funext hz
  have hnn : (Int32.ofInt (n : Int)).toNatClampNeg = n ∧ ¬ Int32.ofInt (n : Int) < 0 := by
    have h3 : (Int32.ofInt (n : Int)).toInt = n := mm_o32 (by omega)
    refine ⟨?_, fun h => ?_⟩
    · show (Int32.ofInt (n : Int)).toInt.toNat = n
      rw [h3]; simp
    · have h4 := Int32.lt_iff_toInt_lt.mp h
      rw [h3] at h4
      have h5 : (0 : Int32).toInt = 0 := rfl
      omega
  have key : ∀ (cA : ClassId), va_K D vwCl (mm_tys ty ++ [(cA, t)]) s → cA = ty t := by
    intro cA hk2
    have g1 := (hk2.2 3 (cA, t) rfl).2
    rcases hk with rfl | rfl | rfl
    · have g2 := (hKK.2 0 (ty .int, .int) rfl).2
      exact Option.some.inj (g1.symm.trans g2)
    · have g2 := (hKK.2 1 (ty .long, .long) rfl).2
      exact Option.some.inj (g1.symm.trans g2)
    · have g2 := (hKK.2 2 (ty .boolean, .boolean) rfl).2
      exact Option.some.inj (g1.symm.trans g2)
  refine va_newa (a0 := mm_ar n t (M La.length)) hAt.1 hAt.2.1 (hts _ w) ht hKK hWd.1 hWd.2.1 hWd.2.2 hAt.2.2.2.2.2.2.2.2.1 (n := Int32.ofInt (n : Int)) (N' := n) ?_ hnn.2 hnn.1 ?_ (by omega) (by omega) hd (fun q cA H1 hK2 hP hD hS => ?_)
  · intro cA
    rw [hMz]
    rcases hk with rfl | rfl | rfl <;> rfl
  · rcases hk with rfl | rfl | rfl <;> simp [componentBytes] <;> omega
  · have hcA := key cA hK2
    subst hcA
    exact mm_grow (sh := .inl (t, n)) hAt hL hK hl hc hv ⟨hm.1, hm.2⟩ hP hD hS K
def mm_dv : FieldType → mm_V
  | .int => v_i 0
  | .long => v_l 0
  | _ => v_n
def mm_dt : FieldType → Bool
  | .int => true
  | .long => true
  | .array _ => true
  | .object _ => true
  | _ => false
theorem mm_dv_ok {t : FieldType} {ad : Nat → Nat} {f : Nat → Int} {k : Nat} (hf : ∀ k, f k = 0) (h : mm_dt t = true) : defaultValue t = mm_fv ad f k (mm_dv t) := by
  cases t <;> first | (simp only [mm_dv, mm_fv, hf]; rfl) | (cases h)
theorem mm_new {idx ci N : Nat} {C : String} {T : u_T} {ty0 : Nat → FieldType} {fs : List mm_V} (hd : decode mi.2.1 pc = .ok (.new idx, 3)) (hci : vwCl[ci]? = some (C, T, N)) (hin : ∀ w ∈ u_ws C T N, w ∈ mm_tbl) (hty : ∀ k, k < N → parseFieldDescriptor (T k).2.2.1 = some (ty0 k)) (w1 : Cond.classLink mi.1.cls idx C ∈ mm_tbl) (w2 : Cond.instantiable C N ∈ mm_tbl) (w3 : Cond.initialized C ∈ mm_tbl)
    (hdt : (List.range N).all (fun k => mm_dt (ty0 k)) = true) (hfs : (List.range N).map (fun k => mm_dv (ty0 k)) = fs) (hm : ck + 1 ≤ mc ∧ cs + N ≤ ms) (hl : La.length < 1000) (hc : mm_nk La.length La = true) (hv : mm_vk La.length (st ++ L.map (fun q => q.2)) = true) (hz : ∀ k, M La.length k = 0)
    (K : mm_G X d mc ms mi Po (pc + 3) L (v_r La.length :: st) (La ++ [.inr (ci, fs)]) M (ck + 1) (cs + N)) : mm_G X d mc ms mi Po pc L st La M ck cs := by
  intro p l e R s m args below meth c A ad ty D H locs ls Q hAt hWd hL hK h1 h2
  obtain ⟨r1, r2, r3, r4⟩ := hAt.2.2.2.2.2.1
  have hts := hAt.2.2.2.2.1
  subst hfs
  refine W.of (H' := H) (locs' := locs) (cells' := ck) (slots' := cs) (g2 := F0 m pc ls (st.map (mm_cv ad))) (fun T0 hT0 Z => ⟨T0, hT0, Z, fun _ h => h⟩) ?_
  by_cases hq0 : True
  · have hfree : ∀ q : Nat, ∀ j, j < N → defaultValue (ty0 j) = vp_V (((List.range N).map (fun k => mm_dv (ty0 k))).mapIdx (mm_fv (mm_ad ad La.length q) (M La.length))) j := by
      intro q j hj
      have h3 : ((List.range N).map (fun k => mm_dv (ty0 k)))[j]? = some (mm_dv (ty0 j)) := by simp [hj]
      simp only [vp_V, List.getD, mm_fs_at h3, Option.getD_some]
      exact mm_dv_ok hz (List.all_eq_true.mp hdt j (List.mem_range.mpr hj))
    refine va_new (fs := ((List.range N).map (fun k => mm_dv (ty0 k))).mapIdx (mm_fv (mm_ad ad La.length 0) (M La.length))) hAt.1 hAt.2.1 hts hin ty0 hty hAt.2.2.2.1 (hts _ w1) (hts _ w2) (hts _ w3) hAt.2.2.2.2.2.2.2.1 hWd.1 hWd.2.1 hWd.2.2 hAt.2.2.2.2.2.2.2.2.1 hci (hfree 0) (by omega) (by omega) hd (fun q H1 hP hD hS => ?_)
    have e2 : ((List.range N).map (fun k => mm_dv (ty0 k))).mapIdx (mm_fv (mm_ad ad La.length 0) (M La.length)) = ((List.range N).map (fun k => mm_dv (ty0 k))).mapIdx (mm_fv (mm_ad ad La.length q) (M La.length)) := by
      apply List.ext_getElem?
      intro j
      simp only [List.getElem?_mapIdx, List.getElem?_map]
      cases hr : (List.range N)[j]? with
      | none => rfl
      | some k =>
        simp only [Option.map_some]
        cases ty0 k <;> rfl
    rw [e2] at hP hD
    exact mm_grow (sh := .inr (ci, (List.range N).map (fun k => mm_dv (ty0 k)))) hAt hL hK hl hc hv ⟨hm.1, hm.2⟩ hP hD hS K
  · exact absurd trivial hq0
end MMN
end
section
section MMT
variable {X : Nat × (Nat → Int)} {d mc ms : Nat} {mi : mm_Mi} {Po : mm_Po} {pc : Nat} {L : List (Nat × mm_V)} {st : List mm_V} {La : List mm_S} {M : mm_M} {ck cs : Nat}
theorem mm_mmax {idx : Nat} {x y : Int} (hd : decode mi.2.1 pc = .ok (.invokestatic idx, 3)) (wl : Cond.methodLink mi.1.cls idx yJ9_max_7cf53 ∈ mm_tbl) (wi : Cond.static yJ9_max_7cf53 ∈ mm_tbl) (wn : Cond.initialized RJ9 ∈ mm_tbl) (wc : Cond.code yJ9_max_7cf53 cJ9_max_7cf53 2 (some .int) ∈ mm_tbl) (ha : mm_r32 x) (hb0 : mm_r32 y) (hcat : mm_wd st ≤ 8) (K : mm_G X d mc ms mi Po (pc + 3) L (v_i (max x y) :: st) La M ck cs) : mm_G X d mc ms mi Po pc L (v_i y :: v_i x :: st) La M ck cs := by
  intro p l e R s m args below meth c A ad ty D H locs ls Q hAt hWd hL hK h1 h2
  have kk := K p l e R s m args below meth c A ad ty D H locs ls Q hAt hWd hL hK h1 h2
  obtain ⟨r1, r2, r3, r4⟩ := hAt.2.2.2.2.2.1
  have hts := hAt.2.2.2.2.1
  have e1 : (if Int32.ofInt x < Int32.ofInt y then Int32.ofInt y else Int32.ofInt x) = Int32.ofInt (max x y) := by
    by_cases h : x < y
    · rw [if_pos ((mm_lt32 ha hb0).mpr h), Int.max_eq_right (by omega)]
    · rw [if_neg (fun h3 => h ((mm_lt32 ha hb0).mp h3)), Int.max_eq_left (by omega)]
  refine va_mmax hAt.1 hAt.2.1 (by rw [hAt.2.2.1, hL.1]) hAt.2.2.2.1 (hts _ wl) (hts _ wi) (hts _ wn) (hts _ wc) (by omega) (by rw [mm_wd_cat]; omega) (by omega) (by omega) hd ?_
  rw [e1]
  exact kk
theorem mm_mmin {idx : Nat} {x y : Int} (hd : decode mi.2.1 pc = .ok (.invokestatic idx, 3)) (wl : Cond.methodLink mi.1.cls idx yJ9_min_7cf53 ∈ mm_tbl) (wi : Cond.static yJ9_min_7cf53 ∈ mm_tbl) (wn : Cond.initialized RJ9 ∈ mm_tbl) (wc : Cond.code yJ9_min_7cf53 cJ9_min_7cf53 2 (some .int) ∈ mm_tbl) (ha : mm_r32 x) (hb0 : mm_r32 y) (hcat : mm_wd st ≤ 8) (K : mm_G X d mc ms mi Po (pc + 3) L (v_i (min x y) :: st) La M ck cs) : mm_G X d mc ms mi Po pc L (v_i y :: v_i x :: st) La M ck cs := by
  intro p l e R s m args below meth c A ad ty D H locs ls Q hAt hWd hL hK h1 h2
  have kk := K p l e R s m args below meth c A ad ty D H locs ls Q hAt hWd hL hK h1 h2
  obtain ⟨r1, r2, r3, r4⟩ := hAt.2.2.2.2.2.1
  have hts := hAt.2.2.2.2.1
  have e1 : (if Int32.ofInt y < Int32.ofInt x then Int32.ofInt y else Int32.ofInt x) = Int32.ofInt (min x y) := by
    by_cases h : y < x
    · rw [if_pos ((mm_lt32 hb0 ha).mpr h), Int.min_eq_right (by omega)]
    · rw [if_neg (fun h3 => h ((mm_lt32 hb0 ha).mp h3)), Int.min_eq_left (by omega)]
  refine va_mmin hAt.1 hAt.2.1 (by rw [hAt.2.2.1, hL.1]) hAt.2.2.2.1 (hts _ wl) (hts _ wi) (hts _ wn) (hts _ wc) (by omega) (by rw [mm_wd_cat]; omega) (by omega) (by omega) hd ?_
  rw [e1]
  exact kk
theorem mm_mabs {idx : Nat} {x : Int} (hd : decode mi.2.1 pc = .ok (.invokestatic idx, 3)) (wl : Cond.methodLink mi.1.cls idx yJ9_abs_0f7a4 ∈ mm_tbl) (wi : Cond.static yJ9_abs_0f7a4 ∈ mm_tbl) (wn : Cond.initialized RJ9 ∈ mm_tbl) (wc : Cond.code yJ9_abs_0f7a4 cJ9_abs_0f7a4 1 (some .int) ∈ mm_tbl) (ha : mm_r32 x) (hcat : mm_wd st ≤ 8) (K : mm_G X d mc ms mi Po (pc + 3) L (v_i (max x (-x)) :: st) La M ck cs) : mm_G X d mc ms mi Po pc L (v_i x :: st) La M ck cs := by
  intro p l e R s m args below meth c A ad ty D H locs ls Q hAt hWd hL hK h1 h2
  have kk := K p l e R s m args below meth c A ad ty D H locs ls Q hAt hWd hL hK h1 h2
  obtain ⟨r1, r2, r3, r4⟩ := hAt.2.2.2.2.2.1
  have hts := hAt.2.2.2.2.1
  have e1 : (if 0 ≤ Int32.ofInt x then Int32.ofInt x else 0 - Int32.ofInt x) = Int32.ofInt (max x (-x)) := by
    have h0 : (0 : Int32) = Int32.ofInt 0 := rfl
    by_cases h : 0 ≤ x
    · rw [if_pos (by rw [h0]; exact (mm_le32 (by omega) ha).mpr h), Int.max_eq_left (by omega)]
    · rw [if_neg (show ¬ (0 : Int32) ≤ Int32.ofInt x from fun h3 => h ((mm_le32 (by omega) ha).mp h3)), Int.max_eq_right (by omega), h0, ← Int32.ofInt_sub]
      congr 1
      omega
  refine va_mabs hAt.1 hAt.2.1 (by rw [hAt.2.2.1, hL.1]) hAt.2.2.2.1 (hts _ wl) (hts _ wi) (hts _ wn) (hts _ wc) (by omega) (by rw [mm_wd_cat]; omega) (by omega) (by omega) hd ?_
  rw [e1]
  exact kk
theorem mm_mabsL {idx : Nat} {x : Int} (hd : decode mi.2.1 pc = .ok (.invokestatic idx, 3)) (wl : Cond.methodLink mi.1.cls idx yJ9_abs_067f4 ∈ mm_tbl) (wi : Cond.static yJ9_abs_067f4 ∈ mm_tbl) (wn : Cond.initialized RJ9 ∈ mm_tbl) (wc : Cond.code yJ9_abs_067f4 cJ9_abs_067f4 2 (some .long) ∈ mm_tbl) (ha : mm_r64 x) (hcat : mm_wd st ≤ 8) (K : mm_G X d mc ms mi Po (pc + 3) L (v_l (max x (-x)) :: st) La M ck cs) : mm_G X d mc ms mi Po pc L (v_l x :: st) La M ck cs := by
  intro p l e R s m args below meth c A ad ty D H locs ls Q hAt hWd hL hK h1 h2
  have kk := K p l e R s m args below meth c A ad ty D H locs ls Q hAt hWd hL hK h1 h2
  obtain ⟨r1, r2, r3, r4⟩ := hAt.2.2.2.2.2.1
  have hts := hAt.2.2.2.2.1
  have e1 : (if 0 < Int64.ofInt x then Int64.ofInt x else -Int64.ofInt x) = Int64.ofInt (max x (-x)) := by
    have h0 : (0 : Int64) = Int64.ofInt 0 := rfl
    by_cases h : 0 < x
    · rw [if_pos (by rw [h0]; exact (mm_lt64 (by omega) ha).mpr h), Int.max_eq_left (by omega)]
    · rw [if_neg (show ¬ (0 : Int64) < Int64.ofInt x from fun h3 => h ((mm_lt64 (by omega) ha).mp h3)), Int.max_eq_right (by omega), ← Int64.ofInt_neg]
  refine va_mabs_long hAt.1 hAt.2.1 (by rw [hAt.2.2.1, hL.1]) hAt.2.2.2.1 (hts _ wl) (hts _ wi) (hts _ wn) (hts _ wc) (by omega) (by rw [mm_wd_cat]; omega) (by omega) (by omega) hd ?_
  rw [e1]
  exact kk
/-! System.arraycopy over int arrays -/
def mm_cpy (M : mm_M) (a b sp dp n : Nat) : mm_M := fun i k => if i = b ∧ dp ≤ k ∧ k < dp + n then M a (sp + (k - dp)) else M i k
theorem mm_cp {idx a b n0 n1 : Nat} {sp dp n : Int} (hd : decode mi.2.1 pc = .ok (.invokestatic idx, 3)) (wl : Cond.methodLink mi.1.cls idx arraycopyName ∈ mm_tbl) (wi : Cond.native arraycopyName ∈ mm_tbl) (ws : Cond.static arraycopyName ∈ mm_tbl) (wn : Cond.initialized "java/lang/System" ∈ mm_tbl) (hcat : mm_wd st ≤ 8) (ha : La[a]? = some (.inl (.int, n0))) (hb : La[b]? = some (.inl (.int, n1))) (g1 : 0 ≤ sp) (g2 : 0 ≤ dp) (g3 : 0 ≤ n) (g4 : sp + n ≤ n0) (g5 : dp + n ≤ n1) (g6 : n0 < 100000) (g7 : n1 < 100000)
    (K : mm_G X d mc ms mi Po (pc + 3) L st La (mm_cpy M a b sp.toNat dp.toNat n.toNat) ck cs) : mm_G X d mc ms mi Po pc L (v_i n :: v_i dp :: v_r b :: v_i sp :: v_r a :: st) La M ck cs := by
  intro p l e R s m args below meth c A ad ty D H locs ls Q hAt hWd hL hK h1 h2
  obtain ⟨r1, r2, r3, r4⟩ := hAt.2.2.2.2.2.1
  have hts := hAt.2.2.2.2.1
  have q : ∀ z : Int, 0 ≤ z → z < 200000 → ¬ Int32.ofInt z < 0 ∧ (Int32.ofInt z).toNatClampNeg = z.toNat := by
    intro z hz hz2
    have hh : (Int32.ofInt z).toInt = z := mm_o32 (by omega)
    refine ⟨fun h => ?_, ?_⟩
    · have h4 := Int32.lt_iff_toInt_lt.mp h
      rw [hh] at h4
      have h5 : (0 : Int32).toInt = 0 := rfl
      omega
    · show (Int32.ofInt z).toInt.toNat = _
      rw [hh]
  obtain ⟨s1, s2⟩ := q sp g1 (by omega)
  obtain ⟨d1, d2⟩ := q dp g2 (by omega)
  obtain ⟨n2, n3⟩ := q n g3 (by omega)
  refine va_copyi (f := fun j => Int32.ofInt (M a j)) (g := fun j => Int32.ofInt (M b j)) (ty := .int) hAt.1 hAt.2.1 (by rw [hAt.2.2.1, hL.1]) hAt.2.2.2.1 (hts _ wl) (hts _ wi) (hts _ ws) (hts _ wn) hAt.2.2.2.2.2.2.2.1 hWd.1 hWd.2.1 hWd.2.2 a b 0 0 (mm_ws_at ha) (mm_ws_at hb) rfl rfl rfl s1 d1 n2 (by rw [s2, n3]; omega) (by rw [d2, n3]; omega) (fun _ _ => rfl) (by omega) (by rw [mm_wd_cat]; have h9 : nativeFrameWords "java/lang/System" "arraycopy" 5 ≤ 20 := (by decide); omega) hd (fun H1 locs1 hP hD hS => ?_)
  rw [s2, d2, n3] at hP hD
  have ews : (mm_ws ty ad La M).set b (ad b, .inl (ty .int, n1, .inl (va_cpy (fun j => Int32.ofInt (M a j)) (fun j => Int32.ofInt (M b j)) sp.toNat dp.toNat n.toNat))) = mm_ws ty ad La (mm_cpy M a b sp.toNat dp.toNat n.toNat) := by
    have hi : b < La.length := (List.getElem?_eq_some_iff.mp hb).1
    apply List.ext_getElem?
    intro j
    by_cases hj : j = b
    · subst hj
      rw [List.getElem?_set_self (by simpa [mm_ws] using hi), mm_ws_at hb]
      have e1 : va_cpy (fun k => Int32.ofInt (M a k)) (fun k => Int32.ofInt (M j k)) sp.toNat dp.toNat n.toNat = fun k => Int32.ofInt (mm_cpy M a j sp.toNat dp.toNat n.toNat j k) := by
        funext k
        simp only [va_cpy, mm_cpy, true_and]
        split <;> rfl
      rw [e1]
      rfl
    · rw [List.getElem?_set_ne (Ne.symm hj)]
      have e2 : mm_cpy M a b sp.toNat dp.toNat n.toNat j = M j := by
        funext k
        simp [mm_cpy, hj]
      simp only [mm_ws, List.getElem?_mapIdx, e2]
  rw [ews] at hP hD
  exact K p l e R s m args below meth c A ad ty D H1 locs1 ls Q hAt ⟨hP, hD, hS⟩ hL hK h1 h2
/-- a static of which nothing is known but that it holds a reference or null -/
theorem mm_getS3 {idx : Nat} (hd : decode mi.2.1 pc = .ok (.getstatic idx, 3)) (w : Cond.fieldLink mi.1.cls idx RJ3 "SIOOBE_FORMATTER" "Ljava/util/function/BiFunction;" ∈ mm_tbl) (K1 : mm_G X d mc ms mi Po (pc + 3) L (v_n :: st) La M ck cs) (K2 : mm_G X d mc ms mi Po (pc + 3) L (v_r 1013 :: st) La M ck cs) : mm_G X d mc ms mi Po pc L st La M ck cs := by
  intro p l e R s m args below meth c A ad ty D H locs ls Q hAt hWd hL hK h1 h2
  rcases hAt.2.2.2.2.2.2.1.2.2.2.2.2.2.2 with hz | hz
  · have kk := K1 p l e R s m args below meth c A ad ty D H locs ls Q hAt hWd hL hK h1 h2
    exact va_gets hAt.1 hAt.2.1 hz hWd.2.2 hAt.2.2.2.1 (hAt.2.2.2.2.1 _ w) (fun _ h => h) hd kk
  · have kk := K2 p l e R s m args below meth c A ad ty D H locs ls Q hAt hWd hL hK h1 h2
    exact va_gets hAt.1 hAt.2.1 hz hWd.2.2 hAt.2.2.2.1 (hAt.2.2.2.2.1 _ w) (fun _ h => h) hd kk
end MMT
end
section
section MMB
variable {X : Nat × (Nat → Int)} {d mc ms : Nat} {mi : mm_Mi} {Po : mm_Po} {pc : Nat} {L : List (Nat × mm_V)} {st : List mm_V} {La La' : List mm_S} {M : mm_M} {ck cs : Nat}
theorem mm_newb {at0 : ArrayType} {t : FieldType} {n q : Nat} (hd : decode mi.2.1 pc = .ok (.newarray at0, 2)) (w : Cond.arrayClass (newarray.typeOf at0) ∈ mm_tbl) (ht : newarray.typeOf at0 = t) (hk : t = .int ∨ t = .long ∨ t = .boolean) (hn : n ≤ 5000) (hm : ck + 1 ≤ mc ∧ cs + n ≤ ms) (hq : La.length = q) (hl : q < 1000) (hc : mm_nk q La = true) (hv : mm_vk q (st ++ L.map (fun q => q.2)) = true) (hz : ∀ k, M q k = 0) (hLa : La ++ [.inl (t, n)] = La')
    (K : mm_G X d mc ms mi Po (pc + 2) L (v_r q :: st) La' M (ck + 1) (cs + n)) : mm_G X d mc ms mi Po pc L (v_i (n : Int) :: st) La M ck cs := by
  subst hq; subst hLa
  exact mm_newa hd w ht hk hn hm hl hc hv hz K
theorem mm_newo {idx ci N q : Nat} {C : String} {T : u_T} {ty0 : Nat → FieldType} {fs : List mm_V} (hd : decode mi.2.1 pc = .ok (.new idx, 3)) (hci : vwCl[ci]? = some (C, T, N)) (hin : ∀ w ∈ u_ws C T N, w ∈ mm_tbl) (hty : ∀ k, k < N → parseFieldDescriptor (T k).2.2.1 = some (ty0 k)) (w1 : Cond.classLink mi.1.cls idx C ∈ mm_tbl) (w2 : Cond.instantiable C N ∈ mm_tbl) (w3 : Cond.initialized C ∈ mm_tbl)
    (hdt : (List.range N).all (fun k => mm_dt (ty0 k)) = true) (hfs : (List.range N).map (fun k => mm_dv (ty0 k)) = fs) (hm : ck + 1 ≤ mc ∧ cs + N ≤ ms) (hq : La.length = q) (hl : q < 1000) (hc : mm_nk q La = true) (hv : mm_vk q (st ++ L.map (fun q => q.2)) = true) (hz : ∀ k, M q k = 0) (hLa : La ++ [.inr (ci, fs)] = La')
    (K : mm_G X d mc ms mi Po (pc + 3) L (v_r q :: st) La' M (ck + 1) (cs + N)) : mm_G X d mc ms mi Po pc L st La M ck cs := by
  subst hq; subst hLa
  exact mm_new hd hci hin hty w1 w2 w3 hdt hfs hm hl hc hv hz K
/-- the answers and the memory may be told otherwise -/
theorem mm_pi {a b : Int} (h : a = b) (k : Po (some (v_i b)) La M) : Po (some (v_i a)) La M := h ▸ k
theorem mm_pl {a b : Int} (h : a = b) (k : Po (some (v_l b)) La M) : Po (some (v_l a)) La M := h ▸ k
theorem mm_pm {a b : Int} {M' : mm_M} (h : a = b) (hM : M = M') (k : Po (some (v_i b)) La M') : Po (some (v_i a)) La M := by subst h; subst hM; exact k
theorem mm_pv {M' : mm_M} (hM : M = M') (k : Po none La M') : Po none La M := by subst hM; exact k
theorem mm_eqM {M' : mm_M} (hM : M = M') (k : mm_G X d mc ms mi Po pc L st La M' ck cs) : mm_G X d mc ms mi Po pc L st La M ck cs := by subst hM; exact k
/-! Arrays.fill -/
def mm_fill (M : mm_M) (b n : Nat) (v : Int) : mm_M := fun i k => if i = b ∧ k < n then v else M i k
theorem mm_fill_0 {b : Nat} {v : Int} : mm_fill M b 0 v = M := by
  funext i k
  simp [mm_fill]
theorem mm_fill_s {b n : Nat} {v : Int} : mm_up (mm_fill M b n v) b n v = mm_fill M b (n + 1) v := by
  funext i k
  simp only [mm_up, mm_fill]
  by_cases h1 : i = b
  · by_cases h2 : k = n
    · simp [h1, h2]
    · by_cases h3 : k < n
      · simp [h1, h2, h3, Nat.lt_succ_of_lt h3]
      · have h4 : ¬ k < n + 1 := by omega
        simp [h1, h2, h3, h4]
  · simp [h1]
theorem c_fillI_loop {b n : Nat} (hn : n < 5000) (hb : La[b]? = some (.inl (.int, n))) (v : Int) (k : Po none La (mm_fill M b n v)) : ∀ (r j : Nat), j + r = n → mm_G X d 0 0 mi_J7_fill_53178 Po 5 [(0, v_r b), (1, v_i v), (2, v_i j), (3, v_i n)] [] La (mm_fill M b j v) 0 0 := by
  intro r
  induction r with
  | zero =>
    intro j hj
    refine mm_iload_n (mm_dc od_J7_fill_53178_0 5 rfl) rfl ?_
    refine mm_iload_n (mm_dc od_J7_fill_53178_0 6 rfl) rfl ?_
    refine mm_icmp_ge 20 (mm_dc od_J7_fill_53178_0 7 rfl) (by decide) (by omega) (by omega) (fun c1 => ?_) (fun c1 => ?_)
    · refine mm_ret (mm_dc od_J7_fill_53178_0 14 rfl) rfl ?_
      have e : j = n := by omega
      rw [e]
      exact k
    · omega
  | succ r ih =>
    intro j hj
    refine mm_iload_n (mm_dc od_J7_fill_53178_0 5 rfl) rfl ?_
    refine mm_iload_n (mm_dc od_J7_fill_53178_0 6 rfl) rfl ?_
    refine mm_icmp_ge 20 (mm_dc od_J7_fill_53178_0 7 rfl) (by decide) (by omega) (by omega) (fun c1 => ?_) (fun c1 => ?_)
    · omega
    · refine mm_aload_n (mm_dc od_J7_fill_53178_0 8 rfl) rfl ?_
      refine mm_iload_n (mm_dc od_J7_fill_53178_0 9 rfl) rfl ?_
      refine mm_iload_n (mm_dc od_J7_fill_53178_0 10 rfl) rfl ?_
      refine mm_iast (mm_dc od_J7_fill_53178_0 11 rfl) hb (by omega) (by omega) (by omega) ?_
      refine mm_iinc (L' := [(0, v_r b), (1, v_i v), (2, v_i ((j : Int) + 1)), (3, v_i n)]) (mm_dc od_J7_fill_53178_0 12 rfl) rfl (by decide) rfl ?_
      refine mm_goto 5 (mm_dc od_J7_fill_53178_0 13 rfl) (by decide) ?_
      rw [show ((j : Int)).toNat = j from rfl, mm_fill_s]
      exact ih (j + 1) (by omega)
theorem c_fillI {b n : Nat} (hn : n < 5000) (hb : La[b]? = some (.inl (.int, n))) (v : Int) (k : Po none La (mm_fill M b n v)) : mm_E X d 0 0 mi_J7_fill_53178 [v_r b, v_i v] Po La M := by
  show mm_G X d 0 0 mi_J7_fill_53178 Po 0 [(0, v_r b), (1, v_i v)] [] La M 0 0
  refine mm_iconst (mm_dc od_J7_fill_53178_0 0 rfl) ?_
  refine mm_istore_n (L' := [(0, v_r b), (1, v_i v), (2, v_i 0)]) (mm_dc od_J7_fill_53178_0 1 rfl) (by decide) rfl ?_
  refine mm_aload_n (mm_dc od_J7_fill_53178_0 2 rfl) rfl ?_
  refine mm_alen (mm_dc od_J7_fill_53178_0 3 rfl) hb (by decide) ?_
  refine mm_istore_n (L' := [(0, v_r b), (1, v_i v), (2, v_i 0), (3, v_i n)]) (mm_dc od_J7_fill_53178_0 4 rfl) (by decide) rfl ?_
  have h := c_fillI_loop (X := X) (d := d) (M := M) hn hb v k n 0 (by omega)
  rw [mm_fill_0] at h
  exact h
theorem c_fillL_loop {b n : Nat} (hn : n < 5000) (hb : La[b]? = some (.inl (.long, n))) (v : Int) (k : Po none La (mm_fill M b n v)) : ∀ (r j : Nat), j + r = n → mm_G X d 0 0 mi_J7_fill_d0a16 Po 6 [(0, v_r b), (1, v_l v), (3, v_i j), (4, v_i n)] [] La (mm_fill M b j v) 0 0 := by
  intro r
  induction r with
  | zero =>
    intro j hj
    refine mm_iload_n (mm_dc od_J7_fill_d0a16_0 5 rfl) rfl ?_
    refine mm_iload (mm_dc od_J7_fill_d0a16_0 6 rfl) rfl ?_
    refine mm_icmp_ge 22 (mm_dc od_J7_fill_d0a16_0 7 rfl) (by decide) (by omega) (by omega) (fun c1 => ?_) (fun c1 => ?_)
    · refine mm_ret (mm_dc od_J7_fill_d0a16_0 14 rfl) rfl ?_
      have e : j = n := by omega
      rw [e]
      exact k
    · omega
  | succ r ih =>
    intro j hj
    refine mm_iload_n (mm_dc od_J7_fill_d0a16_0 5 rfl) rfl ?_
    refine mm_iload (mm_dc od_J7_fill_d0a16_0 6 rfl) rfl ?_
    refine mm_icmp_ge 22 (mm_dc od_J7_fill_d0a16_0 7 rfl) (by decide) (by omega) (by omega) (fun c1 => ?_) (fun c1 => ?_)
    · omega
    · refine mm_aload_n (mm_dc od_J7_fill_d0a16_0 8 rfl) rfl ?_
      refine mm_iload_n (mm_dc od_J7_fill_d0a16_0 9 rfl) rfl ?_
      refine mm_lload_n (mm_dc od_J7_fill_d0a16_0 10 rfl) rfl ?_
      refine mm_last (mm_dc od_J7_fill_d0a16_0 11 rfl) hb (by omega) (by omega) (by omega) ?_
      refine mm_iinc (L' := [(0, v_r b), (1, v_l v), (3, v_i ((j : Int) + 1)), (4, v_i n)]) (mm_dc od_J7_fill_d0a16_0 12 rfl) rfl (by decide) rfl ?_
      refine mm_goto 6 (mm_dc od_J7_fill_d0a16_0 13 rfl) (by decide) ?_
      rw [show ((j : Int)).toNat = j from rfl, mm_fill_s]
      exact ih (j + 1) (by omega)
theorem c_fillL {b n : Nat} (hn : n < 5000) (hb : La[b]? = some (.inl (.long, n))) (v : Int) (k : Po none La (mm_fill M b n v)) : mm_E X d 0 0 mi_J7_fill_d0a16 [v_r b, v_l v] Po La M := by
  show mm_G X d 0 0 mi_J7_fill_d0a16 Po 0 [(0, v_r b), (1, v_l v)] [] La M 0 0
  refine mm_iconst (mm_dc od_J7_fill_d0a16_0 0 rfl) ?_
  refine mm_istore_n (L' := [(0, v_r b), (1, v_l v), (3, v_i 0)]) (mm_dc od_J7_fill_d0a16_0 1 rfl) (by decide) rfl ?_
  refine mm_aload_n (mm_dc od_J7_fill_d0a16_0 2 rfl) rfl ?_
  refine mm_alen (mm_dc od_J7_fill_d0a16_0 3 rfl) hb (by decide) ?_
  refine mm_istore (L' := [(0, v_r b), (1, v_l v), (3, v_i 0), (4, v_i n)]) (mm_dc od_J7_fill_d0a16_0 4 rfl) (by decide) rfl ?_
  have h := c_fillL_loop (X := X) (d := d) (M := M) hn hb v k n 0 (by omega)
  rw [mm_fill_0] at h
  exact h
end MMB
end
section
theorem yk_J0_charAt_5068e : mm_yk mi_J0_charAt_5068e 1 2 = true := by decide +kernel
theorem yk_J0_checkIndex_df160 : mm_yk mi_J0_checkIndex_df160 2 2 = true := by decide +kernel
theorem yk_J0_coder_7d493 : mm_yk mi_J0_coder_7d493 0 1 = true := by decide +kernel
theorem yk_J0_isLatin1_aae02 : mm_yk mi_J0_isLatin1_aae02 0 1 = true := by decide +kernel
theorem yk_J0_length_8abf5 : mm_yk mi_J0_length_8abf5 0 1 = true := by decide +kernel
theorem yk_J1_charAt_3b067 : mm_yk mi_J1_charAt_3b067 2 2 = true := by decide +kernel
theorem yk_J2_charAt_3b067 : mm_yk mi_J2_charAt_3b067 2 2 = true := by decide +kernel
theorem yk_J2_checkIndex_2214a : mm_yk mi_J2_checkIndex_2214a 2 2 = true := by decide +kernel
theorem yk_J2_getChar_3b067 : mm_yk mi_J2_getChar_3b067 2 2 = true := by decide +kernel
theorem yk_J2_length_9d52b : mm_yk mi_J2_length_9d52b 1 1 = true := by decide +kernel
theorem yk_J3_checkIndex_8e157 : mm_yk mi_J3_checkIndex_8e157 3 3 = true := by decide +kernel
theorem yk_J6_bitCount_0f7a4 : mm_yk mi_J6_bitCount_0f7a4 1 1 = true := by decide +kernel
theorem yk_J7_fill_53178 : mm_yk mi_J7_fill_53178 2 2 = true := by decide +kernel
theorem yk_J7_fill_d0a16 : mm_yk mi_J7_fill_d0a16 2 3 = true := by decide +kernel
theorem yk_X0_aboard : mm_yk mi_X0_aboard 1 2 = true := by decide +kernel
theorem yk_X0_addBoat : mm_yk mi_X0_addBoat 4 5 = true := by decide +kernel
theorem yk_X0_addOar : mm_yk mi_X0_addOar 2 3 = true := by decide +kernel
theorem yk_X0_allMayBeOut : mm_yk mi_X0_allMayBeOut 2 3 = true := by decide +kernel
theorem yk_X0_dislike : mm_yk mi_X0_dislike 3 4 = true := by decide +kernel
theorem yk_X0_hasBoat : mm_yk mi_X0_hasBoat 1 2 = true := by decide +kernel
theorem yk_X0_hasCox : mm_yk mi_X0_hasCox 1 2 = true := by decide +kernel
theorem yk_X0_hasOar : mm_yk mi_X0_hasOar 1 2 = true := by decide +kernel
theorem yk_X0_hasSeat : mm_yk mi_X0_hasSeat 2 3 = true := by decide +kernel
theorem yk_X0_init : mm_yk mi_X0_init 0 1 = true := by decide +kernel
theorem yk_X0_isCox : mm_yk mi_X0_isCox 1 2 = true := by decide +kernel
theorem yk_X0_isManned : mm_yk mi_X0_isManned 1 2 = true := by decide +kernel
theorem yk_X0_isYoungAboard : mm_yk mi_X0_isYoungAboard 1 2 = true := by decide +kernel
theorem yk_X0_mayBeOut : mm_yk mi_X0_mayBeOut 2 3 = true := by decide +kernel
theorem yk_X0_maySit : mm_yk mi_X0_maySit 2 3 = true := by decide +kernel
theorem yk_X0_meanWeight : mm_yk mi_X0_meanWeight 1 2 = true := by decide +kernel
theorem yk_X0_putOn : mm_yk mi_X0_putOn 3 4 = true := by decide +kernel
theorem yk_X0_seats : mm_yk mi_X0_seats 1 2 = true := by decide +kernel
theorem yk_X0_sitsIn : mm_yk mi_X0_sitsIn 2 3 = true := by decide +kernel
theorem yk_X0_whoSits : mm_yk mi_X0_whoSits 2 3 = true := by decide +kernel
theorem yk_X10_about : mm_yk mi_X10_about 2 3 = true := by decide +kernel
theorem yk_X10_ashore : mm_yk mi_X10_ashore 2 3 = true := by decide +kernel
theorem yk_X10_asked : mm_yk mi_X10_asked 2 3 = true := by decide +kernel
theorem yk_X10_between : mm_yk mi_X10_between 3 4 = true := by decide +kernel
theorem yk_X10_bits : mm_yk mi_X10_bits 1 1 = true := by decide +kernel
theorem yk_X10_boat : mm_yk mi_X10_boat 4 5 = true := by decide +kernel
theorem yk_X10_broke : mm_yk mi_X10_broke 2 3 = true := by decide +kernel
theorem yk_X10_canSit : mm_yk mi_X10_canSit 3 4 = true := by decide +kernel
theorem yk_X10_clash : mm_yk mi_X10_clash 3 4 = true := by decide +kernel
theorem yk_X10_clashes : mm_yk mi_X10_clashes 0 1 = true := by decide +kernel
theorem yk_X10_costOf : mm_yk mi_X10_costOf 3 4 = true := by decide +kernel
theorem yk_X10_count : mm_yk mi_X10_count 1 2 = true := by decide +kernel
theorem yk_X10_crew : mm_yk mi_X10_crew 3 4 = true := by decide +kernel
theorem yk_X10_day : mm_yk mi_X10_day 1 2 = true := by decide +kernel
theorem yk_X10_determinant : mm_yk mi_X10_determinant 1 2 = true := by decide +kernel
theorem yk_X10_dislikes : mm_yk mi_X10_dislikes 3 4 = true := by decide +kernel
theorem yk_X10_divisor : mm_yk mi_X10_divisor 2 4 = true := by decide +kernel
theorem yk_X10_feed : mm_yk mi_X10_feed 2 4 = true := by decide +kernel
theorem yk_X10_field : mm_yk mi_X10_field 3 4 = true := by decide +kernel
theorem yk_X10_fillCost : mm_yk mi_X10_fillCost 2 3 = true := by decide +kernel
theorem yk_X10_findGroups : mm_yk mi_X10_findGroups 0 1 = true := by decide +kernel
theorem yk_X10_fits : mm_yk mi_X10_fits 2 3 = true := by decide +kernel
theorem yk_X10_group : mm_yk mi_X10_group 1 2 = true := by decide +kernel
theorem yk_X10_hasCox : mm_yk mi_X10_hasCox 1 2 = true := by decide +kernel
theorem yk_X10_heat : mm_yk mi_X10_heat 2 3 = true := by decide +kernel
theorem yk_X10_ill : mm_yk mi_X10_ill 2 3 = true := by decide +kernel
theorem yk_X10_init : mm_yk mi_X10_init 0 1 = true := by decide +kernel
theorem yk_X10_isBoat : mm_yk mi_X10_isBoat 1 2 = true := by decide +kernel
theorem yk_X10_isDigit : mm_yk mi_X10_isDigit 1 1 = true := by decide +kernel
theorem yk_X10_isIn : mm_yk mi_X10_isIn 3 6 = true := by decide +kernel
theorem yk_X10_isOar : mm_yk mi_X10_isOar 1 2 = true := by decide +kernel
theorem yk_X10_isSeat : mm_yk mi_X10_isSeat 2 3 = true := by decide +kernel
theorem yk_X10_isSo : mm_yk mi_X10_isSo 3 4 = true := by decide +kernel
theorem yk_X10_letter : mm_yk mi_X10_letter 2 2 = true := by decide +kernel
theorem yk_X10_longest : mm_yk mi_X10_longest 2 3 = true := by decide +kernel
theorem yk_X10_look : mm_yk mi_X10_look 2 3 = true := by decide +kernel
theorem yk_X10_may : mm_yk mi_X10_may 2 3 = true := by decide +kernel
theorem yk_X10_mayBeOut : mm_yk mi_X10_mayBeOut 2 3 = true := by decide +kernel
theorem yk_X10_misfit : mm_yk mi_X10_misfit 2 3 = true := by decide +kernel
theorem yk_X10_near : mm_yk mi_X10_near 1 2 = true := by decide +kernel
theorem yk_X10_oar : mm_yk mi_X10_oar 2 3 = true := by decide +kernel
theorem yk_X10_out : mm_yk mi_X10_out 2 3 = true := by decide +kernel
theorem yk_X10_outing : mm_yk mi_X10_outing 2 3 = true := by decide +kernel
theorem yk_X10_parses : mm_yk mi_X10_parses 0 1 = true := by decide +kernel
theorem yk_X10_part : mm_yk mi_X10_part 3 5 = true := by decide +kernel
theorem yk_X10_race : mm_yk mi_X10_race 3 4 = true := by decide +kernel
theorem yk_X10_rack : mm_yk mi_X10_rack 1 2 = true := by decide +kernel
theorem yk_X10_rule : mm_yk mi_X10_rule 0 1 = true := by decide +kernel
theorem yk_X10_ruled : mm_yk mi_X10_ruled 2 3 = true := by decide +kernel
theorem yk_X10_seat : mm_yk mi_X10_seat 2 3 = true := by decide +kernel
theorem yk_X10_seatsOf : mm_yk mi_X10_seatsOf 1 2 = true := by decide +kernel
theorem yk_X10_shift : mm_yk mi_X10_shift 1 2 = true := by decide +kernel
theorem yk_X10_sign : mm_yk mi_X10_sign 0 1 = true := by decide +kernel
theorem yk_X10_sit : mm_yk mi_X10_sit 3 4 = true := by decide +kernel
theorem yk_X10_sitter : mm_yk mi_X10_sitter 2 3 = true := by decide +kernel
theorem yk_X10_solves : mm_yk mi_X10_solves 1 2 = true := by decide +kernel
theorem yk_X10_spelled : mm_yk mi_X10_spelled 6 6 = true := by decide +kernel
theorem yk_X10_strength : mm_yk mi_X10_strength 2 3 = true := by decide +kernel
theorem yk_X10_sure : mm_yk mi_X10_sure 2 3 = true := by decide +kernel
theorem yk_X10_takes : mm_yk mi_X10_takes 1 2 = true := by decide +kernel
theorem yk_X10_tells : mm_yk mi_X10_tells 3 4 = true := by decide +kernel
theorem yk_X10_test : mm_yk mi_X10_test 1 2 = true := by decide +kernel
theorem yk_X10_trailer : mm_yk mi_X10_trailer 2 3 = true := by decide +kernel
theorem yk_X10_unrace : mm_yk mi_X10_unrace 0 1 = true := by decide +kernel
theorem yk_X10_water : mm_yk mi_X10_water 3 4 = true := by decide +kernel
theorem yk_X10_whoIn : mm_yk mi_X10_whoIn 1 2 = true := by decide +kernel
theorem yk_X10_word : mm_yk mi_X10_word 2 3 = true := by decide +kernel
theorem yk_X10_wordOf : mm_yk mi_X10_wordOf 1 1 = true := by decide +kernel
theorem yk_X1_choose : mm_yk mi_X1_choose 3 4 = true := by decide +kernel
theorem yk_X1_fillRow : mm_yk mi_X1_fillRow 4 5 = true := by decide +kernel
theorem yk_X1_init : mm_yk mi_X1_init 0 1 = true := by decide +kernel
theorem yk_X1_isFree : mm_yk mi_X1_isFree 4 4 = true := by decide +kernel
theorem yk_X1_leastCost : mm_yk mi_X1_leastCost 3 4 = true := by decide +kernel
theorem yk_X1_seatThem : mm_yk mi_X1_seatThem 3 4 = true := by decide +kernel
theorem yk_X1_setPrices : mm_yk mi_X1_setPrices 3 4 = true := by decide +kernel
theorem yk_X2_addHeat : mm_yk mi_X2_addHeat 2 3 = true := by decide +kernel
theorem yk_X2_clashingPairs : mm_yk mi_X2_clashingPairs 0 1 = true := by decide +kernel
theorem yk_X2_firstClash : mm_yk mi_X2_firstClash 2 3 = true := by decide +kernel
theorem yk_X2_freeMinute : mm_yk mi_X2_freeMinute 1 2 = true := by decide +kernel
theorem yk_X2_init : mm_yk mi_X2_init 0 1 = true := by decide +kernel
theorem yk_X2_wouldClash : mm_yk mi_X2_wouldClash 3 4 = true := by decide +kernel
theorem yk_X3_addLook : mm_yk mi_X3_addLook 2 3 = true := by decide +kernel
theorem yk_X3_addOuting : mm_yk mi_X3_addOuting 4 5 = true := by decide +kernel
theorem yk_X3_brokeAt : mm_yk mi_X3_brokeAt 1 2 = true := by decide +kernel
theorem yk_X3_firstBehind : mm_yk mi_X3_firstBehind 1 2 = true := by decide +kernel
theorem yk_X3_firstSuspect : mm_yk mi_X3_firstSuspect 1 2 = true := by decide +kernel
theorem yk_X3_init : mm_yk mi_X3_init 0 1 = true := by decide +kernel
theorem yk_X3_isBroken : mm_yk mi_X3_isBroken 1 2 = true := by decide +kernel
theorem yk_X3_latestLook : mm_yk mi_X3_latestLook 2 3 = true := by decide +kernel
theorem yk_X3_suspects : mm_yk mi_X3_suspects 1 2 = true := by decide +kernel
theorem yk_X4_addRace : mm_yk mi_X4_addRace 3 4 = true := by decide +kernel
theorem yk_X4_addToRow : mm_yk mi_X4_addToRow 3 4 = true := by decide +kernel
theorem yk_X4_clearCell : mm_yk mi_X4_clearCell 4 7 = true := by decide +kernel
theorem yk_X4_eliminate : mm_yk mi_X4_eliminate 1 2 = true := by decide +kernel
theorem yk_X4_fillCells : mm_yk mi_X4_fillCells 1 2 = true := by decide +kernel
theorem yk_X4_groupOf : mm_yk mi_X4_groupOf 1 2 = true := by decide +kernel
theorem yk_X4_init : mm_yk mi_X4_init 0 1 = true := by decide +kernel
theorem yk_X4_leadOver : mm_yk mi_X4_leadOver 3 4 = true := by decide +kernel
theorem yk_X4_misfitAbove : mm_yk mi_X4_misfitAbove 1 2 = true := by decide +kernel
theorem yk_X4_numberRows : mm_yk mi_X4_numberRows 1 2 = true := by decide +kernel
theorem yk_X4_solve : mm_yk mi_X4_solve 1 2 = true := by decide +kernel
theorem yk_X4_whoIsSurelyBetter : mm_yk mi_X4_whoIsSurelyBetter 2 3 = true := by decide +kernel
theorem yk_X5_init : mm_yk mi_X5_init 0 1 = true := by decide +kernel
theorem yk_X5_lay : mm_yk mi_X5_lay 4 4 = true := by decide +kernel
theorem yk_X5_load : mm_yk mi_X5_load 3 4 = true := by decide +kernel
theorem yk_X5_longestRow : mm_yk mi_X5_longestRow 0 1 = true := by decide +kernel
theorem yk_X6_init : mm_yk mi_X6_init 0 1 = true := by decide +kernel
theorem yk_X7_asked : mm_yk mi_X7_asked 1 2 = true := by decide +kernel
theorem yk_X7_init : mm_yk mi_X7_init 0 1 = true := by decide +kernel
theorem yk_X7_isSo : mm_yk mi_X7_isSo 1 2 = true := by decide +kernel
theorem yk_X7_keepRead : mm_yk mi_X7_keepRead 0 1 = true := by decide +kernel
theorem yk_X7_read : mm_yk mi_X7_read 1 2 = true := by decide +kernel
theorem yk_X7_readTest : mm_yk mi_X7_readTest 2 3 = true := by decide +kernel
theorem yk_X7_readTests : mm_yk mi_X7_readTests 1 2 = true := by decide +kernel
theorem yk_X7_testsHold : mm_yk mi_X7_testsHold 1 2 = true := by decide +kernel
theorem yk_X8_append : mm_yk mi_X8_append 2 4 = true := by decide +kernel
theorem yk_X8_countSame : mm_yk mi_X8_countSame 3 4 = true := by decide +kernel
theorem yk_X8_init : mm_yk mi_X8_init 0 1 = true := by decide +kernel
theorem yk_X8_isAtEnd : mm_yk mi_X8_isAtEnd 0 1 = true := by decide +kernel
theorem yk_X8_skip : mm_yk mi_X8_skip 1 2 = true := by decide +kernel
theorem yk_X8_takeNumber : mm_yk mi_X8_takeNumber 0 1 = true := by decide +kernel
theorem yk_X8_takeWord : mm_yk mi_X8_takeWord 1 2 = true := by decide +kernel
theorem yk_X9_about : mm_yk mi_X9_about 2 3 = true := by decide +kernel
theorem yk_X9_askedRule : mm_yk mi_X9_askedRule 2 3 = true := by decide +kernel
theorem yk_X9_between : mm_yk mi_X9_between 3 4 = true := by decide +kernel
theorem yk_X9_boat : mm_yk mi_X9_boat 4 5 = true := by decide +kernel
theorem yk_X9_broke : mm_yk mi_X9_broke 2 3 = true := by decide +kernel
theorem yk_X9_clashes : mm_yk mi_X9_clashes 0 1 = true := by decide +kernel
theorem yk_X9_commonDivisor : mm_yk mi_X9_commonDivisor 2 4 = true := by decide +kernel
theorem yk_X9_count : mm_yk mi_X9_count 1 2 = true := by decide +kernel
theorem yk_X9_crew : mm_yk mi_X9_crew 3 4 = true := by decide +kernel
theorem yk_X9_day : mm_yk mi_X9_day 1 2 = true := by decide +kernel
theorem yk_X9_feed : mm_yk mi_X9_feed 2 4 = true := by decide +kernel
theorem yk_X9_group : mm_yk mi_X9_group 1 2 = true := by decide +kernel
theorem yk_X9_has : mm_yk mi_X9_has 2 2 = true := by decide +kernel
theorem yk_X9_heat : mm_yk mi_X9_heat 2 3 = true := by decide +kernel
theorem yk_X9_ill : mm_yk mi_X9_ill 2 3 = true := by decide +kernel
theorem yk_X9_init : mm_yk mi_X9_init 0 1 = true := by decide +kernel
theorem yk_X9_isHour : mm_yk mi_X9_isHour 1 1 = true := by decide +kernel
theorem yk_X9_leastOf : mm_yk mi_X9_leastOf 1 1 = true := by decide +kernel
theorem yk_X9_look : mm_yk mi_X9_look 2 3 = true := by decide +kernel
theorem yk_X9_may : mm_yk mi_X9_may 2 3 = true := by decide +kernel
theorem yk_X9_misfit : mm_yk mi_X9_misfit 2 3 = true := by decide +kernel
theorem yk_X9_near : mm_yk mi_X9_near 1 2 = true := by decide +kernel
theorem yk_X9_oar : mm_yk mi_X9_oar 2 3 = true := by decide +kernel
theorem yk_X9_out : mm_yk mi_X9_out 2 3 = true := by decide +kernel
theorem yk_X9_outing : mm_yk mi_X9_outing 2 3 = true := by decide +kernel
theorem yk_X9_partOf : mm_yk mi_X9_partOf 3 5 = true := by decide +kernel
theorem yk_X9_race : mm_yk mi_X9_race 3 4 = true := by decide +kernel
theorem yk_X9_rack : mm_yk mi_X9_rack 1 2 = true := by decide +kernel
theorem yk_X9_rule : mm_yk mi_X9_rule 0 1 = true := by decide +kernel
theorem yk_X9_ruled : mm_yk mi_X9_ruled 2 3 = true := by decide +kernel
theorem yk_X9_seat : mm_yk mi_X9_seat 2 3 = true := by decide +kernel
theorem yk_X9_shift : mm_yk mi_X9_shift 1 2 = true := by decide +kernel
theorem yk_X9_sit : mm_yk mi_X9_sit 3 4 = true := by decide +kernel
theorem yk_X9_strength : mm_yk mi_X9_strength 2 3 = true := by decide +kernel
theorem yk_X9_sure : mm_yk mi_X9_sure 2 3 = true := by decide +kernel
theorem yk_X9_trailer : mm_yk mi_X9_trailer 2 3 = true := by decide +kernel
theorem yk_X9_unrace : mm_yk mi_X9_unrace 0 1 = true := by decide +kernel
theorem yk_X9_water : mm_yk mi_X9_water 3 4 = true := by decide +kernel
theorem yk_X9_whyAshore : mm_yk mi_X9_whyAshore 2 3 = true := by decide +kernel
theorem yk_X9_within : mm_yk mi_X9_within 3 3 = true := by decide +kernel
end
section
def mm_M0 : mm_M := fun _ _ => 0
def la_0 : List mm_S := [.inr (9, [v_n, v_n, v_n, v_n, v_n, v_n, v_n, v_n, v_n, v_i 0])]
def la_1 : List mm_S := [.inr (9, [v_n, v_n, v_n, v_n, v_n, v_n, v_n, v_n, v_n, v_i 0]), .inr (0, [v_i 0, v_n, v_n, v_n, v_n, v_i 0, v_n, v_n, v_n, v_n])]
def la_2 : List mm_S := [.inr (9, [v_n, v_n, v_n, v_n, v_n, v_n, v_n, v_n, v_n, v_i 0]), .inr (0, [v_i 0, v_n, v_n, v_n, v_n, v_i 0, v_n, v_n, v_n, v_n]), .inl (.int, 16)]
def la_3 : List mm_S := [.inr (9, [v_n, v_n, v_n, v_n, v_n, v_n, v_n, v_n, v_n, v_i 0]), .inr (0, [v_i 0, v_r 2, v_n, v_n, v_n, v_i 0, v_n, v_n, v_n, v_n]), .inl (.int, 16)]
def la_4 : List mm_S := [.inr (9, [v_n, v_n, v_n, v_n, v_n, v_n, v_n, v_n, v_n, v_i 0]), .inr (0, [v_i 0, v_r 2, v_n, v_n, v_n, v_i 0, v_n, v_n, v_n, v_n]), .inl (.int, 16), .inl (.int, 16)]
def la_5 : List mm_S := [.inr (9, [v_n, v_n, v_n, v_n, v_n, v_n, v_n, v_n, v_n, v_i 0]), .inr (0, [v_i 0, v_r 2, v_r 3, v_n, v_n, v_i 0, v_n, v_n, v_n, v_n]), .inl (.int, 16), .inl (.int, 16)]
def la_6 : List mm_S := [.inr (9, [v_n, v_n, v_n, v_n, v_n, v_n, v_n, v_n, v_n, v_i 0]), .inr (0, [v_i 0, v_r 2, v_r 3, v_n, v_n, v_i 0, v_n, v_n, v_n, v_n]), .inl (.int, 16), .inl (.int, 16), .inl (.int, 16)]
def la_7 : List mm_S := [.inr (9, [v_n, v_n, v_n, v_n, v_n, v_n, v_n, v_n, v_n, v_i 0]), .inr (0, [v_i 0, v_r 2, v_r 3, v_r 4, v_n, v_i 0, v_n, v_n, v_n, v_n]), .inl (.int, 16), .inl (.int, 16), .inl (.int, 16)]
def la_8 : List mm_S := [.inr (9, [v_n, v_n, v_n, v_n, v_n, v_n, v_n, v_n, v_n, v_i 0]), .inr (0, [v_i 0, v_r 2, v_r 3, v_r 4, v_n, v_i 0, v_n, v_n, v_n, v_n]), .inl (.int, 16), .inl (.int, 16), .inl (.int, 16), .inl (.int, 16)]
def la_9 : List mm_S := [.inr (9, [v_n, v_n, v_n, v_n, v_n, v_n, v_n, v_n, v_n, v_i 0]), .inr (0, [v_i 0, v_r 2, v_r 3, v_r 4, v_r 5, v_i 0, v_n, v_n, v_n, v_n]), .inl (.int, 16), .inl (.int, 16), .inl (.int, 16), .inl (.int, 16)]
def la_10 : List mm_S := [.inr (9, [v_n, v_n, v_n, v_n, v_n, v_n, v_n, v_n, v_n, v_i 0]), .inr (0, [v_i 0, v_r 2, v_r 3, v_r 4, v_r 5, v_i 0, v_n, v_n, v_n, v_n]), .inl (.int, 16), .inl (.int, 16), .inl (.int, 16), .inl (.int, 16), .inl (.int, 8)]
def la_11 : List mm_S := [.inr (9, [v_n, v_n, v_n, v_n, v_n, v_n, v_n, v_n, v_n, v_i 0]), .inr (0, [v_i 0, v_r 2, v_r 3, v_r 4, v_r 5, v_i 0, v_r 6, v_n, v_n, v_n]), .inl (.int, 16), .inl (.int, 16), .inl (.int, 16), .inl (.int, 16), .inl (.int, 8)]
def la_12 : List mm_S := [.inr (9, [v_n, v_n, v_n, v_n, v_n, v_n, v_n, v_n, v_n, v_i 0]), .inr (0, [v_i 0, v_r 2, v_r 3, v_r 4, v_r 5, v_i 0, v_r 6, v_n, v_n, v_n]), .inl (.int, 16), .inl (.int, 16), .inl (.int, 16), .inl (.int, 16), .inl (.int, 8), .inl (.int, 8)]
def la_13 : List mm_S := [.inr (9, [v_n, v_n, v_n, v_n, v_n, v_n, v_n, v_n, v_n, v_i 0]), .inr (0, [v_i 0, v_r 2, v_r 3, v_r 4, v_r 5, v_i 0, v_r 6, v_r 7, v_n, v_n]), .inl (.int, 16), .inl (.int, 16), .inl (.int, 16), .inl (.int, 16), .inl (.int, 8), .inl (.int, 8)]
def la_14 : List mm_S := [.inr (9, [v_n, v_n, v_n, v_n, v_n, v_n, v_n, v_n, v_n, v_i 0]), .inr (0, [v_i 0, v_r 2, v_r 3, v_r 4, v_r 5, v_i 0, v_r 6, v_r 7, v_n, v_n]), .inl (.int, 16), .inl (.int, 16), .inl (.int, 16), .inl (.int, 16), .inl (.int, 8), .inl (.int, 8), .inl (.int, 8)]
def la_15 : List mm_S := [.inr (9, [v_n, v_n, v_n, v_n, v_n, v_n, v_n, v_n, v_n, v_i 0]), .inr (0, [v_i 0, v_r 2, v_r 3, v_r 4, v_r 5, v_i 0, v_r 6, v_r 7, v_r 8, v_n]), .inl (.int, 16), .inl (.int, 16), .inl (.int, 16), .inl (.int, 16), .inl (.int, 8), .inl (.int, 8), .inl (.int, 8)]
def la_16 : List mm_S := [.inr (9, [v_n, v_n, v_n, v_n, v_n, v_n, v_n, v_n, v_n, v_i 0]), .inr (0, [v_i 0, v_r 2, v_r 3, v_r 4, v_r 5, v_i 0, v_r 6, v_r 7, v_r 8, v_n]), .inl (.int, 16), .inl (.int, 16), .inl (.int, 16), .inl (.int, 16), .inl (.int, 8), .inl (.int, 8), .inl (.int, 8), .inl (.int, 8)]
def la_17 : List mm_S := [.inr (9, [v_n, v_n, v_n, v_n, v_n, v_n, v_n, v_n, v_n, v_i 0]), .inr (0, [v_i 0, v_r 2, v_r 3, v_r 4, v_r 5, v_i 0, v_r 6, v_r 7, v_r 8, v_r 9]), .inl (.int, 16), .inl (.int, 16), .inl (.int, 16), .inl (.int, 16), .inl (.int, 8), .inl (.int, 8), .inl (.int, 8), .inl (.int, 8)]
def mem_1 : mm_M := mm_up (mm_up mm_M0 1 0 0) 1 5 0
def la_18 : List mm_S := [.inr (9, [v_r 1, v_n, v_n, v_n, v_n, v_n, v_n, v_n, v_n, v_i 0]), .inr (0, [v_i 0, v_r 2, v_r 3, v_r 4, v_r 5, v_i 0, v_r 6, v_r 7, v_r 8, v_r 9]), .inl (.int, 16), .inl (.int, 16), .inl (.int, 16), .inl (.int, 16), .inl (.int, 8), .inl (.int, 8), .inl (.int, 8), .inl (.int, 8)]
def la_19 : List mm_S := [.inr (9, [v_r 1, v_n, v_n, v_n, v_n, v_n, v_n, v_n, v_n, v_i 0]), .inr (0, [v_i 0, v_r 2, v_r 3, v_r 4, v_r 5, v_i 0, v_r 6, v_r 7, v_r 8, v_r 9]), .inl (.int, 16), .inl (.int, 16), .inl (.int, 16), .inl (.int, 16), .inl (.int, 8), .inl (.int, 8), .inl (.int, 8), .inl (.int, 8), .inr (4, [v_i 0, v_n, v_n, v_n, v_n, v_l 0, v_n, v_n])]
def la_20 : List mm_S := [.inr (9, [v_r 1, v_n, v_n, v_n, v_n, v_n, v_n, v_n, v_n, v_i 0]), .inr (0, [v_i 0, v_r 2, v_r 3, v_r 4, v_r 5, v_i 0, v_r 6, v_r 7, v_r 8, v_r 9]), .inl (.int, 16), .inl (.int, 16), .inl (.int, 16), .inl (.int, 16), .inl (.int, 8), .inl (.int, 8), .inl (.int, 8), .inl (.int, 8), .inr (4, [v_i 0, v_n, v_n, v_n, v_n, v_l 0, v_n, v_n]), .inl (.int, 40)]
def la_21 : List mm_S := [.inr (9, [v_r 1, v_n, v_n, v_n, v_n, v_n, v_n, v_n, v_n, v_i 0]), .inr (0, [v_i 0, v_r 2, v_r 3, v_r 4, v_r 5, v_i 0, v_r 6, v_r 7, v_r 8, v_r 9]), .inl (.int, 16), .inl (.int, 16), .inl (.int, 16), .inl (.int, 16), .inl (.int, 8), .inl (.int, 8), .inl (.int, 8), .inl (.int, 8), .inr (4, [v_i 0, v_r 11, v_n, v_n, v_n, v_l 0, v_n, v_n]), .inl (.int, 40)]
def la_22 : List mm_S := [.inr (9, [v_r 1, v_n, v_n, v_n, v_n, v_n, v_n, v_n, v_n, v_i 0]), .inr (0, [v_i 0, v_r 2, v_r 3, v_r 4, v_r 5, v_i 0, v_r 6, v_r 7, v_r 8, v_r 9]), .inl (.int, 16), .inl (.int, 16), .inl (.int, 16), .inl (.int, 16), .inl (.int, 8), .inl (.int, 8), .inl (.int, 8), .inl (.int, 8), .inr (4, [v_i 0, v_r 11, v_n, v_n, v_n, v_l 0, v_n, v_n]), .inl (.int, 40), .inl (.int, 40)]
def la_23 : List mm_S := [.inr (9, [v_r 1, v_n, v_n, v_n, v_n, v_n, v_n, v_n, v_n, v_i 0]), .inr (0, [v_i 0, v_r 2, v_r 3, v_r 4, v_r 5, v_i 0, v_r 6, v_r 7, v_r 8, v_r 9]), .inl (.int, 16), .inl (.int, 16), .inl (.int, 16), .inl (.int, 16), .inl (.int, 8), .inl (.int, 8), .inl (.int, 8), .inl (.int, 8), .inr (4, [v_i 0, v_r 11, v_r 12, v_n, v_n, v_l 0, v_n, v_n]), .inl (.int, 40), .inl (.int, 40)]
def la_24 : List mm_S := [.inr (9, [v_r 1, v_n, v_n, v_n, v_n, v_n, v_n, v_n, v_n, v_i 0]), .inr (0, [v_i 0, v_r 2, v_r 3, v_r 4, v_r 5, v_i 0, v_r 6, v_r 7, v_r 8, v_r 9]), .inl (.int, 16), .inl (.int, 16), .inl (.int, 16), .inl (.int, 16), .inl (.int, 8), .inl (.int, 8), .inl (.int, 8), .inl (.int, 8), .inr (4, [v_i 0, v_r 11, v_r 12, v_n, v_n, v_l 0, v_n, v_n]), .inl (.int, 40), .inl (.int, 40), .inl (.int, 40)]
def la_25 : List mm_S := [.inr (9, [v_r 1, v_n, v_n, v_n, v_n, v_n, v_n, v_n, v_n, v_i 0]), .inr (0, [v_i 0, v_r 2, v_r 3, v_r 4, v_r 5, v_i 0, v_r 6, v_r 7, v_r 8, v_r 9]), .inl (.int, 16), .inl (.int, 16), .inl (.int, 16), .inl (.int, 16), .inl (.int, 8), .inl (.int, 8), .inl (.int, 8), .inl (.int, 8), .inr (4, [v_i 0, v_r 11, v_r 12, v_r 13, v_n, v_l 0, v_n, v_n]), .inl (.int, 40), .inl (.int, 40), .inl (.int, 40)]
def la_26 : List mm_S := [.inr (9, [v_r 1, v_n, v_n, v_n, v_n, v_n, v_n, v_n, v_n, v_i 0]), .inr (0, [v_i 0, v_r 2, v_r 3, v_r 4, v_r 5, v_i 0, v_r 6, v_r 7, v_r 8, v_r 9]), .inl (.int, 16), .inl (.int, 16), .inl (.int, 16), .inl (.int, 16), .inl (.int, 8), .inl (.int, 8), .inl (.int, 8), .inl (.int, 8), .inr (4, [v_i 0, v_r 11, v_r 12, v_r 13, v_n, v_l 0, v_n, v_n]), .inl (.int, 40), .inl (.int, 40), .inl (.int, 40), .inl (.long, 16)]
def la_27 : List mm_S := [.inr (9, [v_r 1, v_n, v_n, v_n, v_n, v_n, v_n, v_n, v_n, v_i 0]), .inr (0, [v_i 0, v_r 2, v_r 3, v_r 4, v_r 5, v_i 0, v_r 6, v_r 7, v_r 8, v_r 9]), .inl (.int, 16), .inl (.int, 16), .inl (.int, 16), .inl (.int, 16), .inl (.int, 8), .inl (.int, 8), .inl (.int, 8), .inl (.int, 8), .inr (4, [v_i 0, v_r 11, v_r 12, v_r 13, v_r 14, v_l 0, v_n, v_n]), .inl (.int, 40), .inl (.int, 40), .inl (.int, 40), .inl (.long, 16)]
def la_28 : List mm_S := [.inr (9, [v_r 1, v_n, v_n, v_n, v_n, v_n, v_n, v_n, v_n, v_i 0]), .inr (0, [v_i 0, v_r 2, v_r 3, v_r 4, v_r 5, v_i 0, v_r 6, v_r 7, v_r 8, v_r 9]), .inl (.int, 16), .inl (.int, 16), .inl (.int, 16), .inl (.int, 16), .inl (.int, 8), .inl (.int, 8), .inl (.int, 8), .inl (.int, 8), .inr (4, [v_i 0, v_r 11, v_r 12, v_r 13, v_r 14, v_l 0, v_n, v_n]), .inl (.int, 40), .inl (.int, 40), .inl (.int, 40), .inl (.long, 16), .inl (.int, 16)]
def la_29 : List mm_S := [.inr (9, [v_r 1, v_n, v_n, v_n, v_n, v_n, v_n, v_n, v_n, v_i 0]), .inr (0, [v_i 0, v_r 2, v_r 3, v_r 4, v_r 5, v_i 0, v_r 6, v_r 7, v_r 8, v_r 9]), .inl (.int, 16), .inl (.int, 16), .inl (.int, 16), .inl (.int, 16), .inl (.int, 8), .inl (.int, 8), .inl (.int, 8), .inl (.int, 8), .inr (4, [v_i 0, v_r 11, v_r 12, v_r 13, v_r 14, v_l 0, v_r 15, v_n]), .inl (.int, 40), .inl (.int, 40), .inl (.int, 40), .inl (.long, 16), .inl (.int, 16)]
def la_30 : List mm_S := [.inr (9, [v_r 1, v_n, v_n, v_n, v_n, v_n, v_n, v_n, v_n, v_i 0]), .inr (0, [v_i 0, v_r 2, v_r 3, v_r 4, v_r 5, v_i 0, v_r 6, v_r 7, v_r 8, v_r 9]), .inl (.int, 16), .inl (.int, 16), .inl (.int, 16), .inl (.int, 16), .inl (.int, 8), .inl (.int, 8), .inl (.int, 8), .inl (.int, 8), .inr (4, [v_i 0, v_r 11, v_r 12, v_r 13, v_r 14, v_l 0, v_r 15, v_n]), .inl (.int, 40), .inl (.int, 40), .inl (.int, 40), .inl (.long, 16), .inl (.int, 16), .inl (.long, 42)]
def la_31 : List mm_S := [.inr (9, [v_r 1, v_n, v_n, v_n, v_n, v_n, v_n, v_n, v_n, v_i 0]), .inr (0, [v_i 0, v_r 2, v_r 3, v_r 4, v_r 5, v_i 0, v_r 6, v_r 7, v_r 8, v_r 9]), .inl (.int, 16), .inl (.int, 16), .inl (.int, 16), .inl (.int, 16), .inl (.int, 8), .inl (.int, 8), .inl (.int, 8), .inl (.int, 8), .inr (4, [v_i 0, v_r 11, v_r 12, v_r 13, v_r 14, v_l 0, v_r 15, v_r 16]), .inl (.int, 40), .inl (.int, 40), .inl (.int, 40), .inl (.long, 16), .inl (.int, 16), .inl (.long, 42)]
def mem_2 : mm_M := mm_up (mm_up mem_1 10 0 0) 10 5 1
def la_32 : List mm_S := [.inr (9, [v_r 1, v_r 10, v_n, v_n, v_n, v_n, v_n, v_n, v_n, v_i 0]), .inr (0, [v_i 0, v_r 2, v_r 3, v_r 4, v_r 5, v_i 0, v_r 6, v_r 7, v_r 8, v_r 9]), .inl (.int, 16), .inl (.int, 16), .inl (.int, 16), .inl (.int, 16), .inl (.int, 8), .inl (.int, 8), .inl (.int, 8), .inl (.int, 8), .inr (4, [v_i 0, v_r 11, v_r 12, v_r 13, v_r 14, v_l 0, v_r 15, v_r 16]), .inl (.int, 40), .inl (.int, 40), .inl (.int, 40), .inl (.long, 16), .inl (.int, 16), .inl (.long, 42)]
def la_33 : List mm_S := [.inr (9, [v_r 1, v_r 10, v_n, v_n, v_n, v_n, v_n, v_n, v_n, v_i 0]), .inr (0, [v_i 0, v_r 2, v_r 3, v_r 4, v_r 5, v_i 0, v_r 6, v_r 7, v_r 8, v_r 9]), .inl (.int, 16), .inl (.int, 16), .inl (.int, 16), .inl (.int, 16), .inl (.int, 8), .inl (.int, 8), .inl (.int, 8), .inl (.int, 8), .inr (4, [v_i 0, v_r 11, v_r 12, v_r 13, v_r 14, v_l 0, v_r 15, v_r 16]), .inl (.int, 40), .inl (.int, 40), .inl (.int, 40), .inl (.long, 16), .inl (.int, 16), .inl (.long, 42), .inr (1, [v_n, v_n, v_n])]
def la_34 : List mm_S := [.inr (9, [v_r 1, v_r 10, v_n, v_n, v_n, v_n, v_n, v_n, v_n, v_i 0]), .inr (0, [v_i 0, v_r 2, v_r 3, v_r 4, v_r 5, v_i 0, v_r 6, v_r 7, v_r 8, v_r 9]), .inl (.int, 16), .inl (.int, 16), .inl (.int, 16), .inl (.int, 16), .inl (.int, 8), .inl (.int, 8), .inl (.int, 8), .inl (.int, 8), .inr (4, [v_i 0, v_r 11, v_r 12, v_r 13, v_r 14, v_l 0, v_r 15, v_r 16]), .inl (.int, 40), .inl (.int, 40), .inl (.int, 40), .inl (.long, 16), .inl (.int, 16), .inl (.long, 42), .inr (1, [v_n, v_n, v_n]), .inl (.int, 4352)]
def la_35 : List mm_S := [.inr (9, [v_r 1, v_r 10, v_n, v_n, v_n, v_n, v_n, v_n, v_n, v_i 0]), .inr (0, [v_i 0, v_r 2, v_r 3, v_r 4, v_r 5, v_i 0, v_r 6, v_r 7, v_r 8, v_r 9]), .inl (.int, 16), .inl (.int, 16), .inl (.int, 16), .inl (.int, 16), .inl (.int, 8), .inl (.int, 8), .inl (.int, 8), .inl (.int, 8), .inr (4, [v_i 0, v_r 11, v_r 12, v_r 13, v_r 14, v_l 0, v_r 15, v_r 16]), .inl (.int, 40), .inl (.int, 40), .inl (.int, 40), .inl (.long, 16), .inl (.int, 16), .inl (.long, 42), .inr (1, [v_r 18, v_n, v_n]), .inl (.int, 4352)]
def la_36 : List mm_S := [.inr (9, [v_r 1, v_r 10, v_n, v_n, v_n, v_n, v_n, v_n, v_n, v_i 0]), .inr (0, [v_i 0, v_r 2, v_r 3, v_r 4, v_r 5, v_i 0, v_r 6, v_r 7, v_r 8, v_r 9]), .inl (.int, 16), .inl (.int, 16), .inl (.int, 16), .inl (.int, 16), .inl (.int, 8), .inl (.int, 8), .inl (.int, 8), .inl (.int, 8), .inr (4, [v_i 0, v_r 11, v_r 12, v_r 13, v_r 14, v_l 0, v_r 15, v_r 16]), .inl (.int, 40), .inl (.int, 40), .inl (.int, 40), .inl (.long, 16), .inl (.int, 16), .inl (.long, 42), .inr (1, [v_r 18, v_n, v_n]), .inl (.int, 4352), .inl (.int, 8)]
def la_37 : List mm_S := [.inr (9, [v_r 1, v_r 10, v_n, v_n, v_n, v_n, v_n, v_n, v_n, v_i 0]), .inr (0, [v_i 0, v_r 2, v_r 3, v_r 4, v_r 5, v_i 0, v_r 6, v_r 7, v_r 8, v_r 9]), .inl (.int, 16), .inl (.int, 16), .inl (.int, 16), .inl (.int, 16), .inl (.int, 8), .inl (.int, 8), .inl (.int, 8), .inl (.int, 8), .inr (4, [v_i 0, v_r 11, v_r 12, v_r 13, v_r 14, v_l 0, v_r 15, v_r 16]), .inl (.int, 40), .inl (.int, 40), .inl (.int, 40), .inl (.long, 16), .inl (.int, 16), .inl (.long, 42), .inr (1, [v_r 18, v_r 19, v_n]), .inl (.int, 4352), .inl (.int, 8)]
def la_38 : List mm_S := [.inr (9, [v_r 1, v_r 10, v_n, v_n, v_n, v_n, v_n, v_n, v_n, v_i 0]), .inr (0, [v_i 0, v_r 2, v_r 3, v_r 4, v_r 5, v_i 0, v_r 6, v_r 7, v_r 8, v_r 9]), .inl (.int, 16), .inl (.int, 16), .inl (.int, 16), .inl (.int, 16), .inl (.int, 8), .inl (.int, 8), .inl (.int, 8), .inl (.int, 8), .inr (4, [v_i 0, v_r 11, v_r 12, v_r 13, v_r 14, v_l 0, v_r 15, v_r 16]), .inl (.int, 40), .inl (.int, 40), .inl (.int, 40), .inl (.long, 16), .inl (.int, 16), .inl (.long, 42), .inr (1, [v_r 18, v_r 19, v_n]), .inl (.int, 4352), .inl (.int, 8), .inl (.int, 16)]
def la_39 : List mm_S := [.inr (9, [v_r 1, v_r 10, v_n, v_n, v_n, v_n, v_n, v_n, v_n, v_i 0]), .inr (0, [v_i 0, v_r 2, v_r 3, v_r 4, v_r 5, v_i 0, v_r 6, v_r 7, v_r 8, v_r 9]), .inl (.int, 16), .inl (.int, 16), .inl (.int, 16), .inl (.int, 16), .inl (.int, 8), .inl (.int, 8), .inl (.int, 8), .inl (.int, 8), .inr (4, [v_i 0, v_r 11, v_r 12, v_r 13, v_r 14, v_l 0, v_r 15, v_r 16]), .inl (.int, 40), .inl (.int, 40), .inl (.int, 40), .inl (.long, 16), .inl (.int, 16), .inl (.long, 42), .inr (1, [v_r 18, v_r 19, v_r 20]), .inl (.int, 4352), .inl (.int, 8), .inl (.int, 16)]
def la_40 : List mm_S := [.inr (9, [v_r 1, v_r 10, v_r 17, v_n, v_n, v_n, v_n, v_n, v_n, v_i 0]), .inr (0, [v_i 0, v_r 2, v_r 3, v_r 4, v_r 5, v_i 0, v_r 6, v_r 7, v_r 8, v_r 9]), .inl (.int, 16), .inl (.int, 16), .inl (.int, 16), .inl (.int, 16), .inl (.int, 8), .inl (.int, 8), .inl (.int, 8), .inl (.int, 8), .inr (4, [v_i 0, v_r 11, v_r 12, v_r 13, v_r 14, v_l 0, v_r 15, v_r 16]), .inl (.int, 40), .inl (.int, 40), .inl (.int, 40), .inl (.long, 16), .inl (.int, 16), .inl (.long, 42), .inr (1, [v_r 18, v_r 19, v_r 20]), .inl (.int, 4352), .inl (.int, 8), .inl (.int, 16)]
def la_41 : List mm_S := [.inr (9, [v_r 1, v_r 10, v_r 17, v_n, v_n, v_n, v_n, v_n, v_n, v_i 0]), .inr (0, [v_i 0, v_r 2, v_r 3, v_r 4, v_r 5, v_i 0, v_r 6, v_r 7, v_r 8, v_r 9]), .inl (.int, 16), .inl (.int, 16), .inl (.int, 16), .inl (.int, 16), .inl (.int, 8), .inl (.int, 8), .inl (.int, 8), .inl (.int, 8), .inr (4, [v_i 0, v_r 11, v_r 12, v_r 13, v_r 14, v_l 0, v_r 15, v_r 16]), .inl (.int, 40), .inl (.int, 40), .inl (.int, 40), .inl (.long, 16), .inl (.int, 16), .inl (.long, 42), .inr (1, [v_r 18, v_r 19, v_r 20]), .inl (.int, 4352), .inl (.int, 8), .inl (.int, 16), .inr (6, [v_n, v_n])]
def la_42 : List mm_S := [.inr (9, [v_r 1, v_r 10, v_r 17, v_n, v_n, v_n, v_n, v_n, v_n, v_i 0]), .inr (0, [v_i 0, v_r 2, v_r 3, v_r 4, v_r 5, v_i 0, v_r 6, v_r 7, v_r 8, v_r 9]), .inl (.int, 16), .inl (.int, 16), .inl (.int, 16), .inl (.int, 16), .inl (.int, 8), .inl (.int, 8), .inl (.int, 8), .inl (.int, 8), .inr (4, [v_i 0, v_r 11, v_r 12, v_r 13, v_r 14, v_l 0, v_r 15, v_r 16]), .inl (.int, 40), .inl (.int, 40), .inl (.int, 40), .inl (.long, 16), .inl (.int, 16), .inl (.long, 42), .inr (1, [v_r 18, v_r 19, v_r 20]), .inl (.int, 4352), .inl (.int, 8), .inl (.int, 16), .inr (6, [v_n, v_n]), .inl (.int, 30)]
def la_43 : List mm_S := [.inr (9, [v_r 1, v_r 10, v_r 17, v_n, v_n, v_n, v_n, v_n, v_n, v_i 0]), .inr (0, [v_i 0, v_r 2, v_r 3, v_r 4, v_r 5, v_i 0, v_r 6, v_r 7, v_r 8, v_r 9]), .inl (.int, 16), .inl (.int, 16), .inl (.int, 16), .inl (.int, 16), .inl (.int, 8), .inl (.int, 8), .inl (.int, 8), .inl (.int, 8), .inr (4, [v_i 0, v_r 11, v_r 12, v_r 13, v_r 14, v_l 0, v_r 15, v_r 16]), .inl (.int, 40), .inl (.int, 40), .inl (.int, 40), .inl (.long, 16), .inl (.int, 16), .inl (.long, 42), .inr (1, [v_r 18, v_r 19, v_r 20]), .inl (.int, 4352), .inl (.int, 8), .inl (.int, 16), .inr (6, [v_r 22, v_n]), .inl (.int, 30)]
def la_44 : List mm_S := [.inr (9, [v_r 1, v_r 10, v_r 17, v_n, v_n, v_n, v_n, v_n, v_n, v_i 0]), .inr (0, [v_i 0, v_r 2, v_r 3, v_r 4, v_r 5, v_i 0, v_r 6, v_r 7, v_r 8, v_r 9]), .inl (.int, 16), .inl (.int, 16), .inl (.int, 16), .inl (.int, 16), .inl (.int, 8), .inl (.int, 8), .inl (.int, 8), .inl (.int, 8), .inr (4, [v_i 0, v_r 11, v_r 12, v_r 13, v_r 14, v_l 0, v_r 15, v_r 16]), .inl (.int, 40), .inl (.int, 40), .inl (.int, 40), .inl (.long, 16), .inl (.int, 16), .inl (.long, 42), .inr (1, [v_r 18, v_r 19, v_r 20]), .inl (.int, 4352), .inl (.int, 8), .inl (.int, 16), .inr (6, [v_r 22, v_n]), .inl (.int, 30), .inl (.int, 30)]
def la_45 : List mm_S := [.inr (9, [v_r 1, v_r 10, v_r 17, v_n, v_n, v_n, v_n, v_n, v_n, v_i 0]), .inr (0, [v_i 0, v_r 2, v_r 3, v_r 4, v_r 5, v_i 0, v_r 6, v_r 7, v_r 8, v_r 9]), .inl (.int, 16), .inl (.int, 16), .inl (.int, 16), .inl (.int, 16), .inl (.int, 8), .inl (.int, 8), .inl (.int, 8), .inl (.int, 8), .inr (4, [v_i 0, v_r 11, v_r 12, v_r 13, v_r 14, v_l 0, v_r 15, v_r 16]), .inl (.int, 40), .inl (.int, 40), .inl (.int, 40), .inl (.long, 16), .inl (.int, 16), .inl (.long, 42), .inr (1, [v_r 18, v_r 19, v_r 20]), .inl (.int, 4352), .inl (.int, 8), .inl (.int, 16), .inr (6, [v_r 22, v_r 23]), .inl (.int, 30), .inl (.int, 30)]
def la_46 : List mm_S := [.inr (9, [v_r 1, v_r 10, v_r 17, v_r 21, v_n, v_n, v_n, v_n, v_n, v_i 0]), .inr (0, [v_i 0, v_r 2, v_r 3, v_r 4, v_r 5, v_i 0, v_r 6, v_r 7, v_r 8, v_r 9]), .inl (.int, 16), .inl (.int, 16), .inl (.int, 16), .inl (.int, 16), .inl (.int, 8), .inl (.int, 8), .inl (.int, 8), .inl (.int, 8), .inr (4, [v_i 0, v_r 11, v_r 12, v_r 13, v_r 14, v_l 0, v_r 15, v_r 16]), .inl (.int, 40), .inl (.int, 40), .inl (.int, 40), .inl (.long, 16), .inl (.int, 16), .inl (.long, 42), .inr (1, [v_r 18, v_r 19, v_r 20]), .inl (.int, 4352), .inl (.int, 8), .inl (.int, 16), .inr (6, [v_r 22, v_r 23]), .inl (.int, 30), .inl (.int, 30)]
def la_47 : List mm_S := [.inr (9, [v_r 1, v_r 10, v_r 17, v_r 21, v_n, v_n, v_n, v_n, v_n, v_i 0]), .inr (0, [v_i 0, v_r 2, v_r 3, v_r 4, v_r 5, v_i 0, v_r 6, v_r 7, v_r 8, v_r 9]), .inl (.int, 16), .inl (.int, 16), .inl (.int, 16), .inl (.int, 16), .inl (.int, 8), .inl (.int, 8), .inl (.int, 8), .inl (.int, 8), .inr (4, [v_i 0, v_r 11, v_r 12, v_r 13, v_r 14, v_l 0, v_r 15, v_r 16]), .inl (.int, 40), .inl (.int, 40), .inl (.int, 40), .inl (.long, 16), .inl (.int, 16), .inl (.long, 42), .inr (1, [v_r 18, v_r 19, v_r 20]), .inl (.int, 4352), .inl (.int, 8), .inl (.int, 16), .inr (6, [v_r 22, v_r 23]), .inl (.int, 30), .inl (.int, 30), .inr (8, [v_i 0, v_i 0, v_n])]
def la_48 : List mm_S := [.inr (9, [v_r 1, v_r 10, v_r 17, v_r 21, v_n, v_n, v_n, v_n, v_n, v_i 0]), .inr (0, [v_i 0, v_r 2, v_r 3, v_r 4, v_r 5, v_i 0, v_r 6, v_r 7, v_r 8, v_r 9]), .inl (.int, 16), .inl (.int, 16), .inl (.int, 16), .inl (.int, 16), .inl (.int, 8), .inl (.int, 8), .inl (.int, 8), .inl (.int, 8), .inr (4, [v_i 0, v_r 11, v_r 12, v_r 13, v_r 14, v_l 0, v_r 15, v_r 16]), .inl (.int, 40), .inl (.int, 40), .inl (.int, 40), .inl (.long, 16), .inl (.int, 16), .inl (.long, 42), .inr (1, [v_r 18, v_r 19, v_r 20]), .inl (.int, 4352), .inl (.int, 8), .inl (.int, 16), .inr (6, [v_r 22, v_r 23]), .inl (.int, 30), .inl (.int, 30), .inr (8, [v_i 0, v_i 0, v_n]), .inl (.int, 120)]
def la_49 : List mm_S := [.inr (9, [v_r 1, v_r 10, v_r 17, v_r 21, v_n, v_n, v_n, v_n, v_n, v_i 0]), .inr (0, [v_i 0, v_r 2, v_r 3, v_r 4, v_r 5, v_i 0, v_r 6, v_r 7, v_r 8, v_r 9]), .inl (.int, 16), .inl (.int, 16), .inl (.int, 16), .inl (.int, 16), .inl (.int, 8), .inl (.int, 8), .inl (.int, 8), .inl (.int, 8), .inr (4, [v_i 0, v_r 11, v_r 12, v_r 13, v_r 14, v_l 0, v_r 15, v_r 16]), .inl (.int, 40), .inl (.int, 40), .inl (.int, 40), .inl (.long, 16), .inl (.int, 16), .inl (.long, 42), .inr (1, [v_r 18, v_r 19, v_r 20]), .inl (.int, 4352), .inl (.int, 8), .inl (.int, 16), .inr (6, [v_r 22, v_r 23]), .inl (.int, 30), .inl (.int, 30), .inr (8, [v_i 0, v_i 0, v_r 25]), .inl (.int, 120)]
def mem_3 : mm_M := mm_up (mm_up mem_2 24 0 0) 24 1 0
def la_50 : List mm_S := [.inr (9, [v_r 1, v_r 10, v_r 17, v_r 21, v_r 24, v_n, v_n, v_n, v_n, v_i 0]), .inr (0, [v_i 0, v_r 2, v_r 3, v_r 4, v_r 5, v_i 0, v_r 6, v_r 7, v_r 8, v_r 9]), .inl (.int, 16), .inl (.int, 16), .inl (.int, 16), .inl (.int, 16), .inl (.int, 8), .inl (.int, 8), .inl (.int, 8), .inl (.int, 8), .inr (4, [v_i 0, v_r 11, v_r 12, v_r 13, v_r 14, v_l 0, v_r 15, v_r 16]), .inl (.int, 40), .inl (.int, 40), .inl (.int, 40), .inl (.long, 16), .inl (.int, 16), .inl (.long, 42), .inr (1, [v_r 18, v_r 19, v_r 20]), .inl (.int, 4352), .inl (.int, 8), .inl (.int, 16), .inr (6, [v_r 22, v_r 23]), .inl (.int, 30), .inl (.int, 30), .inr (8, [v_i 0, v_i 0, v_r 25]), .inl (.int, 120)]
def la_51 : List mm_S := [.inr (9, [v_r 1, v_r 10, v_r 17, v_r 21, v_r 24, v_n, v_n, v_n, v_n, v_i 0]), .inr (0, [v_i 0, v_r 2, v_r 3, v_r 4, v_r 5, v_i 0, v_r 6, v_r 7, v_r 8, v_r 9]), .inl (.int, 16), .inl (.int, 16), .inl (.int, 16), .inl (.int, 16), .inl (.int, 8), .inl (.int, 8), .inl (.int, 8), .inl (.int, 8), .inr (4, [v_i 0, v_r 11, v_r 12, v_r 13, v_r 14, v_l 0, v_r 15, v_r 16]), .inl (.int, 40), .inl (.int, 40), .inl (.int, 40), .inl (.long, 16), .inl (.int, 16), .inl (.long, 42), .inr (1, [v_r 18, v_r 19, v_r 20]), .inl (.int, 4352), .inl (.int, 8), .inl (.int, 16), .inr (6, [v_r 22, v_r 23]), .inl (.int, 30), .inl (.int, 30), .inr (8, [v_i 0, v_i 0, v_r 25]), .inl (.int, 120), .inr (7, [v_i 0, v_n, v_n, v_n, v_n, v_n, v_n, v_n, v_n])]
def la_52 : List mm_S := [.inr (9, [v_r 1, v_r 10, v_r 17, v_r 21, v_r 24, v_n, v_n, v_n, v_n, v_i 0]), .inr (0, [v_i 0, v_r 2, v_r 3, v_r 4, v_r 5, v_i 0, v_r 6, v_r 7, v_r 8, v_r 9]), .inl (.int, 16), .inl (.int, 16), .inl (.int, 16), .inl (.int, 16), .inl (.int, 8), .inl (.int, 8), .inl (.int, 8), .inl (.int, 8), .inr (4, [v_i 0, v_r 11, v_r 12, v_r 13, v_r 14, v_l 0, v_r 15, v_r 16]), .inl (.int, 40), .inl (.int, 40), .inl (.int, 40), .inl (.long, 16), .inl (.int, 16), .inl (.long, 42), .inr (1, [v_r 18, v_r 19, v_r 20]), .inl (.int, 4352), .inl (.int, 8), .inl (.int, 16), .inr (6, [v_r 22, v_r 23]), .inl (.int, 30), .inl (.int, 30), .inr (8, [v_i 0, v_i 0, v_r 25]), .inl (.int, 120), .inr (7, [v_i 0, v_n, v_n, v_n, v_n, v_n, v_n, v_n, v_n]), .inl (.int, 10)]
def la_53 : List mm_S := [.inr (9, [v_r 1, v_r 10, v_r 17, v_r 21, v_r 24, v_n, v_n, v_n, v_n, v_i 0]), .inr (0, [v_i 0, v_r 2, v_r 3, v_r 4, v_r 5, v_i 0, v_r 6, v_r 7, v_r 8, v_r 9]), .inl (.int, 16), .inl (.int, 16), .inl (.int, 16), .inl (.int, 16), .inl (.int, 8), .inl (.int, 8), .inl (.int, 8), .inl (.int, 8), .inr (4, [v_i 0, v_r 11, v_r 12, v_r 13, v_r 14, v_l 0, v_r 15, v_r 16]), .inl (.int, 40), .inl (.int, 40), .inl (.int, 40), .inl (.long, 16), .inl (.int, 16), .inl (.long, 42), .inr (1, [v_r 18, v_r 19, v_r 20]), .inl (.int, 4352), .inl (.int, 8), .inl (.int, 16), .inr (6, [v_r 22, v_r 23]), .inl (.int, 30), .inl (.int, 30), .inr (8, [v_i 0, v_i 0, v_r 25]), .inl (.int, 120), .inr (7, [v_i 0, v_r 27, v_n, v_n, v_n, v_n, v_n, v_n, v_n]), .inl (.int, 10)]
def la_54 : List mm_S := [.inr (9, [v_r 1, v_r 10, v_r 17, v_r 21, v_r 24, v_n, v_n, v_n, v_n, v_i 0]), .inr (0, [v_i 0, v_r 2, v_r 3, v_r 4, v_r 5, v_i 0, v_r 6, v_r 7, v_r 8, v_r 9]), .inl (.int, 16), .inl (.int, 16), .inl (.int, 16), .inl (.int, 16), .inl (.int, 8), .inl (.int, 8), .inl (.int, 8), .inl (.int, 8), .inr (4, [v_i 0, v_r 11, v_r 12, v_r 13, v_r 14, v_l 0, v_r 15, v_r 16]), .inl (.int, 40), .inl (.int, 40), .inl (.int, 40), .inl (.long, 16), .inl (.int, 16), .inl (.long, 42), .inr (1, [v_r 18, v_r 19, v_r 20]), .inl (.int, 4352), .inl (.int, 8), .inl (.int, 16), .inr (6, [v_r 22, v_r 23]), .inl (.int, 30), .inl (.int, 30), .inr (8, [v_i 0, v_i 0, v_r 25]), .inl (.int, 120), .inr (7, [v_i 0, v_r 27, v_n, v_n, v_n, v_n, v_n, v_n, v_n]), .inl (.int, 10), .inl (.int, 10)]
def la_55 : List mm_S := [.inr (9, [v_r 1, v_r 10, v_r 17, v_r 21, v_r 24, v_n, v_n, v_n, v_n, v_i 0]), .inr (0, [v_i 0, v_r 2, v_r 3, v_r 4, v_r 5, v_i 0, v_r 6, v_r 7, v_r 8, v_r 9]), .inl (.int, 16), .inl (.int, 16), .inl (.int, 16), .inl (.int, 16), .inl (.int, 8), .inl (.int, 8), .inl (.int, 8), .inl (.int, 8), .inr (4, [v_i 0, v_r 11, v_r 12, v_r 13, v_r 14, v_l 0, v_r 15, v_r 16]), .inl (.int, 40), .inl (.int, 40), .inl (.int, 40), .inl (.long, 16), .inl (.int, 16), .inl (.long, 42), .inr (1, [v_r 18, v_r 19, v_r 20]), .inl (.int, 4352), .inl (.int, 8), .inl (.int, 16), .inr (6, [v_r 22, v_r 23]), .inl (.int, 30), .inl (.int, 30), .inr (8, [v_i 0, v_i 0, v_r 25]), .inl (.int, 120), .inr (7, [v_i 0, v_r 27, v_r 28, v_n, v_n, v_n, v_n, v_n, v_n]), .inl (.int, 10), .inl (.int, 10)]
def la_56 : List mm_S := [.inr (9, [v_r 1, v_r 10, v_r 17, v_r 21, v_r 24, v_n, v_n, v_n, v_n, v_i 0]), .inr (0, [v_i 0, v_r 2, v_r 3, v_r 4, v_r 5, v_i 0, v_r 6, v_r 7, v_r 8, v_r 9]), .inl (.int, 16), .inl (.int, 16), .inl (.int, 16), .inl (.int, 16), .inl (.int, 8), .inl (.int, 8), .inl (.int, 8), .inl (.int, 8), .inr (4, [v_i 0, v_r 11, v_r 12, v_r 13, v_r 14, v_l 0, v_r 15, v_r 16]), .inl (.int, 40), .inl (.int, 40), .inl (.int, 40), .inl (.long, 16), .inl (.int, 16), .inl (.long, 42), .inr (1, [v_r 18, v_r 19, v_r 20]), .inl (.int, 4352), .inl (.int, 8), .inl (.int, 16), .inr (6, [v_r 22, v_r 23]), .inl (.int, 30), .inl (.int, 30), .inr (8, [v_i 0, v_i 0, v_r 25]), .inl (.int, 120), .inr (7, [v_i 0, v_r 27, v_r 28, v_n, v_n, v_n, v_n, v_n, v_n]), .inl (.int, 10), .inl (.int, 10), .inl (.int, 10)]
def la_57 : List mm_S := [.inr (9, [v_r 1, v_r 10, v_r 17, v_r 21, v_r 24, v_n, v_n, v_n, v_n, v_i 0]), .inr (0, [v_i 0, v_r 2, v_r 3, v_r 4, v_r 5, v_i 0, v_r 6, v_r 7, v_r 8, v_r 9]), .inl (.int, 16), .inl (.int, 16), .inl (.int, 16), .inl (.int, 16), .inl (.int, 8), .inl (.int, 8), .inl (.int, 8), .inl (.int, 8), .inr (4, [v_i 0, v_r 11, v_r 12, v_r 13, v_r 14, v_l 0, v_r 15, v_r 16]), .inl (.int, 40), .inl (.int, 40), .inl (.int, 40), .inl (.long, 16), .inl (.int, 16), .inl (.long, 42), .inr (1, [v_r 18, v_r 19, v_r 20]), .inl (.int, 4352), .inl (.int, 8), .inl (.int, 16), .inr (6, [v_r 22, v_r 23]), .inl (.int, 30), .inl (.int, 30), .inr (8, [v_i 0, v_i 0, v_r 25]), .inl (.int, 120), .inr (7, [v_i 0, v_r 27, v_r 28, v_r 29, v_n, v_n, v_n, v_n, v_n]), .inl (.int, 10), .inl (.int, 10), .inl (.int, 10)]
def la_58 : List mm_S := [.inr (9, [v_r 1, v_r 10, v_r 17, v_r 21, v_r 24, v_n, v_n, v_n, v_n, v_i 0]), .inr (0, [v_i 0, v_r 2, v_r 3, v_r 4, v_r 5, v_i 0, v_r 6, v_r 7, v_r 8, v_r 9]), .inl (.int, 16), .inl (.int, 16), .inl (.int, 16), .inl (.int, 16), .inl (.int, 8), .inl (.int, 8), .inl (.int, 8), .inl (.int, 8), .inr (4, [v_i 0, v_r 11, v_r 12, v_r 13, v_r 14, v_l 0, v_r 15, v_r 16]), .inl (.int, 40), .inl (.int, 40), .inl (.int, 40), .inl (.long, 16), .inl (.int, 16), .inl (.long, 42), .inr (1, [v_r 18, v_r 19, v_r 20]), .inl (.int, 4352), .inl (.int, 8), .inl (.int, 16), .inr (6, [v_r 22, v_r 23]), .inl (.int, 30), .inl (.int, 30), .inr (8, [v_i 0, v_i 0, v_r 25]), .inl (.int, 120), .inr (7, [v_i 0, v_r 27, v_r 28, v_r 29, v_n, v_n, v_n, v_n, v_n]), .inl (.int, 10), .inl (.int, 10), .inl (.int, 10), .inl (.boolean, 30)]
def la_59 : List mm_S := [.inr (9, [v_r 1, v_r 10, v_r 17, v_r 21, v_r 24, v_n, v_n, v_n, v_n, v_i 0]), .inr (0, [v_i 0, v_r 2, v_r 3, v_r 4, v_r 5, v_i 0, v_r 6, v_r 7, v_r 8, v_r 9]), .inl (.int, 16), .inl (.int, 16), .inl (.int, 16), .inl (.int, 16), .inl (.int, 8), .inl (.int, 8), .inl (.int, 8), .inl (.int, 8), .inr (4, [v_i 0, v_r 11, v_r 12, v_r 13, v_r 14, v_l 0, v_r 15, v_r 16]), .inl (.int, 40), .inl (.int, 40), .inl (.int, 40), .inl (.long, 16), .inl (.int, 16), .inl (.long, 42), .inr (1, [v_r 18, v_r 19, v_r 20]), .inl (.int, 4352), .inl (.int, 8), .inl (.int, 16), .inr (6, [v_r 22, v_r 23]), .inl (.int, 30), .inl (.int, 30), .inr (8, [v_i 0, v_i 0, v_r 25]), .inl (.int, 120), .inr (7, [v_i 0, v_r 27, v_r 28, v_r 29, v_r 30, v_n, v_n, v_n, v_n]), .inl (.int, 10), .inl (.int, 10), .inl (.int, 10), .inl (.boolean, 30)]
def la_60 : List mm_S := [.inr (9, [v_r 1, v_r 10, v_r 17, v_r 21, v_r 24, v_n, v_n, v_n, v_n, v_i 0]), .inr (0, [v_i 0, v_r 2, v_r 3, v_r 4, v_r 5, v_i 0, v_r 6, v_r 7, v_r 8, v_r 9]), .inl (.int, 16), .inl (.int, 16), .inl (.int, 16), .inl (.int, 16), .inl (.int, 8), .inl (.int, 8), .inl (.int, 8), .inl (.int, 8), .inr (4, [v_i 0, v_r 11, v_r 12, v_r 13, v_r 14, v_l 0, v_r 15, v_r 16]), .inl (.int, 40), .inl (.int, 40), .inl (.int, 40), .inl (.long, 16), .inl (.int, 16), .inl (.long, 42), .inr (1, [v_r 18, v_r 19, v_r 20]), .inl (.int, 4352), .inl (.int, 8), .inl (.int, 16), .inr (6, [v_r 22, v_r 23]), .inl (.int, 30), .inl (.int, 30), .inr (8, [v_i 0, v_i 0, v_r 25]), .inl (.int, 120), .inr (7, [v_i 0, v_r 27, v_r 28, v_r 29, v_r 30, v_n, v_n, v_n, v_n]), .inl (.int, 10), .inl (.int, 10), .inl (.int, 10), .inl (.boolean, 30), .inl (.int, 30)]
def la_61 : List mm_S := [.inr (9, [v_r 1, v_r 10, v_r 17, v_r 21, v_r 24, v_n, v_n, v_n, v_n, v_i 0]), .inr (0, [v_i 0, v_r 2, v_r 3, v_r 4, v_r 5, v_i 0, v_r 6, v_r 7, v_r 8, v_r 9]), .inl (.int, 16), .inl (.int, 16), .inl (.int, 16), .inl (.int, 16), .inl (.int, 8), .inl (.int, 8), .inl (.int, 8), .inl (.int, 8), .inr (4, [v_i 0, v_r 11, v_r 12, v_r 13, v_r 14, v_l 0, v_r 15, v_r 16]), .inl (.int, 40), .inl (.int, 40), .inl (.int, 40), .inl (.long, 16), .inl (.int, 16), .inl (.long, 42), .inr (1, [v_r 18, v_r 19, v_r 20]), .inl (.int, 4352), .inl (.int, 8), .inl (.int, 16), .inr (6, [v_r 22, v_r 23]), .inl (.int, 30), .inl (.int, 30), .inr (8, [v_i 0, v_i 0, v_r 25]), .inl (.int, 120), .inr (7, [v_i 0, v_r 27, v_r 28, v_r 29, v_r 30, v_r 31, v_n, v_n, v_n]), .inl (.int, 10), .inl (.int, 10), .inl (.int, 10), .inl (.boolean, 30), .inl (.int, 30)]
def la_62 : List mm_S := [.inr (9, [v_r 1, v_r 10, v_r 17, v_r 21, v_r 24, v_n, v_n, v_n, v_n, v_i 0]), .inr (0, [v_i 0, v_r 2, v_r 3, v_r 4, v_r 5, v_i 0, v_r 6, v_r 7, v_r 8, v_r 9]), .inl (.int, 16), .inl (.int, 16), .inl (.int, 16), .inl (.int, 16), .inl (.int, 8), .inl (.int, 8), .inl (.int, 8), .inl (.int, 8), .inr (4, [v_i 0, v_r 11, v_r 12, v_r 13, v_r 14, v_l 0, v_r 15, v_r 16]), .inl (.int, 40), .inl (.int, 40), .inl (.int, 40), .inl (.long, 16), .inl (.int, 16), .inl (.long, 42), .inr (1, [v_r 18, v_r 19, v_r 20]), .inl (.int, 4352), .inl (.int, 8), .inl (.int, 16), .inr (6, [v_r 22, v_r 23]), .inl (.int, 30), .inl (.int, 30), .inr (8, [v_i 0, v_i 0, v_r 25]), .inl (.int, 120), .inr (7, [v_i 0, v_r 27, v_r 28, v_r 29, v_r 30, v_r 31, v_n, v_n, v_n]), .inl (.int, 10), .inl (.int, 10), .inl (.int, 10), .inl (.boolean, 30), .inl (.int, 30), .inl (.int, 30)]
def la_63 : List mm_S := [.inr (9, [v_r 1, v_r 10, v_r 17, v_r 21, v_r 24, v_n, v_n, v_n, v_n, v_i 0]), .inr (0, [v_i 0, v_r 2, v_r 3, v_r 4, v_r 5, v_i 0, v_r 6, v_r 7, v_r 8, v_r 9]), .inl (.int, 16), .inl (.int, 16), .inl (.int, 16), .inl (.int, 16), .inl (.int, 8), .inl (.int, 8), .inl (.int, 8), .inl (.int, 8), .inr (4, [v_i 0, v_r 11, v_r 12, v_r 13, v_r 14, v_l 0, v_r 15, v_r 16]), .inl (.int, 40), .inl (.int, 40), .inl (.int, 40), .inl (.long, 16), .inl (.int, 16), .inl (.long, 42), .inr (1, [v_r 18, v_r 19, v_r 20]), .inl (.int, 4352), .inl (.int, 8), .inl (.int, 16), .inr (6, [v_r 22, v_r 23]), .inl (.int, 30), .inl (.int, 30), .inr (8, [v_i 0, v_i 0, v_r 25]), .inl (.int, 120), .inr (7, [v_i 0, v_r 27, v_r 28, v_r 29, v_r 30, v_r 31, v_r 32, v_n, v_n]), .inl (.int, 10), .inl (.int, 10), .inl (.int, 10), .inl (.boolean, 30), .inl (.int, 30), .inl (.int, 30)]
def la_64 : List mm_S := [.inr (9, [v_r 1, v_r 10, v_r 17, v_r 21, v_r 24, v_n, v_n, v_n, v_n, v_i 0]), .inr (0, [v_i 0, v_r 2, v_r 3, v_r 4, v_r 5, v_i 0, v_r 6, v_r 7, v_r 8, v_r 9]), .inl (.int, 16), .inl (.int, 16), .inl (.int, 16), .inl (.int, 16), .inl (.int, 8), .inl (.int, 8), .inl (.int, 8), .inl (.int, 8), .inr (4, [v_i 0, v_r 11, v_r 12, v_r 13, v_r 14, v_l 0, v_r 15, v_r 16]), .inl (.int, 40), .inl (.int, 40), .inl (.int, 40), .inl (.long, 16), .inl (.int, 16), .inl (.long, 42), .inr (1, [v_r 18, v_r 19, v_r 20]), .inl (.int, 4352), .inl (.int, 8), .inl (.int, 16), .inr (6, [v_r 22, v_r 23]), .inl (.int, 30), .inl (.int, 30), .inr (8, [v_i 0, v_i 0, v_r 25]), .inl (.int, 120), .inr (7, [v_i 0, v_r 27, v_r 28, v_r 29, v_r 30, v_r 31, v_r 32, v_n, v_n]), .inl (.int, 10), .inl (.int, 10), .inl (.int, 10), .inl (.boolean, 30), .inl (.int, 30), .inl (.int, 30), .inl (.int, 30)]
def la_65 : List mm_S := [.inr (9, [v_r 1, v_r 10, v_r 17, v_r 21, v_r 24, v_n, v_n, v_n, v_n, v_i 0]), .inr (0, [v_i 0, v_r 2, v_r 3, v_r 4, v_r 5, v_i 0, v_r 6, v_r 7, v_r 8, v_r 9]), .inl (.int, 16), .inl (.int, 16), .inl (.int, 16), .inl (.int, 16), .inl (.int, 8), .inl (.int, 8), .inl (.int, 8), .inl (.int, 8), .inr (4, [v_i 0, v_r 11, v_r 12, v_r 13, v_r 14, v_l 0, v_r 15, v_r 16]), .inl (.int, 40), .inl (.int, 40), .inl (.int, 40), .inl (.long, 16), .inl (.int, 16), .inl (.long, 42), .inr (1, [v_r 18, v_r 19, v_r 20]), .inl (.int, 4352), .inl (.int, 8), .inl (.int, 16), .inr (6, [v_r 22, v_r 23]), .inl (.int, 30), .inl (.int, 30), .inr (8, [v_i 0, v_i 0, v_r 25]), .inl (.int, 120), .inr (7, [v_i 0, v_r 27, v_r 28, v_r 29, v_r 30, v_r 31, v_r 32, v_r 33, v_n]), .inl (.int, 10), .inl (.int, 10), .inl (.int, 10), .inl (.boolean, 30), .inl (.int, 30), .inl (.int, 30), .inl (.int, 30)]
def la_66 : List mm_S := [.inr (9, [v_r 1, v_r 10, v_r 17, v_r 21, v_r 24, v_n, v_n, v_n, v_n, v_i 0]), .inr (0, [v_i 0, v_r 2, v_r 3, v_r 4, v_r 5, v_i 0, v_r 6, v_r 7, v_r 8, v_r 9]), .inl (.int, 16), .inl (.int, 16), .inl (.int, 16), .inl (.int, 16), .inl (.int, 8), .inl (.int, 8), .inl (.int, 8), .inl (.int, 8), .inr (4, [v_i 0, v_r 11, v_r 12, v_r 13, v_r 14, v_l 0, v_r 15, v_r 16]), .inl (.int, 40), .inl (.int, 40), .inl (.int, 40), .inl (.long, 16), .inl (.int, 16), .inl (.long, 42), .inr (1, [v_r 18, v_r 19, v_r 20]), .inl (.int, 4352), .inl (.int, 8), .inl (.int, 16), .inr (6, [v_r 22, v_r 23]), .inl (.int, 30), .inl (.int, 30), .inr (8, [v_i 0, v_i 0, v_r 25]), .inl (.int, 120), .inr (7, [v_i 0, v_r 27, v_r 28, v_r 29, v_r 30, v_r 31, v_r 32, v_r 33, v_n]), .inl (.int, 10), .inl (.int, 10), .inl (.int, 10), .inl (.boolean, 30), .inl (.int, 30), .inl (.int, 30), .inl (.int, 30), .inl (.int, 7)]
def la_67 : List mm_S := [.inr (9, [v_r 1, v_r 10, v_r 17, v_r 21, v_r 24, v_n, v_n, v_n, v_n, v_i 0]), .inr (0, [v_i 0, v_r 2, v_r 3, v_r 4, v_r 5, v_i 0, v_r 6, v_r 7, v_r 8, v_r 9]), .inl (.int, 16), .inl (.int, 16), .inl (.int, 16), .inl (.int, 16), .inl (.int, 8), .inl (.int, 8), .inl (.int, 8), .inl (.int, 8), .inr (4, [v_i 0, v_r 11, v_r 12, v_r 13, v_r 14, v_l 0, v_r 15, v_r 16]), .inl (.int, 40), .inl (.int, 40), .inl (.int, 40), .inl (.long, 16), .inl (.int, 16), .inl (.long, 42), .inr (1, [v_r 18, v_r 19, v_r 20]), .inl (.int, 4352), .inl (.int, 8), .inl (.int, 16), .inr (6, [v_r 22, v_r 23]), .inl (.int, 30), .inl (.int, 30), .inr (8, [v_i 0, v_i 0, v_r 25]), .inl (.int, 120), .inr (7, [v_i 0, v_r 27, v_r 28, v_r 29, v_r 30, v_r 31, v_r 32, v_r 33, v_r 34]), .inl (.int, 10), .inl (.int, 10), .inl (.int, 10), .inl (.boolean, 30), .inl (.int, 30), .inl (.int, 30), .inl (.int, 30), .inl (.int, 7)]
def mem_4 : mm_M := mm_up mem_3 26 0 0
def la_68 : List mm_S := [.inr (9, [v_r 1, v_r 10, v_r 17, v_r 21, v_r 24, v_r 26, v_n, v_n, v_n, v_i 0]), .inr (0, [v_i 0, v_r 2, v_r 3, v_r 4, v_r 5, v_i 0, v_r 6, v_r 7, v_r 8, v_r 9]), .inl (.int, 16), .inl (.int, 16), .inl (.int, 16), .inl (.int, 16), .inl (.int, 8), .inl (.int, 8), .inl (.int, 8), .inl (.int, 8), .inr (4, [v_i 0, v_r 11, v_r 12, v_r 13, v_r 14, v_l 0, v_r 15, v_r 16]), .inl (.int, 40), .inl (.int, 40), .inl (.int, 40), .inl (.long, 16), .inl (.int, 16), .inl (.long, 42), .inr (1, [v_r 18, v_r 19, v_r 20]), .inl (.int, 4352), .inl (.int, 8), .inl (.int, 16), .inr (6, [v_r 22, v_r 23]), .inl (.int, 30), .inl (.int, 30), .inr (8, [v_i 0, v_i 0, v_r 25]), .inl (.int, 120), .inr (7, [v_i 0, v_r 27, v_r 28, v_r 29, v_r 30, v_r 31, v_r 32, v_r 33, v_r 34]), .inl (.int, 10), .inl (.int, 10), .inl (.int, 10), .inl (.boolean, 30), .inl (.int, 30), .inl (.int, 30), .inl (.int, 30), .inl (.int, 7)]
def la_69 : List mm_S := [.inr (9, [v_r 1, v_r 10, v_r 17, v_r 21, v_r 24, v_r 26, v_n, v_n, v_n, v_i 0]), .inr (0, [v_i 0, v_r 2, v_r 3, v_r 4, v_r 5, v_i 0, v_r 6, v_r 7, v_r 8, v_r 9]), .inl (.int, 16), .inl (.int, 16), .inl (.int, 16), .inl (.int, 16), .inl (.int, 8), .inl (.int, 8), .inl (.int, 8), .inl (.int, 8), .inr (4, [v_i 0, v_r 11, v_r 12, v_r 13, v_r 14, v_l 0, v_r 15, v_r 16]), .inl (.int, 40), .inl (.int, 40), .inl (.int, 40), .inl (.long, 16), .inl (.int, 16), .inl (.long, 42), .inr (1, [v_r 18, v_r 19, v_r 20]), .inl (.int, 4352), .inl (.int, 8), .inl (.int, 16), .inr (6, [v_r 22, v_r 23]), .inl (.int, 30), .inl (.int, 30), .inr (8, [v_i 0, v_i 0, v_r 25]), .inl (.int, 120), .inr (7, [v_i 0, v_r 27, v_r 28, v_r 29, v_r 30, v_r 31, v_r 32, v_r 33, v_r 34]), .inl (.int, 10), .inl (.int, 10), .inl (.int, 10), .inl (.boolean, 30), .inl (.int, 30), .inl (.int, 30), .inl (.int, 30), .inl (.int, 7), .inr (3, [v_i 0, v_n, v_n, v_n, v_n, v_i 0, v_n, v_n, v_n])]
def la_70 : List mm_S := [.inr (9, [v_r 1, v_r 10, v_r 17, v_r 21, v_r 24, v_r 26, v_n, v_n, v_n, v_i 0]), .inr (0, [v_i 0, v_r 2, v_r 3, v_r 4, v_r 5, v_i 0, v_r 6, v_r 7, v_r 8, v_r 9]), .inl (.int, 16), .inl (.int, 16), .inl (.int, 16), .inl (.int, 16), .inl (.int, 8), .inl (.int, 8), .inl (.int, 8), .inl (.int, 8), .inr (4, [v_i 0, v_r 11, v_r 12, v_r 13, v_r 14, v_l 0, v_r 15, v_r 16]), .inl (.int, 40), .inl (.int, 40), .inl (.int, 40), .inl (.long, 16), .inl (.int, 16), .inl (.long, 42), .inr (1, [v_r 18, v_r 19, v_r 20]), .inl (.int, 4352), .inl (.int, 8), .inl (.int, 16), .inr (6, [v_r 22, v_r 23]), .inl (.int, 30), .inl (.int, 30), .inr (8, [v_i 0, v_i 0, v_r 25]), .inl (.int, 120), .inr (7, [v_i 0, v_r 27, v_r 28, v_r 29, v_r 30, v_r 31, v_r 32, v_r 33, v_r 34]), .inl (.int, 10), .inl (.int, 10), .inl (.int, 10), .inl (.boolean, 30), .inl (.int, 30), .inl (.int, 30), .inl (.int, 30), .inl (.int, 7), .inr (3, [v_i 0, v_n, v_n, v_n, v_n, v_i 0, v_n, v_n, v_n]), .inl (.int, 30)]
def la_71 : List mm_S := [.inr (9, [v_r 1, v_r 10, v_r 17, v_r 21, v_r 24, v_r 26, v_n, v_n, v_n, v_i 0]), .inr (0, [v_i 0, v_r 2, v_r 3, v_r 4, v_r 5, v_i 0, v_r 6, v_r 7, v_r 8, v_r 9]), .inl (.int, 16), .inl (.int, 16), .inl (.int, 16), .inl (.int, 16), .inl (.int, 8), .inl (.int, 8), .inl (.int, 8), .inl (.int, 8), .inr (4, [v_i 0, v_r 11, v_r 12, v_r 13, v_r 14, v_l 0, v_r 15, v_r 16]), .inl (.int, 40), .inl (.int, 40), .inl (.int, 40), .inl (.long, 16), .inl (.int, 16), .inl (.long, 42), .inr (1, [v_r 18, v_r 19, v_r 20]), .inl (.int, 4352), .inl (.int, 8), .inl (.int, 16), .inr (6, [v_r 22, v_r 23]), .inl (.int, 30), .inl (.int, 30), .inr (8, [v_i 0, v_i 0, v_r 25]), .inl (.int, 120), .inr (7, [v_i 0, v_r 27, v_r 28, v_r 29, v_r 30, v_r 31, v_r 32, v_r 33, v_r 34]), .inl (.int, 10), .inl (.int, 10), .inl (.int, 10), .inl (.boolean, 30), .inl (.int, 30), .inl (.int, 30), .inl (.int, 30), .inl (.int, 7), .inr (3, [v_i 0, v_r 36, v_n, v_n, v_n, v_i 0, v_n, v_n, v_n]), .inl (.int, 30)]
def la_72 : List mm_S := [.inr (9, [v_r 1, v_r 10, v_r 17, v_r 21, v_r 24, v_r 26, v_n, v_n, v_n, v_i 0]), .inr (0, [v_i 0, v_r 2, v_r 3, v_r 4, v_r 5, v_i 0, v_r 6, v_r 7, v_r 8, v_r 9]), .inl (.int, 16), .inl (.int, 16), .inl (.int, 16), .inl (.int, 16), .inl (.int, 8), .inl (.int, 8), .inl (.int, 8), .inl (.int, 8), .inr (4, [v_i 0, v_r 11, v_r 12, v_r 13, v_r 14, v_l 0, v_r 15, v_r 16]), .inl (.int, 40), .inl (.int, 40), .inl (.int, 40), .inl (.long, 16), .inl (.int, 16), .inl (.long, 42), .inr (1, [v_r 18, v_r 19, v_r 20]), .inl (.int, 4352), .inl (.int, 8), .inl (.int, 16), .inr (6, [v_r 22, v_r 23]), .inl (.int, 30), .inl (.int, 30), .inr (8, [v_i 0, v_i 0, v_r 25]), .inl (.int, 120), .inr (7, [v_i 0, v_r 27, v_r 28, v_r 29, v_r 30, v_r 31, v_r 32, v_r 33, v_r 34]), .inl (.int, 10), .inl (.int, 10), .inl (.int, 10), .inl (.boolean, 30), .inl (.int, 30), .inl (.int, 30), .inl (.int, 30), .inl (.int, 7), .inr (3, [v_i 0, v_r 36, v_n, v_n, v_n, v_i 0, v_n, v_n, v_n]), .inl (.int, 30), .inl (.int, 30)]
def la_73 : List mm_S := [.inr (9, [v_r 1, v_r 10, v_r 17, v_r 21, v_r 24, v_r 26, v_n, v_n, v_n, v_i 0]), .inr (0, [v_i 0, v_r 2, v_r 3, v_r 4, v_r 5, v_i 0, v_r 6, v_r 7, v_r 8, v_r 9]), .inl (.int, 16), .inl (.int, 16), .inl (.int, 16), .inl (.int, 16), .inl (.int, 8), .inl (.int, 8), .inl (.int, 8), .inl (.int, 8), .inr (4, [v_i 0, v_r 11, v_r 12, v_r 13, v_r 14, v_l 0, v_r 15, v_r 16]), .inl (.int, 40), .inl (.int, 40), .inl (.int, 40), .inl (.long, 16), .inl (.int, 16), .inl (.long, 42), .inr (1, [v_r 18, v_r 19, v_r 20]), .inl (.int, 4352), .inl (.int, 8), .inl (.int, 16), .inr (6, [v_r 22, v_r 23]), .inl (.int, 30), .inl (.int, 30), .inr (8, [v_i 0, v_i 0, v_r 25]), .inl (.int, 120), .inr (7, [v_i 0, v_r 27, v_r 28, v_r 29, v_r 30, v_r 31, v_r 32, v_r 33, v_r 34]), .inl (.int, 10), .inl (.int, 10), .inl (.int, 10), .inl (.boolean, 30), .inl (.int, 30), .inl (.int, 30), .inl (.int, 30), .inl (.int, 7), .inr (3, [v_i 0, v_r 36, v_r 37, v_n, v_n, v_i 0, v_n, v_n, v_n]), .inl (.int, 30), .inl (.int, 30)]
def la_74 : List mm_S := [.inr (9, [v_r 1, v_r 10, v_r 17, v_r 21, v_r 24, v_r 26, v_n, v_n, v_n, v_i 0]), .inr (0, [v_i 0, v_r 2, v_r 3, v_r 4, v_r 5, v_i 0, v_r 6, v_r 7, v_r 8, v_r 9]), .inl (.int, 16), .inl (.int, 16), .inl (.int, 16), .inl (.int, 16), .inl (.int, 8), .inl (.int, 8), .inl (.int, 8), .inl (.int, 8), .inr (4, [v_i 0, v_r 11, v_r 12, v_r 13, v_r 14, v_l 0, v_r 15, v_r 16]), .inl (.int, 40), .inl (.int, 40), .inl (.int, 40), .inl (.long, 16), .inl (.int, 16), .inl (.long, 42), .inr (1, [v_r 18, v_r 19, v_r 20]), .inl (.int, 4352), .inl (.int, 8), .inl (.int, 16), .inr (6, [v_r 22, v_r 23]), .inl (.int, 30), .inl (.int, 30), .inr (8, [v_i 0, v_i 0, v_r 25]), .inl (.int, 120), .inr (7, [v_i 0, v_r 27, v_r 28, v_r 29, v_r 30, v_r 31, v_r 32, v_r 33, v_r 34]), .inl (.int, 10), .inl (.int, 10), .inl (.int, 10), .inl (.boolean, 30), .inl (.int, 30), .inl (.int, 30), .inl (.int, 30), .inl (.int, 7), .inr (3, [v_i 0, v_r 36, v_r 37, v_n, v_n, v_i 0, v_n, v_n, v_n]), .inl (.int, 30), .inl (.int, 30), .inl (.int, 30)]
def la_75 : List mm_S := [.inr (9, [v_r 1, v_r 10, v_r 17, v_r 21, v_r 24, v_r 26, v_n, v_n, v_n, v_i 0]), .inr (0, [v_i 0, v_r 2, v_r 3, v_r 4, v_r 5, v_i 0, v_r 6, v_r 7, v_r 8, v_r 9]), .inl (.int, 16), .inl (.int, 16), .inl (.int, 16), .inl (.int, 16), .inl (.int, 8), .inl (.int, 8), .inl (.int, 8), .inl (.int, 8), .inr (4, [v_i 0, v_r 11, v_r 12, v_r 13, v_r 14, v_l 0, v_r 15, v_r 16]), .inl (.int, 40), .inl (.int, 40), .inl (.int, 40), .inl (.long, 16), .inl (.int, 16), .inl (.long, 42), .inr (1, [v_r 18, v_r 19, v_r 20]), .inl (.int, 4352), .inl (.int, 8), .inl (.int, 16), .inr (6, [v_r 22, v_r 23]), .inl (.int, 30), .inl (.int, 30), .inr (8, [v_i 0, v_i 0, v_r 25]), .inl (.int, 120), .inr (7, [v_i 0, v_r 27, v_r 28, v_r 29, v_r 30, v_r 31, v_r 32, v_r 33, v_r 34]), .inl (.int, 10), .inl (.int, 10), .inl (.int, 10), .inl (.boolean, 30), .inl (.int, 30), .inl (.int, 30), .inl (.int, 30), .inl (.int, 7), .inr (3, [v_i 0, v_r 36, v_r 37, v_r 38, v_n, v_i 0, v_n, v_n, v_n]), .inl (.int, 30), .inl (.int, 30), .inl (.int, 30)]
def la_76 : List mm_S := [.inr (9, [v_r 1, v_r 10, v_r 17, v_r 21, v_r 24, v_r 26, v_n, v_n, v_n, v_i 0]), .inr (0, [v_i 0, v_r 2, v_r 3, v_r 4, v_r 5, v_i 0, v_r 6, v_r 7, v_r 8, v_r 9]), .inl (.int, 16), .inl (.int, 16), .inl (.int, 16), .inl (.int, 16), .inl (.int, 8), .inl (.int, 8), .inl (.int, 8), .inl (.int, 8), .inr (4, [v_i 0, v_r 11, v_r 12, v_r 13, v_r 14, v_l 0, v_r 15, v_r 16]), .inl (.int, 40), .inl (.int, 40), .inl (.int, 40), .inl (.long, 16), .inl (.int, 16), .inl (.long, 42), .inr (1, [v_r 18, v_r 19, v_r 20]), .inl (.int, 4352), .inl (.int, 8), .inl (.int, 16), .inr (6, [v_r 22, v_r 23]), .inl (.int, 30), .inl (.int, 30), .inr (8, [v_i 0, v_i 0, v_r 25]), .inl (.int, 120), .inr (7, [v_i 0, v_r 27, v_r 28, v_r 29, v_r 30, v_r 31, v_r 32, v_r 33, v_r 34]), .inl (.int, 10), .inl (.int, 10), .inl (.int, 10), .inl (.boolean, 30), .inl (.int, 30), .inl (.int, 30), .inl (.int, 30), .inl (.int, 7), .inr (3, [v_i 0, v_r 36, v_r 37, v_r 38, v_n, v_i 0, v_n, v_n, v_n]), .inl (.int, 30), .inl (.int, 30), .inl (.int, 30), .inl (.int, 30)]
def la_77 : List mm_S := [.inr (9, [v_r 1, v_r 10, v_r 17, v_r 21, v_r 24, v_r 26, v_n, v_n, v_n, v_i 0]), .inr (0, [v_i 0, v_r 2, v_r 3, v_r 4, v_r 5, v_i 0, v_r 6, v_r 7, v_r 8, v_r 9]), .inl (.int, 16), .inl (.int, 16), .inl (.int, 16), .inl (.int, 16), .inl (.int, 8), .inl (.int, 8), .inl (.int, 8), .inl (.int, 8), .inr (4, [v_i 0, v_r 11, v_r 12, v_r 13, v_r 14, v_l 0, v_r 15, v_r 16]), .inl (.int, 40), .inl (.int, 40), .inl (.int, 40), .inl (.long, 16), .inl (.int, 16), .inl (.long, 42), .inr (1, [v_r 18, v_r 19, v_r 20]), .inl (.int, 4352), .inl (.int, 8), .inl (.int, 16), .inr (6, [v_r 22, v_r 23]), .inl (.int, 30), .inl (.int, 30), .inr (8, [v_i 0, v_i 0, v_r 25]), .inl (.int, 120), .inr (7, [v_i 0, v_r 27, v_r 28, v_r 29, v_r 30, v_r 31, v_r 32, v_r 33, v_r 34]), .inl (.int, 10), .inl (.int, 10), .inl (.int, 10), .inl (.boolean, 30), .inl (.int, 30), .inl (.int, 30), .inl (.int, 30), .inl (.int, 7), .inr (3, [v_i 0, v_r 36, v_r 37, v_r 38, v_r 39, v_i 0, v_n, v_n, v_n]), .inl (.int, 30), .inl (.int, 30), .inl (.int, 30), .inl (.int, 30)]
def la_78 : List mm_S := [.inr (9, [v_r 1, v_r 10, v_r 17, v_r 21, v_r 24, v_r 26, v_n, v_n, v_n, v_i 0]), .inr (0, [v_i 0, v_r 2, v_r 3, v_r 4, v_r 5, v_i 0, v_r 6, v_r 7, v_r 8, v_r 9]), .inl (.int, 16), .inl (.int, 16), .inl (.int, 16), .inl (.int, 16), .inl (.int, 8), .inl (.int, 8), .inl (.int, 8), .inl (.int, 8), .inr (4, [v_i 0, v_r 11, v_r 12, v_r 13, v_r 14, v_l 0, v_r 15, v_r 16]), .inl (.int, 40), .inl (.int, 40), .inl (.int, 40), .inl (.long, 16), .inl (.int, 16), .inl (.long, 42), .inr (1, [v_r 18, v_r 19, v_r 20]), .inl (.int, 4352), .inl (.int, 8), .inl (.int, 16), .inr (6, [v_r 22, v_r 23]), .inl (.int, 30), .inl (.int, 30), .inr (8, [v_i 0, v_i 0, v_r 25]), .inl (.int, 120), .inr (7, [v_i 0, v_r 27, v_r 28, v_r 29, v_r 30, v_r 31, v_r 32, v_r 33, v_r 34]), .inl (.int, 10), .inl (.int, 10), .inl (.int, 10), .inl (.boolean, 30), .inl (.int, 30), .inl (.int, 30), .inl (.int, 30), .inl (.int, 7), .inr (3, [v_i 0, v_r 36, v_r 37, v_r 38, v_r 39, v_i 0, v_n, v_n, v_n]), .inl (.int, 30), .inl (.int, 30), .inl (.int, 30), .inl (.int, 30), .inl (.int, 60)]
def la_79 : List mm_S := [.inr (9, [v_r 1, v_r 10, v_r 17, v_r 21, v_r 24, v_r 26, v_n, v_n, v_n, v_i 0]), .inr (0, [v_i 0, v_r 2, v_r 3, v_r 4, v_r 5, v_i 0, v_r 6, v_r 7, v_r 8, v_r 9]), .inl (.int, 16), .inl (.int, 16), .inl (.int, 16), .inl (.int, 16), .inl (.int, 8), .inl (.int, 8), .inl (.int, 8), .inl (.int, 8), .inr (4, [v_i 0, v_r 11, v_r 12, v_r 13, v_r 14, v_l 0, v_r 15, v_r 16]), .inl (.int, 40), .inl (.int, 40), .inl (.int, 40), .inl (.long, 16), .inl (.int, 16), .inl (.long, 42), .inr (1, [v_r 18, v_r 19, v_r 20]), .inl (.int, 4352), .inl (.int, 8), .inl (.int, 16), .inr (6, [v_r 22, v_r 23]), .inl (.int, 30), .inl (.int, 30), .inr (8, [v_i 0, v_i 0, v_r 25]), .inl (.int, 120), .inr (7, [v_i 0, v_r 27, v_r 28, v_r 29, v_r 30, v_r 31, v_r 32, v_r 33, v_r 34]), .inl (.int, 10), .inl (.int, 10), .inl (.int, 10), .inl (.boolean, 30), .inl (.int, 30), .inl (.int, 30), .inl (.int, 30), .inl (.int, 7), .inr (3, [v_i 0, v_r 36, v_r 37, v_r 38, v_r 39, v_i 0, v_r 40, v_n, v_n]), .inl (.int, 30), .inl (.int, 30), .inl (.int, 30), .inl (.int, 30), .inl (.int, 60)]
def la_80 : List mm_S := [.inr (9, [v_r 1, v_r 10, v_r 17, v_r 21, v_r 24, v_r 26, v_n, v_n, v_n, v_i 0]), .inr (0, [v_i 0, v_r 2, v_r 3, v_r 4, v_r 5, v_i 0, v_r 6, v_r 7, v_r 8, v_r 9]), .inl (.int, 16), .inl (.int, 16), .inl (.int, 16), .inl (.int, 16), .inl (.int, 8), .inl (.int, 8), .inl (.int, 8), .inl (.int, 8), .inr (4, [v_i 0, v_r 11, v_r 12, v_r 13, v_r 14, v_l 0, v_r 15, v_r 16]), .inl (.int, 40), .inl (.int, 40), .inl (.int, 40), .inl (.long, 16), .inl (.int, 16), .inl (.long, 42), .inr (1, [v_r 18, v_r 19, v_r 20]), .inl (.int, 4352), .inl (.int, 8), .inl (.int, 16), .inr (6, [v_r 22, v_r 23]), .inl (.int, 30), .inl (.int, 30), .inr (8, [v_i 0, v_i 0, v_r 25]), .inl (.int, 120), .inr (7, [v_i 0, v_r 27, v_r 28, v_r 29, v_r 30, v_r 31, v_r 32, v_r 33, v_r 34]), .inl (.int, 10), .inl (.int, 10), .inl (.int, 10), .inl (.boolean, 30), .inl (.int, 30), .inl (.int, 30), .inl (.int, 30), .inl (.int, 7), .inr (3, [v_i 0, v_r 36, v_r 37, v_r 38, v_r 39, v_i 0, v_r 40, v_n, v_n]), .inl (.int, 30), .inl (.int, 30), .inl (.int, 30), .inl (.int, 30), .inl (.int, 60), .inl (.int, 60)]
def la_81 : List mm_S := [.inr (9, [v_r 1, v_r 10, v_r 17, v_r 21, v_r 24, v_r 26, v_n, v_n, v_n, v_i 0]), .inr (0, [v_i 0, v_r 2, v_r 3, v_r 4, v_r 5, v_i 0, v_r 6, v_r 7, v_r 8, v_r 9]), .inl (.int, 16), .inl (.int, 16), .inl (.int, 16), .inl (.int, 16), .inl (.int, 8), .inl (.int, 8), .inl (.int, 8), .inl (.int, 8), .inr (4, [v_i 0, v_r 11, v_r 12, v_r 13, v_r 14, v_l 0, v_r 15, v_r 16]), .inl (.int, 40), .inl (.int, 40), .inl (.int, 40), .inl (.long, 16), .inl (.int, 16), .inl (.long, 42), .inr (1, [v_r 18, v_r 19, v_r 20]), .inl (.int, 4352), .inl (.int, 8), .inl (.int, 16), .inr (6, [v_r 22, v_r 23]), .inl (.int, 30), .inl (.int, 30), .inr (8, [v_i 0, v_i 0, v_r 25]), .inl (.int, 120), .inr (7, [v_i 0, v_r 27, v_r 28, v_r 29, v_r 30, v_r 31, v_r 32, v_r 33, v_r 34]), .inl (.int, 10), .inl (.int, 10), .inl (.int, 10), .inl (.boolean, 30), .inl (.int, 30), .inl (.int, 30), .inl (.int, 30), .inl (.int, 7), .inr (3, [v_i 0, v_r 36, v_r 37, v_r 38, v_r 39, v_i 0, v_r 40, v_r 41, v_n]), .inl (.int, 30), .inl (.int, 30), .inl (.int, 30), .inl (.int, 30), .inl (.int, 60), .inl (.int, 60)]
def la_82 : List mm_S := [.inr (9, [v_r 1, v_r 10, v_r 17, v_r 21, v_r 24, v_r 26, v_n, v_n, v_n, v_i 0]), .inr (0, [v_i 0, v_r 2, v_r 3, v_r 4, v_r 5, v_i 0, v_r 6, v_r 7, v_r 8, v_r 9]), .inl (.int, 16), .inl (.int, 16), .inl (.int, 16), .inl (.int, 16), .inl (.int, 8), .inl (.int, 8), .inl (.int, 8), .inl (.int, 8), .inr (4, [v_i 0, v_r 11, v_r 12, v_r 13, v_r 14, v_l 0, v_r 15, v_r 16]), .inl (.int, 40), .inl (.int, 40), .inl (.int, 40), .inl (.long, 16), .inl (.int, 16), .inl (.long, 42), .inr (1, [v_r 18, v_r 19, v_r 20]), .inl (.int, 4352), .inl (.int, 8), .inl (.int, 16), .inr (6, [v_r 22, v_r 23]), .inl (.int, 30), .inl (.int, 30), .inr (8, [v_i 0, v_i 0, v_r 25]), .inl (.int, 120), .inr (7, [v_i 0, v_r 27, v_r 28, v_r 29, v_r 30, v_r 31, v_r 32, v_r 33, v_r 34]), .inl (.int, 10), .inl (.int, 10), .inl (.int, 10), .inl (.boolean, 30), .inl (.int, 30), .inl (.int, 30), .inl (.int, 30), .inl (.int, 7), .inr (3, [v_i 0, v_r 36, v_r 37, v_r 38, v_r 39, v_i 0, v_r 40, v_r 41, v_n]), .inl (.int, 30), .inl (.int, 30), .inl (.int, 30), .inl (.int, 30), .inl (.int, 60), .inl (.int, 60), .inl (.int, 60)]
def la_83 : List mm_S := [.inr (9, [v_r 1, v_r 10, v_r 17, v_r 21, v_r 24, v_r 26, v_n, v_n, v_n, v_i 0]), .inr (0, [v_i 0, v_r 2, v_r 3, v_r 4, v_r 5, v_i 0, v_r 6, v_r 7, v_r 8, v_r 9]), .inl (.int, 16), .inl (.int, 16), .inl (.int, 16), .inl (.int, 16), .inl (.int, 8), .inl (.int, 8), .inl (.int, 8), .inl (.int, 8), .inr (4, [v_i 0, v_r 11, v_r 12, v_r 13, v_r 14, v_l 0, v_r 15, v_r 16]), .inl (.int, 40), .inl (.int, 40), .inl (.int, 40), .inl (.long, 16), .inl (.int, 16), .inl (.long, 42), .inr (1, [v_r 18, v_r 19, v_r 20]), .inl (.int, 4352), .inl (.int, 8), .inl (.int, 16), .inr (6, [v_r 22, v_r 23]), .inl (.int, 30), .inl (.int, 30), .inr (8, [v_i 0, v_i 0, v_r 25]), .inl (.int, 120), .inr (7, [v_i 0, v_r 27, v_r 28, v_r 29, v_r 30, v_r 31, v_r 32, v_r 33, v_r 34]), .inl (.int, 10), .inl (.int, 10), .inl (.int, 10), .inl (.boolean, 30), .inl (.int, 30), .inl (.int, 30), .inl (.int, 30), .inl (.int, 7), .inr (3, [v_i 0, v_r 36, v_r 37, v_r 38, v_r 39, v_i 0, v_r 40, v_r 41, v_r 42]), .inl (.int, 30), .inl (.int, 30), .inl (.int, 30), .inl (.int, 30), .inl (.int, 60), .inl (.int, 60), .inl (.int, 60)]
def mem_5 : mm_M := mm_up (mm_up mem_4 35 0 0) 35 5 0
def la_84 : List mm_S := [.inr (9, [v_r 1, v_r 10, v_r 17, v_r 21, v_r 24, v_r 26, v_r 35, v_n, v_n, v_i 0]), .inr (0, [v_i 0, v_r 2, v_r 3, v_r 4, v_r 5, v_i 0, v_r 6, v_r 7, v_r 8, v_r 9]), .inl (.int, 16), .inl (.int, 16), .inl (.int, 16), .inl (.int, 16), .inl (.int, 8), .inl (.int, 8), .inl (.int, 8), .inl (.int, 8), .inr (4, [v_i 0, v_r 11, v_r 12, v_r 13, v_r 14, v_l 0, v_r 15, v_r 16]), .inl (.int, 40), .inl (.int, 40), .inl (.int, 40), .inl (.long, 16), .inl (.int, 16), .inl (.long, 42), .inr (1, [v_r 18, v_r 19, v_r 20]), .inl (.int, 4352), .inl (.int, 8), .inl (.int, 16), .inr (6, [v_r 22, v_r 23]), .inl (.int, 30), .inl (.int, 30), .inr (8, [v_i 0, v_i 0, v_r 25]), .inl (.int, 120), .inr (7, [v_i 0, v_r 27, v_r 28, v_r 29, v_r 30, v_r 31, v_r 32, v_r 33, v_r 34]), .inl (.int, 10), .inl (.int, 10), .inl (.int, 10), .inl (.boolean, 30), .inl (.int, 30), .inl (.int, 30), .inl (.int, 30), .inl (.int, 7), .inr (3, [v_i 0, v_r 36, v_r 37, v_r 38, v_r 39, v_i 0, v_r 40, v_r 41, v_r 42]), .inl (.int, 30), .inl (.int, 30), .inl (.int, 30), .inl (.int, 30), .inl (.int, 60), .inl (.int, 60), .inl (.int, 60)]
def la_85 : List mm_S := [.inr (9, [v_r 1, v_r 10, v_r 17, v_r 21, v_r 24, v_r 26, v_r 35, v_n, v_n, v_i 0]), .inr (0, [v_i 0, v_r 2, v_r 3, v_r 4, v_r 5, v_i 0, v_r 6, v_r 7, v_r 8, v_r 9]), .inl (.int, 16), .inl (.int, 16), .inl (.int, 16), .inl (.int, 16), .inl (.int, 8), .inl (.int, 8), .inl (.int, 8), .inl (.int, 8), .inr (4, [v_i 0, v_r 11, v_r 12, v_r 13, v_r 14, v_l 0, v_r 15, v_r 16]), .inl (.int, 40), .inl (.int, 40), .inl (.int, 40), .inl (.long, 16), .inl (.int, 16), .inl (.long, 42), .inr (1, [v_r 18, v_r 19, v_r 20]), .inl (.int, 4352), .inl (.int, 8), .inl (.int, 16), .inr (6, [v_r 22, v_r 23]), .inl (.int, 30), .inl (.int, 30), .inr (8, [v_i 0, v_i 0, v_r 25]), .inl (.int, 120), .inr (7, [v_i 0, v_r 27, v_r 28, v_r 29, v_r 30, v_r 31, v_r 32, v_r 33, v_r 34]), .inl (.int, 10), .inl (.int, 10), .inl (.int, 10), .inl (.boolean, 30), .inl (.int, 30), .inl (.int, 30), .inl (.int, 30), .inl (.int, 7), .inr (3, [v_i 0, v_r 36, v_r 37, v_r 38, v_r 39, v_i 0, v_r 40, v_r 41, v_r 42]), .inl (.int, 30), .inl (.int, 30), .inl (.int, 30), .inl (.int, 30), .inl (.int, 60), .inl (.int, 60), .inl (.int, 60), .inr (2, [v_i 0, v_i 0, v_n, v_n])]
def la_86 : List mm_S := [.inr (9, [v_r 1, v_r 10, v_r 17, v_r 21, v_r 24, v_r 26, v_r 35, v_n, v_n, v_i 0]), .inr (0, [v_i 0, v_r 2, v_r 3, v_r 4, v_r 5, v_i 0, v_r 6, v_r 7, v_r 8, v_r 9]), .inl (.int, 16), .inl (.int, 16), .inl (.int, 16), .inl (.int, 16), .inl (.int, 8), .inl (.int, 8), .inl (.int, 8), .inl (.int, 8), .inr (4, [v_i 0, v_r 11, v_r 12, v_r 13, v_r 14, v_l 0, v_r 15, v_r 16]), .inl (.int, 40), .inl (.int, 40), .inl (.int, 40), .inl (.long, 16), .inl (.int, 16), .inl (.long, 42), .inr (1, [v_r 18, v_r 19, v_r 20]), .inl (.int, 4352), .inl (.int, 8), .inl (.int, 16), .inr (6, [v_r 22, v_r 23]), .inl (.int, 30), .inl (.int, 30), .inr (8, [v_i 0, v_i 0, v_r 25]), .inl (.int, 120), .inr (7, [v_i 0, v_r 27, v_r 28, v_r 29, v_r 30, v_r 31, v_r 32, v_r 33, v_r 34]), .inl (.int, 10), .inl (.int, 10), .inl (.int, 10), .inl (.boolean, 30), .inl (.int, 30), .inl (.int, 30), .inl (.int, 30), .inl (.int, 7), .inr (3, [v_i 0, v_r 36, v_r 37, v_r 38, v_r 39, v_i 0, v_r 40, v_r 41, v_r 42]), .inl (.int, 30), .inl (.int, 30), .inl (.int, 30), .inl (.int, 30), .inl (.int, 60), .inl (.int, 60), .inl (.int, 60), .inr (2, [v_i 0, v_i 0, v_n, v_n]), .inl (.int, 20)]
def la_87 : List mm_S := [.inr (9, [v_r 1, v_r 10, v_r 17, v_r 21, v_r 24, v_r 26, v_r 35, v_n, v_n, v_i 0]), .inr (0, [v_i 0, v_r 2, v_r 3, v_r 4, v_r 5, v_i 0, v_r 6, v_r 7, v_r 8, v_r 9]), .inl (.int, 16), .inl (.int, 16), .inl (.int, 16), .inl (.int, 16), .inl (.int, 8), .inl (.int, 8), .inl (.int, 8), .inl (.int, 8), .inr (4, [v_i 0, v_r 11, v_r 12, v_r 13, v_r 14, v_l 0, v_r 15, v_r 16]), .inl (.int, 40), .inl (.int, 40), .inl (.int, 40), .inl (.long, 16), .inl (.int, 16), .inl (.long, 42), .inr (1, [v_r 18, v_r 19, v_r 20]), .inl (.int, 4352), .inl (.int, 8), .inl (.int, 16), .inr (6, [v_r 22, v_r 23]), .inl (.int, 30), .inl (.int, 30), .inr (8, [v_i 0, v_i 0, v_r 25]), .inl (.int, 120), .inr (7, [v_i 0, v_r 27, v_r 28, v_r 29, v_r 30, v_r 31, v_r 32, v_r 33, v_r 34]), .inl (.int, 10), .inl (.int, 10), .inl (.int, 10), .inl (.boolean, 30), .inl (.int, 30), .inl (.int, 30), .inl (.int, 30), .inl (.int, 7), .inr (3, [v_i 0, v_r 36, v_r 37, v_r 38, v_r 39, v_i 0, v_r 40, v_r 41, v_r 42]), .inl (.int, 30), .inl (.int, 30), .inl (.int, 30), .inl (.int, 30), .inl (.int, 60), .inl (.int, 60), .inl (.int, 60), .inr (2, [v_i 0, v_i 0, v_r 44, v_n]), .inl (.int, 20)]
def la_88 : List mm_S := [.inr (9, [v_r 1, v_r 10, v_r 17, v_r 21, v_r 24, v_r 26, v_r 35, v_n, v_n, v_i 0]), .inr (0, [v_i 0, v_r 2, v_r 3, v_r 4, v_r 5, v_i 0, v_r 6, v_r 7, v_r 8, v_r 9]), .inl (.int, 16), .inl (.int, 16), .inl (.int, 16), .inl (.int, 16), .inl (.int, 8), .inl (.int, 8), .inl (.int, 8), .inl (.int, 8), .inr (4, [v_i 0, v_r 11, v_r 12, v_r 13, v_r 14, v_l 0, v_r 15, v_r 16]), .inl (.int, 40), .inl (.int, 40), .inl (.int, 40), .inl (.long, 16), .inl (.int, 16), .inl (.long, 42), .inr (1, [v_r 18, v_r 19, v_r 20]), .inl (.int, 4352), .inl (.int, 8), .inl (.int, 16), .inr (6, [v_r 22, v_r 23]), .inl (.int, 30), .inl (.int, 30), .inr (8, [v_i 0, v_i 0, v_r 25]), .inl (.int, 120), .inr (7, [v_i 0, v_r 27, v_r 28, v_r 29, v_r 30, v_r 31, v_r 32, v_r 33, v_r 34]), .inl (.int, 10), .inl (.int, 10), .inl (.int, 10), .inl (.boolean, 30), .inl (.int, 30), .inl (.int, 30), .inl (.int, 30), .inl (.int, 7), .inr (3, [v_i 0, v_r 36, v_r 37, v_r 38, v_r 39, v_i 0, v_r 40, v_r 41, v_r 42]), .inl (.int, 30), .inl (.int, 30), .inl (.int, 30), .inl (.int, 30), .inl (.int, 60), .inl (.int, 60), .inl (.int, 60), .inr (2, [v_i 0, v_i 0, v_r 44, v_n]), .inl (.int, 20), .inl (.int, 20)]
def la_89 : List mm_S := [.inr (9, [v_r 1, v_r 10, v_r 17, v_r 21, v_r 24, v_r 26, v_r 35, v_n, v_n, v_i 0]), .inr (0, [v_i 0, v_r 2, v_r 3, v_r 4, v_r 5, v_i 0, v_r 6, v_r 7, v_r 8, v_r 9]), .inl (.int, 16), .inl (.int, 16), .inl (.int, 16), .inl (.int, 16), .inl (.int, 8), .inl (.int, 8), .inl (.int, 8), .inl (.int, 8), .inr (4, [v_i 0, v_r 11, v_r 12, v_r 13, v_r 14, v_l 0, v_r 15, v_r 16]), .inl (.int, 40), .inl (.int, 40), .inl (.int, 40), .inl (.long, 16), .inl (.int, 16), .inl (.long, 42), .inr (1, [v_r 18, v_r 19, v_r 20]), .inl (.int, 4352), .inl (.int, 8), .inl (.int, 16), .inr (6, [v_r 22, v_r 23]), .inl (.int, 30), .inl (.int, 30), .inr (8, [v_i 0, v_i 0, v_r 25]), .inl (.int, 120), .inr (7, [v_i 0, v_r 27, v_r 28, v_r 29, v_r 30, v_r 31, v_r 32, v_r 33, v_r 34]), .inl (.int, 10), .inl (.int, 10), .inl (.int, 10), .inl (.boolean, 30), .inl (.int, 30), .inl (.int, 30), .inl (.int, 30), .inl (.int, 7), .inr (3, [v_i 0, v_r 36, v_r 37, v_r 38, v_r 39, v_i 0, v_r 40, v_r 41, v_r 42]), .inl (.int, 30), .inl (.int, 30), .inl (.int, 30), .inl (.int, 30), .inl (.int, 60), .inl (.int, 60), .inl (.int, 60), .inr (2, [v_i 0, v_i 0, v_r 44, v_r 45]), .inl (.int, 20), .inl (.int, 20)]
def mem_6 : mm_M := mm_up (mm_up mem_5 43 0 0) 43 1 30
def la_90 : List mm_S := [.inr (9, [v_r 1, v_r 10, v_r 17, v_r 21, v_r 24, v_r 26, v_r 35, v_r 43, v_n, v_i 0]), .inr (0, [v_i 0, v_r 2, v_r 3, v_r 4, v_r 5, v_i 0, v_r 6, v_r 7, v_r 8, v_r 9]), .inl (.int, 16), .inl (.int, 16), .inl (.int, 16), .inl (.int, 16), .inl (.int, 8), .inl (.int, 8), .inl (.int, 8), .inl (.int, 8), .inr (4, [v_i 0, v_r 11, v_r 12, v_r 13, v_r 14, v_l 0, v_r 15, v_r 16]), .inl (.int, 40), .inl (.int, 40), .inl (.int, 40), .inl (.long, 16), .inl (.int, 16), .inl (.long, 42), .inr (1, [v_r 18, v_r 19, v_r 20]), .inl (.int, 4352), .inl (.int, 8), .inl (.int, 16), .inr (6, [v_r 22, v_r 23]), .inl (.int, 30), .inl (.int, 30), .inr (8, [v_i 0, v_i 0, v_r 25]), .inl (.int, 120), .inr (7, [v_i 0, v_r 27, v_r 28, v_r 29, v_r 30, v_r 31, v_r 32, v_r 33, v_r 34]), .inl (.int, 10), .inl (.int, 10), .inl (.int, 10), .inl (.boolean, 30), .inl (.int, 30), .inl (.int, 30), .inl (.int, 30), .inl (.int, 7), .inr (3, [v_i 0, v_r 36, v_r 37, v_r 38, v_r 39, v_i 0, v_r 40, v_r 41, v_r 42]), .inl (.int, 30), .inl (.int, 30), .inl (.int, 30), .inl (.int, 30), .inl (.int, 60), .inl (.int, 60), .inl (.int, 60), .inr (2, [v_i 0, v_i 0, v_r 44, v_r 45]), .inl (.int, 20), .inl (.int, 20)]
def la_91 : List mm_S := [.inr (9, [v_r 1, v_r 10, v_r 17, v_r 21, v_r 24, v_r 26, v_r 35, v_r 43, v_n, v_i 0]), .inr (0, [v_i 0, v_r 2, v_r 3, v_r 4, v_r 5, v_i 0, v_r 6, v_r 7, v_r 8, v_r 9]), .inl (.int, 16), .inl (.int, 16), .inl (.int, 16), .inl (.int, 16), .inl (.int, 8), .inl (.int, 8), .inl (.int, 8), .inl (.int, 8), .inr (4, [v_i 0, v_r 11, v_r 12, v_r 13, v_r 14, v_l 0, v_r 15, v_r 16]), .inl (.int, 40), .inl (.int, 40), .inl (.int, 40), .inl (.long, 16), .inl (.int, 16), .inl (.long, 42), .inr (1, [v_r 18, v_r 19, v_r 20]), .inl (.int, 4352), .inl (.int, 8), .inl (.int, 16), .inr (6, [v_r 22, v_r 23]), .inl (.int, 30), .inl (.int, 30), .inr (8, [v_i 0, v_i 0, v_r 25]), .inl (.int, 120), .inr (7, [v_i 0, v_r 27, v_r 28, v_r 29, v_r 30, v_r 31, v_r 32, v_r 33, v_r 34]), .inl (.int, 10), .inl (.int, 10), .inl (.int, 10), .inl (.boolean, 30), .inl (.int, 30), .inl (.int, 30), .inl (.int, 30), .inl (.int, 7), .inr (3, [v_i 0, v_r 36, v_r 37, v_r 38, v_r 39, v_i 0, v_r 40, v_r 41, v_r 42]), .inl (.int, 30), .inl (.int, 30), .inl (.int, 30), .inl (.int, 30), .inl (.int, 60), .inl (.int, 60), .inl (.int, 60), .inr (2, [v_i 0, v_i 0, v_r 44, v_r 45]), .inl (.int, 20), .inl (.int, 20), .inr (5, [v_n, v_n, v_n, v_i 0])]
def la_92 : List mm_S := [.inr (9, [v_r 1, v_r 10, v_r 17, v_r 21, v_r 24, v_r 26, v_r 35, v_r 43, v_n, v_i 0]), .inr (0, [v_i 0, v_r 2, v_r 3, v_r 4, v_r 5, v_i 0, v_r 6, v_r 7, v_r 8, v_r 9]), .inl (.int, 16), .inl (.int, 16), .inl (.int, 16), .inl (.int, 16), .inl (.int, 8), .inl (.int, 8), .inl (.int, 8), .inl (.int, 8), .inr (4, [v_i 0, v_r 11, v_r 12, v_r 13, v_r 14, v_l 0, v_r 15, v_r 16]), .inl (.int, 40), .inl (.int, 40), .inl (.int, 40), .inl (.long, 16), .inl (.int, 16), .inl (.long, 42), .inr (1, [v_r 18, v_r 19, v_r 20]), .inl (.int, 4352), .inl (.int, 8), .inl (.int, 16), .inr (6, [v_r 22, v_r 23]), .inl (.int, 30), .inl (.int, 30), .inr (8, [v_i 0, v_i 0, v_r 25]), .inl (.int, 120), .inr (7, [v_i 0, v_r 27, v_r 28, v_r 29, v_r 30, v_r 31, v_r 32, v_r 33, v_r 34]), .inl (.int, 10), .inl (.int, 10), .inl (.int, 10), .inl (.boolean, 30), .inl (.int, 30), .inl (.int, 30), .inl (.int, 30), .inl (.int, 7), .inr (3, [v_i 0, v_r 36, v_r 37, v_r 38, v_r 39, v_i 0, v_r 40, v_r 41, v_r 42]), .inl (.int, 30), .inl (.int, 30), .inl (.int, 30), .inl (.int, 30), .inl (.int, 60), .inl (.int, 60), .inl (.int, 60), .inr (2, [v_i 0, v_i 0, v_r 44, v_r 45]), .inl (.int, 20), .inl (.int, 20), .inr (5, [v_n, v_n, v_n, v_i 0]), .inl (.int, 8)]
def la_93 : List mm_S := [.inr (9, [v_r 1, v_r 10, v_r 17, v_r 21, v_r 24, v_r 26, v_r 35, v_r 43, v_n, v_i 0]), .inr (0, [v_i 0, v_r 2, v_r 3, v_r 4, v_r 5, v_i 0, v_r 6, v_r 7, v_r 8, v_r 9]), .inl (.int, 16), .inl (.int, 16), .inl (.int, 16), .inl (.int, 16), .inl (.int, 8), .inl (.int, 8), .inl (.int, 8), .inl (.int, 8), .inr (4, [v_i 0, v_r 11, v_r 12, v_r 13, v_r 14, v_l 0, v_r 15, v_r 16]), .inl (.int, 40), .inl (.int, 40), .inl (.int, 40), .inl (.long, 16), .inl (.int, 16), .inl (.long, 42), .inr (1, [v_r 18, v_r 19, v_r 20]), .inl (.int, 4352), .inl (.int, 8), .inl (.int, 16), .inr (6, [v_r 22, v_r 23]), .inl (.int, 30), .inl (.int, 30), .inr (8, [v_i 0, v_i 0, v_r 25]), .inl (.int, 120), .inr (7, [v_i 0, v_r 27, v_r 28, v_r 29, v_r 30, v_r 31, v_r 32, v_r 33, v_r 34]), .inl (.int, 10), .inl (.int, 10), .inl (.int, 10), .inl (.boolean, 30), .inl (.int, 30), .inl (.int, 30), .inl (.int, 30), .inl (.int, 7), .inr (3, [v_i 0, v_r 36, v_r 37, v_r 38, v_r 39, v_i 0, v_r 40, v_r 41, v_r 42]), .inl (.int, 30), .inl (.int, 30), .inl (.int, 30), .inl (.int, 30), .inl (.int, 60), .inl (.int, 60), .inl (.int, 60), .inr (2, [v_i 0, v_i 0, v_r 44, v_r 45]), .inl (.int, 20), .inl (.int, 20), .inr (5, [v_r 47, v_n, v_n, v_i 0]), .inl (.int, 8)]
def la_94 : List mm_S := [.inr (9, [v_r 1, v_r 10, v_r 17, v_r 21, v_r 24, v_r 26, v_r 35, v_r 43, v_n, v_i 0]), .inr (0, [v_i 0, v_r 2, v_r 3, v_r 4, v_r 5, v_i 0, v_r 6, v_r 7, v_r 8, v_r 9]), .inl (.int, 16), .inl (.int, 16), .inl (.int, 16), .inl (.int, 16), .inl (.int, 8), .inl (.int, 8), .inl (.int, 8), .inl (.int, 8), .inr (4, [v_i 0, v_r 11, v_r 12, v_r 13, v_r 14, v_l 0, v_r 15, v_r 16]), .inl (.int, 40), .inl (.int, 40), .inl (.int, 40), .inl (.long, 16), .inl (.int, 16), .inl (.long, 42), .inr (1, [v_r 18, v_r 19, v_r 20]), .inl (.int, 4352), .inl (.int, 8), .inl (.int, 16), .inr (6, [v_r 22, v_r 23]), .inl (.int, 30), .inl (.int, 30), .inr (8, [v_i 0, v_i 0, v_r 25]), .inl (.int, 120), .inr (7, [v_i 0, v_r 27, v_r 28, v_r 29, v_r 30, v_r 31, v_r 32, v_r 33, v_r 34]), .inl (.int, 10), .inl (.int, 10), .inl (.int, 10), .inl (.boolean, 30), .inl (.int, 30), .inl (.int, 30), .inl (.int, 30), .inl (.int, 7), .inr (3, [v_i 0, v_r 36, v_r 37, v_r 38, v_r 39, v_i 0, v_r 40, v_r 41, v_r 42]), .inl (.int, 30), .inl (.int, 30), .inl (.int, 30), .inl (.int, 30), .inl (.int, 60), .inl (.int, 60), .inl (.int, 60), .inr (2, [v_i 0, v_i 0, v_r 44, v_r 45]), .inl (.int, 20), .inl (.int, 20), .inr (5, [v_r 47, v_n, v_n, v_i 0]), .inl (.int, 8), .inl (.int, 8)]
def la_95 : List mm_S := [.inr (9, [v_r 1, v_r 10, v_r 17, v_r 21, v_r 24, v_r 26, v_r 35, v_r 43, v_n, v_i 0]), .inr (0, [v_i 0, v_r 2, v_r 3, v_r 4, v_r 5, v_i 0, v_r 6, v_r 7, v_r 8, v_r 9]), .inl (.int, 16), .inl (.int, 16), .inl (.int, 16), .inl (.int, 16), .inl (.int, 8), .inl (.int, 8), .inl (.int, 8), .inl (.int, 8), .inr (4, [v_i 0, v_r 11, v_r 12, v_r 13, v_r 14, v_l 0, v_r 15, v_r 16]), .inl (.int, 40), .inl (.int, 40), .inl (.int, 40), .inl (.long, 16), .inl (.int, 16), .inl (.long, 42), .inr (1, [v_r 18, v_r 19, v_r 20]), .inl (.int, 4352), .inl (.int, 8), .inl (.int, 16), .inr (6, [v_r 22, v_r 23]), .inl (.int, 30), .inl (.int, 30), .inr (8, [v_i 0, v_i 0, v_r 25]), .inl (.int, 120), .inr (7, [v_i 0, v_r 27, v_r 28, v_r 29, v_r 30, v_r 31, v_r 32, v_r 33, v_r 34]), .inl (.int, 10), .inl (.int, 10), .inl (.int, 10), .inl (.boolean, 30), .inl (.int, 30), .inl (.int, 30), .inl (.int, 30), .inl (.int, 7), .inr (3, [v_i 0, v_r 36, v_r 37, v_r 38, v_r 39, v_i 0, v_r 40, v_r 41, v_r 42]), .inl (.int, 30), .inl (.int, 30), .inl (.int, 30), .inl (.int, 30), .inl (.int, 60), .inl (.int, 60), .inl (.int, 60), .inr (2, [v_i 0, v_i 0, v_r 44, v_r 45]), .inl (.int, 20), .inl (.int, 20), .inr (5, [v_r 47, v_r 48, v_n, v_i 0]), .inl (.int, 8), .inl (.int, 8)]
def la_96 : List mm_S := [.inr (9, [v_r 1, v_r 10, v_r 17, v_r 21, v_r 24, v_r 26, v_r 35, v_r 43, v_n, v_i 0]), .inr (0, [v_i 0, v_r 2, v_r 3, v_r 4, v_r 5, v_i 0, v_r 6, v_r 7, v_r 8, v_r 9]), .inl (.int, 16), .inl (.int, 16), .inl (.int, 16), .inl (.int, 16), .inl (.int, 8), .inl (.int, 8), .inl (.int, 8), .inl (.int, 8), .inr (4, [v_i 0, v_r 11, v_r 12, v_r 13, v_r 14, v_l 0, v_r 15, v_r 16]), .inl (.int, 40), .inl (.int, 40), .inl (.int, 40), .inl (.long, 16), .inl (.int, 16), .inl (.long, 42), .inr (1, [v_r 18, v_r 19, v_r 20]), .inl (.int, 4352), .inl (.int, 8), .inl (.int, 16), .inr (6, [v_r 22, v_r 23]), .inl (.int, 30), .inl (.int, 30), .inr (8, [v_i 0, v_i 0, v_r 25]), .inl (.int, 120), .inr (7, [v_i 0, v_r 27, v_r 28, v_r 29, v_r 30, v_r 31, v_r 32, v_r 33, v_r 34]), .inl (.int, 10), .inl (.int, 10), .inl (.int, 10), .inl (.boolean, 30), .inl (.int, 30), .inl (.int, 30), .inl (.int, 30), .inl (.int, 7), .inr (3, [v_i 0, v_r 36, v_r 37, v_r 38, v_r 39, v_i 0, v_r 40, v_r 41, v_r 42]), .inl (.int, 30), .inl (.int, 30), .inl (.int, 30), .inl (.int, 30), .inl (.int, 60), .inl (.int, 60), .inl (.int, 60), .inr (2, [v_i 0, v_i 0, v_r 44, v_r 45]), .inl (.int, 20), .inl (.int, 20), .inr (5, [v_r 47, v_r 48, v_n, v_i 0]), .inl (.int, 8), .inl (.int, 8), .inl (.int, 3)]
def la_97 : List mm_S := [.inr (9, [v_r 1, v_r 10, v_r 17, v_r 21, v_r 24, v_r 26, v_r 35, v_r 43, v_n, v_i 0]), .inr (0, [v_i 0, v_r 2, v_r 3, v_r 4, v_r 5, v_i 0, v_r 6, v_r 7, v_r 8, v_r 9]), .inl (.int, 16), .inl (.int, 16), .inl (.int, 16), .inl (.int, 16), .inl (.int, 8), .inl (.int, 8), .inl (.int, 8), .inl (.int, 8), .inr (4, [v_i 0, v_r 11, v_r 12, v_r 13, v_r 14, v_l 0, v_r 15, v_r 16]), .inl (.int, 40), .inl (.int, 40), .inl (.int, 40), .inl (.long, 16), .inl (.int, 16), .inl (.long, 42), .inr (1, [v_r 18, v_r 19, v_r 20]), .inl (.int, 4352), .inl (.int, 8), .inl (.int, 16), .inr (6, [v_r 22, v_r 23]), .inl (.int, 30), .inl (.int, 30), .inr (8, [v_i 0, v_i 0, v_r 25]), .inl (.int, 120), .inr (7, [v_i 0, v_r 27, v_r 28, v_r 29, v_r 30, v_r 31, v_r 32, v_r 33, v_r 34]), .inl (.int, 10), .inl (.int, 10), .inl (.int, 10), .inl (.boolean, 30), .inl (.int, 30), .inl (.int, 30), .inl (.int, 30), .inl (.int, 7), .inr (3, [v_i 0, v_r 36, v_r 37, v_r 38, v_r 39, v_i 0, v_r 40, v_r 41, v_r 42]), .inl (.int, 30), .inl (.int, 30), .inl (.int, 30), .inl (.int, 30), .inl (.int, 60), .inl (.int, 60), .inl (.int, 60), .inr (2, [v_i 0, v_i 0, v_r 44, v_r 45]), .inl (.int, 20), .inl (.int, 20), .inr (5, [v_r 47, v_r 48, v_r 49, v_i 0]), .inl (.int, 8), .inl (.int, 8), .inl (.int, 3)]
def mem_7 : mm_M := mm_fill (mm_up mem_6 46 3 0) 47 8 (-1)
def la_98 : List mm_S := [.inr (9, [v_r 1, v_r 10, v_r 17, v_r 21, v_r 24, v_r 26, v_r 35, v_r 43, v_r 46, v_i 0]), .inr (0, [v_i 0, v_r 2, v_r 3, v_r 4, v_r 5, v_i 0, v_r 6, v_r 7, v_r 8, v_r 9]), .inl (.int, 16), .inl (.int, 16), .inl (.int, 16), .inl (.int, 16), .inl (.int, 8), .inl (.int, 8), .inl (.int, 8), .inl (.int, 8), .inr (4, [v_i 0, v_r 11, v_r 12, v_r 13, v_r 14, v_l 0, v_r 15, v_r 16]), .inl (.int, 40), .inl (.int, 40), .inl (.int, 40), .inl (.long, 16), .inl (.int, 16), .inl (.long, 42), .inr (1, [v_r 18, v_r 19, v_r 20]), .inl (.int, 4352), .inl (.int, 8), .inl (.int, 16), .inr (6, [v_r 22, v_r 23]), .inl (.int, 30), .inl (.int, 30), .inr (8, [v_i 0, v_i 0, v_r 25]), .inl (.int, 120), .inr (7, [v_i 0, v_r 27, v_r 28, v_r 29, v_r 30, v_r 31, v_r 32, v_r 33, v_r 34]), .inl (.int, 10), .inl (.int, 10), .inl (.int, 10), .inl (.boolean, 30), .inl (.int, 30), .inl (.int, 30), .inl (.int, 30), .inl (.int, 7), .inr (3, [v_i 0, v_r 36, v_r 37, v_r 38, v_r 39, v_i 0, v_r 40, v_r 41, v_r 42]), .inl (.int, 30), .inl (.int, 30), .inl (.int, 30), .inl (.int, 30), .inl (.int, 60), .inl (.int, 60), .inl (.int, 60), .inr (2, [v_i 0, v_i 0, v_r 44, v_r 45]), .inl (.int, 20), .inl (.int, 20), .inr (5, [v_r 47, v_r 48, v_r 49, v_i 0]), .inl (.int, 8), .inl (.int, 8), .inl (.int, 3)]
def mem_8 : mm_M := mm_up mem_7 0 9 0
def la_99 : List mm_S := [.inr (9, [v_r 1, v_r 10, v_r 17, v_r 21, v_r 24, v_r 26, v_r 35, v_r 43, v_r 46, v_i 0]), .inr (0, [v_i 0, v_r 2, v_r 3, v_r 4, v_r 5, v_i 0, v_r 6, v_r 7, v_r 8, v_r 9]), .inl (.int, 16), .inl (.int, 16), .inl (.int, 16), .inl (.int, 16), .inl (.int, 8), .inl (.int, 8), .inl (.int, 8), .inl (.int, 8), .inr (4, [v_i 0, v_r 11, v_r 12, v_r 13, v_r 14, v_l 0, v_r 15, v_r 16]), .inl (.int, 40), .inl (.int, 40), .inl (.int, 40), .inl (.long, 16), .inl (.int, 16), .inl (.long, 42), .inr (1, [v_r 18, v_r 19, v_r 20]), .inl (.int, 4352), .inl (.int, 8), .inl (.int, 16), .inr (6, [v_r 22, v_r 23]), .inl (.int, 30), .inl (.int, 30), .inr (8, [v_i 0, v_i 0, v_r 25]), .inl (.int, 120), .inr (7, [v_i 0, v_r 27, v_r 28, v_r 29, v_r 30, v_r 31, v_r 32, v_r 33, v_r 34]), .inl (.int, 10), .inl (.int, 10), .inl (.int, 10), .inl (.boolean, 30), .inl (.int, 30), .inl (.int, 30), .inl (.int, 30), .inl (.int, 7), .inr (3, [v_i 0, v_r 36, v_r 37, v_r 38, v_r 39, v_i 0, v_r 40, v_r 41, v_r 42]), .inl (.int, 30), .inl (.int, 30), .inl (.int, 30), .inl (.int, 30), .inl (.int, 60), .inl (.int, 60), .inl (.int, 60), .inr (2, [v_i 0, v_i 0, v_r 44, v_r 45]), .inl (.int, 20), .inl (.int, 20), .inr (5, [v_r 47, v_r 48, v_r 49, v_i 0]), .inl (.int, 8), .inl (.int, 8), .inl (.int, 3), .inr (10, [v_n, v_n, v_n, v_n, v_n, v_n, v_n, v_n, v_n, v_n, v_i 0, v_i 0, v_n, v_n, v_n, v_n, v_i 0, v_n, v_n, v_n, v_n, v_n, v_i 0, v_l 0, v_n, v_n, v_n, v_n, v_n, v_i 0, v_i 0, v_i 0, v_n, v_n, v_n, v_n, v_i 0, v_n, v_n, v_n, v_n, v_n, v_n, v_n, v_i 0, v_i 0, v_n, v_n, v_i 0, v_i 0, v_n, v_n, v_n])]
def la_100 : List mm_S := [.inr (9, [v_r 1, v_r 10, v_r 17, v_r 21, v_r 24, v_r 26, v_r 35, v_r 43, v_r 46, v_i 0]), .inr (0, [v_i 0, v_r 2, v_r 3, v_r 4, v_r 5, v_i 0, v_r 6, v_r 7, v_r 8, v_r 9]), .inl (.int, 16), .inl (.int, 16), .inl (.int, 16), .inl (.int, 16), .inl (.int, 8), .inl (.int, 8), .inl (.int, 8), .inl (.int, 8), .inr (4, [v_i 0, v_r 11, v_r 12, v_r 13, v_r 14, v_l 0, v_r 15, v_r 16]), .inl (.int, 40), .inl (.int, 40), .inl (.int, 40), .inl (.long, 16), .inl (.int, 16), .inl (.long, 42), .inr (1, [v_r 18, v_r 19, v_r 20]), .inl (.int, 4352), .inl (.int, 8), .inl (.int, 16), .inr (6, [v_r 22, v_r 23]), .inl (.int, 30), .inl (.int, 30), .inr (8, [v_i 0, v_i 0, v_r 25]), .inl (.int, 120), .inr (7, [v_i 0, v_r 27, v_r 28, v_r 29, v_r 30, v_r 31, v_r 32, v_r 33, v_r 34]), .inl (.int, 10), .inl (.int, 10), .inl (.int, 10), .inl (.boolean, 30), .inl (.int, 30), .inl (.int, 30), .inl (.int, 30), .inl (.int, 7), .inr (3, [v_i 0, v_r 36, v_r 37, v_r 38, v_r 39, v_i 0, v_r 40, v_r 41, v_r 42]), .inl (.int, 30), .inl (.int, 30), .inl (.int, 30), .inl (.int, 30), .inl (.int, 60), .inl (.int, 60), .inl (.int, 60), .inr (2, [v_i 0, v_i 0, v_r 44, v_r 45]), .inl (.int, 20), .inl (.int, 20), .inr (5, [v_r 47, v_r 48, v_r 49, v_i 0]), .inl (.int, 8), .inl (.int, 8), .inl (.int, 3), .inr (10, [v_n, v_n, v_n, v_n, v_n, v_n, v_n, v_n, v_n, v_n, v_i 0, v_i 0, v_n, v_n, v_n, v_n, v_i 0, v_n, v_n, v_n, v_n, v_n, v_i 0, v_l 0, v_n, v_n, v_n, v_n, v_n, v_i 0, v_i 0, v_i 0, v_n, v_n, v_n, v_n, v_i 0, v_n, v_n, v_n, v_n, v_n, v_n, v_n, v_i 0, v_i 0, v_n, v_n, v_i 0, v_i 0, v_n, v_n, v_n]), .inl (.int, 16)]
def la_101 : List mm_S := [.inr (9, [v_r 1, v_r 10, v_r 17, v_r 21, v_r 24, v_r 26, v_r 35, v_r 43, v_r 46, v_i 0]), .inr (0, [v_i 0, v_r 2, v_r 3, v_r 4, v_r 5, v_i 0, v_r 6, v_r 7, v_r 8, v_r 9]), .inl (.int, 16), .inl (.int, 16), .inl (.int, 16), .inl (.int, 16), .inl (.int, 8), .inl (.int, 8), .inl (.int, 8), .inl (.int, 8), .inr (4, [v_i 0, v_r 11, v_r 12, v_r 13, v_r 14, v_l 0, v_r 15, v_r 16]), .inl (.int, 40), .inl (.int, 40), .inl (.int, 40), .inl (.long, 16), .inl (.int, 16), .inl (.long, 42), .inr (1, [v_r 18, v_r 19, v_r 20]), .inl (.int, 4352), .inl (.int, 8), .inl (.int, 16), .inr (6, [v_r 22, v_r 23]), .inl (.int, 30), .inl (.int, 30), .inr (8, [v_i 0, v_i 0, v_r 25]), .inl (.int, 120), .inr (7, [v_i 0, v_r 27, v_r 28, v_r 29, v_r 30, v_r 31, v_r 32, v_r 33, v_r 34]), .inl (.int, 10), .inl (.int, 10), .inl (.int, 10), .inl (.boolean, 30), .inl (.int, 30), .inl (.int, 30), .inl (.int, 30), .inl (.int, 7), .inr (3, [v_i 0, v_r 36, v_r 37, v_r 38, v_r 39, v_i 0, v_r 40, v_r 41, v_r 42]), .inl (.int, 30), .inl (.int, 30), .inl (.int, 30), .inl (.int, 30), .inl (.int, 60), .inl (.int, 60), .inl (.int, 60), .inr (2, [v_i 0, v_i 0, v_r 44, v_r 45]), .inl (.int, 20), .inl (.int, 20), .inr (5, [v_r 47, v_r 48, v_r 49, v_i 0]), .inl (.int, 8), .inl (.int, 8), .inl (.int, 3), .inr (10, [v_r 51, v_n, v_n, v_n, v_n, v_n, v_n, v_n, v_n, v_n, v_i 0, v_i 0, v_n, v_n, v_n, v_n, v_i 0, v_n, v_n, v_n, v_n, v_n, v_i 0, v_l 0, v_n, v_n, v_n, v_n, v_n, v_i 0, v_i 0, v_i 0, v_n, v_n, v_n, v_n, v_i 0, v_n, v_n, v_n, v_n, v_n, v_n, v_n, v_i 0, v_i 0, v_n, v_n, v_i 0, v_i 0, v_n, v_n, v_n]), .inl (.int, 16)]
def la_102 : List mm_S := [.inr (9, [v_r 1, v_r 10, v_r 17, v_r 21, v_r 24, v_r 26, v_r 35, v_r 43, v_r 46, v_i 0]), .inr (0, [v_i 0, v_r 2, v_r 3, v_r 4, v_r 5, v_i 0, v_r 6, v_r 7, v_r 8, v_r 9]), .inl (.int, 16), .inl (.int, 16), .inl (.int, 16), .inl (.int, 16), .inl (.int, 8), .inl (.int, 8), .inl (.int, 8), .inl (.int, 8), .inr (4, [v_i 0, v_r 11, v_r 12, v_r 13, v_r 14, v_l 0, v_r 15, v_r 16]), .inl (.int, 40), .inl (.int, 40), .inl (.int, 40), .inl (.long, 16), .inl (.int, 16), .inl (.long, 42), .inr (1, [v_r 18, v_r 19, v_r 20]), .inl (.int, 4352), .inl (.int, 8), .inl (.int, 16), .inr (6, [v_r 22, v_r 23]), .inl (.int, 30), .inl (.int, 30), .inr (8, [v_i 0, v_i 0, v_r 25]), .inl (.int, 120), .inr (7, [v_i 0, v_r 27, v_r 28, v_r 29, v_r 30, v_r 31, v_r 32, v_r 33, v_r 34]), .inl (.int, 10), .inl (.int, 10), .inl (.int, 10), .inl (.boolean, 30), .inl (.int, 30), .inl (.int, 30), .inl (.int, 30), .inl (.int, 7), .inr (3, [v_i 0, v_r 36, v_r 37, v_r 38, v_r 39, v_i 0, v_r 40, v_r 41, v_r 42]), .inl (.int, 30), .inl (.int, 30), .inl (.int, 30), .inl (.int, 30), .inl (.int, 60), .inl (.int, 60), .inl (.int, 60), .inr (2, [v_i 0, v_i 0, v_r 44, v_r 45]), .inl (.int, 20), .inl (.int, 20), .inr (5, [v_r 47, v_r 48, v_r 49, v_i 0]), .inl (.int, 8), .inl (.int, 8), .inl (.int, 3), .inr (10, [v_r 51, v_n, v_n, v_n, v_n, v_n, v_n, v_n, v_n, v_n, v_i 0, v_i 0, v_n, v_n, v_n, v_n, v_i 0, v_n, v_n, v_n, v_n, v_n, v_i 0, v_l 0, v_n, v_n, v_n, v_n, v_n, v_i 0, v_i 0, v_i 0, v_n, v_n, v_n, v_n, v_i 0, v_n, v_n, v_n, v_n, v_n, v_n, v_n, v_i 0, v_i 0, v_n, v_n, v_i 0, v_i 0, v_n, v_n, v_n]), .inl (.int, 16), .inl (.int, 16)]
def la_103 : List mm_S := [.inr (9, [v_r 1, v_r 10, v_r 17, v_r 21, v_r 24, v_r 26, v_r 35, v_r 43, v_r 46, v_i 0]), .inr (0, [v_i 0, v_r 2, v_r 3, v_r 4, v_r 5, v_i 0, v_r 6, v_r 7, v_r 8, v_r 9]), .inl (.int, 16), .inl (.int, 16), .inl (.int, 16), .inl (.int, 16), .inl (.int, 8), .inl (.int, 8), .inl (.int, 8), .inl (.int, 8), .inr (4, [v_i 0, v_r 11, v_r 12, v_r 13, v_r 14, v_l 0, v_r 15, v_r 16]), .inl (.int, 40), .inl (.int, 40), .inl (.int, 40), .inl (.long, 16), .inl (.int, 16), .inl (.long, 42), .inr (1, [v_r 18, v_r 19, v_r 20]), .inl (.int, 4352), .inl (.int, 8), .inl (.int, 16), .inr (6, [v_r 22, v_r 23]), .inl (.int, 30), .inl (.int, 30), .inr (8, [v_i 0, v_i 0, v_r 25]), .inl (.int, 120), .inr (7, [v_i 0, v_r 27, v_r 28, v_r 29, v_r 30, v_r 31, v_r 32, v_r 33, v_r 34]), .inl (.int, 10), .inl (.int, 10), .inl (.int, 10), .inl (.boolean, 30), .inl (.int, 30), .inl (.int, 30), .inl (.int, 30), .inl (.int, 7), .inr (3, [v_i 0, v_r 36, v_r 37, v_r 38, v_r 39, v_i 0, v_r 40, v_r 41, v_r 42]), .inl (.int, 30), .inl (.int, 30), .inl (.int, 30), .inl (.int, 30), .inl (.int, 60), .inl (.int, 60), .inl (.int, 60), .inr (2, [v_i 0, v_i 0, v_r 44, v_r 45]), .inl (.int, 20), .inl (.int, 20), .inr (5, [v_r 47, v_r 48, v_r 49, v_i 0]), .inl (.int, 8), .inl (.int, 8), .inl (.int, 3), .inr (10, [v_r 51, v_r 52, v_n, v_n, v_n, v_n, v_n, v_n, v_n, v_n, v_i 0, v_i 0, v_n, v_n, v_n, v_n, v_i 0, v_n, v_n, v_n, v_n, v_n, v_i 0, v_l 0, v_n, v_n, v_n, v_n, v_n, v_i 0, v_i 0, v_i 0, v_n, v_n, v_n, v_n, v_i 0, v_n, v_n, v_n, v_n, v_n, v_n, v_n, v_i 0, v_i 0, v_n, v_n, v_i 0, v_i 0, v_n, v_n, v_n]), .inl (.int, 16), .inl (.int, 16)]
def la_104 : List mm_S := [.inr (9, [v_r 1, v_r 10, v_r 17, v_r 21, v_r 24, v_r 26, v_r 35, v_r 43, v_r 46, v_i 0]), .inr (0, [v_i 0, v_r 2, v_r 3, v_r 4, v_r 5, v_i 0, v_r 6, v_r 7, v_r 8, v_r 9]), .inl (.int, 16), .inl (.int, 16), .inl (.int, 16), .inl (.int, 16), .inl (.int, 8), .inl (.int, 8), .inl (.int, 8), .inl (.int, 8), .inr (4, [v_i 0, v_r 11, v_r 12, v_r 13, v_r 14, v_l 0, v_r 15, v_r 16]), .inl (.int, 40), .inl (.int, 40), .inl (.int, 40), .inl (.long, 16), .inl (.int, 16), .inl (.long, 42), .inr (1, [v_r 18, v_r 19, v_r 20]), .inl (.int, 4352), .inl (.int, 8), .inl (.int, 16), .inr (6, [v_r 22, v_r 23]), .inl (.int, 30), .inl (.int, 30), .inr (8, [v_i 0, v_i 0, v_r 25]), .inl (.int, 120), .inr (7, [v_i 0, v_r 27, v_r 28, v_r 29, v_r 30, v_r 31, v_r 32, v_r 33, v_r 34]), .inl (.int, 10), .inl (.int, 10), .inl (.int, 10), .inl (.boolean, 30), .inl (.int, 30), .inl (.int, 30), .inl (.int, 30), .inl (.int, 7), .inr (3, [v_i 0, v_r 36, v_r 37, v_r 38, v_r 39, v_i 0, v_r 40, v_r 41, v_r 42]), .inl (.int, 30), .inl (.int, 30), .inl (.int, 30), .inl (.int, 30), .inl (.int, 60), .inl (.int, 60), .inl (.int, 60), .inr (2, [v_i 0, v_i 0, v_r 44, v_r 45]), .inl (.int, 20), .inl (.int, 20), .inr (5, [v_r 47, v_r 48, v_r 49, v_i 0]), .inl (.int, 8), .inl (.int, 8), .inl (.int, 3), .inr (10, [v_r 51, v_r 52, v_n, v_n, v_n, v_n, v_n, v_n, v_n, v_n, v_i 0, v_i 0, v_n, v_n, v_n, v_n, v_i 0, v_n, v_n, v_n, v_n, v_n, v_i 0, v_l 0, v_n, v_n, v_n, v_n, v_n, v_i 0, v_i 0, v_i 0, v_n, v_n, v_n, v_n, v_i 0, v_n, v_n, v_n, v_n, v_n, v_n, v_n, v_i 0, v_i 0, v_n, v_n, v_i 0, v_i 0, v_n, v_n, v_n]), .inl (.int, 16), .inl (.int, 16), .inl (.int, 16)]
def la_105 : List mm_S := [.inr (9, [v_r 1, v_r 10, v_r 17, v_r 21, v_r 24, v_r 26, v_r 35, v_r 43, v_r 46, v_i 0]), .inr (0, [v_i 0, v_r 2, v_r 3, v_r 4, v_r 5, v_i 0, v_r 6, v_r 7, v_r 8, v_r 9]), .inl (.int, 16), .inl (.int, 16), .inl (.int, 16), .inl (.int, 16), .inl (.int, 8), .inl (.int, 8), .inl (.int, 8), .inl (.int, 8), .inr (4, [v_i 0, v_r 11, v_r 12, v_r 13, v_r 14, v_l 0, v_r 15, v_r 16]), .inl (.int, 40), .inl (.int, 40), .inl (.int, 40), .inl (.long, 16), .inl (.int, 16), .inl (.long, 42), .inr (1, [v_r 18, v_r 19, v_r 20]), .inl (.int, 4352), .inl (.int, 8), .inl (.int, 16), .inr (6, [v_r 22, v_r 23]), .inl (.int, 30), .inl (.int, 30), .inr (8, [v_i 0, v_i 0, v_r 25]), .inl (.int, 120), .inr (7, [v_i 0, v_r 27, v_r 28, v_r 29, v_r 30, v_r 31, v_r 32, v_r 33, v_r 34]), .inl (.int, 10), .inl (.int, 10), .inl (.int, 10), .inl (.boolean, 30), .inl (.int, 30), .inl (.int, 30), .inl (.int, 30), .inl (.int, 7), .inr (3, [v_i 0, v_r 36, v_r 37, v_r 38, v_r 39, v_i 0, v_r 40, v_r 41, v_r 42]), .inl (.int, 30), .inl (.int, 30), .inl (.int, 30), .inl (.int, 30), .inl (.int, 60), .inl (.int, 60), .inl (.int, 60), .inr (2, [v_i 0, v_i 0, v_r 44, v_r 45]), .inl (.int, 20), .inl (.int, 20), .inr (5, [v_r 47, v_r 48, v_r 49, v_i 0]), .inl (.int, 8), .inl (.int, 8), .inl (.int, 3), .inr (10, [v_r 51, v_r 52, v_r 53, v_n, v_n, v_n, v_n, v_n, v_n, v_n, v_i 0, v_i 0, v_n, v_n, v_n, v_n, v_i 0, v_n, v_n, v_n, v_n, v_n, v_i 0, v_l 0, v_n, v_n, v_n, v_n, v_n, v_i 0, v_i 0, v_i 0, v_n, v_n, v_n, v_n, v_i 0, v_n, v_n, v_n, v_n, v_n, v_n, v_n, v_i 0, v_i 0, v_n, v_n, v_i 0, v_i 0, v_n, v_n, v_n]), .inl (.int, 16), .inl (.int, 16), .inl (.int, 16)]
def la_106 : List mm_S := [.inr (9, [v_r 1, v_r 10, v_r 17, v_r 21, v_r 24, v_r 26, v_r 35, v_r 43, v_r 46, v_i 0]), .inr (0, [v_i 0, v_r 2, v_r 3, v_r 4, v_r 5, v_i 0, v_r 6, v_r 7, v_r 8, v_r 9]), .inl (.int, 16), .inl (.int, 16), .inl (.int, 16), .inl (.int, 16), .inl (.int, 8), .inl (.int, 8), .inl (.int, 8), .inl (.int, 8), .inr (4, [v_i 0, v_r 11, v_r 12, v_r 13, v_r 14, v_l 0, v_r 15, v_r 16]), .inl (.int, 40), .inl (.int, 40), .inl (.int, 40), .inl (.long, 16), .inl (.int, 16), .inl (.long, 42), .inr (1, [v_r 18, v_r 19, v_r 20]), .inl (.int, 4352), .inl (.int, 8), .inl (.int, 16), .inr (6, [v_r 22, v_r 23]), .inl (.int, 30), .inl (.int, 30), .inr (8, [v_i 0, v_i 0, v_r 25]), .inl (.int, 120), .inr (7, [v_i 0, v_r 27, v_r 28, v_r 29, v_r 30, v_r 31, v_r 32, v_r 33, v_r 34]), .inl (.int, 10), .inl (.int, 10), .inl (.int, 10), .inl (.boolean, 30), .inl (.int, 30), .inl (.int, 30), .inl (.int, 30), .inl (.int, 7), .inr (3, [v_i 0, v_r 36, v_r 37, v_r 38, v_r 39, v_i 0, v_r 40, v_r 41, v_r 42]), .inl (.int, 30), .inl (.int, 30), .inl (.int, 30), .inl (.int, 30), .inl (.int, 60), .inl (.int, 60), .inl (.int, 60), .inr (2, [v_i 0, v_i 0, v_r 44, v_r 45]), .inl (.int, 20), .inl (.int, 20), .inr (5, [v_r 47, v_r 48, v_r 49, v_i 0]), .inl (.int, 8), .inl (.int, 8), .inl (.int, 3), .inr (10, [v_r 51, v_r 52, v_r 53, v_n, v_n, v_n, v_n, v_n, v_n, v_n, v_i 0, v_i 0, v_n, v_n, v_n, v_n, v_i 0, v_n, v_n, v_n, v_n, v_n, v_i 0, v_l 0, v_n, v_n, v_n, v_n, v_n, v_i 0, v_i 0, v_i 0, v_n, v_n, v_n, v_n, v_i 0, v_n, v_n, v_n, v_n, v_n, v_n, v_n, v_i 0, v_i 0, v_n, v_n, v_i 0, v_i 0, v_n, v_n, v_n]), .inl (.int, 16), .inl (.int, 16), .inl (.int, 16), .inl (.int, 16)]
def la_107 : List mm_S := [.inr (9, [v_r 1, v_r 10, v_r 17, v_r 21, v_r 24, v_r 26, v_r 35, v_r 43, v_r 46, v_i 0]), .inr (0, [v_i 0, v_r 2, v_r 3, v_r 4, v_r 5, v_i 0, v_r 6, v_r 7, v_r 8, v_r 9]), .inl (.int, 16), .inl (.int, 16), .inl (.int, 16), .inl (.int, 16), .inl (.int, 8), .inl (.int, 8), .inl (.int, 8), .inl (.int, 8), .inr (4, [v_i 0, v_r 11, v_r 12, v_r 13, v_r 14, v_l 0, v_r 15, v_r 16]), .inl (.int, 40), .inl (.int, 40), .inl (.int, 40), .inl (.long, 16), .inl (.int, 16), .inl (.long, 42), .inr (1, [v_r 18, v_r 19, v_r 20]), .inl (.int, 4352), .inl (.int, 8), .inl (.int, 16), .inr (6, [v_r 22, v_r 23]), .inl (.int, 30), .inl (.int, 30), .inr (8, [v_i 0, v_i 0, v_r 25]), .inl (.int, 120), .inr (7, [v_i 0, v_r 27, v_r 28, v_r 29, v_r 30, v_r 31, v_r 32, v_r 33, v_r 34]), .inl (.int, 10), .inl (.int, 10), .inl (.int, 10), .inl (.boolean, 30), .inl (.int, 30), .inl (.int, 30), .inl (.int, 30), .inl (.int, 7), .inr (3, [v_i 0, v_r 36, v_r 37, v_r 38, v_r 39, v_i 0, v_r 40, v_r 41, v_r 42]), .inl (.int, 30), .inl (.int, 30), .inl (.int, 30), .inl (.int, 30), .inl (.int, 60), .inl (.int, 60), .inl (.int, 60), .inr (2, [v_i 0, v_i 0, v_r 44, v_r 45]), .inl (.int, 20), .inl (.int, 20), .inr (5, [v_r 47, v_r 48, v_r 49, v_i 0]), .inl (.int, 8), .inl (.int, 8), .inl (.int, 3), .inr (10, [v_r 51, v_r 52, v_r 53, v_r 54, v_n, v_n, v_n, v_n, v_n, v_n, v_i 0, v_i 0, v_n, v_n, v_n, v_n, v_i 0, v_n, v_n, v_n, v_n, v_n, v_i 0, v_l 0, v_n, v_n, v_n, v_n, v_n, v_i 0, v_i 0, v_i 0, v_n, v_n, v_n, v_n, v_i 0, v_n, v_n, v_n, v_n, v_n, v_n, v_n, v_i 0, v_i 0, v_n, v_n, v_i 0, v_i 0, v_n, v_n, v_n]), .inl (.int, 16), .inl (.int, 16), .inl (.int, 16), .inl (.int, 16)]
def la_108 : List mm_S := [.inr (9, [v_r 1, v_r 10, v_r 17, v_r 21, v_r 24, v_r 26, v_r 35, v_r 43, v_r 46, v_i 0]), .inr (0, [v_i 0, v_r 2, v_r 3, v_r 4, v_r 5, v_i 0, v_r 6, v_r 7, v_r 8, v_r 9]), .inl (.int, 16), .inl (.int, 16), .inl (.int, 16), .inl (.int, 16), .inl (.int, 8), .inl (.int, 8), .inl (.int, 8), .inl (.int, 8), .inr (4, [v_i 0, v_r 11, v_r 12, v_r 13, v_r 14, v_l 0, v_r 15, v_r 16]), .inl (.int, 40), .inl (.int, 40), .inl (.int, 40), .inl (.long, 16), .inl (.int, 16), .inl (.long, 42), .inr (1, [v_r 18, v_r 19, v_r 20]), .inl (.int, 4352), .inl (.int, 8), .inl (.int, 16), .inr (6, [v_r 22, v_r 23]), .inl (.int, 30), .inl (.int, 30), .inr (8, [v_i 0, v_i 0, v_r 25]), .inl (.int, 120), .inr (7, [v_i 0, v_r 27, v_r 28, v_r 29, v_r 30, v_r 31, v_r 32, v_r 33, v_r 34]), .inl (.int, 10), .inl (.int, 10), .inl (.int, 10), .inl (.boolean, 30), .inl (.int, 30), .inl (.int, 30), .inl (.int, 30), .inl (.int, 7), .inr (3, [v_i 0, v_r 36, v_r 37, v_r 38, v_r 39, v_i 0, v_r 40, v_r 41, v_r 42]), .inl (.int, 30), .inl (.int, 30), .inl (.int, 30), .inl (.int, 30), .inl (.int, 60), .inl (.int, 60), .inl (.int, 60), .inr (2, [v_i 0, v_i 0, v_r 44, v_r 45]), .inl (.int, 20), .inl (.int, 20), .inr (5, [v_r 47, v_r 48, v_r 49, v_i 0]), .inl (.int, 8), .inl (.int, 8), .inl (.int, 3), .inr (10, [v_r 51, v_r 52, v_r 53, v_r 54, v_n, v_n, v_n, v_n, v_n, v_n, v_i 0, v_i 0, v_n, v_n, v_n, v_n, v_i 0, v_n, v_n, v_n, v_n, v_n, v_i 0, v_l 0, v_n, v_n, v_n, v_n, v_n, v_i 0, v_i 0, v_i 0, v_n, v_n, v_n, v_n, v_i 0, v_n, v_n, v_n, v_n, v_n, v_n, v_n, v_i 0, v_i 0, v_n, v_n, v_i 0, v_i 0, v_n, v_n, v_n]), .inl (.int, 16), .inl (.int, 16), .inl (.int, 16), .inl (.int, 16), .inl (.boolean, 16)]
def la_109 : List mm_S := [.inr (9, [v_r 1, v_r 10, v_r 17, v_r 21, v_r 24, v_r 26, v_r 35, v_r 43, v_r 46, v_i 0]), .inr (0, [v_i 0, v_r 2, v_r 3, v_r 4, v_r 5, v_i 0, v_r 6, v_r 7, v_r 8, v_r 9]), .inl (.int, 16), .inl (.int, 16), .inl (.int, 16), .inl (.int, 16), .inl (.int, 8), .inl (.int, 8), .inl (.int, 8), .inl (.int, 8), .inr (4, [v_i 0, v_r 11, v_r 12, v_r 13, v_r 14, v_l 0, v_r 15, v_r 16]), .inl (.int, 40), .inl (.int, 40), .inl (.int, 40), .inl (.long, 16), .inl (.int, 16), .inl (.long, 42), .inr (1, [v_r 18, v_r 19, v_r 20]), .inl (.int, 4352), .inl (.int, 8), .inl (.int, 16), .inr (6, [v_r 22, v_r 23]), .inl (.int, 30), .inl (.int, 30), .inr (8, [v_i 0, v_i 0, v_r 25]), .inl (.int, 120), .inr (7, [v_i 0, v_r 27, v_r 28, v_r 29, v_r 30, v_r 31, v_r 32, v_r 33, v_r 34]), .inl (.int, 10), .inl (.int, 10), .inl (.int, 10), .inl (.boolean, 30), .inl (.int, 30), .inl (.int, 30), .inl (.int, 30), .inl (.int, 7), .inr (3, [v_i 0, v_r 36, v_r 37, v_r 38, v_r 39, v_i 0, v_r 40, v_r 41, v_r 42]), .inl (.int, 30), .inl (.int, 30), .inl (.int, 30), .inl (.int, 30), .inl (.int, 60), .inl (.int, 60), .inl (.int, 60), .inr (2, [v_i 0, v_i 0, v_r 44, v_r 45]), .inl (.int, 20), .inl (.int, 20), .inr (5, [v_r 47, v_r 48, v_r 49, v_i 0]), .inl (.int, 8), .inl (.int, 8), .inl (.int, 3), .inr (10, [v_r 51, v_r 52, v_r 53, v_r 54, v_r 55, v_n, v_n, v_n, v_n, v_n, v_i 0, v_i 0, v_n, v_n, v_n, v_n, v_i 0, v_n, v_n, v_n, v_n, v_n, v_i 0, v_l 0, v_n, v_n, v_n, v_n, v_n, v_i 0, v_i 0, v_i 0, v_n, v_n, v_n, v_n, v_i 0, v_n, v_n, v_n, v_n, v_n, v_n, v_n, v_i 0, v_i 0, v_n, v_n, v_i 0, v_i 0, v_n, v_n, v_n]), .inl (.int, 16), .inl (.int, 16), .inl (.int, 16), .inl (.int, 16), .inl (.boolean, 16)]
def la_110 : List mm_S := [.inr (9, [v_r 1, v_r 10, v_r 17, v_r 21, v_r 24, v_r 26, v_r 35, v_r 43, v_r 46, v_i 0]), .inr (0, [v_i 0, v_r 2, v_r 3, v_r 4, v_r 5, v_i 0, v_r 6, v_r 7, v_r 8, v_r 9]), .inl (.int, 16), .inl (.int, 16), .inl (.int, 16), .inl (.int, 16), .inl (.int, 8), .inl (.int, 8), .inl (.int, 8), .inl (.int, 8), .inr (4, [v_i 0, v_r 11, v_r 12, v_r 13, v_r 14, v_l 0, v_r 15, v_r 16]), .inl (.int, 40), .inl (.int, 40), .inl (.int, 40), .inl (.long, 16), .inl (.int, 16), .inl (.long, 42), .inr (1, [v_r 18, v_r 19, v_r 20]), .inl (.int, 4352), .inl (.int, 8), .inl (.int, 16), .inr (6, [v_r 22, v_r 23]), .inl (.int, 30), .inl (.int, 30), .inr (8, [v_i 0, v_i 0, v_r 25]), .inl (.int, 120), .inr (7, [v_i 0, v_r 27, v_r 28, v_r 29, v_r 30, v_r 31, v_r 32, v_r 33, v_r 34]), .inl (.int, 10), .inl (.int, 10), .inl (.int, 10), .inl (.boolean, 30), .inl (.int, 30), .inl (.int, 30), .inl (.int, 30), .inl (.int, 7), .inr (3, [v_i 0, v_r 36, v_r 37, v_r 38, v_r 39, v_i 0, v_r 40, v_r 41, v_r 42]), .inl (.int, 30), .inl (.int, 30), .inl (.int, 30), .inl (.int, 30), .inl (.int, 60), .inl (.int, 60), .inl (.int, 60), .inr (2, [v_i 0, v_i 0, v_r 44, v_r 45]), .inl (.int, 20), .inl (.int, 20), .inr (5, [v_r 47, v_r 48, v_r 49, v_i 0]), .inl (.int, 8), .inl (.int, 8), .inl (.int, 3), .inr (10, [v_r 51, v_r 52, v_r 53, v_r 54, v_r 55, v_n, v_n, v_n, v_n, v_n, v_i 0, v_i 0, v_n, v_n, v_n, v_n, v_i 0, v_n, v_n, v_n, v_n, v_n, v_i 0, v_l 0, v_n, v_n, v_n, v_n, v_n, v_i 0, v_i 0, v_i 0, v_n, v_n, v_n, v_n, v_i 0, v_n, v_n, v_n, v_n, v_n, v_n, v_n, v_i 0, v_i 0, v_n, v_n, v_i 0, v_i 0, v_n, v_n, v_n]), .inl (.int, 16), .inl (.int, 16), .inl (.int, 16), .inl (.int, 16), .inl (.boolean, 16), .inl (.boolean, 8)]
def la_111 : List mm_S := [.inr (9, [v_r 1, v_r 10, v_r 17, v_r 21, v_r 24, v_r 26, v_r 35, v_r 43, v_r 46, v_i 0]), .inr (0, [v_i 0, v_r 2, v_r 3, v_r 4, v_r 5, v_i 0, v_r 6, v_r 7, v_r 8, v_r 9]), .inl (.int, 16), .inl (.int, 16), .inl (.int, 16), .inl (.int, 16), .inl (.int, 8), .inl (.int, 8), .inl (.int, 8), .inl (.int, 8), .inr (4, [v_i 0, v_r 11, v_r 12, v_r 13, v_r 14, v_l 0, v_r 15, v_r 16]), .inl (.int, 40), .inl (.int, 40), .inl (.int, 40), .inl (.long, 16), .inl (.int, 16), .inl (.long, 42), .inr (1, [v_r 18, v_r 19, v_r 20]), .inl (.int, 4352), .inl (.int, 8), .inl (.int, 16), .inr (6, [v_r 22, v_r 23]), .inl (.int, 30), .inl (.int, 30), .inr (8, [v_i 0, v_i 0, v_r 25]), .inl (.int, 120), .inr (7, [v_i 0, v_r 27, v_r 28, v_r 29, v_r 30, v_r 31, v_r 32, v_r 33, v_r 34]), .inl (.int, 10), .inl (.int, 10), .inl (.int, 10), .inl (.boolean, 30), .inl (.int, 30), .inl (.int, 30), .inl (.int, 30), .inl (.int, 7), .inr (3, [v_i 0, v_r 36, v_r 37, v_r 38, v_r 39, v_i 0, v_r 40, v_r 41, v_r 42]), .inl (.int, 30), .inl (.int, 30), .inl (.int, 30), .inl (.int, 30), .inl (.int, 60), .inl (.int, 60), .inl (.int, 60), .inr (2, [v_i 0, v_i 0, v_r 44, v_r 45]), .inl (.int, 20), .inl (.int, 20), .inr (5, [v_r 47, v_r 48, v_r 49, v_i 0]), .inl (.int, 8), .inl (.int, 8), .inl (.int, 3), .inr (10, [v_r 51, v_r 52, v_r 53, v_r 54, v_r 55, v_r 56, v_n, v_n, v_n, v_n, v_i 0, v_i 0, v_n, v_n, v_n, v_n, v_i 0, v_n, v_n, v_n, v_n, v_n, v_i 0, v_l 0, v_n, v_n, v_n, v_n, v_n, v_i 0, v_i 0, v_i 0, v_n, v_n, v_n, v_n, v_i 0, v_n, v_n, v_n, v_n, v_n, v_n, v_n, v_i 0, v_i 0, v_n, v_n, v_i 0, v_i 0, v_n, v_n, v_n]), .inl (.int, 16), .inl (.int, 16), .inl (.int, 16), .inl (.int, 16), .inl (.boolean, 16), .inl (.boolean, 8)]
def la_112 : List mm_S := [.inr (9, [v_r 1, v_r 10, v_r 17, v_r 21, v_r 24, v_r 26, v_r 35, v_r 43, v_r 46, v_i 0]), .inr (0, [v_i 0, v_r 2, v_r 3, v_r 4, v_r 5, v_i 0, v_r 6, v_r 7, v_r 8, v_r 9]), .inl (.int, 16), .inl (.int, 16), .inl (.int, 16), .inl (.int, 16), .inl (.int, 8), .inl (.int, 8), .inl (.int, 8), .inl (.int, 8), .inr (4, [v_i 0, v_r 11, v_r 12, v_r 13, v_r 14, v_l 0, v_r 15, v_r 16]), .inl (.int, 40), .inl (.int, 40), .inl (.int, 40), .inl (.long, 16), .inl (.int, 16), .inl (.long, 42), .inr (1, [v_r 18, v_r 19, v_r 20]), .inl (.int, 4352), .inl (.int, 8), .inl (.int, 16), .inr (6, [v_r 22, v_r 23]), .inl (.int, 30), .inl (.int, 30), .inr (8, [v_i 0, v_i 0, v_r 25]), .inl (.int, 120), .inr (7, [v_i 0, v_r 27, v_r 28, v_r 29, v_r 30, v_r 31, v_r 32, v_r 33, v_r 34]), .inl (.int, 10), .inl (.int, 10), .inl (.int, 10), .inl (.boolean, 30), .inl (.int, 30), .inl (.int, 30), .inl (.int, 30), .inl (.int, 7), .inr (3, [v_i 0, v_r 36, v_r 37, v_r 38, v_r 39, v_i 0, v_r 40, v_r 41, v_r 42]), .inl (.int, 30), .inl (.int, 30), .inl (.int, 30), .inl (.int, 30), .inl (.int, 60), .inl (.int, 60), .inl (.int, 60), .inr (2, [v_i 0, v_i 0, v_r 44, v_r 45]), .inl (.int, 20), .inl (.int, 20), .inr (5, [v_r 47, v_r 48, v_r 49, v_i 0]), .inl (.int, 8), .inl (.int, 8), .inl (.int, 3), .inr (10, [v_r 51, v_r 52, v_r 53, v_r 54, v_r 55, v_r 56, v_n, v_n, v_n, v_n, v_i 0, v_i 0, v_n, v_n, v_n, v_n, v_i 0, v_n, v_n, v_n, v_n, v_n, v_i 0, v_l 0, v_n, v_n, v_n, v_n, v_n, v_i 0, v_i 0, v_i 0, v_n, v_n, v_n, v_n, v_i 0, v_n, v_n, v_n, v_n, v_n, v_n, v_n, v_i 0, v_i 0, v_n, v_n, v_i 0, v_i 0, v_n, v_n, v_n]), .inl (.int, 16), .inl (.int, 16), .inl (.int, 16), .inl (.int, 16), .inl (.boolean, 16), .inl (.boolean, 8), .inl (.int, 8)]
def la_113 : List mm_S := [.inr (9, [v_r 1, v_r 10, v_r 17, v_r 21, v_r 24, v_r 26, v_r 35, v_r 43, v_r 46, v_i 0]), .inr (0, [v_i 0, v_r 2, v_r 3, v_r 4, v_r 5, v_i 0, v_r 6, v_r 7, v_r 8, v_r 9]), .inl (.int, 16), .inl (.int, 16), .inl (.int, 16), .inl (.int, 16), .inl (.int, 8), .inl (.int, 8), .inl (.int, 8), .inl (.int, 8), .inr (4, [v_i 0, v_r 11, v_r 12, v_r 13, v_r 14, v_l 0, v_r 15, v_r 16]), .inl (.int, 40), .inl (.int, 40), .inl (.int, 40), .inl (.long, 16), .inl (.int, 16), .inl (.long, 42), .inr (1, [v_r 18, v_r 19, v_r 20]), .inl (.int, 4352), .inl (.int, 8), .inl (.int, 16), .inr (6, [v_r 22, v_r 23]), .inl (.int, 30), .inl (.int, 30), .inr (8, [v_i 0, v_i 0, v_r 25]), .inl (.int, 120), .inr (7, [v_i 0, v_r 27, v_r 28, v_r 29, v_r 30, v_r 31, v_r 32, v_r 33, v_r 34]), .inl (.int, 10), .inl (.int, 10), .inl (.int, 10), .inl (.boolean, 30), .inl (.int, 30), .inl (.int, 30), .inl (.int, 30), .inl (.int, 7), .inr (3, [v_i 0, v_r 36, v_r 37, v_r 38, v_r 39, v_i 0, v_r 40, v_r 41, v_r 42]), .inl (.int, 30), .inl (.int, 30), .inl (.int, 30), .inl (.int, 30), .inl (.int, 60), .inl (.int, 60), .inl (.int, 60), .inr (2, [v_i 0, v_i 0, v_r 44, v_r 45]), .inl (.int, 20), .inl (.int, 20), .inr (5, [v_r 47, v_r 48, v_r 49, v_i 0]), .inl (.int, 8), .inl (.int, 8), .inl (.int, 3), .inr (10, [v_r 51, v_r 52, v_r 53, v_r 54, v_r 55, v_r 56, v_r 57, v_n, v_n, v_n, v_i 0, v_i 0, v_n, v_n, v_n, v_n, v_i 0, v_n, v_n, v_n, v_n, v_n, v_i 0, v_l 0, v_n, v_n, v_n, v_n, v_n, v_i 0, v_i 0, v_i 0, v_n, v_n, v_n, v_n, v_i 0, v_n, v_n, v_n, v_n, v_n, v_n, v_n, v_i 0, v_i 0, v_n, v_n, v_i 0, v_i 0, v_n, v_n, v_n]), .inl (.int, 16), .inl (.int, 16), .inl (.int, 16), .inl (.int, 16), .inl (.boolean, 16), .inl (.boolean, 8), .inl (.int, 8)]
def la_114 : List mm_S := [.inr (9, [v_r 1, v_r 10, v_r 17, v_r 21, v_r 24, v_r 26, v_r 35, v_r 43, v_r 46, v_i 0]), .inr (0, [v_i 0, v_r 2, v_r 3, v_r 4, v_r 5, v_i 0, v_r 6, v_r 7, v_r 8, v_r 9]), .inl (.int, 16), .inl (.int, 16), .inl (.int, 16), .inl (.int, 16), .inl (.int, 8), .inl (.int, 8), .inl (.int, 8), .inl (.int, 8), .inr (4, [v_i 0, v_r 11, v_r 12, v_r 13, v_r 14, v_l 0, v_r 15, v_r 16]), .inl (.int, 40), .inl (.int, 40), .inl (.int, 40), .inl (.long, 16), .inl (.int, 16), .inl (.long, 42), .inr (1, [v_r 18, v_r 19, v_r 20]), .inl (.int, 4352), .inl (.int, 8), .inl (.int, 16), .inr (6, [v_r 22, v_r 23]), .inl (.int, 30), .inl (.int, 30), .inr (8, [v_i 0, v_i 0, v_r 25]), .inl (.int, 120), .inr (7, [v_i 0, v_r 27, v_r 28, v_r 29, v_r 30, v_r 31, v_r 32, v_r 33, v_r 34]), .inl (.int, 10), .inl (.int, 10), .inl (.int, 10), .inl (.boolean, 30), .inl (.int, 30), .inl (.int, 30), .inl (.int, 30), .inl (.int, 7), .inr (3, [v_i 0, v_r 36, v_r 37, v_r 38, v_r 39, v_i 0, v_r 40, v_r 41, v_r 42]), .inl (.int, 30), .inl (.int, 30), .inl (.int, 30), .inl (.int, 30), .inl (.int, 60), .inl (.int, 60), .inl (.int, 60), .inr (2, [v_i 0, v_i 0, v_r 44, v_r 45]), .inl (.int, 20), .inl (.int, 20), .inr (5, [v_r 47, v_r 48, v_r 49, v_i 0]), .inl (.int, 8), .inl (.int, 8), .inl (.int, 3), .inr (10, [v_r 51, v_r 52, v_r 53, v_r 54, v_r 55, v_r 56, v_r 57, v_n, v_n, v_n, v_i 0, v_i 0, v_n, v_n, v_n, v_n, v_i 0, v_n, v_n, v_n, v_n, v_n, v_i 0, v_l 0, v_n, v_n, v_n, v_n, v_n, v_i 0, v_i 0, v_i 0, v_n, v_n, v_n, v_n, v_i 0, v_n, v_n, v_n, v_n, v_n, v_n, v_n, v_i 0, v_i 0, v_n, v_n, v_i 0, v_i 0, v_n, v_n, v_n]), .inl (.int, 16), .inl (.int, 16), .inl (.int, 16), .inl (.int, 16), .inl (.boolean, 16), .inl (.boolean, 8), .inl (.int, 8), .inl (.int, 8)]
def la_115 : List mm_S := [.inr (9, [v_r 1, v_r 10, v_r 17, v_r 21, v_r 24, v_r 26, v_r 35, v_r 43, v_r 46, v_i 0]), .inr (0, [v_i 0, v_r 2, v_r 3, v_r 4, v_r 5, v_i 0, v_r 6, v_r 7, v_r 8, v_r 9]), .inl (.int, 16), .inl (.int, 16), .inl (.int, 16), .inl (.int, 16), .inl (.int, 8), .inl (.int, 8), .inl (.int, 8), .inl (.int, 8), .inr (4, [v_i 0, v_r 11, v_r 12, v_r 13, v_r 14, v_l 0, v_r 15, v_r 16]), .inl (.int, 40), .inl (.int, 40), .inl (.int, 40), .inl (.long, 16), .inl (.int, 16), .inl (.long, 42), .inr (1, [v_r 18, v_r 19, v_r 20]), .inl (.int, 4352), .inl (.int, 8), .inl (.int, 16), .inr (6, [v_r 22, v_r 23]), .inl (.int, 30), .inl (.int, 30), .inr (8, [v_i 0, v_i 0, v_r 25]), .inl (.int, 120), .inr (7, [v_i 0, v_r 27, v_r 28, v_r 29, v_r 30, v_r 31, v_r 32, v_r 33, v_r 34]), .inl (.int, 10), .inl (.int, 10), .inl (.int, 10), .inl (.boolean, 30), .inl (.int, 30), .inl (.int, 30), .inl (.int, 30), .inl (.int, 7), .inr (3, [v_i 0, v_r 36, v_r 37, v_r 38, v_r 39, v_i 0, v_r 40, v_r 41, v_r 42]), .inl (.int, 30), .inl (.int, 30), .inl (.int, 30), .inl (.int, 30), .inl (.int, 60), .inl (.int, 60), .inl (.int, 60), .inr (2, [v_i 0, v_i 0, v_r 44, v_r 45]), .inl (.int, 20), .inl (.int, 20), .inr (5, [v_r 47, v_r 48, v_r 49, v_i 0]), .inl (.int, 8), .inl (.int, 8), .inl (.int, 3), .inr (10, [v_r 51, v_r 52, v_r 53, v_r 54, v_r 55, v_r 56, v_r 57, v_r 58, v_n, v_n, v_i 0, v_i 0, v_n, v_n, v_n, v_n, v_i 0, v_n, v_n, v_n, v_n, v_n, v_i 0, v_l 0, v_n, v_n, v_n, v_n, v_n, v_i 0, v_i 0, v_i 0, v_n, v_n, v_n, v_n, v_i 0, v_n, v_n, v_n, v_n, v_n, v_n, v_n, v_i 0, v_i 0, v_n, v_n, v_i 0, v_i 0, v_n, v_n, v_n]), .inl (.int, 16), .inl (.int, 16), .inl (.int, 16), .inl (.int, 16), .inl (.boolean, 16), .inl (.boolean, 8), .inl (.int, 8), .inl (.int, 8)]
def la_116 : List mm_S := [.inr (9, [v_r 1, v_r 10, v_r 17, v_r 21, v_r 24, v_r 26, v_r 35, v_r 43, v_r 46, v_i 0]), .inr (0, [v_i 0, v_r 2, v_r 3, v_r 4, v_r 5, v_i 0, v_r 6, v_r 7, v_r 8, v_r 9]), .inl (.int, 16), .inl (.int, 16), .inl (.int, 16), .inl (.int, 16), .inl (.int, 8), .inl (.int, 8), .inl (.int, 8), .inl (.int, 8), .inr (4, [v_i 0, v_r 11, v_r 12, v_r 13, v_r 14, v_l 0, v_r 15, v_r 16]), .inl (.int, 40), .inl (.int, 40), .inl (.int, 40), .inl (.long, 16), .inl (.int, 16), .inl (.long, 42), .inr (1, [v_r 18, v_r 19, v_r 20]), .inl (.int, 4352), .inl (.int, 8), .inl (.int, 16), .inr (6, [v_r 22, v_r 23]), .inl (.int, 30), .inl (.int, 30), .inr (8, [v_i 0, v_i 0, v_r 25]), .inl (.int, 120), .inr (7, [v_i 0, v_r 27, v_r 28, v_r 29, v_r 30, v_r 31, v_r 32, v_r 33, v_r 34]), .inl (.int, 10), .inl (.int, 10), .inl (.int, 10), .inl (.boolean, 30), .inl (.int, 30), .inl (.int, 30), .inl (.int, 30), .inl (.int, 7), .inr (3, [v_i 0, v_r 36, v_r 37, v_r 38, v_r 39, v_i 0, v_r 40, v_r 41, v_r 42]), .inl (.int, 30), .inl (.int, 30), .inl (.int, 30), .inl (.int, 30), .inl (.int, 60), .inl (.int, 60), .inl (.int, 60), .inr (2, [v_i 0, v_i 0, v_r 44, v_r 45]), .inl (.int, 20), .inl (.int, 20), .inr (5, [v_r 47, v_r 48, v_r 49, v_i 0]), .inl (.int, 8), .inl (.int, 8), .inl (.int, 3), .inr (10, [v_r 51, v_r 52, v_r 53, v_r 54, v_r 55, v_r 56, v_r 57, v_r 58, v_n, v_n, v_i 0, v_i 0, v_n, v_n, v_n, v_n, v_i 0, v_n, v_n, v_n, v_n, v_n, v_i 0, v_l 0, v_n, v_n, v_n, v_n, v_n, v_i 0, v_i 0, v_i 0, v_n, v_n, v_n, v_n, v_i 0, v_n, v_n, v_n, v_n, v_n, v_n, v_n, v_i 0, v_i 0, v_n, v_n, v_i 0, v_i 0, v_n, v_n, v_n]), .inl (.int, 16), .inl (.int, 16), .inl (.int, 16), .inl (.int, 16), .inl (.boolean, 16), .inl (.boolean, 8), .inl (.int, 8), .inl (.int, 8), .inl (.int, 8)]
def la_117 : List mm_S := [.inr (9, [v_r 1, v_r 10, v_r 17, v_r 21, v_r 24, v_r 26, v_r 35, v_r 43, v_r 46, v_i 0]), .inr (0, [v_i 0, v_r 2, v_r 3, v_r 4, v_r 5, v_i 0, v_r 6, v_r 7, v_r 8, v_r 9]), .inl (.int, 16), .inl (.int, 16), .inl (.int, 16), .inl (.int, 16), .inl (.int, 8), .inl (.int, 8), .inl (.int, 8), .inl (.int, 8), .inr (4, [v_i 0, v_r 11, v_r 12, v_r 13, v_r 14, v_l 0, v_r 15, v_r 16]), .inl (.int, 40), .inl (.int, 40), .inl (.int, 40), .inl (.long, 16), .inl (.int, 16), .inl (.long, 42), .inr (1, [v_r 18, v_r 19, v_r 20]), .inl (.int, 4352), .inl (.int, 8), .inl (.int, 16), .inr (6, [v_r 22, v_r 23]), .inl (.int, 30), .inl (.int, 30), .inr (8, [v_i 0, v_i 0, v_r 25]), .inl (.int, 120), .inr (7, [v_i 0, v_r 27, v_r 28, v_r 29, v_r 30, v_r 31, v_r 32, v_r 33, v_r 34]), .inl (.int, 10), .inl (.int, 10), .inl (.int, 10), .inl (.boolean, 30), .inl (.int, 30), .inl (.int, 30), .inl (.int, 30), .inl (.int, 7), .inr (3, [v_i 0, v_r 36, v_r 37, v_r 38, v_r 39, v_i 0, v_r 40, v_r 41, v_r 42]), .inl (.int, 30), .inl (.int, 30), .inl (.int, 30), .inl (.int, 30), .inl (.int, 60), .inl (.int, 60), .inl (.int, 60), .inr (2, [v_i 0, v_i 0, v_r 44, v_r 45]), .inl (.int, 20), .inl (.int, 20), .inr (5, [v_r 47, v_r 48, v_r 49, v_i 0]), .inl (.int, 8), .inl (.int, 8), .inl (.int, 3), .inr (10, [v_r 51, v_r 52, v_r 53, v_r 54, v_r 55, v_r 56, v_r 57, v_r 58, v_r 59, v_n, v_i 0, v_i 0, v_n, v_n, v_n, v_n, v_i 0, v_n, v_n, v_n, v_n, v_n, v_i 0, v_l 0, v_n, v_n, v_n, v_n, v_n, v_i 0, v_i 0, v_i 0, v_n, v_n, v_n, v_n, v_i 0, v_n, v_n, v_n, v_n, v_n, v_n, v_n, v_i 0, v_i 0, v_n, v_n, v_i 0, v_i 0, v_n, v_n, v_n]), .inl (.int, 16), .inl (.int, 16), .inl (.int, 16), .inl (.int, 16), .inl (.boolean, 16), .inl (.boolean, 8), .inl (.int, 8), .inl (.int, 8), .inl (.int, 8)]
def la_118 : List mm_S := [.inr (9, [v_r 1, v_r 10, v_r 17, v_r 21, v_r 24, v_r 26, v_r 35, v_r 43, v_r 46, v_i 0]), .inr (0, [v_i 0, v_r 2, v_r 3, v_r 4, v_r 5, v_i 0, v_r 6, v_r 7, v_r 8, v_r 9]), .inl (.int, 16), .inl (.int, 16), .inl (.int, 16), .inl (.int, 16), .inl (.int, 8), .inl (.int, 8), .inl (.int, 8), .inl (.int, 8), .inr (4, [v_i 0, v_r 11, v_r 12, v_r 13, v_r 14, v_l 0, v_r 15, v_r 16]), .inl (.int, 40), .inl (.int, 40), .inl (.int, 40), .inl (.long, 16), .inl (.int, 16), .inl (.long, 42), .inr (1, [v_r 18, v_r 19, v_r 20]), .inl (.int, 4352), .inl (.int, 8), .inl (.int, 16), .inr (6, [v_r 22, v_r 23]), .inl (.int, 30), .inl (.int, 30), .inr (8, [v_i 0, v_i 0, v_r 25]), .inl (.int, 120), .inr (7, [v_i 0, v_r 27, v_r 28, v_r 29, v_r 30, v_r 31, v_r 32, v_r 33, v_r 34]), .inl (.int, 10), .inl (.int, 10), .inl (.int, 10), .inl (.boolean, 30), .inl (.int, 30), .inl (.int, 30), .inl (.int, 30), .inl (.int, 7), .inr (3, [v_i 0, v_r 36, v_r 37, v_r 38, v_r 39, v_i 0, v_r 40, v_r 41, v_r 42]), .inl (.int, 30), .inl (.int, 30), .inl (.int, 30), .inl (.int, 30), .inl (.int, 60), .inl (.int, 60), .inl (.int, 60), .inr (2, [v_i 0, v_i 0, v_r 44, v_r 45]), .inl (.int, 20), .inl (.int, 20), .inr (5, [v_r 47, v_r 48, v_r 49, v_i 0]), .inl (.int, 8), .inl (.int, 8), .inl (.int, 3), .inr (10, [v_r 51, v_r 52, v_r 53, v_r 54, v_r 55, v_r 56, v_r 57, v_r 58, v_r 59, v_n, v_i 0, v_i 0, v_n, v_n, v_n, v_n, v_i 0, v_n, v_n, v_n, v_n, v_n, v_i 0, v_l 0, v_n, v_n, v_n, v_n, v_n, v_i 0, v_i 0, v_i 0, v_n, v_n, v_n, v_n, v_i 0, v_n, v_n, v_n, v_n, v_n, v_n, v_n, v_i 0, v_i 0, v_n, v_n, v_i 0, v_i 0, v_n, v_n, v_n]), .inl (.int, 16), .inl (.int, 16), .inl (.int, 16), .inl (.int, 16), .inl (.boolean, 16), .inl (.boolean, 8), .inl (.int, 8), .inl (.int, 8), .inl (.int, 8), .inl (.int, 8)]
def la_119 : List mm_S := [.inr (9, [v_r 1, v_r 10, v_r 17, v_r 21, v_r 24, v_r 26, v_r 35, v_r 43, v_r 46, v_i 0]), .inr (0, [v_i 0, v_r 2, v_r 3, v_r 4, v_r 5, v_i 0, v_r 6, v_r 7, v_r 8, v_r 9]), .inl (.int, 16), .inl (.int, 16), .inl (.int, 16), .inl (.int, 16), .inl (.int, 8), .inl (.int, 8), .inl (.int, 8), .inl (.int, 8), .inr (4, [v_i 0, v_r 11, v_r 12, v_r 13, v_r 14, v_l 0, v_r 15, v_r 16]), .inl (.int, 40), .inl (.int, 40), .inl (.int, 40), .inl (.long, 16), .inl (.int, 16), .inl (.long, 42), .inr (1, [v_r 18, v_r 19, v_r 20]), .inl (.int, 4352), .inl (.int, 8), .inl (.int, 16), .inr (6, [v_r 22, v_r 23]), .inl (.int, 30), .inl (.int, 30), .inr (8, [v_i 0, v_i 0, v_r 25]), .inl (.int, 120), .inr (7, [v_i 0, v_r 27, v_r 28, v_r 29, v_r 30, v_r 31, v_r 32, v_r 33, v_r 34]), .inl (.int, 10), .inl (.int, 10), .inl (.int, 10), .inl (.boolean, 30), .inl (.int, 30), .inl (.int, 30), .inl (.int, 30), .inl (.int, 7), .inr (3, [v_i 0, v_r 36, v_r 37, v_r 38, v_r 39, v_i 0, v_r 40, v_r 41, v_r 42]), .inl (.int, 30), .inl (.int, 30), .inl (.int, 30), .inl (.int, 30), .inl (.int, 60), .inl (.int, 60), .inl (.int, 60), .inr (2, [v_i 0, v_i 0, v_r 44, v_r 45]), .inl (.int, 20), .inl (.int, 20), .inr (5, [v_r 47, v_r 48, v_r 49, v_i 0]), .inl (.int, 8), .inl (.int, 8), .inl (.int, 3), .inr (10, [v_r 51, v_r 52, v_r 53, v_r 54, v_r 55, v_r 56, v_r 57, v_r 58, v_r 59, v_r 60, v_i 0, v_i 0, v_n, v_n, v_n, v_n, v_i 0, v_n, v_n, v_n, v_n, v_n, v_i 0, v_l 0, v_n, v_n, v_n, v_n, v_n, v_i 0, v_i 0, v_i 0, v_n, v_n, v_n, v_n, v_i 0, v_n, v_n, v_n, v_n, v_n, v_n, v_n, v_i 0, v_i 0, v_n, v_n, v_i 0, v_i 0, v_n, v_n, v_n]), .inl (.int, 16), .inl (.int, 16), .inl (.int, 16), .inl (.int, 16), .inl (.boolean, 16), .inl (.boolean, 8), .inl (.int, 8), .inl (.int, 8), .inl (.int, 8), .inl (.int, 8)]
def la_120 : List mm_S := [.inr (9, [v_r 1, v_r 10, v_r 17, v_r 21, v_r 24, v_r 26, v_r 35, v_r 43, v_r 46, v_i 0]), .inr (0, [v_i 0, v_r 2, v_r 3, v_r 4, v_r 5, v_i 0, v_r 6, v_r 7, v_r 8, v_r 9]), .inl (.int, 16), .inl (.int, 16), .inl (.int, 16), .inl (.int, 16), .inl (.int, 8), .inl (.int, 8), .inl (.int, 8), .inl (.int, 8), .inr (4, [v_i 0, v_r 11, v_r 12, v_r 13, v_r 14, v_l 0, v_r 15, v_r 16]), .inl (.int, 40), .inl (.int, 40), .inl (.int, 40), .inl (.long, 16), .inl (.int, 16), .inl (.long, 42), .inr (1, [v_r 18, v_r 19, v_r 20]), .inl (.int, 4352), .inl (.int, 8), .inl (.int, 16), .inr (6, [v_r 22, v_r 23]), .inl (.int, 30), .inl (.int, 30), .inr (8, [v_i 0, v_i 0, v_r 25]), .inl (.int, 120), .inr (7, [v_i 0, v_r 27, v_r 28, v_r 29, v_r 30, v_r 31, v_r 32, v_r 33, v_r 34]), .inl (.int, 10), .inl (.int, 10), .inl (.int, 10), .inl (.boolean, 30), .inl (.int, 30), .inl (.int, 30), .inl (.int, 30), .inl (.int, 7), .inr (3, [v_i 0, v_r 36, v_r 37, v_r 38, v_r 39, v_i 0, v_r 40, v_r 41, v_r 42]), .inl (.int, 30), .inl (.int, 30), .inl (.int, 30), .inl (.int, 30), .inl (.int, 60), .inl (.int, 60), .inl (.int, 60), .inr (2, [v_i 0, v_i 0, v_r 44, v_r 45]), .inl (.int, 20), .inl (.int, 20), .inr (5, [v_r 47, v_r 48, v_r 49, v_i 0]), .inl (.int, 8), .inl (.int, 8), .inl (.int, 3), .inr (10, [v_r 51, v_r 52, v_r 53, v_r 54, v_r 55, v_r 56, v_r 57, v_r 58, v_r 59, v_r 60, v_i 0, v_i 0, v_n, v_n, v_n, v_n, v_i 0, v_n, v_n, v_n, v_n, v_n, v_i 0, v_l 0, v_n, v_n, v_n, v_n, v_n, v_i 0, v_i 0, v_i 0, v_n, v_n, v_n, v_n, v_i 0, v_n, v_n, v_n, v_n, v_n, v_n, v_n, v_i 0, v_i 0, v_n, v_n, v_i 0, v_i 0, v_n, v_n, v_n]), .inl (.int, 16), .inl (.int, 16), .inl (.int, 16), .inl (.int, 16), .inl (.boolean, 16), .inl (.boolean, 8), .inl (.int, 8), .inl (.int, 8), .inl (.int, 8), .inl (.int, 8), .inl (.int, 40)]
def la_121 : List mm_S := [.inr (9, [v_r 1, v_r 10, v_r 17, v_r 21, v_r 24, v_r 26, v_r 35, v_r 43, v_r 46, v_i 0]), .inr (0, [v_i 0, v_r 2, v_r 3, v_r 4, v_r 5, v_i 0, v_r 6, v_r 7, v_r 8, v_r 9]), .inl (.int, 16), .inl (.int, 16), .inl (.int, 16), .inl (.int, 16), .inl (.int, 8), .inl (.int, 8), .inl (.int, 8), .inl (.int, 8), .inr (4, [v_i 0, v_r 11, v_r 12, v_r 13, v_r 14, v_l 0, v_r 15, v_r 16]), .inl (.int, 40), .inl (.int, 40), .inl (.int, 40), .inl (.long, 16), .inl (.int, 16), .inl (.long, 42), .inr (1, [v_r 18, v_r 19, v_r 20]), .inl (.int, 4352), .inl (.int, 8), .inl (.int, 16), .inr (6, [v_r 22, v_r 23]), .inl (.int, 30), .inl (.int, 30), .inr (8, [v_i 0, v_i 0, v_r 25]), .inl (.int, 120), .inr (7, [v_i 0, v_r 27, v_r 28, v_r 29, v_r 30, v_r 31, v_r 32, v_r 33, v_r 34]), .inl (.int, 10), .inl (.int, 10), .inl (.int, 10), .inl (.boolean, 30), .inl (.int, 30), .inl (.int, 30), .inl (.int, 30), .inl (.int, 7), .inr (3, [v_i 0, v_r 36, v_r 37, v_r 38, v_r 39, v_i 0, v_r 40, v_r 41, v_r 42]), .inl (.int, 30), .inl (.int, 30), .inl (.int, 30), .inl (.int, 30), .inl (.int, 60), .inl (.int, 60), .inl (.int, 60), .inr (2, [v_i 0, v_i 0, v_r 44, v_r 45]), .inl (.int, 20), .inl (.int, 20), .inr (5, [v_r 47, v_r 48, v_r 49, v_i 0]), .inl (.int, 8), .inl (.int, 8), .inl (.int, 3), .inr (10, [v_r 51, v_r 52, v_r 53, v_r 54, v_r 55, v_r 56, v_r 57, v_r 58, v_r 59, v_r 60, v_i 0, v_i 0, v_r 61, v_n, v_n, v_n, v_i 0, v_n, v_n, v_n, v_n, v_n, v_i 0, v_l 0, v_n, v_n, v_n, v_n, v_n, v_i 0, v_i 0, v_i 0, v_n, v_n, v_n, v_n, v_i 0, v_n, v_n, v_n, v_n, v_n, v_n, v_n, v_i 0, v_i 0, v_n, v_n, v_i 0, v_i 0, v_n, v_n, v_n]), .inl (.int, 16), .inl (.int, 16), .inl (.int, 16), .inl (.int, 16), .inl (.boolean, 16), .inl (.boolean, 8), .inl (.int, 8), .inl (.int, 8), .inl (.int, 8), .inl (.int, 8), .inl (.int, 40)]
def la_122 : List mm_S := [.inr (9, [v_r 1, v_r 10, v_r 17, v_r 21, v_r 24, v_r 26, v_r 35, v_r 43, v_r 46, v_i 0]), .inr (0, [v_i 0, v_r 2, v_r 3, v_r 4, v_r 5, v_i 0, v_r 6, v_r 7, v_r 8, v_r 9]), .inl (.int, 16), .inl (.int, 16), .inl (.int, 16), .inl (.int, 16), .inl (.int, 8), .inl (.int, 8), .inl (.int, 8), .inl (.int, 8), .inr (4, [v_i 0, v_r 11, v_r 12, v_r 13, v_r 14, v_l 0, v_r 15, v_r 16]), .inl (.int, 40), .inl (.int, 40), .inl (.int, 40), .inl (.long, 16), .inl (.int, 16), .inl (.long, 42), .inr (1, [v_r 18, v_r 19, v_r 20]), .inl (.int, 4352), .inl (.int, 8), .inl (.int, 16), .inr (6, [v_r 22, v_r 23]), .inl (.int, 30), .inl (.int, 30), .inr (8, [v_i 0, v_i 0, v_r 25]), .inl (.int, 120), .inr (7, [v_i 0, v_r 27, v_r 28, v_r 29, v_r 30, v_r 31, v_r 32, v_r 33, v_r 34]), .inl (.int, 10), .inl (.int, 10), .inl (.int, 10), .inl (.boolean, 30), .inl (.int, 30), .inl (.int, 30), .inl (.int, 30), .inl (.int, 7), .inr (3, [v_i 0, v_r 36, v_r 37, v_r 38, v_r 39, v_i 0, v_r 40, v_r 41, v_r 42]), .inl (.int, 30), .inl (.int, 30), .inl (.int, 30), .inl (.int, 30), .inl (.int, 60), .inl (.int, 60), .inl (.int, 60), .inr (2, [v_i 0, v_i 0, v_r 44, v_r 45]), .inl (.int, 20), .inl (.int, 20), .inr (5, [v_r 47, v_r 48, v_r 49, v_i 0]), .inl (.int, 8), .inl (.int, 8), .inl (.int, 3), .inr (10, [v_r 51, v_r 52, v_r 53, v_r 54, v_r 55, v_r 56, v_r 57, v_r 58, v_r 59, v_r 60, v_i 0, v_i 0, v_r 61, v_n, v_n, v_n, v_i 0, v_n, v_n, v_n, v_n, v_n, v_i 0, v_l 0, v_n, v_n, v_n, v_n, v_n, v_i 0, v_i 0, v_i 0, v_n, v_n, v_n, v_n, v_i 0, v_n, v_n, v_n, v_n, v_n, v_n, v_n, v_i 0, v_i 0, v_n, v_n, v_i 0, v_i 0, v_n, v_n, v_n]), .inl (.int, 16), .inl (.int, 16), .inl (.int, 16), .inl (.int, 16), .inl (.boolean, 16), .inl (.boolean, 8), .inl (.int, 8), .inl (.int, 8), .inl (.int, 8), .inl (.int, 8), .inl (.int, 40), .inl (.int, 40)]
def la_123 : List mm_S := [.inr (9, [v_r 1, v_r 10, v_r 17, v_r 21, v_r 24, v_r 26, v_r 35, v_r 43, v_r 46, v_i 0]), .inr (0, [v_i 0, v_r 2, v_r 3, v_r 4, v_r 5, v_i 0, v_r 6, v_r 7, v_r 8, v_r 9]), .inl (.int, 16), .inl (.int, 16), .inl (.int, 16), .inl (.int, 16), .inl (.int, 8), .inl (.int, 8), .inl (.int, 8), .inl (.int, 8), .inr (4, [v_i 0, v_r 11, v_r 12, v_r 13, v_r 14, v_l 0, v_r 15, v_r 16]), .inl (.int, 40), .inl (.int, 40), .inl (.int, 40), .inl (.long, 16), .inl (.int, 16), .inl (.long, 42), .inr (1, [v_r 18, v_r 19, v_r 20]), .inl (.int, 4352), .inl (.int, 8), .inl (.int, 16), .inr (6, [v_r 22, v_r 23]), .inl (.int, 30), .inl (.int, 30), .inr (8, [v_i 0, v_i 0, v_r 25]), .inl (.int, 120), .inr (7, [v_i 0, v_r 27, v_r 28, v_r 29, v_r 30, v_r 31, v_r 32, v_r 33, v_r 34]), .inl (.int, 10), .inl (.int, 10), .inl (.int, 10), .inl (.boolean, 30), .inl (.int, 30), .inl (.int, 30), .inl (.int, 30), .inl (.int, 7), .inr (3, [v_i 0, v_r 36, v_r 37, v_r 38, v_r 39, v_i 0, v_r 40, v_r 41, v_r 42]), .inl (.int, 30), .inl (.int, 30), .inl (.int, 30), .inl (.int, 30), .inl (.int, 60), .inl (.int, 60), .inl (.int, 60), .inr (2, [v_i 0, v_i 0, v_r 44, v_r 45]), .inl (.int, 20), .inl (.int, 20), .inr (5, [v_r 47, v_r 48, v_r 49, v_i 0]), .inl (.int, 8), .inl (.int, 8), .inl (.int, 3), .inr (10, [v_r 51, v_r 52, v_r 53, v_r 54, v_r 55, v_r 56, v_r 57, v_r 58, v_r 59, v_r 60, v_i 0, v_i 0, v_r 61, v_r 62, v_n, v_n, v_i 0, v_n, v_n, v_n, v_n, v_n, v_i 0, v_l 0, v_n, v_n, v_n, v_n, v_n, v_i 0, v_i 0, v_i 0, v_n, v_n, v_n, v_n, v_i 0, v_n, v_n, v_n, v_n, v_n, v_n, v_n, v_i 0, v_i 0, v_n, v_n, v_i 0, v_i 0, v_n, v_n, v_n]), .inl (.int, 16), .inl (.int, 16), .inl (.int, 16), .inl (.int, 16), .inl (.boolean, 16), .inl (.boolean, 8), .inl (.int, 8), .inl (.int, 8), .inl (.int, 8), .inl (.int, 8), .inl (.int, 40), .inl (.int, 40)]
def la_124 : List mm_S := [.inr (9, [v_r 1, v_r 10, v_r 17, v_r 21, v_r 24, v_r 26, v_r 35, v_r 43, v_r 46, v_i 0]), .inr (0, [v_i 0, v_r 2, v_r 3, v_r 4, v_r 5, v_i 0, v_r 6, v_r 7, v_r 8, v_r 9]), .inl (.int, 16), .inl (.int, 16), .inl (.int, 16), .inl (.int, 16), .inl (.int, 8), .inl (.int, 8), .inl (.int, 8), .inl (.int, 8), .inr (4, [v_i 0, v_r 11, v_r 12, v_r 13, v_r 14, v_l 0, v_r 15, v_r 16]), .inl (.int, 40), .inl (.int, 40), .inl (.int, 40), .inl (.long, 16), .inl (.int, 16), .inl (.long, 42), .inr (1, [v_r 18, v_r 19, v_r 20]), .inl (.int, 4352), .inl (.int, 8), .inl (.int, 16), .inr (6, [v_r 22, v_r 23]), .inl (.int, 30), .inl (.int, 30), .inr (8, [v_i 0, v_i 0, v_r 25]), .inl (.int, 120), .inr (7, [v_i 0, v_r 27, v_r 28, v_r 29, v_r 30, v_r 31, v_r 32, v_r 33, v_r 34]), .inl (.int, 10), .inl (.int, 10), .inl (.int, 10), .inl (.boolean, 30), .inl (.int, 30), .inl (.int, 30), .inl (.int, 30), .inl (.int, 7), .inr (3, [v_i 0, v_r 36, v_r 37, v_r 38, v_r 39, v_i 0, v_r 40, v_r 41, v_r 42]), .inl (.int, 30), .inl (.int, 30), .inl (.int, 30), .inl (.int, 30), .inl (.int, 60), .inl (.int, 60), .inl (.int, 60), .inr (2, [v_i 0, v_i 0, v_r 44, v_r 45]), .inl (.int, 20), .inl (.int, 20), .inr (5, [v_r 47, v_r 48, v_r 49, v_i 0]), .inl (.int, 8), .inl (.int, 8), .inl (.int, 3), .inr (10, [v_r 51, v_r 52, v_r 53, v_r 54, v_r 55, v_r 56, v_r 57, v_r 58, v_r 59, v_r 60, v_i 0, v_i 0, v_r 61, v_r 62, v_n, v_n, v_i 0, v_n, v_n, v_n, v_n, v_n, v_i 0, v_l 0, v_n, v_n, v_n, v_n, v_n, v_i 0, v_i 0, v_i 0, v_n, v_n, v_n, v_n, v_i 0, v_n, v_n, v_n, v_n, v_n, v_n, v_n, v_i 0, v_i 0, v_n, v_n, v_i 0, v_i 0, v_n, v_n, v_n]), .inl (.int, 16), .inl (.int, 16), .inl (.int, 16), .inl (.int, 16), .inl (.boolean, 16), .inl (.boolean, 8), .inl (.int, 8), .inl (.int, 8), .inl (.int, 8), .inl (.int, 8), .inl (.int, 40), .inl (.int, 40), .inl (.int, 40)]
def la_125 : List mm_S := [.inr (9, [v_r 1, v_r 10, v_r 17, v_r 21, v_r 24, v_r 26, v_r 35, v_r 43, v_r 46, v_i 0]), .inr (0, [v_i 0, v_r 2, v_r 3, v_r 4, v_r 5, v_i 0, v_r 6, v_r 7, v_r 8, v_r 9]), .inl (.int, 16), .inl (.int, 16), .inl (.int, 16), .inl (.int, 16), .inl (.int, 8), .inl (.int, 8), .inl (.int, 8), .inl (.int, 8), .inr (4, [v_i 0, v_r 11, v_r 12, v_r 13, v_r 14, v_l 0, v_r 15, v_r 16]), .inl (.int, 40), .inl (.int, 40), .inl (.int, 40), .inl (.long, 16), .inl (.int, 16), .inl (.long, 42), .inr (1, [v_r 18, v_r 19, v_r 20]), .inl (.int, 4352), .inl (.int, 8), .inl (.int, 16), .inr (6, [v_r 22, v_r 23]), .inl (.int, 30), .inl (.int, 30), .inr (8, [v_i 0, v_i 0, v_r 25]), .inl (.int, 120), .inr (7, [v_i 0, v_r 27, v_r 28, v_r 29, v_r 30, v_r 31, v_r 32, v_r 33, v_r 34]), .inl (.int, 10), .inl (.int, 10), .inl (.int, 10), .inl (.boolean, 30), .inl (.int, 30), .inl (.int, 30), .inl (.int, 30), .inl (.int, 7), .inr (3, [v_i 0, v_r 36, v_r 37, v_r 38, v_r 39, v_i 0, v_r 40, v_r 41, v_r 42]), .inl (.int, 30), .inl (.int, 30), .inl (.int, 30), .inl (.int, 30), .inl (.int, 60), .inl (.int, 60), .inl (.int, 60), .inr (2, [v_i 0, v_i 0, v_r 44, v_r 45]), .inl (.int, 20), .inl (.int, 20), .inr (5, [v_r 47, v_r 48, v_r 49, v_i 0]), .inl (.int, 8), .inl (.int, 8), .inl (.int, 3), .inr (10, [v_r 51, v_r 52, v_r 53, v_r 54, v_r 55, v_r 56, v_r 57, v_r 58, v_r 59, v_r 60, v_i 0, v_i 0, v_r 61, v_r 62, v_r 63, v_n, v_i 0, v_n, v_n, v_n, v_n, v_n, v_i 0, v_l 0, v_n, v_n, v_n, v_n, v_n, v_i 0, v_i 0, v_i 0, v_n, v_n, v_n, v_n, v_i 0, v_n, v_n, v_n, v_n, v_n, v_n, v_n, v_i 0, v_i 0, v_n, v_n, v_i 0, v_i 0, v_n, v_n, v_n]), .inl (.int, 16), .inl (.int, 16), .inl (.int, 16), .inl (.int, 16), .inl (.boolean, 16), .inl (.boolean, 8), .inl (.int, 8), .inl (.int, 8), .inl (.int, 8), .inl (.int, 8), .inl (.int, 40), .inl (.int, 40), .inl (.int, 40)]
def la_126 : List mm_S := [.inr (9, [v_r 1, v_r 10, v_r 17, v_r 21, v_r 24, v_r 26, v_r 35, v_r 43, v_r 46, v_i 0]), .inr (0, [v_i 0, v_r 2, v_r 3, v_r 4, v_r 5, v_i 0, v_r 6, v_r 7, v_r 8, v_r 9]), .inl (.int, 16), .inl (.int, 16), .inl (.int, 16), .inl (.int, 16), .inl (.int, 8), .inl (.int, 8), .inl (.int, 8), .inl (.int, 8), .inr (4, [v_i 0, v_r 11, v_r 12, v_r 13, v_r 14, v_l 0, v_r 15, v_r 16]), .inl (.int, 40), .inl (.int, 40), .inl (.int, 40), .inl (.long, 16), .inl (.int, 16), .inl (.long, 42), .inr (1, [v_r 18, v_r 19, v_r 20]), .inl (.int, 4352), .inl (.int, 8), .inl (.int, 16), .inr (6, [v_r 22, v_r 23]), .inl (.int, 30), .inl (.int, 30), .inr (8, [v_i 0, v_i 0, v_r 25]), .inl (.int, 120), .inr (7, [v_i 0, v_r 27, v_r 28, v_r 29, v_r 30, v_r 31, v_r 32, v_r 33, v_r 34]), .inl (.int, 10), .inl (.int, 10), .inl (.int, 10), .inl (.boolean, 30), .inl (.int, 30), .inl (.int, 30), .inl (.int, 30), .inl (.int, 7), .inr (3, [v_i 0, v_r 36, v_r 37, v_r 38, v_r 39, v_i 0, v_r 40, v_r 41, v_r 42]), .inl (.int, 30), .inl (.int, 30), .inl (.int, 30), .inl (.int, 30), .inl (.int, 60), .inl (.int, 60), .inl (.int, 60), .inr (2, [v_i 0, v_i 0, v_r 44, v_r 45]), .inl (.int, 20), .inl (.int, 20), .inr (5, [v_r 47, v_r 48, v_r 49, v_i 0]), .inl (.int, 8), .inl (.int, 8), .inl (.int, 3), .inr (10, [v_r 51, v_r 52, v_r 53, v_r 54, v_r 55, v_r 56, v_r 57, v_r 58, v_r 59, v_r 60, v_i 0, v_i 0, v_r 61, v_r 62, v_r 63, v_n, v_i 0, v_n, v_n, v_n, v_n, v_n, v_i 0, v_l 0, v_n, v_n, v_n, v_n, v_n, v_i 0, v_i 0, v_i 0, v_n, v_n, v_n, v_n, v_i 0, v_n, v_n, v_n, v_n, v_n, v_n, v_n, v_i 0, v_i 0, v_n, v_n, v_i 0, v_i 0, v_n, v_n, v_n]), .inl (.int, 16), .inl (.int, 16), .inl (.int, 16), .inl (.int, 16), .inl (.boolean, 16), .inl (.boolean, 8), .inl (.int, 8), .inl (.int, 8), .inl (.int, 8), .inl (.int, 8), .inl (.int, 40), .inl (.int, 40), .inl (.int, 40), .inl (.int, 16)]
def la_127 : List mm_S := [.inr (9, [v_r 1, v_r 10, v_r 17, v_r 21, v_r 24, v_r 26, v_r 35, v_r 43, v_r 46, v_i 0]), .inr (0, [v_i 0, v_r 2, v_r 3, v_r 4, v_r 5, v_i 0, v_r 6, v_r 7, v_r 8, v_r 9]), .inl (.int, 16), .inl (.int, 16), .inl (.int, 16), .inl (.int, 16), .inl (.int, 8), .inl (.int, 8), .inl (.int, 8), .inl (.int, 8), .inr (4, [v_i 0, v_r 11, v_r 12, v_r 13, v_r 14, v_l 0, v_r 15, v_r 16]), .inl (.int, 40), .inl (.int, 40), .inl (.int, 40), .inl (.long, 16), .inl (.int, 16), .inl (.long, 42), .inr (1, [v_r 18, v_r 19, v_r 20]), .inl (.int, 4352), .inl (.int, 8), .inl (.int, 16), .inr (6, [v_r 22, v_r 23]), .inl (.int, 30), .inl (.int, 30), .inr (8, [v_i 0, v_i 0, v_r 25]), .inl (.int, 120), .inr (7, [v_i 0, v_r 27, v_r 28, v_r 29, v_r 30, v_r 31, v_r 32, v_r 33, v_r 34]), .inl (.int, 10), .inl (.int, 10), .inl (.int, 10), .inl (.boolean, 30), .inl (.int, 30), .inl (.int, 30), .inl (.int, 30), .inl (.int, 7), .inr (3, [v_i 0, v_r 36, v_r 37, v_r 38, v_r 39, v_i 0, v_r 40, v_r 41, v_r 42]), .inl (.int, 30), .inl (.int, 30), .inl (.int, 30), .inl (.int, 30), .inl (.int, 60), .inl (.int, 60), .inl (.int, 60), .inr (2, [v_i 0, v_i 0, v_r 44, v_r 45]), .inl (.int, 20), .inl (.int, 20), .inr (5, [v_r 47, v_r 48, v_r 49, v_i 0]), .inl (.int, 8), .inl (.int, 8), .inl (.int, 3), .inr (10, [v_r 51, v_r 52, v_r 53, v_r 54, v_r 55, v_r 56, v_r 57, v_r 58, v_r 59, v_r 60, v_i 0, v_i 0, v_r 61, v_r 62, v_r 63, v_r 64, v_i 0, v_n, v_n, v_n, v_n, v_n, v_i 0, v_l 0, v_n, v_n, v_n, v_n, v_n, v_i 0, v_i 0, v_i 0, v_n, v_n, v_n, v_n, v_i 0, v_n, v_n, v_n, v_n, v_n, v_n, v_n, v_i 0, v_i 0, v_n, v_n, v_i 0, v_i 0, v_n, v_n, v_n]), .inl (.int, 16), .inl (.int, 16), .inl (.int, 16), .inl (.int, 16), .inl (.boolean, 16), .inl (.boolean, 8), .inl (.int, 8), .inl (.int, 8), .inl (.int, 8), .inl (.int, 8), .inl (.int, 40), .inl (.int, 40), .inl (.int, 40), .inl (.int, 16)]
def la_128 : List mm_S := [.inr (9, [v_r 1, v_r 10, v_r 17, v_r 21, v_r 24, v_r 26, v_r 35, v_r 43, v_r 46, v_i 0]), .inr (0, [v_i 0, v_r 2, v_r 3, v_r 4, v_r 5, v_i 0, v_r 6, v_r 7, v_r 8, v_r 9]), .inl (.int, 16), .inl (.int, 16), .inl (.int, 16), .inl (.int, 16), .inl (.int, 8), .inl (.int, 8), .inl (.int, 8), .inl (.int, 8), .inr (4, [v_i 0, v_r 11, v_r 12, v_r 13, v_r 14, v_l 0, v_r 15, v_r 16]), .inl (.int, 40), .inl (.int, 40), .inl (.int, 40), .inl (.long, 16), .inl (.int, 16), .inl (.long, 42), .inr (1, [v_r 18, v_r 19, v_r 20]), .inl (.int, 4352), .inl (.int, 8), .inl (.int, 16), .inr (6, [v_r 22, v_r 23]), .inl (.int, 30), .inl (.int, 30), .inr (8, [v_i 0, v_i 0, v_r 25]), .inl (.int, 120), .inr (7, [v_i 0, v_r 27, v_r 28, v_r 29, v_r 30, v_r 31, v_r 32, v_r 33, v_r 34]), .inl (.int, 10), .inl (.int, 10), .inl (.int, 10), .inl (.boolean, 30), .inl (.int, 30), .inl (.int, 30), .inl (.int, 30), .inl (.int, 7), .inr (3, [v_i 0, v_r 36, v_r 37, v_r 38, v_r 39, v_i 0, v_r 40, v_r 41, v_r 42]), .inl (.int, 30), .inl (.int, 30), .inl (.int, 30), .inl (.int, 30), .inl (.int, 60), .inl (.int, 60), .inl (.int, 60), .inr (2, [v_i 0, v_i 0, v_r 44, v_r 45]), .inl (.int, 20), .inl (.int, 20), .inr (5, [v_r 47, v_r 48, v_r 49, v_i 0]), .inl (.int, 8), .inl (.int, 8), .inl (.int, 3), .inr (10, [v_r 51, v_r 52, v_r 53, v_r 54, v_r 55, v_r 56, v_r 57, v_r 58, v_r 59, v_r 60, v_i 0, v_i 0, v_r 61, v_r 62, v_r 63, v_r 64, v_i 0, v_n, v_n, v_n, v_n, v_n, v_i 0, v_l 0, v_n, v_n, v_n, v_n, v_n, v_i 0, v_i 0, v_i 0, v_n, v_n, v_n, v_n, v_i 0, v_n, v_n, v_n, v_n, v_n, v_n, v_n, v_i 0, v_i 0, v_n, v_n, v_i 0, v_i 0, v_n, v_n, v_n]), .inl (.int, 16), .inl (.int, 16), .inl (.int, 16), .inl (.int, 16), .inl (.boolean, 16), .inl (.boolean, 8), .inl (.int, 8), .inl (.int, 8), .inl (.int, 8), .inl (.int, 8), .inl (.int, 40), .inl (.int, 40), .inl (.int, 40), .inl (.int, 16), .inl (.int, 16)]
def la_129 : List mm_S := [.inr (9, [v_r 1, v_r 10, v_r 17, v_r 21, v_r 24, v_r 26, v_r 35, v_r 43, v_r 46, v_i 0]), .inr (0, [v_i 0, v_r 2, v_r 3, v_r 4, v_r 5, v_i 0, v_r 6, v_r 7, v_r 8, v_r 9]), .inl (.int, 16), .inl (.int, 16), .inl (.int, 16), .inl (.int, 16), .inl (.int, 8), .inl (.int, 8), .inl (.int, 8), .inl (.int, 8), .inr (4, [v_i 0, v_r 11, v_r 12, v_r 13, v_r 14, v_l 0, v_r 15, v_r 16]), .inl (.int, 40), .inl (.int, 40), .inl (.int, 40), .inl (.long, 16), .inl (.int, 16), .inl (.long, 42), .inr (1, [v_r 18, v_r 19, v_r 20]), .inl (.int, 4352), .inl (.int, 8), .inl (.int, 16), .inr (6, [v_r 22, v_r 23]), .inl (.int, 30), .inl (.int, 30), .inr (8, [v_i 0, v_i 0, v_r 25]), .inl (.int, 120), .inr (7, [v_i 0, v_r 27, v_r 28, v_r 29, v_r 30, v_r 31, v_r 32, v_r 33, v_r 34]), .inl (.int, 10), .inl (.int, 10), .inl (.int, 10), .inl (.boolean, 30), .inl (.int, 30), .inl (.int, 30), .inl (.int, 30), .inl (.int, 7), .inr (3, [v_i 0, v_r 36, v_r 37, v_r 38, v_r 39, v_i 0, v_r 40, v_r 41, v_r 42]), .inl (.int, 30), .inl (.int, 30), .inl (.int, 30), .inl (.int, 30), .inl (.int, 60), .inl (.int, 60), .inl (.int, 60), .inr (2, [v_i 0, v_i 0, v_r 44, v_r 45]), .inl (.int, 20), .inl (.int, 20), .inr (5, [v_r 47, v_r 48, v_r 49, v_i 0]), .inl (.int, 8), .inl (.int, 8), .inl (.int, 3), .inr (10, [v_r 51, v_r 52, v_r 53, v_r 54, v_r 55, v_r 56, v_r 57, v_r 58, v_r 59, v_r 60, v_i 0, v_i 0, v_r 61, v_r 62, v_r 63, v_r 64, v_i 0, v_r 65, v_n, v_n, v_n, v_n, v_i 0, v_l 0, v_n, v_n, v_n, v_n, v_n, v_i 0, v_i 0, v_i 0, v_n, v_n, v_n, v_n, v_i 0, v_n, v_n, v_n, v_n, v_n, v_n, v_n, v_i 0, v_i 0, v_n, v_n, v_i 0, v_i 0, v_n, v_n, v_n]), .inl (.int, 16), .inl (.int, 16), .inl (.int, 16), .inl (.int, 16), .inl (.boolean, 16), .inl (.boolean, 8), .inl (.int, 8), .inl (.int, 8), .inl (.int, 8), .inl (.int, 8), .inl (.int, 40), .inl (.int, 40), .inl (.int, 40), .inl (.int, 16), .inl (.int, 16)]
def la_130 : List mm_S := [.inr (9, [v_r 1, v_r 10, v_r 17, v_r 21, v_r 24, v_r 26, v_r 35, v_r 43, v_r 46, v_i 0]), .inr (0, [v_i 0, v_r 2, v_r 3, v_r 4, v_r 5, v_i 0, v_r 6, v_r 7, v_r 8, v_r 9]), .inl (.int, 16), .inl (.int, 16), .inl (.int, 16), .inl (.int, 16), .inl (.int, 8), .inl (.int, 8), .inl (.int, 8), .inl (.int, 8), .inr (4, [v_i 0, v_r 11, v_r 12, v_r 13, v_r 14, v_l 0, v_r 15, v_r 16]), .inl (.int, 40), .inl (.int, 40), .inl (.int, 40), .inl (.long, 16), .inl (.int, 16), .inl (.long, 42), .inr (1, [v_r 18, v_r 19, v_r 20]), .inl (.int, 4352), .inl (.int, 8), .inl (.int, 16), .inr (6, [v_r 22, v_r 23]), .inl (.int, 30), .inl (.int, 30), .inr (8, [v_i 0, v_i 0, v_r 25]), .inl (.int, 120), .inr (7, [v_i 0, v_r 27, v_r 28, v_r 29, v_r 30, v_r 31, v_r 32, v_r 33, v_r 34]), .inl (.int, 10), .inl (.int, 10), .inl (.int, 10), .inl (.boolean, 30), .inl (.int, 30), .inl (.int, 30), .inl (.int, 30), .inl (.int, 7), .inr (3, [v_i 0, v_r 36, v_r 37, v_r 38, v_r 39, v_i 0, v_r 40, v_r 41, v_r 42]), .inl (.int, 30), .inl (.int, 30), .inl (.int, 30), .inl (.int, 30), .inl (.int, 60), .inl (.int, 60), .inl (.int, 60), .inr (2, [v_i 0, v_i 0, v_r 44, v_r 45]), .inl (.int, 20), .inl (.int, 20), .inr (5, [v_r 47, v_r 48, v_r 49, v_i 0]), .inl (.int, 8), .inl (.int, 8), .inl (.int, 3), .inr (10, [v_r 51, v_r 52, v_r 53, v_r 54, v_r 55, v_r 56, v_r 57, v_r 58, v_r 59, v_r 60, v_i 0, v_i 0, v_r 61, v_r 62, v_r 63, v_r 64, v_i 0, v_r 65, v_n, v_n, v_n, v_n, v_i 0, v_l 0, v_n, v_n, v_n, v_n, v_n, v_i 0, v_i 0, v_i 0, v_n, v_n, v_n, v_n, v_i 0, v_n, v_n, v_n, v_n, v_n, v_n, v_n, v_i 0, v_i 0, v_n, v_n, v_i 0, v_i 0, v_n, v_n, v_n]), .inl (.int, 16), .inl (.int, 16), .inl (.int, 16), .inl (.int, 16), .inl (.boolean, 16), .inl (.boolean, 8), .inl (.int, 8), .inl (.int, 8), .inl (.int, 8), .inl (.int, 8), .inl (.int, 40), .inl (.int, 40), .inl (.int, 40), .inl (.int, 16), .inl (.int, 16), .inl (.long, 49)]
def la_131 : List mm_S := [.inr (9, [v_r 1, v_r 10, v_r 17, v_r 21, v_r 24, v_r 26, v_r 35, v_r 43, v_r 46, v_i 0]), .inr (0, [v_i 0, v_r 2, v_r 3, v_r 4, v_r 5, v_i 0, v_r 6, v_r 7, v_r 8, v_r 9]), .inl (.int, 16), .inl (.int, 16), .inl (.int, 16), .inl (.int, 16), .inl (.int, 8), .inl (.int, 8), .inl (.int, 8), .inl (.int, 8), .inr (4, [v_i 0, v_r 11, v_r 12, v_r 13, v_r 14, v_l 0, v_r 15, v_r 16]), .inl (.int, 40), .inl (.int, 40), .inl (.int, 40), .inl (.long, 16), .inl (.int, 16), .inl (.long, 42), .inr (1, [v_r 18, v_r 19, v_r 20]), .inl (.int, 4352), .inl (.int, 8), .inl (.int, 16), .inr (6, [v_r 22, v_r 23]), .inl (.int, 30), .inl (.int, 30), .inr (8, [v_i 0, v_i 0, v_r 25]), .inl (.int, 120), .inr (7, [v_i 0, v_r 27, v_r 28, v_r 29, v_r 30, v_r 31, v_r 32, v_r 33, v_r 34]), .inl (.int, 10), .inl (.int, 10), .inl (.int, 10), .inl (.boolean, 30), .inl (.int, 30), .inl (.int, 30), .inl (.int, 30), .inl (.int, 7), .inr (3, [v_i 0, v_r 36, v_r 37, v_r 38, v_r 39, v_i 0, v_r 40, v_r 41, v_r 42]), .inl (.int, 30), .inl (.int, 30), .inl (.int, 30), .inl (.int, 30), .inl (.int, 60), .inl (.int, 60), .inl (.int, 60), .inr (2, [v_i 0, v_i 0, v_r 44, v_r 45]), .inl (.int, 20), .inl (.int, 20), .inr (5, [v_r 47, v_r 48, v_r 49, v_i 0]), .inl (.int, 8), .inl (.int, 8), .inl (.int, 3), .inr (10, [v_r 51, v_r 52, v_r 53, v_r 54, v_r 55, v_r 56, v_r 57, v_r 58, v_r 59, v_r 60, v_i 0, v_i 0, v_r 61, v_r 62, v_r 63, v_r 64, v_i 0, v_r 65, v_r 66, v_n, v_n, v_n, v_i 0, v_l 0, v_n, v_n, v_n, v_n, v_n, v_i 0, v_i 0, v_i 0, v_n, v_n, v_n, v_n, v_i 0, v_n, v_n, v_n, v_n, v_n, v_n, v_n, v_i 0, v_i 0, v_n, v_n, v_i 0, v_i 0, v_n, v_n, v_n]), .inl (.int, 16), .inl (.int, 16), .inl (.int, 16), .inl (.int, 16), .inl (.boolean, 16), .inl (.boolean, 8), .inl (.int, 8), .inl (.int, 8), .inl (.int, 8), .inl (.int, 8), .inl (.int, 40), .inl (.int, 40), .inl (.int, 40), .inl (.int, 16), .inl (.int, 16), .inl (.long, 49)]
def la_132 : List mm_S := [.inr (9, [v_r 1, v_r 10, v_r 17, v_r 21, v_r 24, v_r 26, v_r 35, v_r 43, v_r 46, v_i 0]), .inr (0, [v_i 0, v_r 2, v_r 3, v_r 4, v_r 5, v_i 0, v_r 6, v_r 7, v_r 8, v_r 9]), .inl (.int, 16), .inl (.int, 16), .inl (.int, 16), .inl (.int, 16), .inl (.int, 8), .inl (.int, 8), .inl (.int, 8), .inl (.int, 8), .inr (4, [v_i 0, v_r 11, v_r 12, v_r 13, v_r 14, v_l 0, v_r 15, v_r 16]), .inl (.int, 40), .inl (.int, 40), .inl (.int, 40), .inl (.long, 16), .inl (.int, 16), .inl (.long, 42), .inr (1, [v_r 18, v_r 19, v_r 20]), .inl (.int, 4352), .inl (.int, 8), .inl (.int, 16), .inr (6, [v_r 22, v_r 23]), .inl (.int, 30), .inl (.int, 30), .inr (8, [v_i 0, v_i 0, v_r 25]), .inl (.int, 120), .inr (7, [v_i 0, v_r 27, v_r 28, v_r 29, v_r 30, v_r 31, v_r 32, v_r 33, v_r 34]), .inl (.int, 10), .inl (.int, 10), .inl (.int, 10), .inl (.boolean, 30), .inl (.int, 30), .inl (.int, 30), .inl (.int, 30), .inl (.int, 7), .inr (3, [v_i 0, v_r 36, v_r 37, v_r 38, v_r 39, v_i 0, v_r 40, v_r 41, v_r 42]), .inl (.int, 30), .inl (.int, 30), .inl (.int, 30), .inl (.int, 30), .inl (.int, 60), .inl (.int, 60), .inl (.int, 60), .inr (2, [v_i 0, v_i 0, v_r 44, v_r 45]), .inl (.int, 20), .inl (.int, 20), .inr (5, [v_r 47, v_r 48, v_r 49, v_i 0]), .inl (.int, 8), .inl (.int, 8), .inl (.int, 3), .inr (10, [v_r 51, v_r 52, v_r 53, v_r 54, v_r 55, v_r 56, v_r 57, v_r 58, v_r 59, v_r 60, v_i 0, v_i 0, v_r 61, v_r 62, v_r 63, v_r 64, v_i 0, v_r 65, v_r 66, v_n, v_n, v_n, v_i 0, v_l 0, v_n, v_n, v_n, v_n, v_n, v_i 0, v_i 0, v_i 0, v_n, v_n, v_n, v_n, v_i 0, v_n, v_n, v_n, v_n, v_n, v_n, v_n, v_i 0, v_i 0, v_n, v_n, v_i 0, v_i 0, v_n, v_n, v_n]), .inl (.int, 16), .inl (.int, 16), .inl (.int, 16), .inl (.int, 16), .inl (.boolean, 16), .inl (.boolean, 8), .inl (.int, 8), .inl (.int, 8), .inl (.int, 8), .inl (.int, 8), .inl (.int, 40), .inl (.int, 40), .inl (.int, 40), .inl (.int, 16), .inl (.int, 16), .inl (.long, 49), .inl (.long, 7)]
def la_133 : List mm_S := [.inr (9, [v_r 1, v_r 10, v_r 17, v_r 21, v_r 24, v_r 26, v_r 35, v_r 43, v_r 46, v_i 0]), .inr (0, [v_i 0, v_r 2, v_r 3, v_r 4, v_r 5, v_i 0, v_r 6, v_r 7, v_r 8, v_r 9]), .inl (.int, 16), .inl (.int, 16), .inl (.int, 16), .inl (.int, 16), .inl (.int, 8), .inl (.int, 8), .inl (.int, 8), .inl (.int, 8), .inr (4, [v_i 0, v_r 11, v_r 12, v_r 13, v_r 14, v_l 0, v_r 15, v_r 16]), .inl (.int, 40), .inl (.int, 40), .inl (.int, 40), .inl (.long, 16), .inl (.int, 16), .inl (.long, 42), .inr (1, [v_r 18, v_r 19, v_r 20]), .inl (.int, 4352), .inl (.int, 8), .inl (.int, 16), .inr (6, [v_r 22, v_r 23]), .inl (.int, 30), .inl (.int, 30), .inr (8, [v_i 0, v_i 0, v_r 25]), .inl (.int, 120), .inr (7, [v_i 0, v_r 27, v_r 28, v_r 29, v_r 30, v_r 31, v_r 32, v_r 33, v_r 34]), .inl (.int, 10), .inl (.int, 10), .inl (.int, 10), .inl (.boolean, 30), .inl (.int, 30), .inl (.int, 30), .inl (.int, 30), .inl (.int, 7), .inr (3, [v_i 0, v_r 36, v_r 37, v_r 38, v_r 39, v_i 0, v_r 40, v_r 41, v_r 42]), .inl (.int, 30), .inl (.int, 30), .inl (.int, 30), .inl (.int, 30), .inl (.int, 60), .inl (.int, 60), .inl (.int, 60), .inr (2, [v_i 0, v_i 0, v_r 44, v_r 45]), .inl (.int, 20), .inl (.int, 20), .inr (5, [v_r 47, v_r 48, v_r 49, v_i 0]), .inl (.int, 8), .inl (.int, 8), .inl (.int, 3), .inr (10, [v_r 51, v_r 52, v_r 53, v_r 54, v_r 55, v_r 56, v_r 57, v_r 58, v_r 59, v_r 60, v_i 0, v_i 0, v_r 61, v_r 62, v_r 63, v_r 64, v_i 0, v_r 65, v_r 66, v_r 67, v_n, v_n, v_i 0, v_l 0, v_n, v_n, v_n, v_n, v_n, v_i 0, v_i 0, v_i 0, v_n, v_n, v_n, v_n, v_i 0, v_n, v_n, v_n, v_n, v_n, v_n, v_n, v_i 0, v_i 0, v_n, v_n, v_i 0, v_i 0, v_n, v_n, v_n]), .inl (.int, 16), .inl (.int, 16), .inl (.int, 16), .inl (.int, 16), .inl (.boolean, 16), .inl (.boolean, 8), .inl (.int, 8), .inl (.int, 8), .inl (.int, 8), .inl (.int, 8), .inl (.int, 40), .inl (.int, 40), .inl (.int, 40), .inl (.int, 16), .inl (.int, 16), .inl (.long, 49), .inl (.long, 7)]
def la_134 : List mm_S := [.inr (9, [v_r 1, v_r 10, v_r 17, v_r 21, v_r 24, v_r 26, v_r 35, v_r 43, v_r 46, v_i 0]), .inr (0, [v_i 0, v_r 2, v_r 3, v_r 4, v_r 5, v_i 0, v_r 6, v_r 7, v_r 8, v_r 9]), .inl (.int, 16), .inl (.int, 16), .inl (.int, 16), .inl (.int, 16), .inl (.int, 8), .inl (.int, 8), .inl (.int, 8), .inl (.int, 8), .inr (4, [v_i 0, v_r 11, v_r 12, v_r 13, v_r 14, v_l 0, v_r 15, v_r 16]), .inl (.int, 40), .inl (.int, 40), .inl (.int, 40), .inl (.long, 16), .inl (.int, 16), .inl (.long, 42), .inr (1, [v_r 18, v_r 19, v_r 20]), .inl (.int, 4352), .inl (.int, 8), .inl (.int, 16), .inr (6, [v_r 22, v_r 23]), .inl (.int, 30), .inl (.int, 30), .inr (8, [v_i 0, v_i 0, v_r 25]), .inl (.int, 120), .inr (7, [v_i 0, v_r 27, v_r 28, v_r 29, v_r 30, v_r 31, v_r 32, v_r 33, v_r 34]), .inl (.int, 10), .inl (.int, 10), .inl (.int, 10), .inl (.boolean, 30), .inl (.int, 30), .inl (.int, 30), .inl (.int, 30), .inl (.int, 7), .inr (3, [v_i 0, v_r 36, v_r 37, v_r 38, v_r 39, v_i 0, v_r 40, v_r 41, v_r 42]), .inl (.int, 30), .inl (.int, 30), .inl (.int, 30), .inl (.int, 30), .inl (.int, 60), .inl (.int, 60), .inl (.int, 60), .inr (2, [v_i 0, v_i 0, v_r 44, v_r 45]), .inl (.int, 20), .inl (.int, 20), .inr (5, [v_r 47, v_r 48, v_r 49, v_i 0]), .inl (.int, 8), .inl (.int, 8), .inl (.int, 3), .inr (10, [v_r 51, v_r 52, v_r 53, v_r 54, v_r 55, v_r 56, v_r 57, v_r 58, v_r 59, v_r 60, v_i 0, v_i 0, v_r 61, v_r 62, v_r 63, v_r 64, v_i 0, v_r 65, v_r 66, v_r 67, v_n, v_n, v_i 0, v_l 0, v_n, v_n, v_n, v_n, v_n, v_i 0, v_i 0, v_i 0, v_n, v_n, v_n, v_n, v_i 0, v_n, v_n, v_n, v_n, v_n, v_n, v_n, v_i 0, v_i 0, v_n, v_n, v_i 0, v_i 0, v_n, v_n, v_n]), .inl (.int, 16), .inl (.int, 16), .inl (.int, 16), .inl (.int, 16), .inl (.boolean, 16), .inl (.boolean, 8), .inl (.int, 8), .inl (.int, 8), .inl (.int, 8), .inl (.int, 8), .inl (.int, 40), .inl (.int, 40), .inl (.int, 40), .inl (.int, 16), .inl (.int, 16), .inl (.long, 49), .inl (.long, 7), .inl (.long, 128)]
def la_135 : List mm_S := [.inr (9, [v_r 1, v_r 10, v_r 17, v_r 21, v_r 24, v_r 26, v_r 35, v_r 43, v_r 46, v_i 0]), .inr (0, [v_i 0, v_r 2, v_r 3, v_r 4, v_r 5, v_i 0, v_r 6, v_r 7, v_r 8, v_r 9]), .inl (.int, 16), .inl (.int, 16), .inl (.int, 16), .inl (.int, 16), .inl (.int, 8), .inl (.int, 8), .inl (.int, 8), .inl (.int, 8), .inr (4, [v_i 0, v_r 11, v_r 12, v_r 13, v_r 14, v_l 0, v_r 15, v_r 16]), .inl (.int, 40), .inl (.int, 40), .inl (.int, 40), .inl (.long, 16), .inl (.int, 16), .inl (.long, 42), .inr (1, [v_r 18, v_r 19, v_r 20]), .inl (.int, 4352), .inl (.int, 8), .inl (.int, 16), .inr (6, [v_r 22, v_r 23]), .inl (.int, 30), .inl (.int, 30), .inr (8, [v_i 0, v_i 0, v_r 25]), .inl (.int, 120), .inr (7, [v_i 0, v_r 27, v_r 28, v_r 29, v_r 30, v_r 31, v_r 32, v_r 33, v_r 34]), .inl (.int, 10), .inl (.int, 10), .inl (.int, 10), .inl (.boolean, 30), .inl (.int, 30), .inl (.int, 30), .inl (.int, 30), .inl (.int, 7), .inr (3, [v_i 0, v_r 36, v_r 37, v_r 38, v_r 39, v_i 0, v_r 40, v_r 41, v_r 42]), .inl (.int, 30), .inl (.int, 30), .inl (.int, 30), .inl (.int, 30), .inl (.int, 60), .inl (.int, 60), .inl (.int, 60), .inr (2, [v_i 0, v_i 0, v_r 44, v_r 45]), .inl (.int, 20), .inl (.int, 20), .inr (5, [v_r 47, v_r 48, v_r 49, v_i 0]), .inl (.int, 8), .inl (.int, 8), .inl (.int, 3), .inr (10, [v_r 51, v_r 52, v_r 53, v_r 54, v_r 55, v_r 56, v_r 57, v_r 58, v_r 59, v_r 60, v_i 0, v_i 0, v_r 61, v_r 62, v_r 63, v_r 64, v_i 0, v_r 65, v_r 66, v_r 67, v_r 68, v_n, v_i 0, v_l 0, v_n, v_n, v_n, v_n, v_n, v_i 0, v_i 0, v_i 0, v_n, v_n, v_n, v_n, v_i 0, v_n, v_n, v_n, v_n, v_n, v_n, v_n, v_i 0, v_i 0, v_n, v_n, v_i 0, v_i 0, v_n, v_n, v_n]), .inl (.int, 16), .inl (.int, 16), .inl (.int, 16), .inl (.int, 16), .inl (.boolean, 16), .inl (.boolean, 8), .inl (.int, 8), .inl (.int, 8), .inl (.int, 8), .inl (.int, 8), .inl (.int, 40), .inl (.int, 40), .inl (.int, 40), .inl (.int, 16), .inl (.int, 16), .inl (.long, 49), .inl (.long, 7), .inl (.long, 128)]
def la_136 : List mm_S := [.inr (9, [v_r 1, v_r 10, v_r 17, v_r 21, v_r 24, v_r 26, v_r 35, v_r 43, v_r 46, v_i 0]), .inr (0, [v_i 0, v_r 2, v_r 3, v_r 4, v_r 5, v_i 0, v_r 6, v_r 7, v_r 8, v_r 9]), .inl (.int, 16), .inl (.int, 16), .inl (.int, 16), .inl (.int, 16), .inl (.int, 8), .inl (.int, 8), .inl (.int, 8), .inl (.int, 8), .inr (4, [v_i 0, v_r 11, v_r 12, v_r 13, v_r 14, v_l 0, v_r 15, v_r 16]), .inl (.int, 40), .inl (.int, 40), .inl (.int, 40), .inl (.long, 16), .inl (.int, 16), .inl (.long, 42), .inr (1, [v_r 18, v_r 19, v_r 20]), .inl (.int, 4352), .inl (.int, 8), .inl (.int, 16), .inr (6, [v_r 22, v_r 23]), .inl (.int, 30), .inl (.int, 30), .inr (8, [v_i 0, v_i 0, v_r 25]), .inl (.int, 120), .inr (7, [v_i 0, v_r 27, v_r 28, v_r 29, v_r 30, v_r 31, v_r 32, v_r 33, v_r 34]), .inl (.int, 10), .inl (.int, 10), .inl (.int, 10), .inl (.boolean, 30), .inl (.int, 30), .inl (.int, 30), .inl (.int, 30), .inl (.int, 7), .inr (3, [v_i 0, v_r 36, v_r 37, v_r 38, v_r 39, v_i 0, v_r 40, v_r 41, v_r 42]), .inl (.int, 30), .inl (.int, 30), .inl (.int, 30), .inl (.int, 30), .inl (.int, 60), .inl (.int, 60), .inl (.int, 60), .inr (2, [v_i 0, v_i 0, v_r 44, v_r 45]), .inl (.int, 20), .inl (.int, 20), .inr (5, [v_r 47, v_r 48, v_r 49, v_i 0]), .inl (.int, 8), .inl (.int, 8), .inl (.int, 3), .inr (10, [v_r 51, v_r 52, v_r 53, v_r 54, v_r 55, v_r 56, v_r 57, v_r 58, v_r 59, v_r 60, v_i 0, v_i 0, v_r 61, v_r 62, v_r 63, v_r 64, v_i 0, v_r 65, v_r 66, v_r 67, v_r 68, v_n, v_i 0, v_l 0, v_n, v_n, v_n, v_n, v_n, v_i 0, v_i 0, v_i 0, v_n, v_n, v_n, v_n, v_i 0, v_n, v_n, v_n, v_n, v_n, v_n, v_n, v_i 0, v_i 0, v_n, v_n, v_i 0, v_i 0, v_n, v_n, v_n]), .inl (.int, 16), .inl (.int, 16), .inl (.int, 16), .inl (.int, 16), .inl (.boolean, 16), .inl (.boolean, 8), .inl (.int, 8), .inl (.int, 8), .inl (.int, 8), .inl (.int, 8), .inl (.int, 40), .inl (.int, 40), .inl (.int, 40), .inl (.int, 16), .inl (.int, 16), .inl (.long, 49), .inl (.long, 7), .inl (.long, 128), .inl (.long, 16)]
def la_137 : List mm_S := [.inr (9, [v_r 1, v_r 10, v_r 17, v_r 21, v_r 24, v_r 26, v_r 35, v_r 43, v_r 46, v_i 0]), .inr (0, [v_i 0, v_r 2, v_r 3, v_r 4, v_r 5, v_i 0, v_r 6, v_r 7, v_r 8, v_r 9]), .inl (.int, 16), .inl (.int, 16), .inl (.int, 16), .inl (.int, 16), .inl (.int, 8), .inl (.int, 8), .inl (.int, 8), .inl (.int, 8), .inr (4, [v_i 0, v_r 11, v_r 12, v_r 13, v_r 14, v_l 0, v_r 15, v_r 16]), .inl (.int, 40), .inl (.int, 40), .inl (.int, 40), .inl (.long, 16), .inl (.int, 16), .inl (.long, 42), .inr (1, [v_r 18, v_r 19, v_r 20]), .inl (.int, 4352), .inl (.int, 8), .inl (.int, 16), .inr (6, [v_r 22, v_r 23]), .inl (.int, 30), .inl (.int, 30), .inr (8, [v_i 0, v_i 0, v_r 25]), .inl (.int, 120), .inr (7, [v_i 0, v_r 27, v_r 28, v_r 29, v_r 30, v_r 31, v_r 32, v_r 33, v_r 34]), .inl (.int, 10), .inl (.int, 10), .inl (.int, 10), .inl (.boolean, 30), .inl (.int, 30), .inl (.int, 30), .inl (.int, 30), .inl (.int, 7), .inr (3, [v_i 0, v_r 36, v_r 37, v_r 38, v_r 39, v_i 0, v_r 40, v_r 41, v_r 42]), .inl (.int, 30), .inl (.int, 30), .inl (.int, 30), .inl (.int, 30), .inl (.int, 60), .inl (.int, 60), .inl (.int, 60), .inr (2, [v_i 0, v_i 0, v_r 44, v_r 45]), .inl (.int, 20), .inl (.int, 20), .inr (5, [v_r 47, v_r 48, v_r 49, v_i 0]), .inl (.int, 8), .inl (.int, 8), .inl (.int, 3), .inr (10, [v_r 51, v_r 52, v_r 53, v_r 54, v_r 55, v_r 56, v_r 57, v_r 58, v_r 59, v_r 60, v_i 0, v_i 0, v_r 61, v_r 62, v_r 63, v_r 64, v_i 0, v_r 65, v_r 66, v_r 67, v_r 68, v_r 69, v_i 0, v_l 0, v_n, v_n, v_n, v_n, v_n, v_i 0, v_i 0, v_i 0, v_n, v_n, v_n, v_n, v_i 0, v_n, v_n, v_n, v_n, v_n, v_n, v_n, v_i 0, v_i 0, v_n, v_n, v_i 0, v_i 0, v_n, v_n, v_n]), .inl (.int, 16), .inl (.int, 16), .inl (.int, 16), .inl (.int, 16), .inl (.boolean, 16), .inl (.boolean, 8), .inl (.int, 8), .inl (.int, 8), .inl (.int, 8), .inl (.int, 8), .inl (.int, 40), .inl (.int, 40), .inl (.int, 40), .inl (.int, 16), .inl (.int, 16), .inl (.long, 49), .inl (.long, 7), .inl (.long, 128), .inl (.long, 16)]
def la_138 : List mm_S := [.inr (9, [v_r 1, v_r 10, v_r 17, v_r 21, v_r 24, v_r 26, v_r 35, v_r 43, v_r 46, v_i 0]), .inr (0, [v_i 0, v_r 2, v_r 3, v_r 4, v_r 5, v_i 0, v_r 6, v_r 7, v_r 8, v_r 9]), .inl (.int, 16), .inl (.int, 16), .inl (.int, 16), .inl (.int, 16), .inl (.int, 8), .inl (.int, 8), .inl (.int, 8), .inl (.int, 8), .inr (4, [v_i 0, v_r 11, v_r 12, v_r 13, v_r 14, v_l 0, v_r 15, v_r 16]), .inl (.int, 40), .inl (.int, 40), .inl (.int, 40), .inl (.long, 16), .inl (.int, 16), .inl (.long, 42), .inr (1, [v_r 18, v_r 19, v_r 20]), .inl (.int, 4352), .inl (.int, 8), .inl (.int, 16), .inr (6, [v_r 22, v_r 23]), .inl (.int, 30), .inl (.int, 30), .inr (8, [v_i 0, v_i 0, v_r 25]), .inl (.int, 120), .inr (7, [v_i 0, v_r 27, v_r 28, v_r 29, v_r 30, v_r 31, v_r 32, v_r 33, v_r 34]), .inl (.int, 10), .inl (.int, 10), .inl (.int, 10), .inl (.boolean, 30), .inl (.int, 30), .inl (.int, 30), .inl (.int, 30), .inl (.int, 7), .inr (3, [v_i 0, v_r 36, v_r 37, v_r 38, v_r 39, v_i 0, v_r 40, v_r 41, v_r 42]), .inl (.int, 30), .inl (.int, 30), .inl (.int, 30), .inl (.int, 30), .inl (.int, 60), .inl (.int, 60), .inl (.int, 60), .inr (2, [v_i 0, v_i 0, v_r 44, v_r 45]), .inl (.int, 20), .inl (.int, 20), .inr (5, [v_r 47, v_r 48, v_r 49, v_i 0]), .inl (.int, 8), .inl (.int, 8), .inl (.int, 3), .inr (10, [v_r 51, v_r 52, v_r 53, v_r 54, v_r 55, v_r 56, v_r 57, v_r 58, v_r 59, v_r 60, v_i 0, v_i 0, v_r 61, v_r 62, v_r 63, v_r 64, v_i 0, v_r 65, v_r 66, v_r 67, v_r 68, v_r 69, v_i 0, v_l 0, v_n, v_n, v_n, v_n, v_n, v_i 0, v_i 0, v_i 0, v_n, v_n, v_n, v_n, v_i 0, v_n, v_n, v_n, v_n, v_n, v_n, v_n, v_i 0, v_i 0, v_n, v_n, v_i 0, v_i 0, v_n, v_n, v_n]), .inl (.int, 16), .inl (.int, 16), .inl (.int, 16), .inl (.int, 16), .inl (.boolean, 16), .inl (.boolean, 8), .inl (.int, 8), .inl (.int, 8), .inl (.int, 8), .inl (.int, 8), .inl (.int, 40), .inl (.int, 40), .inl (.int, 40), .inl (.int, 16), .inl (.int, 16), .inl (.long, 49), .inl (.long, 7), .inl (.long, 128), .inl (.long, 16), .inl (.int, 4352)]
def la_139 : List mm_S := [.inr (9, [v_r 1, v_r 10, v_r 17, v_r 21, v_r 24, v_r 26, v_r 35, v_r 43, v_r 46, v_i 0]), .inr (0, [v_i 0, v_r 2, v_r 3, v_r 4, v_r 5, v_i 0, v_r 6, v_r 7, v_r 8, v_r 9]), .inl (.int, 16), .inl (.int, 16), .inl (.int, 16), .inl (.int, 16), .inl (.int, 8), .inl (.int, 8), .inl (.int, 8), .inl (.int, 8), .inr (4, [v_i 0, v_r 11, v_r 12, v_r 13, v_r 14, v_l 0, v_r 15, v_r 16]), .inl (.int, 40), .inl (.int, 40), .inl (.int, 40), .inl (.long, 16), .inl (.int, 16), .inl (.long, 42), .inr (1, [v_r 18, v_r 19, v_r 20]), .inl (.int, 4352), .inl (.int, 8), .inl (.int, 16), .inr (6, [v_r 22, v_r 23]), .inl (.int, 30), .inl (.int, 30), .inr (8, [v_i 0, v_i 0, v_r 25]), .inl (.int, 120), .inr (7, [v_i 0, v_r 27, v_r 28, v_r 29, v_r 30, v_r 31, v_r 32, v_r 33, v_r 34]), .inl (.int, 10), .inl (.int, 10), .inl (.int, 10), .inl (.boolean, 30), .inl (.int, 30), .inl (.int, 30), .inl (.int, 30), .inl (.int, 7), .inr (3, [v_i 0, v_r 36, v_r 37, v_r 38, v_r 39, v_i 0, v_r 40, v_r 41, v_r 42]), .inl (.int, 30), .inl (.int, 30), .inl (.int, 30), .inl (.int, 30), .inl (.int, 60), .inl (.int, 60), .inl (.int, 60), .inr (2, [v_i 0, v_i 0, v_r 44, v_r 45]), .inl (.int, 20), .inl (.int, 20), .inr (5, [v_r 47, v_r 48, v_r 49, v_i 0]), .inl (.int, 8), .inl (.int, 8), .inl (.int, 3), .inr (10, [v_r 51, v_r 52, v_r 53, v_r 54, v_r 55, v_r 56, v_r 57, v_r 58, v_r 59, v_r 60, v_i 0, v_i 0, v_r 61, v_r 62, v_r 63, v_r 64, v_i 0, v_r 65, v_r 66, v_r 67, v_r 68, v_r 69, v_i 0, v_l 0, v_r 70, v_n, v_n, v_n, v_n, v_i 0, v_i 0, v_i 0, v_n, v_n, v_n, v_n, v_i 0, v_n, v_n, v_n, v_n, v_n, v_n, v_n, v_i 0, v_i 0, v_n, v_n, v_i 0, v_i 0, v_n, v_n, v_n]), .inl (.int, 16), .inl (.int, 16), .inl (.int, 16), .inl (.int, 16), .inl (.boolean, 16), .inl (.boolean, 8), .inl (.int, 8), .inl (.int, 8), .inl (.int, 8), .inl (.int, 8), .inl (.int, 40), .inl (.int, 40), .inl (.int, 40), .inl (.int, 16), .inl (.int, 16), .inl (.long, 49), .inl (.long, 7), .inl (.long, 128), .inl (.long, 16), .inl (.int, 4352)]
def la_140 : List mm_S := [.inr (9, [v_r 1, v_r 10, v_r 17, v_r 21, v_r 24, v_r 26, v_r 35, v_r 43, v_r 46, v_i 0]), .inr (0, [v_i 0, v_r 2, v_r 3, v_r 4, v_r 5, v_i 0, v_r 6, v_r 7, v_r 8, v_r 9]), .inl (.int, 16), .inl (.int, 16), .inl (.int, 16), .inl (.int, 16), .inl (.int, 8), .inl (.int, 8), .inl (.int, 8), .inl (.int, 8), .inr (4, [v_i 0, v_r 11, v_r 12, v_r 13, v_r 14, v_l 0, v_r 15, v_r 16]), .inl (.int, 40), .inl (.int, 40), .inl (.int, 40), .inl (.long, 16), .inl (.int, 16), .inl (.long, 42), .inr (1, [v_r 18, v_r 19, v_r 20]), .inl (.int, 4352), .inl (.int, 8), .inl (.int, 16), .inr (6, [v_r 22, v_r 23]), .inl (.int, 30), .inl (.int, 30), .inr (8, [v_i 0, v_i 0, v_r 25]), .inl (.int, 120), .inr (7, [v_i 0, v_r 27, v_r 28, v_r 29, v_r 30, v_r 31, v_r 32, v_r 33, v_r 34]), .inl (.int, 10), .inl (.int, 10), .inl (.int, 10), .inl (.boolean, 30), .inl (.int, 30), .inl (.int, 30), .inl (.int, 30), .inl (.int, 7), .inr (3, [v_i 0, v_r 36, v_r 37, v_r 38, v_r 39, v_i 0, v_r 40, v_r 41, v_r 42]), .inl (.int, 30), .inl (.int, 30), .inl (.int, 30), .inl (.int, 30), .inl (.int, 60), .inl (.int, 60), .inl (.int, 60), .inr (2, [v_i 0, v_i 0, v_r 44, v_r 45]), .inl (.int, 20), .inl (.int, 20), .inr (5, [v_r 47, v_r 48, v_r 49, v_i 0]), .inl (.int, 8), .inl (.int, 8), .inl (.int, 3), .inr (10, [v_r 51, v_r 52, v_r 53, v_r 54, v_r 55, v_r 56, v_r 57, v_r 58, v_r 59, v_r 60, v_i 0, v_i 0, v_r 61, v_r 62, v_r 63, v_r 64, v_i 0, v_r 65, v_r 66, v_r 67, v_r 68, v_r 69, v_i 0, v_l 0, v_r 70, v_n, v_n, v_n, v_n, v_i 0, v_i 0, v_i 0, v_n, v_n, v_n, v_n, v_i 0, v_n, v_n, v_n, v_n, v_n, v_n, v_n, v_i 0, v_i 0, v_n, v_n, v_i 0, v_i 0, v_n, v_n, v_n]), .inl (.int, 16), .inl (.int, 16), .inl (.int, 16), .inl (.int, 16), .inl (.boolean, 16), .inl (.boolean, 8), .inl (.int, 8), .inl (.int, 8), .inl (.int, 8), .inl (.int, 8), .inl (.int, 40), .inl (.int, 40), .inl (.int, 40), .inl (.int, 16), .inl (.int, 16), .inl (.long, 49), .inl (.long, 7), .inl (.long, 128), .inl (.long, 16), .inl (.int, 4352), .inl (.int, 16)]
def la_141 : List mm_S := [.inr (9, [v_r 1, v_r 10, v_r 17, v_r 21, v_r 24, v_r 26, v_r 35, v_r 43, v_r 46, v_i 0]), .inr (0, [v_i 0, v_r 2, v_r 3, v_r 4, v_r 5, v_i 0, v_r 6, v_r 7, v_r 8, v_r 9]), .inl (.int, 16), .inl (.int, 16), .inl (.int, 16), .inl (.int, 16), .inl (.int, 8), .inl (.int, 8), .inl (.int, 8), .inl (.int, 8), .inr (4, [v_i 0, v_r 11, v_r 12, v_r 13, v_r 14, v_l 0, v_r 15, v_r 16]), .inl (.int, 40), .inl (.int, 40), .inl (.int, 40), .inl (.long, 16), .inl (.int, 16), .inl (.long, 42), .inr (1, [v_r 18, v_r 19, v_r 20]), .inl (.int, 4352), .inl (.int, 8), .inl (.int, 16), .inr (6, [v_r 22, v_r 23]), .inl (.int, 30), .inl (.int, 30), .inr (8, [v_i 0, v_i 0, v_r 25]), .inl (.int, 120), .inr (7, [v_i 0, v_r 27, v_r 28, v_r 29, v_r 30, v_r 31, v_r 32, v_r 33, v_r 34]), .inl (.int, 10), .inl (.int, 10), .inl (.int, 10), .inl (.boolean, 30), .inl (.int, 30), .inl (.int, 30), .inl (.int, 30), .inl (.int, 7), .inr (3, [v_i 0, v_r 36, v_r 37, v_r 38, v_r 39, v_i 0, v_r 40, v_r 41, v_r 42]), .inl (.int, 30), .inl (.int, 30), .inl (.int, 30), .inl (.int, 30), .inl (.int, 60), .inl (.int, 60), .inl (.int, 60), .inr (2, [v_i 0, v_i 0, v_r 44, v_r 45]), .inl (.int, 20), .inl (.int, 20), .inr (5, [v_r 47, v_r 48, v_r 49, v_i 0]), .inl (.int, 8), .inl (.int, 8), .inl (.int, 3), .inr (10, [v_r 51, v_r 52, v_r 53, v_r 54, v_r 55, v_r 56, v_r 57, v_r 58, v_r 59, v_r 60, v_i 0, v_i 0, v_r 61, v_r 62, v_r 63, v_r 64, v_i 0, v_r 65, v_r 66, v_r 67, v_r 68, v_r 69, v_i 0, v_l 0, v_r 70, v_r 71, v_n, v_n, v_n, v_i 0, v_i 0, v_i 0, v_n, v_n, v_n, v_n, v_i 0, v_n, v_n, v_n, v_n, v_n, v_n, v_n, v_i 0, v_i 0, v_n, v_n, v_i 0, v_i 0, v_n, v_n, v_n]), .inl (.int, 16), .inl (.int, 16), .inl (.int, 16), .inl (.int, 16), .inl (.boolean, 16), .inl (.boolean, 8), .inl (.int, 8), .inl (.int, 8), .inl (.int, 8), .inl (.int, 8), .inl (.int, 40), .inl (.int, 40), .inl (.int, 40), .inl (.int, 16), .inl (.int, 16), .inl (.long, 49), .inl (.long, 7), .inl (.long, 128), .inl (.long, 16), .inl (.int, 4352), .inl (.int, 16)]
def la_142 : List mm_S := [.inr (9, [v_r 1, v_r 10, v_r 17, v_r 21, v_r 24, v_r 26, v_r 35, v_r 43, v_r 46, v_i 0]), .inr (0, [v_i 0, v_r 2, v_r 3, v_r 4, v_r 5, v_i 0, v_r 6, v_r 7, v_r 8, v_r 9]), .inl (.int, 16), .inl (.int, 16), .inl (.int, 16), .inl (.int, 16), .inl (.int, 8), .inl (.int, 8), .inl (.int, 8), .inl (.int, 8), .inr (4, [v_i 0, v_r 11, v_r 12, v_r 13, v_r 14, v_l 0, v_r 15, v_r 16]), .inl (.int, 40), .inl (.int, 40), .inl (.int, 40), .inl (.long, 16), .inl (.int, 16), .inl (.long, 42), .inr (1, [v_r 18, v_r 19, v_r 20]), .inl (.int, 4352), .inl (.int, 8), .inl (.int, 16), .inr (6, [v_r 22, v_r 23]), .inl (.int, 30), .inl (.int, 30), .inr (8, [v_i 0, v_i 0, v_r 25]), .inl (.int, 120), .inr (7, [v_i 0, v_r 27, v_r 28, v_r 29, v_r 30, v_r 31, v_r 32, v_r 33, v_r 34]), .inl (.int, 10), .inl (.int, 10), .inl (.int, 10), .inl (.boolean, 30), .inl (.int, 30), .inl (.int, 30), .inl (.int, 30), .inl (.int, 7), .inr (3, [v_i 0, v_r 36, v_r 37, v_r 38, v_r 39, v_i 0, v_r 40, v_r 41, v_r 42]), .inl (.int, 30), .inl (.int, 30), .inl (.int, 30), .inl (.int, 30), .inl (.int, 60), .inl (.int, 60), .inl (.int, 60), .inr (2, [v_i 0, v_i 0, v_r 44, v_r 45]), .inl (.int, 20), .inl (.int, 20), .inr (5, [v_r 47, v_r 48, v_r 49, v_i 0]), .inl (.int, 8), .inl (.int, 8), .inl (.int, 3), .inr (10, [v_r 51, v_r 52, v_r 53, v_r 54, v_r 55, v_r 56, v_r 57, v_r 58, v_r 59, v_r 60, v_i 0, v_i 0, v_r 61, v_r 62, v_r 63, v_r 64, v_i 0, v_r 65, v_r 66, v_r 67, v_r 68, v_r 69, v_i 0, v_l 0, v_r 70, v_r 71, v_n, v_n, v_n, v_i 0, v_i 0, v_i 0, v_n, v_n, v_n, v_n, v_i 0, v_n, v_n, v_n, v_n, v_n, v_n, v_n, v_i 0, v_i 0, v_n, v_n, v_i 0, v_i 0, v_n, v_n, v_n]), .inl (.int, 16), .inl (.int, 16), .inl (.int, 16), .inl (.int, 16), .inl (.boolean, 16), .inl (.boolean, 8), .inl (.int, 8), .inl (.int, 8), .inl (.int, 8), .inl (.int, 8), .inl (.int, 40), .inl (.int, 40), .inl (.int, 40), .inl (.int, 16), .inl (.int, 16), .inl (.long, 49), .inl (.long, 7), .inl (.long, 128), .inl (.long, 16), .inl (.int, 4352), .inl (.int, 16), .inl (.int, 30)]
def la_143 : List mm_S := [.inr (9, [v_r 1, v_r 10, v_r 17, v_r 21, v_r 24, v_r 26, v_r 35, v_r 43, v_r 46, v_i 0]), .inr (0, [v_i 0, v_r 2, v_r 3, v_r 4, v_r 5, v_i 0, v_r 6, v_r 7, v_r 8, v_r 9]), .inl (.int, 16), .inl (.int, 16), .inl (.int, 16), .inl (.int, 16), .inl (.int, 8), .inl (.int, 8), .inl (.int, 8), .inl (.int, 8), .inr (4, [v_i 0, v_r 11, v_r 12, v_r 13, v_r 14, v_l 0, v_r 15, v_r 16]), .inl (.int, 40), .inl (.int, 40), .inl (.int, 40), .inl (.long, 16), .inl (.int, 16), .inl (.long, 42), .inr (1, [v_r 18, v_r 19, v_r 20]), .inl (.int, 4352), .inl (.int, 8), .inl (.int, 16), .inr (6, [v_r 22, v_r 23]), .inl (.int, 30), .inl (.int, 30), .inr (8, [v_i 0, v_i 0, v_r 25]), .inl (.int, 120), .inr (7, [v_i 0, v_r 27, v_r 28, v_r 29, v_r 30, v_r 31, v_r 32, v_r 33, v_r 34]), .inl (.int, 10), .inl (.int, 10), .inl (.int, 10), .inl (.boolean, 30), .inl (.int, 30), .inl (.int, 30), .inl (.int, 30), .inl (.int, 7), .inr (3, [v_i 0, v_r 36, v_r 37, v_r 38, v_r 39, v_i 0, v_r 40, v_r 41, v_r 42]), .inl (.int, 30), .inl (.int, 30), .inl (.int, 30), .inl (.int, 30), .inl (.int, 60), .inl (.int, 60), .inl (.int, 60), .inr (2, [v_i 0, v_i 0, v_r 44, v_r 45]), .inl (.int, 20), .inl (.int, 20), .inr (5, [v_r 47, v_r 48, v_r 49, v_i 0]), .inl (.int, 8), .inl (.int, 8), .inl (.int, 3), .inr (10, [v_r 51, v_r 52, v_r 53, v_r 54, v_r 55, v_r 56, v_r 57, v_r 58, v_r 59, v_r 60, v_i 0, v_i 0, v_r 61, v_r 62, v_r 63, v_r 64, v_i 0, v_r 65, v_r 66, v_r 67, v_r 68, v_r 69, v_i 0, v_l 0, v_r 70, v_r 71, v_r 72, v_n, v_n, v_i 0, v_i 0, v_i 0, v_n, v_n, v_n, v_n, v_i 0, v_n, v_n, v_n, v_n, v_n, v_n, v_n, v_i 0, v_i 0, v_n, v_n, v_i 0, v_i 0, v_n, v_n, v_n]), .inl (.int, 16), .inl (.int, 16), .inl (.int, 16), .inl (.int, 16), .inl (.boolean, 16), .inl (.boolean, 8), .inl (.int, 8), .inl (.int, 8), .inl (.int, 8), .inl (.int, 8), .inl (.int, 40), .inl (.int, 40), .inl (.int, 40), .inl (.int, 16), .inl (.int, 16), .inl (.long, 49), .inl (.long, 7), .inl (.long, 128), .inl (.long, 16), .inl (.int, 4352), .inl (.int, 16), .inl (.int, 30)]
def la_144 : List mm_S := [.inr (9, [v_r 1, v_r 10, v_r 17, v_r 21, v_r 24, v_r 26, v_r 35, v_r 43, v_r 46, v_i 0]), .inr (0, [v_i 0, v_r 2, v_r 3, v_r 4, v_r 5, v_i 0, v_r 6, v_r 7, v_r 8, v_r 9]), .inl (.int, 16), .inl (.int, 16), .inl (.int, 16), .inl (.int, 16), .inl (.int, 8), .inl (.int, 8), .inl (.int, 8), .inl (.int, 8), .inr (4, [v_i 0, v_r 11, v_r 12, v_r 13, v_r 14, v_l 0, v_r 15, v_r 16]), .inl (.int, 40), .inl (.int, 40), .inl (.int, 40), .inl (.long, 16), .inl (.int, 16), .inl (.long, 42), .inr (1, [v_r 18, v_r 19, v_r 20]), .inl (.int, 4352), .inl (.int, 8), .inl (.int, 16), .inr (6, [v_r 22, v_r 23]), .inl (.int, 30), .inl (.int, 30), .inr (8, [v_i 0, v_i 0, v_r 25]), .inl (.int, 120), .inr (7, [v_i 0, v_r 27, v_r 28, v_r 29, v_r 30, v_r 31, v_r 32, v_r 33, v_r 34]), .inl (.int, 10), .inl (.int, 10), .inl (.int, 10), .inl (.boolean, 30), .inl (.int, 30), .inl (.int, 30), .inl (.int, 30), .inl (.int, 7), .inr (3, [v_i 0, v_r 36, v_r 37, v_r 38, v_r 39, v_i 0, v_r 40, v_r 41, v_r 42]), .inl (.int, 30), .inl (.int, 30), .inl (.int, 30), .inl (.int, 30), .inl (.int, 60), .inl (.int, 60), .inl (.int, 60), .inr (2, [v_i 0, v_i 0, v_r 44, v_r 45]), .inl (.int, 20), .inl (.int, 20), .inr (5, [v_r 47, v_r 48, v_r 49, v_i 0]), .inl (.int, 8), .inl (.int, 8), .inl (.int, 3), .inr (10, [v_r 51, v_r 52, v_r 53, v_r 54, v_r 55, v_r 56, v_r 57, v_r 58, v_r 59, v_r 60, v_i 0, v_i 0, v_r 61, v_r 62, v_r 63, v_r 64, v_i 0, v_r 65, v_r 66, v_r 67, v_r 68, v_r 69, v_i 0, v_l 0, v_r 70, v_r 71, v_r 72, v_n, v_n, v_i 0, v_i 0, v_i 0, v_n, v_n, v_n, v_n, v_i 0, v_n, v_n, v_n, v_n, v_n, v_n, v_n, v_i 0, v_i 0, v_n, v_n, v_i 0, v_i 0, v_n, v_n, v_n]), .inl (.int, 16), .inl (.int, 16), .inl (.int, 16), .inl (.int, 16), .inl (.boolean, 16), .inl (.boolean, 8), .inl (.int, 8), .inl (.int, 8), .inl (.int, 8), .inl (.int, 8), .inl (.int, 40), .inl (.int, 40), .inl (.int, 40), .inl (.int, 16), .inl (.int, 16), .inl (.long, 49), .inl (.long, 7), .inl (.long, 128), .inl (.long, 16), .inl (.int, 4352), .inl (.int, 16), .inl (.int, 30), .inl (.int, 30)]
def la_145 : List mm_S := [.inr (9, [v_r 1, v_r 10, v_r 17, v_r 21, v_r 24, v_r 26, v_r 35, v_r 43, v_r 46, v_i 0]), .inr (0, [v_i 0, v_r 2, v_r 3, v_r 4, v_r 5, v_i 0, v_r 6, v_r 7, v_r 8, v_r 9]), .inl (.int, 16), .inl (.int, 16), .inl (.int, 16), .inl (.int, 16), .inl (.int, 8), .inl (.int, 8), .inl (.int, 8), .inl (.int, 8), .inr (4, [v_i 0, v_r 11, v_r 12, v_r 13, v_r 14, v_l 0, v_r 15, v_r 16]), .inl (.int, 40), .inl (.int, 40), .inl (.int, 40), .inl (.long, 16), .inl (.int, 16), .inl (.long, 42), .inr (1, [v_r 18, v_r 19, v_r 20]), .inl (.int, 4352), .inl (.int, 8), .inl (.int, 16), .inr (6, [v_r 22, v_r 23]), .inl (.int, 30), .inl (.int, 30), .inr (8, [v_i 0, v_i 0, v_r 25]), .inl (.int, 120), .inr (7, [v_i 0, v_r 27, v_r 28, v_r 29, v_r 30, v_r 31, v_r 32, v_r 33, v_r 34]), .inl (.int, 10), .inl (.int, 10), .inl (.int, 10), .inl (.boolean, 30), .inl (.int, 30), .inl (.int, 30), .inl (.int, 30), .inl (.int, 7), .inr (3, [v_i 0, v_r 36, v_r 37, v_r 38, v_r 39, v_i 0, v_r 40, v_r 41, v_r 42]), .inl (.int, 30), .inl (.int, 30), .inl (.int, 30), .inl (.int, 30), .inl (.int, 60), .inl (.int, 60), .inl (.int, 60), .inr (2, [v_i 0, v_i 0, v_r 44, v_r 45]), .inl (.int, 20), .inl (.int, 20), .inr (5, [v_r 47, v_r 48, v_r 49, v_i 0]), .inl (.int, 8), .inl (.int, 8), .inl (.int, 3), .inr (10, [v_r 51, v_r 52, v_r 53, v_r 54, v_r 55, v_r 56, v_r 57, v_r 58, v_r 59, v_r 60, v_i 0, v_i 0, v_r 61, v_r 62, v_r 63, v_r 64, v_i 0, v_r 65, v_r 66, v_r 67, v_r 68, v_r 69, v_i 0, v_l 0, v_r 70, v_r 71, v_r 72, v_r 73, v_n, v_i 0, v_i 0, v_i 0, v_n, v_n, v_n, v_n, v_i 0, v_n, v_n, v_n, v_n, v_n, v_n, v_n, v_i 0, v_i 0, v_n, v_n, v_i 0, v_i 0, v_n, v_n, v_n]), .inl (.int, 16), .inl (.int, 16), .inl (.int, 16), .inl (.int, 16), .inl (.boolean, 16), .inl (.boolean, 8), .inl (.int, 8), .inl (.int, 8), .inl (.int, 8), .inl (.int, 8), .inl (.int, 40), .inl (.int, 40), .inl (.int, 40), .inl (.int, 16), .inl (.int, 16), .inl (.long, 49), .inl (.long, 7), .inl (.long, 128), .inl (.long, 16), .inl (.int, 4352), .inl (.int, 16), .inl (.int, 30), .inl (.int, 30)]
def la_146 : List mm_S := [.inr (9, [v_r 1, v_r 10, v_r 17, v_r 21, v_r 24, v_r 26, v_r 35, v_r 43, v_r 46, v_i 0]), .inr (0, [v_i 0, v_r 2, v_r 3, v_r 4, v_r 5, v_i 0, v_r 6, v_r 7, v_r 8, v_r 9]), .inl (.int, 16), .inl (.int, 16), .inl (.int, 16), .inl (.int, 16), .inl (.int, 8), .inl (.int, 8), .inl (.int, 8), .inl (.int, 8), .inr (4, [v_i 0, v_r 11, v_r 12, v_r 13, v_r 14, v_l 0, v_r 15, v_r 16]), .inl (.int, 40), .inl (.int, 40), .inl (.int, 40), .inl (.long, 16), .inl (.int, 16), .inl (.long, 42), .inr (1, [v_r 18, v_r 19, v_r 20]), .inl (.int, 4352), .inl (.int, 8), .inl (.int, 16), .inr (6, [v_r 22, v_r 23]), .inl (.int, 30), .inl (.int, 30), .inr (8, [v_i 0, v_i 0, v_r 25]), .inl (.int, 120), .inr (7, [v_i 0, v_r 27, v_r 28, v_r 29, v_r 30, v_r 31, v_r 32, v_r 33, v_r 34]), .inl (.int, 10), .inl (.int, 10), .inl (.int, 10), .inl (.boolean, 30), .inl (.int, 30), .inl (.int, 30), .inl (.int, 30), .inl (.int, 7), .inr (3, [v_i 0, v_r 36, v_r 37, v_r 38, v_r 39, v_i 0, v_r 40, v_r 41, v_r 42]), .inl (.int, 30), .inl (.int, 30), .inl (.int, 30), .inl (.int, 30), .inl (.int, 60), .inl (.int, 60), .inl (.int, 60), .inr (2, [v_i 0, v_i 0, v_r 44, v_r 45]), .inl (.int, 20), .inl (.int, 20), .inr (5, [v_r 47, v_r 48, v_r 49, v_i 0]), .inl (.int, 8), .inl (.int, 8), .inl (.int, 3), .inr (10, [v_r 51, v_r 52, v_r 53, v_r 54, v_r 55, v_r 56, v_r 57, v_r 58, v_r 59, v_r 60, v_i 0, v_i 0, v_r 61, v_r 62, v_r 63, v_r 64, v_i 0, v_r 65, v_r 66, v_r 67, v_r 68, v_r 69, v_i 0, v_l 0, v_r 70, v_r 71, v_r 72, v_r 73, v_n, v_i 0, v_i 0, v_i 0, v_n, v_n, v_n, v_n, v_i 0, v_n, v_n, v_n, v_n, v_n, v_n, v_n, v_i 0, v_i 0, v_n, v_n, v_i 0, v_i 0, v_n, v_n, v_n]), .inl (.int, 16), .inl (.int, 16), .inl (.int, 16), .inl (.int, 16), .inl (.boolean, 16), .inl (.boolean, 8), .inl (.int, 8), .inl (.int, 8), .inl (.int, 8), .inl (.int, 8), .inl (.int, 40), .inl (.int, 40), .inl (.int, 40), .inl (.int, 16), .inl (.int, 16), .inl (.long, 49), .inl (.long, 7), .inl (.long, 128), .inl (.long, 16), .inl (.int, 4352), .inl (.int, 16), .inl (.int, 30), .inl (.int, 30), .inl (.int, 120)]
def la_147 : List mm_S := [.inr (9, [v_r 1, v_r 10, v_r 17, v_r 21, v_r 24, v_r 26, v_r 35, v_r 43, v_r 46, v_i 0]), .inr (0, [v_i 0, v_r 2, v_r 3, v_r 4, v_r 5, v_i 0, v_r 6, v_r 7, v_r 8, v_r 9]), .inl (.int, 16), .inl (.int, 16), .inl (.int, 16), .inl (.int, 16), .inl (.int, 8), .inl (.int, 8), .inl (.int, 8), .inl (.int, 8), .inr (4, [v_i 0, v_r 11, v_r 12, v_r 13, v_r 14, v_l 0, v_r 15, v_r 16]), .inl (.int, 40), .inl (.int, 40), .inl (.int, 40), .inl (.long, 16), .inl (.int, 16), .inl (.long, 42), .inr (1, [v_r 18, v_r 19, v_r 20]), .inl (.int, 4352), .inl (.int, 8), .inl (.int, 16), .inr (6, [v_r 22, v_r 23]), .inl (.int, 30), .inl (.int, 30), .inr (8, [v_i 0, v_i 0, v_r 25]), .inl (.int, 120), .inr (7, [v_i 0, v_r 27, v_r 28, v_r 29, v_r 30, v_r 31, v_r 32, v_r 33, v_r 34]), .inl (.int, 10), .inl (.int, 10), .inl (.int, 10), .inl (.boolean, 30), .inl (.int, 30), .inl (.int, 30), .inl (.int, 30), .inl (.int, 7), .inr (3, [v_i 0, v_r 36, v_r 37, v_r 38, v_r 39, v_i 0, v_r 40, v_r 41, v_r 42]), .inl (.int, 30), .inl (.int, 30), .inl (.int, 30), .inl (.int, 30), .inl (.int, 60), .inl (.int, 60), .inl (.int, 60), .inr (2, [v_i 0, v_i 0, v_r 44, v_r 45]), .inl (.int, 20), .inl (.int, 20), .inr (5, [v_r 47, v_r 48, v_r 49, v_i 0]), .inl (.int, 8), .inl (.int, 8), .inl (.int, 3), .inr (10, [v_r 51, v_r 52, v_r 53, v_r 54, v_r 55, v_r 56, v_r 57, v_r 58, v_r 59, v_r 60, v_i 0, v_i 0, v_r 61, v_r 62, v_r 63, v_r 64, v_i 0, v_r 65, v_r 66, v_r 67, v_r 68, v_r 69, v_i 0, v_l 0, v_r 70, v_r 71, v_r 72, v_r 73, v_r 74, v_i 0, v_i 0, v_i 0, v_n, v_n, v_n, v_n, v_i 0, v_n, v_n, v_n, v_n, v_n, v_n, v_n, v_i 0, v_i 0, v_n, v_n, v_i 0, v_i 0, v_n, v_n, v_n]), .inl (.int, 16), .inl (.int, 16), .inl (.int, 16), .inl (.int, 16), .inl (.boolean, 16), .inl (.boolean, 8), .inl (.int, 8), .inl (.int, 8), .inl (.int, 8), .inl (.int, 8), .inl (.int, 40), .inl (.int, 40), .inl (.int, 40), .inl (.int, 16), .inl (.int, 16), .inl (.long, 49), .inl (.long, 7), .inl (.long, 128), .inl (.long, 16), .inl (.int, 4352), .inl (.int, 16), .inl (.int, 30), .inl (.int, 30), .inl (.int, 120)]
def la_148 : List mm_S := [.inr (9, [v_r 1, v_r 10, v_r 17, v_r 21, v_r 24, v_r 26, v_r 35, v_r 43, v_r 46, v_i 0]), .inr (0, [v_i 0, v_r 2, v_r 3, v_r 4, v_r 5, v_i 0, v_r 6, v_r 7, v_r 8, v_r 9]), .inl (.int, 16), .inl (.int, 16), .inl (.int, 16), .inl (.int, 16), .inl (.int, 8), .inl (.int, 8), .inl (.int, 8), .inl (.int, 8), .inr (4, [v_i 0, v_r 11, v_r 12, v_r 13, v_r 14, v_l 0, v_r 15, v_r 16]), .inl (.int, 40), .inl (.int, 40), .inl (.int, 40), .inl (.long, 16), .inl (.int, 16), .inl (.long, 42), .inr (1, [v_r 18, v_r 19, v_r 20]), .inl (.int, 4352), .inl (.int, 8), .inl (.int, 16), .inr (6, [v_r 22, v_r 23]), .inl (.int, 30), .inl (.int, 30), .inr (8, [v_i 0, v_i 0, v_r 25]), .inl (.int, 120), .inr (7, [v_i 0, v_r 27, v_r 28, v_r 29, v_r 30, v_r 31, v_r 32, v_r 33, v_r 34]), .inl (.int, 10), .inl (.int, 10), .inl (.int, 10), .inl (.boolean, 30), .inl (.int, 30), .inl (.int, 30), .inl (.int, 30), .inl (.int, 7), .inr (3, [v_i 0, v_r 36, v_r 37, v_r 38, v_r 39, v_i 0, v_r 40, v_r 41, v_r 42]), .inl (.int, 30), .inl (.int, 30), .inl (.int, 30), .inl (.int, 30), .inl (.int, 60), .inl (.int, 60), .inl (.int, 60), .inr (2, [v_i 0, v_i 0, v_r 44, v_r 45]), .inl (.int, 20), .inl (.int, 20), .inr (5, [v_r 47, v_r 48, v_r 49, v_i 0]), .inl (.int, 8), .inl (.int, 8), .inl (.int, 3), .inr (10, [v_r 51, v_r 52, v_r 53, v_r 54, v_r 55, v_r 56, v_r 57, v_r 58, v_r 59, v_r 60, v_i 0, v_i 0, v_r 61, v_r 62, v_r 63, v_r 64, v_i 0, v_r 65, v_r 66, v_r 67, v_r 68, v_r 69, v_i 0, v_l 0, v_r 70, v_r 71, v_r 72, v_r 73, v_r 74, v_i 0, v_i 0, v_i 0, v_n, v_n, v_n, v_n, v_i 0, v_n, v_n, v_n, v_n, v_n, v_n, v_n, v_i 0, v_i 0, v_n, v_n, v_i 0, v_i 0, v_n, v_n, v_n]), .inl (.int, 16), .inl (.int, 16), .inl (.int, 16), .inl (.int, 16), .inl (.boolean, 16), .inl (.boolean, 8), .inl (.int, 8), .inl (.int, 8), .inl (.int, 8), .inl (.int, 8), .inl (.int, 40), .inl (.int, 40), .inl (.int, 40), .inl (.int, 16), .inl (.int, 16), .inl (.long, 49), .inl (.long, 7), .inl (.long, 128), .inl (.long, 16), .inl (.int, 4352), .inl (.int, 16), .inl (.int, 30), .inl (.int, 30), .inl (.int, 120), .inl (.boolean, 10)]
def la_149 : List mm_S := [.inr (9, [v_r 1, v_r 10, v_r 17, v_r 21, v_r 24, v_r 26, v_r 35, v_r 43, v_r 46, v_i 0]), .inr (0, [v_i 0, v_r 2, v_r 3, v_r 4, v_r 5, v_i 0, v_r 6, v_r 7, v_r 8, v_r 9]), .inl (.int, 16), .inl (.int, 16), .inl (.int, 16), .inl (.int, 16), .inl (.int, 8), .inl (.int, 8), .inl (.int, 8), .inl (.int, 8), .inr (4, [v_i 0, v_r 11, v_r 12, v_r 13, v_r 14, v_l 0, v_r 15, v_r 16]), .inl (.int, 40), .inl (.int, 40), .inl (.int, 40), .inl (.long, 16), .inl (.int, 16), .inl (.long, 42), .inr (1, [v_r 18, v_r 19, v_r 20]), .inl (.int, 4352), .inl (.int, 8), .inl (.int, 16), .inr (6, [v_r 22, v_r 23]), .inl (.int, 30), .inl (.int, 30), .inr (8, [v_i 0, v_i 0, v_r 25]), .inl (.int, 120), .inr (7, [v_i 0, v_r 27, v_r 28, v_r 29, v_r 30, v_r 31, v_r 32, v_r 33, v_r 34]), .inl (.int, 10), .inl (.int, 10), .inl (.int, 10), .inl (.boolean, 30), .inl (.int, 30), .inl (.int, 30), .inl (.int, 30), .inl (.int, 7), .inr (3, [v_i 0, v_r 36, v_r 37, v_r 38, v_r 39, v_i 0, v_r 40, v_r 41, v_r 42]), .inl (.int, 30), .inl (.int, 30), .inl (.int, 30), .inl (.int, 30), .inl (.int, 60), .inl (.int, 60), .inl (.int, 60), .inr (2, [v_i 0, v_i 0, v_r 44, v_r 45]), .inl (.int, 20), .inl (.int, 20), .inr (5, [v_r 47, v_r 48, v_r 49, v_i 0]), .inl (.int, 8), .inl (.int, 8), .inl (.int, 3), .inr (10, [v_r 51, v_r 52, v_r 53, v_r 54, v_r 55, v_r 56, v_r 57, v_r 58, v_r 59, v_r 60, v_i 0, v_i 0, v_r 61, v_r 62, v_r 63, v_r 64, v_i 0, v_r 65, v_r 66, v_r 67, v_r 68, v_r 69, v_i 0, v_l 0, v_r 70, v_r 71, v_r 72, v_r 73, v_r 74, v_i 0, v_i 0, v_i 0, v_r 75, v_n, v_n, v_n, v_i 0, v_n, v_n, v_n, v_n, v_n, v_n, v_n, v_i 0, v_i 0, v_n, v_n, v_i 0, v_i 0, v_n, v_n, v_n]), .inl (.int, 16), .inl (.int, 16), .inl (.int, 16), .inl (.int, 16), .inl (.boolean, 16), .inl (.boolean, 8), .inl (.int, 8), .inl (.int, 8), .inl (.int, 8), .inl (.int, 8), .inl (.int, 40), .inl (.int, 40), .inl (.int, 40), .inl (.int, 16), .inl (.int, 16), .inl (.long, 49), .inl (.long, 7), .inl (.long, 128), .inl (.long, 16), .inl (.int, 4352), .inl (.int, 16), .inl (.int, 30), .inl (.int, 30), .inl (.int, 120), .inl (.boolean, 10)]
def la_150 : List mm_S := [.inr (9, [v_r 1, v_r 10, v_r 17, v_r 21, v_r 24, v_r 26, v_r 35, v_r 43, v_r 46, v_i 0]), .inr (0, [v_i 0, v_r 2, v_r 3, v_r 4, v_r 5, v_i 0, v_r 6, v_r 7, v_r 8, v_r 9]), .inl (.int, 16), .inl (.int, 16), .inl (.int, 16), .inl (.int, 16), .inl (.int, 8), .inl (.int, 8), .inl (.int, 8), .inl (.int, 8), .inr (4, [v_i 0, v_r 11, v_r 12, v_r 13, v_r 14, v_l 0, v_r 15, v_r 16]), .inl (.int, 40), .inl (.int, 40), .inl (.int, 40), .inl (.long, 16), .inl (.int, 16), .inl (.long, 42), .inr (1, [v_r 18, v_r 19, v_r 20]), .inl (.int, 4352), .inl (.int, 8), .inl (.int, 16), .inr (6, [v_r 22, v_r 23]), .inl (.int, 30), .inl (.int, 30), .inr (8, [v_i 0, v_i 0, v_r 25]), .inl (.int, 120), .inr (7, [v_i 0, v_r 27, v_r 28, v_r 29, v_r 30, v_r 31, v_r 32, v_r 33, v_r 34]), .inl (.int, 10), .inl (.int, 10), .inl (.int, 10), .inl (.boolean, 30), .inl (.int, 30), .inl (.int, 30), .inl (.int, 30), .inl (.int, 7), .inr (3, [v_i 0, v_r 36, v_r 37, v_r 38, v_r 39, v_i 0, v_r 40, v_r 41, v_r 42]), .inl (.int, 30), .inl (.int, 30), .inl (.int, 30), .inl (.int, 30), .inl (.int, 60), .inl (.int, 60), .inl (.int, 60), .inr (2, [v_i 0, v_i 0, v_r 44, v_r 45]), .inl (.int, 20), .inl (.int, 20), .inr (5, [v_r 47, v_r 48, v_r 49, v_i 0]), .inl (.int, 8), .inl (.int, 8), .inl (.int, 3), .inr (10, [v_r 51, v_r 52, v_r 53, v_r 54, v_r 55, v_r 56, v_r 57, v_r 58, v_r 59, v_r 60, v_i 0, v_i 0, v_r 61, v_r 62, v_r 63, v_r 64, v_i 0, v_r 65, v_r 66, v_r 67, v_r 68, v_r 69, v_i 0, v_l 0, v_r 70, v_r 71, v_r 72, v_r 73, v_r 74, v_i 0, v_i 0, v_i 0, v_r 75, v_n, v_n, v_n, v_i 0, v_n, v_n, v_n, v_n, v_n, v_n, v_n, v_i 0, v_i 0, v_n, v_n, v_i 0, v_i 0, v_n, v_n, v_n]), .inl (.int, 16), .inl (.int, 16), .inl (.int, 16), .inl (.int, 16), .inl (.boolean, 16), .inl (.boolean, 8), .inl (.int, 8), .inl (.int, 8), .inl (.int, 8), .inl (.int, 8), .inl (.int, 40), .inl (.int, 40), .inl (.int, 40), .inl (.int, 16), .inl (.int, 16), .inl (.long, 49), .inl (.long, 7), .inl (.long, 128), .inl (.long, 16), .inl (.int, 4352), .inl (.int, 16), .inl (.int, 30), .inl (.int, 30), .inl (.int, 120), .inl (.boolean, 10), .inl (.int, 10)]
def la_151 : List mm_S := [.inr (9, [v_r 1, v_r 10, v_r 17, v_r 21, v_r 24, v_r 26, v_r 35, v_r 43, v_r 46, v_i 0]), .inr (0, [v_i 0, v_r 2, v_r 3, v_r 4, v_r 5, v_i 0, v_r 6, v_r 7, v_r 8, v_r 9]), .inl (.int, 16), .inl (.int, 16), .inl (.int, 16), .inl (.int, 16), .inl (.int, 8), .inl (.int, 8), .inl (.int, 8), .inl (.int, 8), .inr (4, [v_i 0, v_r 11, v_r 12, v_r 13, v_r 14, v_l 0, v_r 15, v_r 16]), .inl (.int, 40), .inl (.int, 40), .inl (.int, 40), .inl (.long, 16), .inl (.int, 16), .inl (.long, 42), .inr (1, [v_r 18, v_r 19, v_r 20]), .inl (.int, 4352), .inl (.int, 8), .inl (.int, 16), .inr (6, [v_r 22, v_r 23]), .inl (.int, 30), .inl (.int, 30), .inr (8, [v_i 0, v_i 0, v_r 25]), .inl (.int, 120), .inr (7, [v_i 0, v_r 27, v_r 28, v_r 29, v_r 30, v_r 31, v_r 32, v_r 33, v_r 34]), .inl (.int, 10), .inl (.int, 10), .inl (.int, 10), .inl (.boolean, 30), .inl (.int, 30), .inl (.int, 30), .inl (.int, 30), .inl (.int, 7), .inr (3, [v_i 0, v_r 36, v_r 37, v_r 38, v_r 39, v_i 0, v_r 40, v_r 41, v_r 42]), .inl (.int, 30), .inl (.int, 30), .inl (.int, 30), .inl (.int, 30), .inl (.int, 60), .inl (.int, 60), .inl (.int, 60), .inr (2, [v_i 0, v_i 0, v_r 44, v_r 45]), .inl (.int, 20), .inl (.int, 20), .inr (5, [v_r 47, v_r 48, v_r 49, v_i 0]), .inl (.int, 8), .inl (.int, 8), .inl (.int, 3), .inr (10, [v_r 51, v_r 52, v_r 53, v_r 54, v_r 55, v_r 56, v_r 57, v_r 58, v_r 59, v_r 60, v_i 0, v_i 0, v_r 61, v_r 62, v_r 63, v_r 64, v_i 0, v_r 65, v_r 66, v_r 67, v_r 68, v_r 69, v_i 0, v_l 0, v_r 70, v_r 71, v_r 72, v_r 73, v_r 74, v_i 0, v_i 0, v_i 0, v_r 75, v_r 76, v_n, v_n, v_i 0, v_n, v_n, v_n, v_n, v_n, v_n, v_n, v_i 0, v_i 0, v_n, v_n, v_i 0, v_i 0, v_n, v_n, v_n]), .inl (.int, 16), .inl (.int, 16), .inl (.int, 16), .inl (.int, 16), .inl (.boolean, 16), .inl (.boolean, 8), .inl (.int, 8), .inl (.int, 8), .inl (.int, 8), .inl (.int, 8), .inl (.int, 40), .inl (.int, 40), .inl (.int, 40), .inl (.int, 16), .inl (.int, 16), .inl (.long, 49), .inl (.long, 7), .inl (.long, 128), .inl (.long, 16), .inl (.int, 4352), .inl (.int, 16), .inl (.int, 30), .inl (.int, 30), .inl (.int, 120), .inl (.boolean, 10), .inl (.int, 10)]
def la_152 : List mm_S := [.inr (9, [v_r 1, v_r 10, v_r 17, v_r 21, v_r 24, v_r 26, v_r 35, v_r 43, v_r 46, v_i 0]), .inr (0, [v_i 0, v_r 2, v_r 3, v_r 4, v_r 5, v_i 0, v_r 6, v_r 7, v_r 8, v_r 9]), .inl (.int, 16), .inl (.int, 16), .inl (.int, 16), .inl (.int, 16), .inl (.int, 8), .inl (.int, 8), .inl (.int, 8), .inl (.int, 8), .inr (4, [v_i 0, v_r 11, v_r 12, v_r 13, v_r 14, v_l 0, v_r 15, v_r 16]), .inl (.int, 40), .inl (.int, 40), .inl (.int, 40), .inl (.long, 16), .inl (.int, 16), .inl (.long, 42), .inr (1, [v_r 18, v_r 19, v_r 20]), .inl (.int, 4352), .inl (.int, 8), .inl (.int, 16), .inr (6, [v_r 22, v_r 23]), .inl (.int, 30), .inl (.int, 30), .inr (8, [v_i 0, v_i 0, v_r 25]), .inl (.int, 120), .inr (7, [v_i 0, v_r 27, v_r 28, v_r 29, v_r 30, v_r 31, v_r 32, v_r 33, v_r 34]), .inl (.int, 10), .inl (.int, 10), .inl (.int, 10), .inl (.boolean, 30), .inl (.int, 30), .inl (.int, 30), .inl (.int, 30), .inl (.int, 7), .inr (3, [v_i 0, v_r 36, v_r 37, v_r 38, v_r 39, v_i 0, v_r 40, v_r 41, v_r 42]), .inl (.int, 30), .inl (.int, 30), .inl (.int, 30), .inl (.int, 30), .inl (.int, 60), .inl (.int, 60), .inl (.int, 60), .inr (2, [v_i 0, v_i 0, v_r 44, v_r 45]), .inl (.int, 20), .inl (.int, 20), .inr (5, [v_r 47, v_r 48, v_r 49, v_i 0]), .inl (.int, 8), .inl (.int, 8), .inl (.int, 3), .inr (10, [v_r 51, v_r 52, v_r 53, v_r 54, v_r 55, v_r 56, v_r 57, v_r 58, v_r 59, v_r 60, v_i 0, v_i 0, v_r 61, v_r 62, v_r 63, v_r 64, v_i 0, v_r 65, v_r 66, v_r 67, v_r 68, v_r 69, v_i 0, v_l 0, v_r 70, v_r 71, v_r 72, v_r 73, v_r 74, v_i 0, v_i 0, v_i 0, v_r 75, v_r 76, v_n, v_n, v_i 0, v_n, v_n, v_n, v_n, v_n, v_n, v_n, v_i 0, v_i 0, v_n, v_n, v_i 0, v_i 0, v_n, v_n, v_n]), .inl (.int, 16), .inl (.int, 16), .inl (.int, 16), .inl (.int, 16), .inl (.boolean, 16), .inl (.boolean, 8), .inl (.int, 8), .inl (.int, 8), .inl (.int, 8), .inl (.int, 8), .inl (.int, 40), .inl (.int, 40), .inl (.int, 40), .inl (.int, 16), .inl (.int, 16), .inl (.long, 49), .inl (.long, 7), .inl (.long, 128), .inl (.long, 16), .inl (.int, 4352), .inl (.int, 16), .inl (.int, 30), .inl (.int, 30), .inl (.int, 120), .inl (.boolean, 10), .inl (.int, 10), .inl (.int, 10)]
def la_153 : List mm_S := [.inr (9, [v_r 1, v_r 10, v_r 17, v_r 21, v_r 24, v_r 26, v_r 35, v_r 43, v_r 46, v_i 0]), .inr (0, [v_i 0, v_r 2, v_r 3, v_r 4, v_r 5, v_i 0, v_r 6, v_r 7, v_r 8, v_r 9]), .inl (.int, 16), .inl (.int, 16), .inl (.int, 16), .inl (.int, 16), .inl (.int, 8), .inl (.int, 8), .inl (.int, 8), .inl (.int, 8), .inr (4, [v_i 0, v_r 11, v_r 12, v_r 13, v_r 14, v_l 0, v_r 15, v_r 16]), .inl (.int, 40), .inl (.int, 40), .inl (.int, 40), .inl (.long, 16), .inl (.int, 16), .inl (.long, 42), .inr (1, [v_r 18, v_r 19, v_r 20]), .inl (.int, 4352), .inl (.int, 8), .inl (.int, 16), .inr (6, [v_r 22, v_r 23]), .inl (.int, 30), .inl (.int, 30), .inr (8, [v_i 0, v_i 0, v_r 25]), .inl (.int, 120), .inr (7, [v_i 0, v_r 27, v_r 28, v_r 29, v_r 30, v_r 31, v_r 32, v_r 33, v_r 34]), .inl (.int, 10), .inl (.int, 10), .inl (.int, 10), .inl (.boolean, 30), .inl (.int, 30), .inl (.int, 30), .inl (.int, 30), .inl (.int, 7), .inr (3, [v_i 0, v_r 36, v_r 37, v_r 38, v_r 39, v_i 0, v_r 40, v_r 41, v_r 42]), .inl (.int, 30), .inl (.int, 30), .inl (.int, 30), .inl (.int, 30), .inl (.int, 60), .inl (.int, 60), .inl (.int, 60), .inr (2, [v_i 0, v_i 0, v_r 44, v_r 45]), .inl (.int, 20), .inl (.int, 20), .inr (5, [v_r 47, v_r 48, v_r 49, v_i 0]), .inl (.int, 8), .inl (.int, 8), .inl (.int, 3), .inr (10, [v_r 51, v_r 52, v_r 53, v_r 54, v_r 55, v_r 56, v_r 57, v_r 58, v_r 59, v_r 60, v_i 0, v_i 0, v_r 61, v_r 62, v_r 63, v_r 64, v_i 0, v_r 65, v_r 66, v_r 67, v_r 68, v_r 69, v_i 0, v_l 0, v_r 70, v_r 71, v_r 72, v_r 73, v_r 74, v_i 0, v_i 0, v_i 0, v_r 75, v_r 76, v_r 77, v_n, v_i 0, v_n, v_n, v_n, v_n, v_n, v_n, v_n, v_i 0, v_i 0, v_n, v_n, v_i 0, v_i 0, v_n, v_n, v_n]), .inl (.int, 16), .inl (.int, 16), .inl (.int, 16), .inl (.int, 16), .inl (.boolean, 16), .inl (.boolean, 8), .inl (.int, 8), .inl (.int, 8), .inl (.int, 8), .inl (.int, 8), .inl (.int, 40), .inl (.int, 40), .inl (.int, 40), .inl (.int, 16), .inl (.int, 16), .inl (.long, 49), .inl (.long, 7), .inl (.long, 128), .inl (.long, 16), .inl (.int, 4352), .inl (.int, 16), .inl (.int, 30), .inl (.int, 30), .inl (.int, 120), .inl (.boolean, 10), .inl (.int, 10), .inl (.int, 10)]
def la_154 : List mm_S := [.inr (9, [v_r 1, v_r 10, v_r 17, v_r 21, v_r 24, v_r 26, v_r 35, v_r 43, v_r 46, v_i 0]), .inr (0, [v_i 0, v_r 2, v_r 3, v_r 4, v_r 5, v_i 0, v_r 6, v_r 7, v_r 8, v_r 9]), .inl (.int, 16), .inl (.int, 16), .inl (.int, 16), .inl (.int, 16), .inl (.int, 8), .inl (.int, 8), .inl (.int, 8), .inl (.int, 8), .inr (4, [v_i 0, v_r 11, v_r 12, v_r 13, v_r 14, v_l 0, v_r 15, v_r 16]), .inl (.int, 40), .inl (.int, 40), .inl (.int, 40), .inl (.long, 16), .inl (.int, 16), .inl (.long, 42), .inr (1, [v_r 18, v_r 19, v_r 20]), .inl (.int, 4352), .inl (.int, 8), .inl (.int, 16), .inr (6, [v_r 22, v_r 23]), .inl (.int, 30), .inl (.int, 30), .inr (8, [v_i 0, v_i 0, v_r 25]), .inl (.int, 120), .inr (7, [v_i 0, v_r 27, v_r 28, v_r 29, v_r 30, v_r 31, v_r 32, v_r 33, v_r 34]), .inl (.int, 10), .inl (.int, 10), .inl (.int, 10), .inl (.boolean, 30), .inl (.int, 30), .inl (.int, 30), .inl (.int, 30), .inl (.int, 7), .inr (3, [v_i 0, v_r 36, v_r 37, v_r 38, v_r 39, v_i 0, v_r 40, v_r 41, v_r 42]), .inl (.int, 30), .inl (.int, 30), .inl (.int, 30), .inl (.int, 30), .inl (.int, 60), .inl (.int, 60), .inl (.int, 60), .inr (2, [v_i 0, v_i 0, v_r 44, v_r 45]), .inl (.int, 20), .inl (.int, 20), .inr (5, [v_r 47, v_r 48, v_r 49, v_i 0]), .inl (.int, 8), .inl (.int, 8), .inl (.int, 3), .inr (10, [v_r 51, v_r 52, v_r 53, v_r 54, v_r 55, v_r 56, v_r 57, v_r 58, v_r 59, v_r 60, v_i 0, v_i 0, v_r 61, v_r 62, v_r 63, v_r 64, v_i 0, v_r 65, v_r 66, v_r 67, v_r 68, v_r 69, v_i 0, v_l 0, v_r 70, v_r 71, v_r 72, v_r 73, v_r 74, v_i 0, v_i 0, v_i 0, v_r 75, v_r 76, v_r 77, v_n, v_i 0, v_n, v_n, v_n, v_n, v_n, v_n, v_n, v_i 0, v_i 0, v_n, v_n, v_i 0, v_i 0, v_n, v_n, v_n]), .inl (.int, 16), .inl (.int, 16), .inl (.int, 16), .inl (.int, 16), .inl (.boolean, 16), .inl (.boolean, 8), .inl (.int, 8), .inl (.int, 8), .inl (.int, 8), .inl (.int, 8), .inl (.int, 40), .inl (.int, 40), .inl (.int, 40), .inl (.int, 16), .inl (.int, 16), .inl (.long, 49), .inl (.long, 7), .inl (.long, 128), .inl (.long, 16), .inl (.int, 4352), .inl (.int, 16), .inl (.int, 30), .inl (.int, 30), .inl (.int, 120), .inl (.boolean, 10), .inl (.int, 10), .inl (.int, 10), .inl (.int, 120)]
def la_155 : List mm_S := [.inr (9, [v_r 1, v_r 10, v_r 17, v_r 21, v_r 24, v_r 26, v_r 35, v_r 43, v_r 46, v_i 0]), .inr (0, [v_i 0, v_r 2, v_r 3, v_r 4, v_r 5, v_i 0, v_r 6, v_r 7, v_r 8, v_r 9]), .inl (.int, 16), .inl (.int, 16), .inl (.int, 16), .inl (.int, 16), .inl (.int, 8), .inl (.int, 8), .inl (.int, 8), .inl (.int, 8), .inr (4, [v_i 0, v_r 11, v_r 12, v_r 13, v_r 14, v_l 0, v_r 15, v_r 16]), .inl (.int, 40), .inl (.int, 40), .inl (.int, 40), .inl (.long, 16), .inl (.int, 16), .inl (.long, 42), .inr (1, [v_r 18, v_r 19, v_r 20]), .inl (.int, 4352), .inl (.int, 8), .inl (.int, 16), .inr (6, [v_r 22, v_r 23]), .inl (.int, 30), .inl (.int, 30), .inr (8, [v_i 0, v_i 0, v_r 25]), .inl (.int, 120), .inr (7, [v_i 0, v_r 27, v_r 28, v_r 29, v_r 30, v_r 31, v_r 32, v_r 33, v_r 34]), .inl (.int, 10), .inl (.int, 10), .inl (.int, 10), .inl (.boolean, 30), .inl (.int, 30), .inl (.int, 30), .inl (.int, 30), .inl (.int, 7), .inr (3, [v_i 0, v_r 36, v_r 37, v_r 38, v_r 39, v_i 0, v_r 40, v_r 41, v_r 42]), .inl (.int, 30), .inl (.int, 30), .inl (.int, 30), .inl (.int, 30), .inl (.int, 60), .inl (.int, 60), .inl (.int, 60), .inr (2, [v_i 0, v_i 0, v_r 44, v_r 45]), .inl (.int, 20), .inl (.int, 20), .inr (5, [v_r 47, v_r 48, v_r 49, v_i 0]), .inl (.int, 8), .inl (.int, 8), .inl (.int, 3), .inr (10, [v_r 51, v_r 52, v_r 53, v_r 54, v_r 55, v_r 56, v_r 57, v_r 58, v_r 59, v_r 60, v_i 0, v_i 0, v_r 61, v_r 62, v_r 63, v_r 64, v_i 0, v_r 65, v_r 66, v_r 67, v_r 68, v_r 69, v_i 0, v_l 0, v_r 70, v_r 71, v_r 72, v_r 73, v_r 74, v_i 0, v_i 0, v_i 0, v_r 75, v_r 76, v_r 77, v_r 78, v_i 0, v_n, v_n, v_n, v_n, v_n, v_n, v_n, v_i 0, v_i 0, v_n, v_n, v_i 0, v_i 0, v_n, v_n, v_n]), .inl (.int, 16), .inl (.int, 16), .inl (.int, 16), .inl (.int, 16), .inl (.boolean, 16), .inl (.boolean, 8), .inl (.int, 8), .inl (.int, 8), .inl (.int, 8), .inl (.int, 8), .inl (.int, 40), .inl (.int, 40), .inl (.int, 40), .inl (.int, 16), .inl (.int, 16), .inl (.long, 49), .inl (.long, 7), .inl (.long, 128), .inl (.long, 16), .inl (.int, 4352), .inl (.int, 16), .inl (.int, 30), .inl (.int, 30), .inl (.int, 120), .inl (.boolean, 10), .inl (.int, 10), .inl (.int, 10), .inl (.int, 120)]
def la_156 : List mm_S := [.inr (9, [v_r 1, v_r 10, v_r 17, v_r 21, v_r 24, v_r 26, v_r 35, v_r 43, v_r 46, v_i 0]), .inr (0, [v_i 0, v_r 2, v_r 3, v_r 4, v_r 5, v_i 0, v_r 6, v_r 7, v_r 8, v_r 9]), .inl (.int, 16), .inl (.int, 16), .inl (.int, 16), .inl (.int, 16), .inl (.int, 8), .inl (.int, 8), .inl (.int, 8), .inl (.int, 8), .inr (4, [v_i 0, v_r 11, v_r 12, v_r 13, v_r 14, v_l 0, v_r 15, v_r 16]), .inl (.int, 40), .inl (.int, 40), .inl (.int, 40), .inl (.long, 16), .inl (.int, 16), .inl (.long, 42), .inr (1, [v_r 18, v_r 19, v_r 20]), .inl (.int, 4352), .inl (.int, 8), .inl (.int, 16), .inr (6, [v_r 22, v_r 23]), .inl (.int, 30), .inl (.int, 30), .inr (8, [v_i 0, v_i 0, v_r 25]), .inl (.int, 120), .inr (7, [v_i 0, v_r 27, v_r 28, v_r 29, v_r 30, v_r 31, v_r 32, v_r 33, v_r 34]), .inl (.int, 10), .inl (.int, 10), .inl (.int, 10), .inl (.boolean, 30), .inl (.int, 30), .inl (.int, 30), .inl (.int, 30), .inl (.int, 7), .inr (3, [v_i 0, v_r 36, v_r 37, v_r 38, v_r 39, v_i 0, v_r 40, v_r 41, v_r 42]), .inl (.int, 30), .inl (.int, 30), .inl (.int, 30), .inl (.int, 30), .inl (.int, 60), .inl (.int, 60), .inl (.int, 60), .inr (2, [v_i 0, v_i 0, v_r 44, v_r 45]), .inl (.int, 20), .inl (.int, 20), .inr (5, [v_r 47, v_r 48, v_r 49, v_i 0]), .inl (.int, 8), .inl (.int, 8), .inl (.int, 3), .inr (10, [v_r 51, v_r 52, v_r 53, v_r 54, v_r 55, v_r 56, v_r 57, v_r 58, v_r 59, v_r 60, v_i 0, v_i 0, v_r 61, v_r 62, v_r 63, v_r 64, v_i 0, v_r 65, v_r 66, v_r 67, v_r 68, v_r 69, v_i 0, v_l 0, v_r 70, v_r 71, v_r 72, v_r 73, v_r 74, v_i 0, v_i 0, v_i 0, v_r 75, v_r 76, v_r 77, v_r 78, v_i 0, v_n, v_n, v_n, v_n, v_n, v_n, v_n, v_i 0, v_i 0, v_n, v_n, v_i 0, v_i 0, v_n, v_n, v_n]), .inl (.int, 16), .inl (.int, 16), .inl (.int, 16), .inl (.int, 16), .inl (.boolean, 16), .inl (.boolean, 8), .inl (.int, 8), .inl (.int, 8), .inl (.int, 8), .inl (.int, 8), .inl (.int, 40), .inl (.int, 40), .inl (.int, 40), .inl (.int, 16), .inl (.int, 16), .inl (.long, 49), .inl (.long, 7), .inl (.long, 128), .inl (.long, 16), .inl (.int, 4352), .inl (.int, 16), .inl (.int, 30), .inl (.int, 30), .inl (.int, 120), .inl (.boolean, 10), .inl (.int, 10), .inl (.int, 10), .inl (.int, 120), .inl (.int, 30)]
def la_157 : List mm_S := [.inr (9, [v_r 1, v_r 10, v_r 17, v_r 21, v_r 24, v_r 26, v_r 35, v_r 43, v_r 46, v_i 0]), .inr (0, [v_i 0, v_r 2, v_r 3, v_r 4, v_r 5, v_i 0, v_r 6, v_r 7, v_r 8, v_r 9]), .inl (.int, 16), .inl (.int, 16), .inl (.int, 16), .inl (.int, 16), .inl (.int, 8), .inl (.int, 8), .inl (.int, 8), .inl (.int, 8), .inr (4, [v_i 0, v_r 11, v_r 12, v_r 13, v_r 14, v_l 0, v_r 15, v_r 16]), .inl (.int, 40), .inl (.int, 40), .inl (.int, 40), .inl (.long, 16), .inl (.int, 16), .inl (.long, 42), .inr (1, [v_r 18, v_r 19, v_r 20]), .inl (.int, 4352), .inl (.int, 8), .inl (.int, 16), .inr (6, [v_r 22, v_r 23]), .inl (.int, 30), .inl (.int, 30), .inr (8, [v_i 0, v_i 0, v_r 25]), .inl (.int, 120), .inr (7, [v_i 0, v_r 27, v_r 28, v_r 29, v_r 30, v_r 31, v_r 32, v_r 33, v_r 34]), .inl (.int, 10), .inl (.int, 10), .inl (.int, 10), .inl (.boolean, 30), .inl (.int, 30), .inl (.int, 30), .inl (.int, 30), .inl (.int, 7), .inr (3, [v_i 0, v_r 36, v_r 37, v_r 38, v_r 39, v_i 0, v_r 40, v_r 41, v_r 42]), .inl (.int, 30), .inl (.int, 30), .inl (.int, 30), .inl (.int, 30), .inl (.int, 60), .inl (.int, 60), .inl (.int, 60), .inr (2, [v_i 0, v_i 0, v_r 44, v_r 45]), .inl (.int, 20), .inl (.int, 20), .inr (5, [v_r 47, v_r 48, v_r 49, v_i 0]), .inl (.int, 8), .inl (.int, 8), .inl (.int, 3), .inr (10, [v_r 51, v_r 52, v_r 53, v_r 54, v_r 55, v_r 56, v_r 57, v_r 58, v_r 59, v_r 60, v_i 0, v_i 0, v_r 61, v_r 62, v_r 63, v_r 64, v_i 0, v_r 65, v_r 66, v_r 67, v_r 68, v_r 69, v_i 0, v_l 0, v_r 70, v_r 71, v_r 72, v_r 73, v_r 74, v_i 0, v_i 0, v_i 0, v_r 75, v_r 76, v_r 77, v_r 78, v_i 0, v_r 79, v_n, v_n, v_n, v_n, v_n, v_n, v_i 0, v_i 0, v_n, v_n, v_i 0, v_i 0, v_n, v_n, v_n]), .inl (.int, 16), .inl (.int, 16), .inl (.int, 16), .inl (.int, 16), .inl (.boolean, 16), .inl (.boolean, 8), .inl (.int, 8), .inl (.int, 8), .inl (.int, 8), .inl (.int, 8), .inl (.int, 40), .inl (.int, 40), .inl (.int, 40), .inl (.int, 16), .inl (.int, 16), .inl (.long, 49), .inl (.long, 7), .inl (.long, 128), .inl (.long, 16), .inl (.int, 4352), .inl (.int, 16), .inl (.int, 30), .inl (.int, 30), .inl (.int, 120), .inl (.boolean, 10), .inl (.int, 10), .inl (.int, 10), .inl (.int, 120), .inl (.int, 30)]
def la_158 : List mm_S := [.inr (9, [v_r 1, v_r 10, v_r 17, v_r 21, v_r 24, v_r 26, v_r 35, v_r 43, v_r 46, v_i 0]), .inr (0, [v_i 0, v_r 2, v_r 3, v_r 4, v_r 5, v_i 0, v_r 6, v_r 7, v_r 8, v_r 9]), .inl (.int, 16), .inl (.int, 16), .inl (.int, 16), .inl (.int, 16), .inl (.int, 8), .inl (.int, 8), .inl (.int, 8), .inl (.int, 8), .inr (4, [v_i 0, v_r 11, v_r 12, v_r 13, v_r 14, v_l 0, v_r 15, v_r 16]), .inl (.int, 40), .inl (.int, 40), .inl (.int, 40), .inl (.long, 16), .inl (.int, 16), .inl (.long, 42), .inr (1, [v_r 18, v_r 19, v_r 20]), .inl (.int, 4352), .inl (.int, 8), .inl (.int, 16), .inr (6, [v_r 22, v_r 23]), .inl (.int, 30), .inl (.int, 30), .inr (8, [v_i 0, v_i 0, v_r 25]), .inl (.int, 120), .inr (7, [v_i 0, v_r 27, v_r 28, v_r 29, v_r 30, v_r 31, v_r 32, v_r 33, v_r 34]), .inl (.int, 10), .inl (.int, 10), .inl (.int, 10), .inl (.boolean, 30), .inl (.int, 30), .inl (.int, 30), .inl (.int, 30), .inl (.int, 7), .inr (3, [v_i 0, v_r 36, v_r 37, v_r 38, v_r 39, v_i 0, v_r 40, v_r 41, v_r 42]), .inl (.int, 30), .inl (.int, 30), .inl (.int, 30), .inl (.int, 30), .inl (.int, 60), .inl (.int, 60), .inl (.int, 60), .inr (2, [v_i 0, v_i 0, v_r 44, v_r 45]), .inl (.int, 20), .inl (.int, 20), .inr (5, [v_r 47, v_r 48, v_r 49, v_i 0]), .inl (.int, 8), .inl (.int, 8), .inl (.int, 3), .inr (10, [v_r 51, v_r 52, v_r 53, v_r 54, v_r 55, v_r 56, v_r 57, v_r 58, v_r 59, v_r 60, v_i 0, v_i 0, v_r 61, v_r 62, v_r 63, v_r 64, v_i 0, v_r 65, v_r 66, v_r 67, v_r 68, v_r 69, v_i 0, v_l 0, v_r 70, v_r 71, v_r 72, v_r 73, v_r 74, v_i 0, v_i 0, v_i 0, v_r 75, v_r 76, v_r 77, v_r 78, v_i 0, v_r 79, v_n, v_n, v_n, v_n, v_n, v_n, v_i 0, v_i 0, v_n, v_n, v_i 0, v_i 0, v_n, v_n, v_n]), .inl (.int, 16), .inl (.int, 16), .inl (.int, 16), .inl (.int, 16), .inl (.boolean, 16), .inl (.boolean, 8), .inl (.int, 8), .inl (.int, 8), .inl (.int, 8), .inl (.int, 8), .inl (.int, 40), .inl (.int, 40), .inl (.int, 40), .inl (.int, 16), .inl (.int, 16), .inl (.long, 49), .inl (.long, 7), .inl (.long, 128), .inl (.long, 16), .inl (.int, 4352), .inl (.int, 16), .inl (.int, 30), .inl (.int, 30), .inl (.int, 120), .inl (.boolean, 10), .inl (.int, 10), .inl (.int, 10), .inl (.int, 120), .inl (.int, 30), .inl (.int, 30)]
def la_159 : List mm_S := [.inr (9, [v_r 1, v_r 10, v_r 17, v_r 21, v_r 24, v_r 26, v_r 35, v_r 43, v_r 46, v_i 0]), .inr (0, [v_i 0, v_r 2, v_r 3, v_r 4, v_r 5, v_i 0, v_r 6, v_r 7, v_r 8, v_r 9]), .inl (.int, 16), .inl (.int, 16), .inl (.int, 16), .inl (.int, 16), .inl (.int, 8), .inl (.int, 8), .inl (.int, 8), .inl (.int, 8), .inr (4, [v_i 0, v_r 11, v_r 12, v_r 13, v_r 14, v_l 0, v_r 15, v_r 16]), .inl (.int, 40), .inl (.int, 40), .inl (.int, 40), .inl (.long, 16), .inl (.int, 16), .inl (.long, 42), .inr (1, [v_r 18, v_r 19, v_r 20]), .inl (.int, 4352), .inl (.int, 8), .inl (.int, 16), .inr (6, [v_r 22, v_r 23]), .inl (.int, 30), .inl (.int, 30), .inr (8, [v_i 0, v_i 0, v_r 25]), .inl (.int, 120), .inr (7, [v_i 0, v_r 27, v_r 28, v_r 29, v_r 30, v_r 31, v_r 32, v_r 33, v_r 34]), .inl (.int, 10), .inl (.int, 10), .inl (.int, 10), .inl (.boolean, 30), .inl (.int, 30), .inl (.int, 30), .inl (.int, 30), .inl (.int, 7), .inr (3, [v_i 0, v_r 36, v_r 37, v_r 38, v_r 39, v_i 0, v_r 40, v_r 41, v_r 42]), .inl (.int, 30), .inl (.int, 30), .inl (.int, 30), .inl (.int, 30), .inl (.int, 60), .inl (.int, 60), .inl (.int, 60), .inr (2, [v_i 0, v_i 0, v_r 44, v_r 45]), .inl (.int, 20), .inl (.int, 20), .inr (5, [v_r 47, v_r 48, v_r 49, v_i 0]), .inl (.int, 8), .inl (.int, 8), .inl (.int, 3), .inr (10, [v_r 51, v_r 52, v_r 53, v_r 54, v_r 55, v_r 56, v_r 57, v_r 58, v_r 59, v_r 60, v_i 0, v_i 0, v_r 61, v_r 62, v_r 63, v_r 64, v_i 0, v_r 65, v_r 66, v_r 67, v_r 68, v_r 69, v_i 0, v_l 0, v_r 70, v_r 71, v_r 72, v_r 73, v_r 74, v_i 0, v_i 0, v_i 0, v_r 75, v_r 76, v_r 77, v_r 78, v_i 0, v_r 79, v_r 80, v_n, v_n, v_n, v_n, v_n, v_i 0, v_i 0, v_n, v_n, v_i 0, v_i 0, v_n, v_n, v_n]), .inl (.int, 16), .inl (.int, 16), .inl (.int, 16), .inl (.int, 16), .inl (.boolean, 16), .inl (.boolean, 8), .inl (.int, 8), .inl (.int, 8), .inl (.int, 8), .inl (.int, 8), .inl (.int, 40), .inl (.int, 40), .inl (.int, 40), .inl (.int, 16), .inl (.int, 16), .inl (.long, 49), .inl (.long, 7), .inl (.long, 128), .inl (.long, 16), .inl (.int, 4352), .inl (.int, 16), .inl (.int, 30), .inl (.int, 30), .inl (.int, 120), .inl (.boolean, 10), .inl (.int, 10), .inl (.int, 10), .inl (.int, 120), .inl (.int, 30), .inl (.int, 30)]
def la_160 : List mm_S := [.inr (9, [v_r 1, v_r 10, v_r 17, v_r 21, v_r 24, v_r 26, v_r 35, v_r 43, v_r 46, v_i 0]), .inr (0, [v_i 0, v_r 2, v_r 3, v_r 4, v_r 5, v_i 0, v_r 6, v_r 7, v_r 8, v_r 9]), .inl (.int, 16), .inl (.int, 16), .inl (.int, 16), .inl (.int, 16), .inl (.int, 8), .inl (.int, 8), .inl (.int, 8), .inl (.int, 8), .inr (4, [v_i 0, v_r 11, v_r 12, v_r 13, v_r 14, v_l 0, v_r 15, v_r 16]), .inl (.int, 40), .inl (.int, 40), .inl (.int, 40), .inl (.long, 16), .inl (.int, 16), .inl (.long, 42), .inr (1, [v_r 18, v_r 19, v_r 20]), .inl (.int, 4352), .inl (.int, 8), .inl (.int, 16), .inr (6, [v_r 22, v_r 23]), .inl (.int, 30), .inl (.int, 30), .inr (8, [v_i 0, v_i 0, v_r 25]), .inl (.int, 120), .inr (7, [v_i 0, v_r 27, v_r 28, v_r 29, v_r 30, v_r 31, v_r 32, v_r 33, v_r 34]), .inl (.int, 10), .inl (.int, 10), .inl (.int, 10), .inl (.boolean, 30), .inl (.int, 30), .inl (.int, 30), .inl (.int, 30), .inl (.int, 7), .inr (3, [v_i 0, v_r 36, v_r 37, v_r 38, v_r 39, v_i 0, v_r 40, v_r 41, v_r 42]), .inl (.int, 30), .inl (.int, 30), .inl (.int, 30), .inl (.int, 30), .inl (.int, 60), .inl (.int, 60), .inl (.int, 60), .inr (2, [v_i 0, v_i 0, v_r 44, v_r 45]), .inl (.int, 20), .inl (.int, 20), .inr (5, [v_r 47, v_r 48, v_r 49, v_i 0]), .inl (.int, 8), .inl (.int, 8), .inl (.int, 3), .inr (10, [v_r 51, v_r 52, v_r 53, v_r 54, v_r 55, v_r 56, v_r 57, v_r 58, v_r 59, v_r 60, v_i 0, v_i 0, v_r 61, v_r 62, v_r 63, v_r 64, v_i 0, v_r 65, v_r 66, v_r 67, v_r 68, v_r 69, v_i 0, v_l 0, v_r 70, v_r 71, v_r 72, v_r 73, v_r 74, v_i 0, v_i 0, v_i 0, v_r 75, v_r 76, v_r 77, v_r 78, v_i 0, v_r 79, v_r 80, v_n, v_n, v_n, v_n, v_n, v_i 0, v_i 0, v_n, v_n, v_i 0, v_i 0, v_n, v_n, v_n]), .inl (.int, 16), .inl (.int, 16), .inl (.int, 16), .inl (.int, 16), .inl (.boolean, 16), .inl (.boolean, 8), .inl (.int, 8), .inl (.int, 8), .inl (.int, 8), .inl (.int, 8), .inl (.int, 40), .inl (.int, 40), .inl (.int, 40), .inl (.int, 16), .inl (.int, 16), .inl (.long, 49), .inl (.long, 7), .inl (.long, 128), .inl (.long, 16), .inl (.int, 4352), .inl (.int, 16), .inl (.int, 30), .inl (.int, 30), .inl (.int, 120), .inl (.boolean, 10), .inl (.int, 10), .inl (.int, 10), .inl (.int, 120), .inl (.int, 30), .inl (.int, 30), .inl (.int, 30)]
def la_161 : List mm_S := [.inr (9, [v_r 1, v_r 10, v_r 17, v_r 21, v_r 24, v_r 26, v_r 35, v_r 43, v_r 46, v_i 0]), .inr (0, [v_i 0, v_r 2, v_r 3, v_r 4, v_r 5, v_i 0, v_r 6, v_r 7, v_r 8, v_r 9]), .inl (.int, 16), .inl (.int, 16), .inl (.int, 16), .inl (.int, 16), .inl (.int, 8), .inl (.int, 8), .inl (.int, 8), .inl (.int, 8), .inr (4, [v_i 0, v_r 11, v_r 12, v_r 13, v_r 14, v_l 0, v_r 15, v_r 16]), .inl (.int, 40), .inl (.int, 40), .inl (.int, 40), .inl (.long, 16), .inl (.int, 16), .inl (.long, 42), .inr (1, [v_r 18, v_r 19, v_r 20]), .inl (.int, 4352), .inl (.int, 8), .inl (.int, 16), .inr (6, [v_r 22, v_r 23]), .inl (.int, 30), .inl (.int, 30), .inr (8, [v_i 0, v_i 0, v_r 25]), .inl (.int, 120), .inr (7, [v_i 0, v_r 27, v_r 28, v_r 29, v_r 30, v_r 31, v_r 32, v_r 33, v_r 34]), .inl (.int, 10), .inl (.int, 10), .inl (.int, 10), .inl (.boolean, 30), .inl (.int, 30), .inl (.int, 30), .inl (.int, 30), .inl (.int, 7), .inr (3, [v_i 0, v_r 36, v_r 37, v_r 38, v_r 39, v_i 0, v_r 40, v_r 41, v_r 42]), .inl (.int, 30), .inl (.int, 30), .inl (.int, 30), .inl (.int, 30), .inl (.int, 60), .inl (.int, 60), .inl (.int, 60), .inr (2, [v_i 0, v_i 0, v_r 44, v_r 45]), .inl (.int, 20), .inl (.int, 20), .inr (5, [v_r 47, v_r 48, v_r 49, v_i 0]), .inl (.int, 8), .inl (.int, 8), .inl (.int, 3), .inr (10, [v_r 51, v_r 52, v_r 53, v_r 54, v_r 55, v_r 56, v_r 57, v_r 58, v_r 59, v_r 60, v_i 0, v_i 0, v_r 61, v_r 62, v_r 63, v_r 64, v_i 0, v_r 65, v_r 66, v_r 67, v_r 68, v_r 69, v_i 0, v_l 0, v_r 70, v_r 71, v_r 72, v_r 73, v_r 74, v_i 0, v_i 0, v_i 0, v_r 75, v_r 76, v_r 77, v_r 78, v_i 0, v_r 79, v_r 80, v_r 81, v_n, v_n, v_n, v_n, v_i 0, v_i 0, v_n, v_n, v_i 0, v_i 0, v_n, v_n, v_n]), .inl (.int, 16), .inl (.int, 16), .inl (.int, 16), .inl (.int, 16), .inl (.boolean, 16), .inl (.boolean, 8), .inl (.int, 8), .inl (.int, 8), .inl (.int, 8), .inl (.int, 8), .inl (.int, 40), .inl (.int, 40), .inl (.int, 40), .inl (.int, 16), .inl (.int, 16), .inl (.long, 49), .inl (.long, 7), .inl (.long, 128), .inl (.long, 16), .inl (.int, 4352), .inl (.int, 16), .inl (.int, 30), .inl (.int, 30), .inl (.int, 120), .inl (.boolean, 10), .inl (.int, 10), .inl (.int, 10), .inl (.int, 120), .inl (.int, 30), .inl (.int, 30), .inl (.int, 30)]
def la_162 : List mm_S := [.inr (9, [v_r 1, v_r 10, v_r 17, v_r 21, v_r 24, v_r 26, v_r 35, v_r 43, v_r 46, v_i 0]), .inr (0, [v_i 0, v_r 2, v_r 3, v_r 4, v_r 5, v_i 0, v_r 6, v_r 7, v_r 8, v_r 9]), .inl (.int, 16), .inl (.int, 16), .inl (.int, 16), .inl (.int, 16), .inl (.int, 8), .inl (.int, 8), .inl (.int, 8), .inl (.int, 8), .inr (4, [v_i 0, v_r 11, v_r 12, v_r 13, v_r 14, v_l 0, v_r 15, v_r 16]), .inl (.int, 40), .inl (.int, 40), .inl (.int, 40), .inl (.long, 16), .inl (.int, 16), .inl (.long, 42), .inr (1, [v_r 18, v_r 19, v_r 20]), .inl (.int, 4352), .inl (.int, 8), .inl (.int, 16), .inr (6, [v_r 22, v_r 23]), .inl (.int, 30), .inl (.int, 30), .inr (8, [v_i 0, v_i 0, v_r 25]), .inl (.int, 120), .inr (7, [v_i 0, v_r 27, v_r 28, v_r 29, v_r 30, v_r 31, v_r 32, v_r 33, v_r 34]), .inl (.int, 10), .inl (.int, 10), .inl (.int, 10), .inl (.boolean, 30), .inl (.int, 30), .inl (.int, 30), .inl (.int, 30), .inl (.int, 7), .inr (3, [v_i 0, v_r 36, v_r 37, v_r 38, v_r 39, v_i 0, v_r 40, v_r 41, v_r 42]), .inl (.int, 30), .inl (.int, 30), .inl (.int, 30), .inl (.int, 30), .inl (.int, 60), .inl (.int, 60), .inl (.int, 60), .inr (2, [v_i 0, v_i 0, v_r 44, v_r 45]), .inl (.int, 20), .inl (.int, 20), .inr (5, [v_r 47, v_r 48, v_r 49, v_i 0]), .inl (.int, 8), .inl (.int, 8), .inl (.int, 3), .inr (10, [v_r 51, v_r 52, v_r 53, v_r 54, v_r 55, v_r 56, v_r 57, v_r 58, v_r 59, v_r 60, v_i 0, v_i 0, v_r 61, v_r 62, v_r 63, v_r 64, v_i 0, v_r 65, v_r 66, v_r 67, v_r 68, v_r 69, v_i 0, v_l 0, v_r 70, v_r 71, v_r 72, v_r 73, v_r 74, v_i 0, v_i 0, v_i 0, v_r 75, v_r 76, v_r 77, v_r 78, v_i 0, v_r 79, v_r 80, v_r 81, v_n, v_n, v_n, v_n, v_i 0, v_i 0, v_n, v_n, v_i 0, v_i 0, v_n, v_n, v_n]), .inl (.int, 16), .inl (.int, 16), .inl (.int, 16), .inl (.int, 16), .inl (.boolean, 16), .inl (.boolean, 8), .inl (.int, 8), .inl (.int, 8), .inl (.int, 8), .inl (.int, 8), .inl (.int, 40), .inl (.int, 40), .inl (.int, 40), .inl (.int, 16), .inl (.int, 16), .inl (.long, 49), .inl (.long, 7), .inl (.long, 128), .inl (.long, 16), .inl (.int, 4352), .inl (.int, 16), .inl (.int, 30), .inl (.int, 30), .inl (.int, 120), .inl (.boolean, 10), .inl (.int, 10), .inl (.int, 10), .inl (.int, 120), .inl (.int, 30), .inl (.int, 30), .inl (.int, 30), .inl (.int, 30)]
def la_163 : List mm_S := [.inr (9, [v_r 1, v_r 10, v_r 17, v_r 21, v_r 24, v_r 26, v_r 35, v_r 43, v_r 46, v_i 0]), .inr (0, [v_i 0, v_r 2, v_r 3, v_r 4, v_r 5, v_i 0, v_r 6, v_r 7, v_r 8, v_r 9]), .inl (.int, 16), .inl (.int, 16), .inl (.int, 16), .inl (.int, 16), .inl (.int, 8), .inl (.int, 8), .inl (.int, 8), .inl (.int, 8), .inr (4, [v_i 0, v_r 11, v_r 12, v_r 13, v_r 14, v_l 0, v_r 15, v_r 16]), .inl (.int, 40), .inl (.int, 40), .inl (.int, 40), .inl (.long, 16), .inl (.int, 16), .inl (.long, 42), .inr (1, [v_r 18, v_r 19, v_r 20]), .inl (.int, 4352), .inl (.int, 8), .inl (.int, 16), .inr (6, [v_r 22, v_r 23]), .inl (.int, 30), .inl (.int, 30), .inr (8, [v_i 0, v_i 0, v_r 25]), .inl (.int, 120), .inr (7, [v_i 0, v_r 27, v_r 28, v_r 29, v_r 30, v_r 31, v_r 32, v_r 33, v_r 34]), .inl (.int, 10), .inl (.int, 10), .inl (.int, 10), .inl (.boolean, 30), .inl (.int, 30), .inl (.int, 30), .inl (.int, 30), .inl (.int, 7), .inr (3, [v_i 0, v_r 36, v_r 37, v_r 38, v_r 39, v_i 0, v_r 40, v_r 41, v_r 42]), .inl (.int, 30), .inl (.int, 30), .inl (.int, 30), .inl (.int, 30), .inl (.int, 60), .inl (.int, 60), .inl (.int, 60), .inr (2, [v_i 0, v_i 0, v_r 44, v_r 45]), .inl (.int, 20), .inl (.int, 20), .inr (5, [v_r 47, v_r 48, v_r 49, v_i 0]), .inl (.int, 8), .inl (.int, 8), .inl (.int, 3), .inr (10, [v_r 51, v_r 52, v_r 53, v_r 54, v_r 55, v_r 56, v_r 57, v_r 58, v_r 59, v_r 60, v_i 0, v_i 0, v_r 61, v_r 62, v_r 63, v_r 64, v_i 0, v_r 65, v_r 66, v_r 67, v_r 68, v_r 69, v_i 0, v_l 0, v_r 70, v_r 71, v_r 72, v_r 73, v_r 74, v_i 0, v_i 0, v_i 0, v_r 75, v_r 76, v_r 77, v_r 78, v_i 0, v_r 79, v_r 80, v_r 81, v_r 82, v_n, v_n, v_n, v_i 0, v_i 0, v_n, v_n, v_i 0, v_i 0, v_n, v_n, v_n]), .inl (.int, 16), .inl (.int, 16), .inl (.int, 16), .inl (.int, 16), .inl (.boolean, 16), .inl (.boolean, 8), .inl (.int, 8), .inl (.int, 8), .inl (.int, 8), .inl (.int, 8), .inl (.int, 40), .inl (.int, 40), .inl (.int, 40), .inl (.int, 16), .inl (.int, 16), .inl (.long, 49), .inl (.long, 7), .inl (.long, 128), .inl (.long, 16), .inl (.int, 4352), .inl (.int, 16), .inl (.int, 30), .inl (.int, 30), .inl (.int, 120), .inl (.boolean, 10), .inl (.int, 10), .inl (.int, 10), .inl (.int, 120), .inl (.int, 30), .inl (.int, 30), .inl (.int, 30), .inl (.int, 30)]
def la_164 : List mm_S := [.inr (9, [v_r 1, v_r 10, v_r 17, v_r 21, v_r 24, v_r 26, v_r 35, v_r 43, v_r 46, v_i 0]), .inr (0, [v_i 0, v_r 2, v_r 3, v_r 4, v_r 5, v_i 0, v_r 6, v_r 7, v_r 8, v_r 9]), .inl (.int, 16), .inl (.int, 16), .inl (.int, 16), .inl (.int, 16), .inl (.int, 8), .inl (.int, 8), .inl (.int, 8), .inl (.int, 8), .inr (4, [v_i 0, v_r 11, v_r 12, v_r 13, v_r 14, v_l 0, v_r 15, v_r 16]), .inl (.int, 40), .inl (.int, 40), .inl (.int, 40), .inl (.long, 16), .inl (.int, 16), .inl (.long, 42), .inr (1, [v_r 18, v_r 19, v_r 20]), .inl (.int, 4352), .inl (.int, 8), .inl (.int, 16), .inr (6, [v_r 22, v_r 23]), .inl (.int, 30), .inl (.int, 30), .inr (8, [v_i 0, v_i 0, v_r 25]), .inl (.int, 120), .inr (7, [v_i 0, v_r 27, v_r 28, v_r 29, v_r 30, v_r 31, v_r 32, v_r 33, v_r 34]), .inl (.int, 10), .inl (.int, 10), .inl (.int, 10), .inl (.boolean, 30), .inl (.int, 30), .inl (.int, 30), .inl (.int, 30), .inl (.int, 7), .inr (3, [v_i 0, v_r 36, v_r 37, v_r 38, v_r 39, v_i 0, v_r 40, v_r 41, v_r 42]), .inl (.int, 30), .inl (.int, 30), .inl (.int, 30), .inl (.int, 30), .inl (.int, 60), .inl (.int, 60), .inl (.int, 60), .inr (2, [v_i 0, v_i 0, v_r 44, v_r 45]), .inl (.int, 20), .inl (.int, 20), .inr (5, [v_r 47, v_r 48, v_r 49, v_i 0]), .inl (.int, 8), .inl (.int, 8), .inl (.int, 3), .inr (10, [v_r 51, v_r 52, v_r 53, v_r 54, v_r 55, v_r 56, v_r 57, v_r 58, v_r 59, v_r 60, v_i 0, v_i 0, v_r 61, v_r 62, v_r 63, v_r 64, v_i 0, v_r 65, v_r 66, v_r 67, v_r 68, v_r 69, v_i 0, v_l 0, v_r 70, v_r 71, v_r 72, v_r 73, v_r 74, v_i 0, v_i 0, v_i 0, v_r 75, v_r 76, v_r 77, v_r 78, v_i 0, v_r 79, v_r 80, v_r 81, v_r 82, v_n, v_n, v_n, v_i 0, v_i 0, v_n, v_n, v_i 0, v_i 0, v_n, v_n, v_n]), .inl (.int, 16), .inl (.int, 16), .inl (.int, 16), .inl (.int, 16), .inl (.boolean, 16), .inl (.boolean, 8), .inl (.int, 8), .inl (.int, 8), .inl (.int, 8), .inl (.int, 8), .inl (.int, 40), .inl (.int, 40), .inl (.int, 40), .inl (.int, 16), .inl (.int, 16), .inl (.long, 49), .inl (.long, 7), .inl (.long, 128), .inl (.long, 16), .inl (.int, 4352), .inl (.int, 16), .inl (.int, 30), .inl (.int, 30), .inl (.int, 120), .inl (.boolean, 10), .inl (.int, 10), .inl (.int, 10), .inl (.int, 120), .inl (.int, 30), .inl (.int, 30), .inl (.int, 30), .inl (.int, 30), .inl (.int, 60)]
def la_165 : List mm_S := [.inr (9, [v_r 1, v_r 10, v_r 17, v_r 21, v_r 24, v_r 26, v_r 35, v_r 43, v_r 46, v_i 0]), .inr (0, [v_i 0, v_r 2, v_r 3, v_r 4, v_r 5, v_i 0, v_r 6, v_r 7, v_r 8, v_r 9]), .inl (.int, 16), .inl (.int, 16), .inl (.int, 16), .inl (.int, 16), .inl (.int, 8), .inl (.int, 8), .inl (.int, 8), .inl (.int, 8), .inr (4, [v_i 0, v_r 11, v_r 12, v_r 13, v_r 14, v_l 0, v_r 15, v_r 16]), .inl (.int, 40), .inl (.int, 40), .inl (.int, 40), .inl (.long, 16), .inl (.int, 16), .inl (.long, 42), .inr (1, [v_r 18, v_r 19, v_r 20]), .inl (.int, 4352), .inl (.int, 8), .inl (.int, 16), .inr (6, [v_r 22, v_r 23]), .inl (.int, 30), .inl (.int, 30), .inr (8, [v_i 0, v_i 0, v_r 25]), .inl (.int, 120), .inr (7, [v_i 0, v_r 27, v_r 28, v_r 29, v_r 30, v_r 31, v_r 32, v_r 33, v_r 34]), .inl (.int, 10), .inl (.int, 10), .inl (.int, 10), .inl (.boolean, 30), .inl (.int, 30), .inl (.int, 30), .inl (.int, 30), .inl (.int, 7), .inr (3, [v_i 0, v_r 36, v_r 37, v_r 38, v_r 39, v_i 0, v_r 40, v_r 41, v_r 42]), .inl (.int, 30), .inl (.int, 30), .inl (.int, 30), .inl (.int, 30), .inl (.int, 60), .inl (.int, 60), .inl (.int, 60), .inr (2, [v_i 0, v_i 0, v_r 44, v_r 45]), .inl (.int, 20), .inl (.int, 20), .inr (5, [v_r 47, v_r 48, v_r 49, v_i 0]), .inl (.int, 8), .inl (.int, 8), .inl (.int, 3), .inr (10, [v_r 51, v_r 52, v_r 53, v_r 54, v_r 55, v_r 56, v_r 57, v_r 58, v_r 59, v_r 60, v_i 0, v_i 0, v_r 61, v_r 62, v_r 63, v_r 64, v_i 0, v_r 65, v_r 66, v_r 67, v_r 68, v_r 69, v_i 0, v_l 0, v_r 70, v_r 71, v_r 72, v_r 73, v_r 74, v_i 0, v_i 0, v_i 0, v_r 75, v_r 76, v_r 77, v_r 78, v_i 0, v_r 79, v_r 80, v_r 81, v_r 82, v_r 83, v_n, v_n, v_i 0, v_i 0, v_n, v_n, v_i 0, v_i 0, v_n, v_n, v_n]), .inl (.int, 16), .inl (.int, 16), .inl (.int, 16), .inl (.int, 16), .inl (.boolean, 16), .inl (.boolean, 8), .inl (.int, 8), .inl (.int, 8), .inl (.int, 8), .inl (.int, 8), .inl (.int, 40), .inl (.int, 40), .inl (.int, 40), .inl (.int, 16), .inl (.int, 16), .inl (.long, 49), .inl (.long, 7), .inl (.long, 128), .inl (.long, 16), .inl (.int, 4352), .inl (.int, 16), .inl (.int, 30), .inl (.int, 30), .inl (.int, 120), .inl (.boolean, 10), .inl (.int, 10), .inl (.int, 10), .inl (.int, 120), .inl (.int, 30), .inl (.int, 30), .inl (.int, 30), .inl (.int, 30), .inl (.int, 60)]
def la_166 : List mm_S := [.inr (9, [v_r 1, v_r 10, v_r 17, v_r 21, v_r 24, v_r 26, v_r 35, v_r 43, v_r 46, v_i 0]), .inr (0, [v_i 0, v_r 2, v_r 3, v_r 4, v_r 5, v_i 0, v_r 6, v_r 7, v_r 8, v_r 9]), .inl (.int, 16), .inl (.int, 16), .inl (.int, 16), .inl (.int, 16), .inl (.int, 8), .inl (.int, 8), .inl (.int, 8), .inl (.int, 8), .inr (4, [v_i 0, v_r 11, v_r 12, v_r 13, v_r 14, v_l 0, v_r 15, v_r 16]), .inl (.int, 40), .inl (.int, 40), .inl (.int, 40), .inl (.long, 16), .inl (.int, 16), .inl (.long, 42), .inr (1, [v_r 18, v_r 19, v_r 20]), .inl (.int, 4352), .inl (.int, 8), .inl (.int, 16), .inr (6, [v_r 22, v_r 23]), .inl (.int, 30), .inl (.int, 30), .inr (8, [v_i 0, v_i 0, v_r 25]), .inl (.int, 120), .inr (7, [v_i 0, v_r 27, v_r 28, v_r 29, v_r 30, v_r 31, v_r 32, v_r 33, v_r 34]), .inl (.int, 10), .inl (.int, 10), .inl (.int, 10), .inl (.boolean, 30), .inl (.int, 30), .inl (.int, 30), .inl (.int, 30), .inl (.int, 7), .inr (3, [v_i 0, v_r 36, v_r 37, v_r 38, v_r 39, v_i 0, v_r 40, v_r 41, v_r 42]), .inl (.int, 30), .inl (.int, 30), .inl (.int, 30), .inl (.int, 30), .inl (.int, 60), .inl (.int, 60), .inl (.int, 60), .inr (2, [v_i 0, v_i 0, v_r 44, v_r 45]), .inl (.int, 20), .inl (.int, 20), .inr (5, [v_r 47, v_r 48, v_r 49, v_i 0]), .inl (.int, 8), .inl (.int, 8), .inl (.int, 3), .inr (10, [v_r 51, v_r 52, v_r 53, v_r 54, v_r 55, v_r 56, v_r 57, v_r 58, v_r 59, v_r 60, v_i 0, v_i 0, v_r 61, v_r 62, v_r 63, v_r 64, v_i 0, v_r 65, v_r 66, v_r 67, v_r 68, v_r 69, v_i 0, v_l 0, v_r 70, v_r 71, v_r 72, v_r 73, v_r 74, v_i 0, v_i 0, v_i 0, v_r 75, v_r 76, v_r 77, v_r 78, v_i 0, v_r 79, v_r 80, v_r 81, v_r 82, v_r 83, v_n, v_n, v_i 0, v_i 0, v_n, v_n, v_i 0, v_i 0, v_n, v_n, v_n]), .inl (.int, 16), .inl (.int, 16), .inl (.int, 16), .inl (.int, 16), .inl (.boolean, 16), .inl (.boolean, 8), .inl (.int, 8), .inl (.int, 8), .inl (.int, 8), .inl (.int, 8), .inl (.int, 40), .inl (.int, 40), .inl (.int, 40), .inl (.int, 16), .inl (.int, 16), .inl (.long, 49), .inl (.long, 7), .inl (.long, 128), .inl (.long, 16), .inl (.int, 4352), .inl (.int, 16), .inl (.int, 30), .inl (.int, 30), .inl (.int, 120), .inl (.boolean, 10), .inl (.int, 10), .inl (.int, 10), .inl (.int, 120), .inl (.int, 30), .inl (.int, 30), .inl (.int, 30), .inl (.int, 30), .inl (.int, 60), .inl (.int, 60)]
def la_167 : List mm_S := [.inr (9, [v_r 1, v_r 10, v_r 17, v_r 21, v_r 24, v_r 26, v_r 35, v_r 43, v_r 46, v_i 0]), .inr (0, [v_i 0, v_r 2, v_r 3, v_r 4, v_r 5, v_i 0, v_r 6, v_r 7, v_r 8, v_r 9]), .inl (.int, 16), .inl (.int, 16), .inl (.int, 16), .inl (.int, 16), .inl (.int, 8), .inl (.int, 8), .inl (.int, 8), .inl (.int, 8), .inr (4, [v_i 0, v_r 11, v_r 12, v_r 13, v_r 14, v_l 0, v_r 15, v_r 16]), .inl (.int, 40), .inl (.int, 40), .inl (.int, 40), .inl (.long, 16), .inl (.int, 16), .inl (.long, 42), .inr (1, [v_r 18, v_r 19, v_r 20]), .inl (.int, 4352), .inl (.int, 8), .inl (.int, 16), .inr (6, [v_r 22, v_r 23]), .inl (.int, 30), .inl (.int, 30), .inr (8, [v_i 0, v_i 0, v_r 25]), .inl (.int, 120), .inr (7, [v_i 0, v_r 27, v_r 28, v_r 29, v_r 30, v_r 31, v_r 32, v_r 33, v_r 34]), .inl (.int, 10), .inl (.int, 10), .inl (.int, 10), .inl (.boolean, 30), .inl (.int, 30), .inl (.int, 30), .inl (.int, 30), .inl (.int, 7), .inr (3, [v_i 0, v_r 36, v_r 37, v_r 38, v_r 39, v_i 0, v_r 40, v_r 41, v_r 42]), .inl (.int, 30), .inl (.int, 30), .inl (.int, 30), .inl (.int, 30), .inl (.int, 60), .inl (.int, 60), .inl (.int, 60), .inr (2, [v_i 0, v_i 0, v_r 44, v_r 45]), .inl (.int, 20), .inl (.int, 20), .inr (5, [v_r 47, v_r 48, v_r 49, v_i 0]), .inl (.int, 8), .inl (.int, 8), .inl (.int, 3), .inr (10, [v_r 51, v_r 52, v_r 53, v_r 54, v_r 55, v_r 56, v_r 57, v_r 58, v_r 59, v_r 60, v_i 0, v_i 0, v_r 61, v_r 62, v_r 63, v_r 64, v_i 0, v_r 65, v_r 66, v_r 67, v_r 68, v_r 69, v_i 0, v_l 0, v_r 70, v_r 71, v_r 72, v_r 73, v_r 74, v_i 0, v_i 0, v_i 0, v_r 75, v_r 76, v_r 77, v_r 78, v_i 0, v_r 79, v_r 80, v_r 81, v_r 82, v_r 83, v_r 84, v_n, v_i 0, v_i 0, v_n, v_n, v_i 0, v_i 0, v_n, v_n, v_n]), .inl (.int, 16), .inl (.int, 16), .inl (.int, 16), .inl (.int, 16), .inl (.boolean, 16), .inl (.boolean, 8), .inl (.int, 8), .inl (.int, 8), .inl (.int, 8), .inl (.int, 8), .inl (.int, 40), .inl (.int, 40), .inl (.int, 40), .inl (.int, 16), .inl (.int, 16), .inl (.long, 49), .inl (.long, 7), .inl (.long, 128), .inl (.long, 16), .inl (.int, 4352), .inl (.int, 16), .inl (.int, 30), .inl (.int, 30), .inl (.int, 120), .inl (.boolean, 10), .inl (.int, 10), .inl (.int, 10), .inl (.int, 120), .inl (.int, 30), .inl (.int, 30), .inl (.int, 30), .inl (.int, 30), .inl (.int, 60), .inl (.int, 60)]
def la_168 : List mm_S := [.inr (9, [v_r 1, v_r 10, v_r 17, v_r 21, v_r 24, v_r 26, v_r 35, v_r 43, v_r 46, v_i 0]), .inr (0, [v_i 0, v_r 2, v_r 3, v_r 4, v_r 5, v_i 0, v_r 6, v_r 7, v_r 8, v_r 9]), .inl (.int, 16), .inl (.int, 16), .inl (.int, 16), .inl (.int, 16), .inl (.int, 8), .inl (.int, 8), .inl (.int, 8), .inl (.int, 8), .inr (4, [v_i 0, v_r 11, v_r 12, v_r 13, v_r 14, v_l 0, v_r 15, v_r 16]), .inl (.int, 40), .inl (.int, 40), .inl (.int, 40), .inl (.long, 16), .inl (.int, 16), .inl (.long, 42), .inr (1, [v_r 18, v_r 19, v_r 20]), .inl (.int, 4352), .inl (.int, 8), .inl (.int, 16), .inr (6, [v_r 22, v_r 23]), .inl (.int, 30), .inl (.int, 30), .inr (8, [v_i 0, v_i 0, v_r 25]), .inl (.int, 120), .inr (7, [v_i 0, v_r 27, v_r 28, v_r 29, v_r 30, v_r 31, v_r 32, v_r 33, v_r 34]), .inl (.int, 10), .inl (.int, 10), .inl (.int, 10), .inl (.boolean, 30), .inl (.int, 30), .inl (.int, 30), .inl (.int, 30), .inl (.int, 7), .inr (3, [v_i 0, v_r 36, v_r 37, v_r 38, v_r 39, v_i 0, v_r 40, v_r 41, v_r 42]), .inl (.int, 30), .inl (.int, 30), .inl (.int, 30), .inl (.int, 30), .inl (.int, 60), .inl (.int, 60), .inl (.int, 60), .inr (2, [v_i 0, v_i 0, v_r 44, v_r 45]), .inl (.int, 20), .inl (.int, 20), .inr (5, [v_r 47, v_r 48, v_r 49, v_i 0]), .inl (.int, 8), .inl (.int, 8), .inl (.int, 3), .inr (10, [v_r 51, v_r 52, v_r 53, v_r 54, v_r 55, v_r 56, v_r 57, v_r 58, v_r 59, v_r 60, v_i 0, v_i 0, v_r 61, v_r 62, v_r 63, v_r 64, v_i 0, v_r 65, v_r 66, v_r 67, v_r 68, v_r 69, v_i 0, v_l 0, v_r 70, v_r 71, v_r 72, v_r 73, v_r 74, v_i 0, v_i 0, v_i 0, v_r 75, v_r 76, v_r 77, v_r 78, v_i 0, v_r 79, v_r 80, v_r 81, v_r 82, v_r 83, v_r 84, v_n, v_i 0, v_i 0, v_n, v_n, v_i 0, v_i 0, v_n, v_n, v_n]), .inl (.int, 16), .inl (.int, 16), .inl (.int, 16), .inl (.int, 16), .inl (.boolean, 16), .inl (.boolean, 8), .inl (.int, 8), .inl (.int, 8), .inl (.int, 8), .inl (.int, 8), .inl (.int, 40), .inl (.int, 40), .inl (.int, 40), .inl (.int, 16), .inl (.int, 16), .inl (.long, 49), .inl (.long, 7), .inl (.long, 128), .inl (.long, 16), .inl (.int, 4352), .inl (.int, 16), .inl (.int, 30), .inl (.int, 30), .inl (.int, 120), .inl (.boolean, 10), .inl (.int, 10), .inl (.int, 10), .inl (.int, 120), .inl (.int, 30), .inl (.int, 30), .inl (.int, 30), .inl (.int, 30), .inl (.int, 60), .inl (.int, 60), .inl (.boolean, 60)]
def la_169 : List mm_S := [.inr (9, [v_r 1, v_r 10, v_r 17, v_r 21, v_r 24, v_r 26, v_r 35, v_r 43, v_r 46, v_i 0]), .inr (0, [v_i 0, v_r 2, v_r 3, v_r 4, v_r 5, v_i 0, v_r 6, v_r 7, v_r 8, v_r 9]), .inl (.int, 16), .inl (.int, 16), .inl (.int, 16), .inl (.int, 16), .inl (.int, 8), .inl (.int, 8), .inl (.int, 8), .inl (.int, 8), .inr (4, [v_i 0, v_r 11, v_r 12, v_r 13, v_r 14, v_l 0, v_r 15, v_r 16]), .inl (.int, 40), .inl (.int, 40), .inl (.int, 40), .inl (.long, 16), .inl (.int, 16), .inl (.long, 42), .inr (1, [v_r 18, v_r 19, v_r 20]), .inl (.int, 4352), .inl (.int, 8), .inl (.int, 16), .inr (6, [v_r 22, v_r 23]), .inl (.int, 30), .inl (.int, 30), .inr (8, [v_i 0, v_i 0, v_r 25]), .inl (.int, 120), .inr (7, [v_i 0, v_r 27, v_r 28, v_r 29, v_r 30, v_r 31, v_r 32, v_r 33, v_r 34]), .inl (.int, 10), .inl (.int, 10), .inl (.int, 10), .inl (.boolean, 30), .inl (.int, 30), .inl (.int, 30), .inl (.int, 30), .inl (.int, 7), .inr (3, [v_i 0, v_r 36, v_r 37, v_r 38, v_r 39, v_i 0, v_r 40, v_r 41, v_r 42]), .inl (.int, 30), .inl (.int, 30), .inl (.int, 30), .inl (.int, 30), .inl (.int, 60), .inl (.int, 60), .inl (.int, 60), .inr (2, [v_i 0, v_i 0, v_r 44, v_r 45]), .inl (.int, 20), .inl (.int, 20), .inr (5, [v_r 47, v_r 48, v_r 49, v_i 0]), .inl (.int, 8), .inl (.int, 8), .inl (.int, 3), .inr (10, [v_r 51, v_r 52, v_r 53, v_r 54, v_r 55, v_r 56, v_r 57, v_r 58, v_r 59, v_r 60, v_i 0, v_i 0, v_r 61, v_r 62, v_r 63, v_r 64, v_i 0, v_r 65, v_r 66, v_r 67, v_r 68, v_r 69, v_i 0, v_l 0, v_r 70, v_r 71, v_r 72, v_r 73, v_r 74, v_i 0, v_i 0, v_i 0, v_r 75, v_r 76, v_r 77, v_r 78, v_i 0, v_r 79, v_r 80, v_r 81, v_r 82, v_r 83, v_r 84, v_r 85, v_i 0, v_i 0, v_n, v_n, v_i 0, v_i 0, v_n, v_n, v_n]), .inl (.int, 16), .inl (.int, 16), .inl (.int, 16), .inl (.int, 16), .inl (.boolean, 16), .inl (.boolean, 8), .inl (.int, 8), .inl (.int, 8), .inl (.int, 8), .inl (.int, 8), .inl (.int, 40), .inl (.int, 40), .inl (.int, 40), .inl (.int, 16), .inl (.int, 16), .inl (.long, 49), .inl (.long, 7), .inl (.long, 128), .inl (.long, 16), .inl (.int, 4352), .inl (.int, 16), .inl (.int, 30), .inl (.int, 30), .inl (.int, 120), .inl (.boolean, 10), .inl (.int, 10), .inl (.int, 10), .inl (.int, 120), .inl (.int, 30), .inl (.int, 30), .inl (.int, 30), .inl (.int, 30), .inl (.int, 60), .inl (.int, 60), .inl (.boolean, 60)]
def la_170 : List mm_S := [.inr (9, [v_r 1, v_r 10, v_r 17, v_r 21, v_r 24, v_r 26, v_r 35, v_r 43, v_r 46, v_i 0]), .inr (0, [v_i 0, v_r 2, v_r 3, v_r 4, v_r 5, v_i 0, v_r 6, v_r 7, v_r 8, v_r 9]), .inl (.int, 16), .inl (.int, 16), .inl (.int, 16), .inl (.int, 16), .inl (.int, 8), .inl (.int, 8), .inl (.int, 8), .inl (.int, 8), .inr (4, [v_i 0, v_r 11, v_r 12, v_r 13, v_r 14, v_l 0, v_r 15, v_r 16]), .inl (.int, 40), .inl (.int, 40), .inl (.int, 40), .inl (.long, 16), .inl (.int, 16), .inl (.long, 42), .inr (1, [v_r 18, v_r 19, v_r 20]), .inl (.int, 4352), .inl (.int, 8), .inl (.int, 16), .inr (6, [v_r 22, v_r 23]), .inl (.int, 30), .inl (.int, 30), .inr (8, [v_i 0, v_i 0, v_r 25]), .inl (.int, 120), .inr (7, [v_i 0, v_r 27, v_r 28, v_r 29, v_r 30, v_r 31, v_r 32, v_r 33, v_r 34]), .inl (.int, 10), .inl (.int, 10), .inl (.int, 10), .inl (.boolean, 30), .inl (.int, 30), .inl (.int, 30), .inl (.int, 30), .inl (.int, 7), .inr (3, [v_i 0, v_r 36, v_r 37, v_r 38, v_r 39, v_i 0, v_r 40, v_r 41, v_r 42]), .inl (.int, 30), .inl (.int, 30), .inl (.int, 30), .inl (.int, 30), .inl (.int, 60), .inl (.int, 60), .inl (.int, 60), .inr (2, [v_i 0, v_i 0, v_r 44, v_r 45]), .inl (.int, 20), .inl (.int, 20), .inr (5, [v_r 47, v_r 48, v_r 49, v_i 0]), .inl (.int, 8), .inl (.int, 8), .inl (.int, 3), .inr (10, [v_r 51, v_r 52, v_r 53, v_r 54, v_r 55, v_r 56, v_r 57, v_r 58, v_r 59, v_r 60, v_i 0, v_i 0, v_r 61, v_r 62, v_r 63, v_r 64, v_i 0, v_r 65, v_r 66, v_r 67, v_r 68, v_r 69, v_i 0, v_l 0, v_r 70, v_r 71, v_r 72, v_r 73, v_r 74, v_i 0, v_i 0, v_i 0, v_r 75, v_r 76, v_r 77, v_r 78, v_i 0, v_r 79, v_r 80, v_r 81, v_r 82, v_r 83, v_r 84, v_r 85, v_i 0, v_i 0, v_n, v_n, v_i 0, v_i 0, v_n, v_n, v_n]), .inl (.int, 16), .inl (.int, 16), .inl (.int, 16), .inl (.int, 16), .inl (.boolean, 16), .inl (.boolean, 8), .inl (.int, 8), .inl (.int, 8), .inl (.int, 8), .inl (.int, 8), .inl (.int, 40), .inl (.int, 40), .inl (.int, 40), .inl (.int, 16), .inl (.int, 16), .inl (.long, 49), .inl (.long, 7), .inl (.long, 128), .inl (.long, 16), .inl (.int, 4352), .inl (.int, 16), .inl (.int, 30), .inl (.int, 30), .inl (.int, 120), .inl (.boolean, 10), .inl (.int, 10), .inl (.int, 10), .inl (.int, 120), .inl (.int, 30), .inl (.int, 30), .inl (.int, 30), .inl (.int, 30), .inl (.int, 60), .inl (.int, 60), .inl (.boolean, 60), .inl (.int, 20)]
def la_171 : List mm_S := [.inr (9, [v_r 1, v_r 10, v_r 17, v_r 21, v_r 24, v_r 26, v_r 35, v_r 43, v_r 46, v_i 0]), .inr (0, [v_i 0, v_r 2, v_r 3, v_r 4, v_r 5, v_i 0, v_r 6, v_r 7, v_r 8, v_r 9]), .inl (.int, 16), .inl (.int, 16), .inl (.int, 16), .inl (.int, 16), .inl (.int, 8), .inl (.int, 8), .inl (.int, 8), .inl (.int, 8), .inr (4, [v_i 0, v_r 11, v_r 12, v_r 13, v_r 14, v_l 0, v_r 15, v_r 16]), .inl (.int, 40), .inl (.int, 40), .inl (.int, 40), .inl (.long, 16), .inl (.int, 16), .inl (.long, 42), .inr (1, [v_r 18, v_r 19, v_r 20]), .inl (.int, 4352), .inl (.int, 8), .inl (.int, 16), .inr (6, [v_r 22, v_r 23]), .inl (.int, 30), .inl (.int, 30), .inr (8, [v_i 0, v_i 0, v_r 25]), .inl (.int, 120), .inr (7, [v_i 0, v_r 27, v_r 28, v_r 29, v_r 30, v_r 31, v_r 32, v_r 33, v_r 34]), .inl (.int, 10), .inl (.int, 10), .inl (.int, 10), .inl (.boolean, 30), .inl (.int, 30), .inl (.int, 30), .inl (.int, 30), .inl (.int, 7), .inr (3, [v_i 0, v_r 36, v_r 37, v_r 38, v_r 39, v_i 0, v_r 40, v_r 41, v_r 42]), .inl (.int, 30), .inl (.int, 30), .inl (.int, 30), .inl (.int, 30), .inl (.int, 60), .inl (.int, 60), .inl (.int, 60), .inr (2, [v_i 0, v_i 0, v_r 44, v_r 45]), .inl (.int, 20), .inl (.int, 20), .inr (5, [v_r 47, v_r 48, v_r 49, v_i 0]), .inl (.int, 8), .inl (.int, 8), .inl (.int, 3), .inr (10, [v_r 51, v_r 52, v_r 53, v_r 54, v_r 55, v_r 56, v_r 57, v_r 58, v_r 59, v_r 60, v_i 0, v_i 0, v_r 61, v_r 62, v_r 63, v_r 64, v_i 0, v_r 65, v_r 66, v_r 67, v_r 68, v_r 69, v_i 0, v_l 0, v_r 70, v_r 71, v_r 72, v_r 73, v_r 74, v_i 0, v_i 0, v_i 0, v_r 75, v_r 76, v_r 77, v_r 78, v_i 0, v_r 79, v_r 80, v_r 81, v_r 82, v_r 83, v_r 84, v_r 85, v_i 0, v_i 0, v_r 86, v_n, v_i 0, v_i 0, v_n, v_n, v_n]), .inl (.int, 16), .inl (.int, 16), .inl (.int, 16), .inl (.int, 16), .inl (.boolean, 16), .inl (.boolean, 8), .inl (.int, 8), .inl (.int, 8), .inl (.int, 8), .inl (.int, 8), .inl (.int, 40), .inl (.int, 40), .inl (.int, 40), .inl (.int, 16), .inl (.int, 16), .inl (.long, 49), .inl (.long, 7), .inl (.long, 128), .inl (.long, 16), .inl (.int, 4352), .inl (.int, 16), .inl (.int, 30), .inl (.int, 30), .inl (.int, 120), .inl (.boolean, 10), .inl (.int, 10), .inl (.int, 10), .inl (.int, 120), .inl (.int, 30), .inl (.int, 30), .inl (.int, 30), .inl (.int, 30), .inl (.int, 60), .inl (.int, 60), .inl (.boolean, 60), .inl (.int, 20)]
def la_172 : List mm_S := [.inr (9, [v_r 1, v_r 10, v_r 17, v_r 21, v_r 24, v_r 26, v_r 35, v_r 43, v_r 46, v_i 0]), .inr (0, [v_i 0, v_r 2, v_r 3, v_r 4, v_r 5, v_i 0, v_r 6, v_r 7, v_r 8, v_r 9]), .inl (.int, 16), .inl (.int, 16), .inl (.int, 16), .inl (.int, 16), .inl (.int, 8), .inl (.int, 8), .inl (.int, 8), .inl (.int, 8), .inr (4, [v_i 0, v_r 11, v_r 12, v_r 13, v_r 14, v_l 0, v_r 15, v_r 16]), .inl (.int, 40), .inl (.int, 40), .inl (.int, 40), .inl (.long, 16), .inl (.int, 16), .inl (.long, 42), .inr (1, [v_r 18, v_r 19, v_r 20]), .inl (.int, 4352), .inl (.int, 8), .inl (.int, 16), .inr (6, [v_r 22, v_r 23]), .inl (.int, 30), .inl (.int, 30), .inr (8, [v_i 0, v_i 0, v_r 25]), .inl (.int, 120), .inr (7, [v_i 0, v_r 27, v_r 28, v_r 29, v_r 30, v_r 31, v_r 32, v_r 33, v_r 34]), .inl (.int, 10), .inl (.int, 10), .inl (.int, 10), .inl (.boolean, 30), .inl (.int, 30), .inl (.int, 30), .inl (.int, 30), .inl (.int, 7), .inr (3, [v_i 0, v_r 36, v_r 37, v_r 38, v_r 39, v_i 0, v_r 40, v_r 41, v_r 42]), .inl (.int, 30), .inl (.int, 30), .inl (.int, 30), .inl (.int, 30), .inl (.int, 60), .inl (.int, 60), .inl (.int, 60), .inr (2, [v_i 0, v_i 0, v_r 44, v_r 45]), .inl (.int, 20), .inl (.int, 20), .inr (5, [v_r 47, v_r 48, v_r 49, v_i 0]), .inl (.int, 8), .inl (.int, 8), .inl (.int, 3), .inr (10, [v_r 51, v_r 52, v_r 53, v_r 54, v_r 55, v_r 56, v_r 57, v_r 58, v_r 59, v_r 60, v_i 0, v_i 0, v_r 61, v_r 62, v_r 63, v_r 64, v_i 0, v_r 65, v_r 66, v_r 67, v_r 68, v_r 69, v_i 0, v_l 0, v_r 70, v_r 71, v_r 72, v_r 73, v_r 74, v_i 0, v_i 0, v_i 0, v_r 75, v_r 76, v_r 77, v_r 78, v_i 0, v_r 79, v_r 80, v_r 81, v_r 82, v_r 83, v_r 84, v_r 85, v_i 0, v_i 0, v_r 86, v_n, v_i 0, v_i 0, v_n, v_n, v_n]), .inl (.int, 16), .inl (.int, 16), .inl (.int, 16), .inl (.int, 16), .inl (.boolean, 16), .inl (.boolean, 8), .inl (.int, 8), .inl (.int, 8), .inl (.int, 8), .inl (.int, 8), .inl (.int, 40), .inl (.int, 40), .inl (.int, 40), .inl (.int, 16), .inl (.int, 16), .inl (.long, 49), .inl (.long, 7), .inl (.long, 128), .inl (.long, 16), .inl (.int, 4352), .inl (.int, 16), .inl (.int, 30), .inl (.int, 30), .inl (.int, 120), .inl (.boolean, 10), .inl (.int, 10), .inl (.int, 10), .inl (.int, 120), .inl (.int, 30), .inl (.int, 30), .inl (.int, 30), .inl (.int, 30), .inl (.int, 60), .inl (.int, 60), .inl (.boolean, 60), .inl (.int, 20), .inl (.int, 20)]
def la_173 : List mm_S := [.inr (9, [v_r 1, v_r 10, v_r 17, v_r 21, v_r 24, v_r 26, v_r 35, v_r 43, v_r 46, v_i 0]), .inr (0, [v_i 0, v_r 2, v_r 3, v_r 4, v_r 5, v_i 0, v_r 6, v_r 7, v_r 8, v_r 9]), .inl (.int, 16), .inl (.int, 16), .inl (.int, 16), .inl (.int, 16), .inl (.int, 8), .inl (.int, 8), .inl (.int, 8), .inl (.int, 8), .inr (4, [v_i 0, v_r 11, v_r 12, v_r 13, v_r 14, v_l 0, v_r 15, v_r 16]), .inl (.int, 40), .inl (.int, 40), .inl (.int, 40), .inl (.long, 16), .inl (.int, 16), .inl (.long, 42), .inr (1, [v_r 18, v_r 19, v_r 20]), .inl (.int, 4352), .inl (.int, 8), .inl (.int, 16), .inr (6, [v_r 22, v_r 23]), .inl (.int, 30), .inl (.int, 30), .inr (8, [v_i 0, v_i 0, v_r 25]), .inl (.int, 120), .inr (7, [v_i 0, v_r 27, v_r 28, v_r 29, v_r 30, v_r 31, v_r 32, v_r 33, v_r 34]), .inl (.int, 10), .inl (.int, 10), .inl (.int, 10), .inl (.boolean, 30), .inl (.int, 30), .inl (.int, 30), .inl (.int, 30), .inl (.int, 7), .inr (3, [v_i 0, v_r 36, v_r 37, v_r 38, v_r 39, v_i 0, v_r 40, v_r 41, v_r 42]), .inl (.int, 30), .inl (.int, 30), .inl (.int, 30), .inl (.int, 30), .inl (.int, 60), .inl (.int, 60), .inl (.int, 60), .inr (2, [v_i 0, v_i 0, v_r 44, v_r 45]), .inl (.int, 20), .inl (.int, 20), .inr (5, [v_r 47, v_r 48, v_r 49, v_i 0]), .inl (.int, 8), .inl (.int, 8), .inl (.int, 3), .inr (10, [v_r 51, v_r 52, v_r 53, v_r 54, v_r 55, v_r 56, v_r 57, v_r 58, v_r 59, v_r 60, v_i 0, v_i 0, v_r 61, v_r 62, v_r 63, v_r 64, v_i 0, v_r 65, v_r 66, v_r 67, v_r 68, v_r 69, v_i 0, v_l 0, v_r 70, v_r 71, v_r 72, v_r 73, v_r 74, v_i 0, v_i 0, v_i 0, v_r 75, v_r 76, v_r 77, v_r 78, v_i 0, v_r 79, v_r 80, v_r 81, v_r 82, v_r 83, v_r 84, v_r 85, v_i 0, v_i 0, v_r 86, v_r 87, v_i 0, v_i 0, v_n, v_n, v_n]), .inl (.int, 16), .inl (.int, 16), .inl (.int, 16), .inl (.int, 16), .inl (.boolean, 16), .inl (.boolean, 8), .inl (.int, 8), .inl (.int, 8), .inl (.int, 8), .inl (.int, 8), .inl (.int, 40), .inl (.int, 40), .inl (.int, 40), .inl (.int, 16), .inl (.int, 16), .inl (.long, 49), .inl (.long, 7), .inl (.long, 128), .inl (.long, 16), .inl (.int, 4352), .inl (.int, 16), .inl (.int, 30), .inl (.int, 30), .inl (.int, 120), .inl (.boolean, 10), .inl (.int, 10), .inl (.int, 10), .inl (.int, 120), .inl (.int, 30), .inl (.int, 30), .inl (.int, 30), .inl (.int, 30), .inl (.int, 60), .inl (.int, 60), .inl (.boolean, 60), .inl (.int, 20), .inl (.int, 20)]
def la_174 : List mm_S := [.inr (9, [v_r 1, v_r 10, v_r 17, v_r 21, v_r 24, v_r 26, v_r 35, v_r 43, v_r 46, v_i 0]), .inr (0, [v_i 0, v_r 2, v_r 3, v_r 4, v_r 5, v_i 0, v_r 6, v_r 7, v_r 8, v_r 9]), .inl (.int, 16), .inl (.int, 16), .inl (.int, 16), .inl (.int, 16), .inl (.int, 8), .inl (.int, 8), .inl (.int, 8), .inl (.int, 8), .inr (4, [v_i 0, v_r 11, v_r 12, v_r 13, v_r 14, v_l 0, v_r 15, v_r 16]), .inl (.int, 40), .inl (.int, 40), .inl (.int, 40), .inl (.long, 16), .inl (.int, 16), .inl (.long, 42), .inr (1, [v_r 18, v_r 19, v_r 20]), .inl (.int, 4352), .inl (.int, 8), .inl (.int, 16), .inr (6, [v_r 22, v_r 23]), .inl (.int, 30), .inl (.int, 30), .inr (8, [v_i 0, v_i 0, v_r 25]), .inl (.int, 120), .inr (7, [v_i 0, v_r 27, v_r 28, v_r 29, v_r 30, v_r 31, v_r 32, v_r 33, v_r 34]), .inl (.int, 10), .inl (.int, 10), .inl (.int, 10), .inl (.boolean, 30), .inl (.int, 30), .inl (.int, 30), .inl (.int, 30), .inl (.int, 7), .inr (3, [v_i 0, v_r 36, v_r 37, v_r 38, v_r 39, v_i 0, v_r 40, v_r 41, v_r 42]), .inl (.int, 30), .inl (.int, 30), .inl (.int, 30), .inl (.int, 30), .inl (.int, 60), .inl (.int, 60), .inl (.int, 60), .inr (2, [v_i 0, v_i 0, v_r 44, v_r 45]), .inl (.int, 20), .inl (.int, 20), .inr (5, [v_r 47, v_r 48, v_r 49, v_i 0]), .inl (.int, 8), .inl (.int, 8), .inl (.int, 3), .inr (10, [v_r 51, v_r 52, v_r 53, v_r 54, v_r 55, v_r 56, v_r 57, v_r 58, v_r 59, v_r 60, v_i 0, v_i 0, v_r 61, v_r 62, v_r 63, v_r 64, v_i 0, v_r 65, v_r 66, v_r 67, v_r 68, v_r 69, v_i 0, v_l 0, v_r 70, v_r 71, v_r 72, v_r 73, v_r 74, v_i 0, v_i 0, v_i 0, v_r 75, v_r 76, v_r 77, v_r 78, v_i 0, v_r 79, v_r 80, v_r 81, v_r 82, v_r 83, v_r 84, v_r 85, v_i 0, v_i 0, v_r 86, v_r 87, v_i 0, v_i 0, v_n, v_n, v_n]), .inl (.int, 16), .inl (.int, 16), .inl (.int, 16), .inl (.int, 16), .inl (.boolean, 16), .inl (.boolean, 8), .inl (.int, 8), .inl (.int, 8), .inl (.int, 8), .inl (.int, 8), .inl (.int, 40), .inl (.int, 40), .inl (.int, 40), .inl (.int, 16), .inl (.int, 16), .inl (.long, 49), .inl (.long, 7), .inl (.long, 128), .inl (.long, 16), .inl (.int, 4352), .inl (.int, 16), .inl (.int, 30), .inl (.int, 30), .inl (.int, 120), .inl (.boolean, 10), .inl (.int, 10), .inl (.int, 10), .inl (.int, 120), .inl (.int, 30), .inl (.int, 30), .inl (.int, 30), .inl (.int, 30), .inl (.int, 60), .inl (.int, 60), .inl (.boolean, 60), .inl (.int, 20), .inl (.int, 20), .inl (.int, 8)]
def la_175 : List mm_S := [.inr (9, [v_r 1, v_r 10, v_r 17, v_r 21, v_r 24, v_r 26, v_r 35, v_r 43, v_r 46, v_i 0]), .inr (0, [v_i 0, v_r 2, v_r 3, v_r 4, v_r 5, v_i 0, v_r 6, v_r 7, v_r 8, v_r 9]), .inl (.int, 16), .inl (.int, 16), .inl (.int, 16), .inl (.int, 16), .inl (.int, 8), .inl (.int, 8), .inl (.int, 8), .inl (.int, 8), .inr (4, [v_i 0, v_r 11, v_r 12, v_r 13, v_r 14, v_l 0, v_r 15, v_r 16]), .inl (.int, 40), .inl (.int, 40), .inl (.int, 40), .inl (.long, 16), .inl (.int, 16), .inl (.long, 42), .inr (1, [v_r 18, v_r 19, v_r 20]), .inl (.int, 4352), .inl (.int, 8), .inl (.int, 16), .inr (6, [v_r 22, v_r 23]), .inl (.int, 30), .inl (.int, 30), .inr (8, [v_i 0, v_i 0, v_r 25]), .inl (.int, 120), .inr (7, [v_i 0, v_r 27, v_r 28, v_r 29, v_r 30, v_r 31, v_r 32, v_r 33, v_r 34]), .inl (.int, 10), .inl (.int, 10), .inl (.int, 10), .inl (.boolean, 30), .inl (.int, 30), .inl (.int, 30), .inl (.int, 30), .inl (.int, 7), .inr (3, [v_i 0, v_r 36, v_r 37, v_r 38, v_r 39, v_i 0, v_r 40, v_r 41, v_r 42]), .inl (.int, 30), .inl (.int, 30), .inl (.int, 30), .inl (.int, 30), .inl (.int, 60), .inl (.int, 60), .inl (.int, 60), .inr (2, [v_i 0, v_i 0, v_r 44, v_r 45]), .inl (.int, 20), .inl (.int, 20), .inr (5, [v_r 47, v_r 48, v_r 49, v_i 0]), .inl (.int, 8), .inl (.int, 8), .inl (.int, 3), .inr (10, [v_r 51, v_r 52, v_r 53, v_r 54, v_r 55, v_r 56, v_r 57, v_r 58, v_r 59, v_r 60, v_i 0, v_i 0, v_r 61, v_r 62, v_r 63, v_r 64, v_i 0, v_r 65, v_r 66, v_r 67, v_r 68, v_r 69, v_i 0, v_l 0, v_r 70, v_r 71, v_r 72, v_r 73, v_r 74, v_i 0, v_i 0, v_i 0, v_r 75, v_r 76, v_r 77, v_r 78, v_i 0, v_r 79, v_r 80, v_r 81, v_r 82, v_r 83, v_r 84, v_r 85, v_i 0, v_i 0, v_r 86, v_r 87, v_i 0, v_i 0, v_r 88, v_n, v_n]), .inl (.int, 16), .inl (.int, 16), .inl (.int, 16), .inl (.int, 16), .inl (.boolean, 16), .inl (.boolean, 8), .inl (.int, 8), .inl (.int, 8), .inl (.int, 8), .inl (.int, 8), .inl (.int, 40), .inl (.int, 40), .inl (.int, 40), .inl (.int, 16), .inl (.int, 16), .inl (.long, 49), .inl (.long, 7), .inl (.long, 128), .inl (.long, 16), .inl (.int, 4352), .inl (.int, 16), .inl (.int, 30), .inl (.int, 30), .inl (.int, 120), .inl (.boolean, 10), .inl (.int, 10), .inl (.int, 10), .inl (.int, 120), .inl (.int, 30), .inl (.int, 30), .inl (.int, 30), .inl (.int, 30), .inl (.int, 60), .inl (.int, 60), .inl (.boolean, 60), .inl (.int, 20), .inl (.int, 20), .inl (.int, 8)]
def la_176 : List mm_S := [.inr (9, [v_r 1, v_r 10, v_r 17, v_r 21, v_r 24, v_r 26, v_r 35, v_r 43, v_r 46, v_i 0]), .inr (0, [v_i 0, v_r 2, v_r 3, v_r 4, v_r 5, v_i 0, v_r 6, v_r 7, v_r 8, v_r 9]), .inl (.int, 16), .inl (.int, 16), .inl (.int, 16), .inl (.int, 16), .inl (.int, 8), .inl (.int, 8), .inl (.int, 8), .inl (.int, 8), .inr (4, [v_i 0, v_r 11, v_r 12, v_r 13, v_r 14, v_l 0, v_r 15, v_r 16]), .inl (.int, 40), .inl (.int, 40), .inl (.int, 40), .inl (.long, 16), .inl (.int, 16), .inl (.long, 42), .inr (1, [v_r 18, v_r 19, v_r 20]), .inl (.int, 4352), .inl (.int, 8), .inl (.int, 16), .inr (6, [v_r 22, v_r 23]), .inl (.int, 30), .inl (.int, 30), .inr (8, [v_i 0, v_i 0, v_r 25]), .inl (.int, 120), .inr (7, [v_i 0, v_r 27, v_r 28, v_r 29, v_r 30, v_r 31, v_r 32, v_r 33, v_r 34]), .inl (.int, 10), .inl (.int, 10), .inl (.int, 10), .inl (.boolean, 30), .inl (.int, 30), .inl (.int, 30), .inl (.int, 30), .inl (.int, 7), .inr (3, [v_i 0, v_r 36, v_r 37, v_r 38, v_r 39, v_i 0, v_r 40, v_r 41, v_r 42]), .inl (.int, 30), .inl (.int, 30), .inl (.int, 30), .inl (.int, 30), .inl (.int, 60), .inl (.int, 60), .inl (.int, 60), .inr (2, [v_i 0, v_i 0, v_r 44, v_r 45]), .inl (.int, 20), .inl (.int, 20), .inr (5, [v_r 47, v_r 48, v_r 49, v_i 0]), .inl (.int, 8), .inl (.int, 8), .inl (.int, 3), .inr (10, [v_r 51, v_r 52, v_r 53, v_r 54, v_r 55, v_r 56, v_r 57, v_r 58, v_r 59, v_r 60, v_i 0, v_i 0, v_r 61, v_r 62, v_r 63, v_r 64, v_i 0, v_r 65, v_r 66, v_r 67, v_r 68, v_r 69, v_i 0, v_l 0, v_r 70, v_r 71, v_r 72, v_r 73, v_r 74, v_i 0, v_i 0, v_i 0, v_r 75, v_r 76, v_r 77, v_r 78, v_i 0, v_r 79, v_r 80, v_r 81, v_r 82, v_r 83, v_r 84, v_r 85, v_i 0, v_i 0, v_r 86, v_r 87, v_i 0, v_i 0, v_r 88, v_n, v_n]), .inl (.int, 16), .inl (.int, 16), .inl (.int, 16), .inl (.int, 16), .inl (.boolean, 16), .inl (.boolean, 8), .inl (.int, 8), .inl (.int, 8), .inl (.int, 8), .inl (.int, 8), .inl (.int, 40), .inl (.int, 40), .inl (.int, 40), .inl (.int, 16), .inl (.int, 16), .inl (.long, 49), .inl (.long, 7), .inl (.long, 128), .inl (.long, 16), .inl (.int, 4352), .inl (.int, 16), .inl (.int, 30), .inl (.int, 30), .inl (.int, 120), .inl (.boolean, 10), .inl (.int, 10), .inl (.int, 10), .inl (.int, 120), .inl (.int, 30), .inl (.int, 30), .inl (.int, 30), .inl (.int, 30), .inl (.int, 60), .inl (.int, 60), .inl (.boolean, 60), .inl (.int, 20), .inl (.int, 20), .inl (.int, 8), .inl (.int, 8)]
def la_177 : List mm_S := [.inr (9, [v_r 1, v_r 10, v_r 17, v_r 21, v_r 24, v_r 26, v_r 35, v_r 43, v_r 46, v_i 0]), .inr (0, [v_i 0, v_r 2, v_r 3, v_r 4, v_r 5, v_i 0, v_r 6, v_r 7, v_r 8, v_r 9]), .inl (.int, 16), .inl (.int, 16), .inl (.int, 16), .inl (.int, 16), .inl (.int, 8), .inl (.int, 8), .inl (.int, 8), .inl (.int, 8), .inr (4, [v_i 0, v_r 11, v_r 12, v_r 13, v_r 14, v_l 0, v_r 15, v_r 16]), .inl (.int, 40), .inl (.int, 40), .inl (.int, 40), .inl (.long, 16), .inl (.int, 16), .inl (.long, 42), .inr (1, [v_r 18, v_r 19, v_r 20]), .inl (.int, 4352), .inl (.int, 8), .inl (.int, 16), .inr (6, [v_r 22, v_r 23]), .inl (.int, 30), .inl (.int, 30), .inr (8, [v_i 0, v_i 0, v_r 25]), .inl (.int, 120), .inr (7, [v_i 0, v_r 27, v_r 28, v_r 29, v_r 30, v_r 31, v_r 32, v_r 33, v_r 34]), .inl (.int, 10), .inl (.int, 10), .inl (.int, 10), .inl (.boolean, 30), .inl (.int, 30), .inl (.int, 30), .inl (.int, 30), .inl (.int, 7), .inr (3, [v_i 0, v_r 36, v_r 37, v_r 38, v_r 39, v_i 0, v_r 40, v_r 41, v_r 42]), .inl (.int, 30), .inl (.int, 30), .inl (.int, 30), .inl (.int, 30), .inl (.int, 60), .inl (.int, 60), .inl (.int, 60), .inr (2, [v_i 0, v_i 0, v_r 44, v_r 45]), .inl (.int, 20), .inl (.int, 20), .inr (5, [v_r 47, v_r 48, v_r 49, v_i 0]), .inl (.int, 8), .inl (.int, 8), .inl (.int, 3), .inr (10, [v_r 51, v_r 52, v_r 53, v_r 54, v_r 55, v_r 56, v_r 57, v_r 58, v_r 59, v_r 60, v_i 0, v_i 0, v_r 61, v_r 62, v_r 63, v_r 64, v_i 0, v_r 65, v_r 66, v_r 67, v_r 68, v_r 69, v_i 0, v_l 0, v_r 70, v_r 71, v_r 72, v_r 73, v_r 74, v_i 0, v_i 0, v_i 0, v_r 75, v_r 76, v_r 77, v_r 78, v_i 0, v_r 79, v_r 80, v_r 81, v_r 82, v_r 83, v_r 84, v_r 85, v_i 0, v_i 0, v_r 86, v_r 87, v_i 0, v_i 0, v_r 88, v_r 89, v_n]), .inl (.int, 16), .inl (.int, 16), .inl (.int, 16), .inl (.int, 16), .inl (.boolean, 16), .inl (.boolean, 8), .inl (.int, 8), .inl (.int, 8), .inl (.int, 8), .inl (.int, 8), .inl (.int, 40), .inl (.int, 40), .inl (.int, 40), .inl (.int, 16), .inl (.int, 16), .inl (.long, 49), .inl (.long, 7), .inl (.long, 128), .inl (.long, 16), .inl (.int, 4352), .inl (.int, 16), .inl (.int, 30), .inl (.int, 30), .inl (.int, 120), .inl (.boolean, 10), .inl (.int, 10), .inl (.int, 10), .inl (.int, 120), .inl (.int, 30), .inl (.int, 30), .inl (.int, 30), .inl (.int, 30), .inl (.int, 60), .inl (.int, 60), .inl (.boolean, 60), .inl (.int, 20), .inl (.int, 20), .inl (.int, 8), .inl (.int, 8)]
def la_178 : List mm_S := [.inr (9, [v_r 1, v_r 10, v_r 17, v_r 21, v_r 24, v_r 26, v_r 35, v_r 43, v_r 46, v_i 0]), .inr (0, [v_i 0, v_r 2, v_r 3, v_r 4, v_r 5, v_i 0, v_r 6, v_r 7, v_r 8, v_r 9]), .inl (.int, 16), .inl (.int, 16), .inl (.int, 16), .inl (.int, 16), .inl (.int, 8), .inl (.int, 8), .inl (.int, 8), .inl (.int, 8), .inr (4, [v_i 0, v_r 11, v_r 12, v_r 13, v_r 14, v_l 0, v_r 15, v_r 16]), .inl (.int, 40), .inl (.int, 40), .inl (.int, 40), .inl (.long, 16), .inl (.int, 16), .inl (.long, 42), .inr (1, [v_r 18, v_r 19, v_r 20]), .inl (.int, 4352), .inl (.int, 8), .inl (.int, 16), .inr (6, [v_r 22, v_r 23]), .inl (.int, 30), .inl (.int, 30), .inr (8, [v_i 0, v_i 0, v_r 25]), .inl (.int, 120), .inr (7, [v_i 0, v_r 27, v_r 28, v_r 29, v_r 30, v_r 31, v_r 32, v_r 33, v_r 34]), .inl (.int, 10), .inl (.int, 10), .inl (.int, 10), .inl (.boolean, 30), .inl (.int, 30), .inl (.int, 30), .inl (.int, 30), .inl (.int, 7), .inr (3, [v_i 0, v_r 36, v_r 37, v_r 38, v_r 39, v_i 0, v_r 40, v_r 41, v_r 42]), .inl (.int, 30), .inl (.int, 30), .inl (.int, 30), .inl (.int, 30), .inl (.int, 60), .inl (.int, 60), .inl (.int, 60), .inr (2, [v_i 0, v_i 0, v_r 44, v_r 45]), .inl (.int, 20), .inl (.int, 20), .inr (5, [v_r 47, v_r 48, v_r 49, v_i 0]), .inl (.int, 8), .inl (.int, 8), .inl (.int, 3), .inr (10, [v_r 51, v_r 52, v_r 53, v_r 54, v_r 55, v_r 56, v_r 57, v_r 58, v_r 59, v_r 60, v_i 0, v_i 0, v_r 61, v_r 62, v_r 63, v_r 64, v_i 0, v_r 65, v_r 66, v_r 67, v_r 68, v_r 69, v_i 0, v_l 0, v_r 70, v_r 71, v_r 72, v_r 73, v_r 74, v_i 0, v_i 0, v_i 0, v_r 75, v_r 76, v_r 77, v_r 78, v_i 0, v_r 79, v_r 80, v_r 81, v_r 82, v_r 83, v_r 84, v_r 85, v_i 0, v_i 0, v_r 86, v_r 87, v_i 0, v_i 0, v_r 88, v_r 89, v_n]), .inl (.int, 16), .inl (.int, 16), .inl (.int, 16), .inl (.int, 16), .inl (.boolean, 16), .inl (.boolean, 8), .inl (.int, 8), .inl (.int, 8), .inl (.int, 8), .inl (.int, 8), .inl (.int, 40), .inl (.int, 40), .inl (.int, 40), .inl (.int, 16), .inl (.int, 16), .inl (.long, 49), .inl (.long, 7), .inl (.long, 128), .inl (.long, 16), .inl (.int, 4352), .inl (.int, 16), .inl (.int, 30), .inl (.int, 30), .inl (.int, 120), .inl (.boolean, 10), .inl (.int, 10), .inl (.int, 10), .inl (.int, 120), .inl (.int, 30), .inl (.int, 30), .inl (.int, 30), .inl (.int, 30), .inl (.int, 60), .inl (.int, 60), .inl (.boolean, 60), .inl (.int, 20), .inl (.int, 20), .inl (.int, 8), .inl (.int, 8), .inl (.int, 3)]
def la_179 : List mm_S := [.inr (9, [v_r 1, v_r 10, v_r 17, v_r 21, v_r 24, v_r 26, v_r 35, v_r 43, v_r 46, v_i 0]), .inr (0, [v_i 0, v_r 2, v_r 3, v_r 4, v_r 5, v_i 0, v_r 6, v_r 7, v_r 8, v_r 9]), .inl (.int, 16), .inl (.int, 16), .inl (.int, 16), .inl (.int, 16), .inl (.int, 8), .inl (.int, 8), .inl (.int, 8), .inl (.int, 8), .inr (4, [v_i 0, v_r 11, v_r 12, v_r 13, v_r 14, v_l 0, v_r 15, v_r 16]), .inl (.int, 40), .inl (.int, 40), .inl (.int, 40), .inl (.long, 16), .inl (.int, 16), .inl (.long, 42), .inr (1, [v_r 18, v_r 19, v_r 20]), .inl (.int, 4352), .inl (.int, 8), .inl (.int, 16), .inr (6, [v_r 22, v_r 23]), .inl (.int, 30), .inl (.int, 30), .inr (8, [v_i 0, v_i 0, v_r 25]), .inl (.int, 120), .inr (7, [v_i 0, v_r 27, v_r 28, v_r 29, v_r 30, v_r 31, v_r 32, v_r 33, v_r 34]), .inl (.int, 10), .inl (.int, 10), .inl (.int, 10), .inl (.boolean, 30), .inl (.int, 30), .inl (.int, 30), .inl (.int, 30), .inl (.int, 7), .inr (3, [v_i 0, v_r 36, v_r 37, v_r 38, v_r 39, v_i 0, v_r 40, v_r 41, v_r 42]), .inl (.int, 30), .inl (.int, 30), .inl (.int, 30), .inl (.int, 30), .inl (.int, 60), .inl (.int, 60), .inl (.int, 60), .inr (2, [v_i 0, v_i 0, v_r 44, v_r 45]), .inl (.int, 20), .inl (.int, 20), .inr (5, [v_r 47, v_r 48, v_r 49, v_i 0]), .inl (.int, 8), .inl (.int, 8), .inl (.int, 3), .inr (10, [v_r 51, v_r 52, v_r 53, v_r 54, v_r 55, v_r 56, v_r 57, v_r 58, v_r 59, v_r 60, v_i 0, v_i 0, v_r 61, v_r 62, v_r 63, v_r 64, v_i 0, v_r 65, v_r 66, v_r 67, v_r 68, v_r 69, v_i 0, v_l 0, v_r 70, v_r 71, v_r 72, v_r 73, v_r 74, v_i 0, v_i 0, v_i 0, v_r 75, v_r 76, v_r 77, v_r 78, v_i 0, v_r 79, v_r 80, v_r 81, v_r 82, v_r 83, v_r 84, v_r 85, v_i 0, v_i 0, v_r 86, v_r 87, v_i 0, v_i 0, v_r 88, v_r 89, v_r 90]), .inl (.int, 16), .inl (.int, 16), .inl (.int, 16), .inl (.int, 16), .inl (.boolean, 16), .inl (.boolean, 8), .inl (.int, 8), .inl (.int, 8), .inl (.int, 8), .inl (.int, 8), .inl (.int, 40), .inl (.int, 40), .inl (.int, 40), .inl (.int, 16), .inl (.int, 16), .inl (.long, 49), .inl (.long, 7), .inl (.long, 128), .inl (.long, 16), .inl (.int, 4352), .inl (.int, 16), .inl (.int, 30), .inl (.int, 30), .inl (.int, 120), .inl (.boolean, 10), .inl (.int, 10), .inl (.int, 10), .inl (.int, 120), .inl (.int, 30), .inl (.int, 30), .inl (.int, 30), .inl (.int, 30), .inl (.int, 60), .inl (.int, 60), .inl (.boolean, 60), .inl (.int, 20), .inl (.int, 20), .inl (.int, 8), .inl (.int, 8), .inl (.int, 3)]
def mem_9 : mm_M := mm_up (mm_up (mm_up (mm_up (mm_up (mm_up (mm_up (mm_up (mm_up mem_8 50 49 30) 88 (Int.toNat 0) (-1)) 88 (Int.toNat 1) (-1)) 88 (Int.toNat 2) (-1)) 88 (Int.toNat 3) (-1)) 88 (Int.toNat 4) (-1)) 88 (Int.toNat 5) (-1)) 88 (Int.toNat 6) (-1)) 88 (Int.toNat 7) (-1)
end
section
theorem c_X0_init {X : Nat × (Nat → Int)} {d : Nat} {Po : mm_Po} (k : Po none la_17 mem_1) : mm_E X (d) 8 96 mi_X0_init [v_r 1] Po la_1 mm_M0 := by
  show mm_G X (d) 8 96 mi_X0_init Po 0 [(0, v_r 1)] [] la_1 mm_M0 0 0
  refine mm_aload_n (mm_dc od_X0_init_0 0 rfl) rfl ?_
  refine mm_oinit (mm_dc od_X0_init_0 1 rfl) wd_1_33 wd_1_26 wd_1_27 (by decide) ?_
  refine mm_aload_n (mm_dc od_X0_init_0 2 rfl) rfl ?_
  refine mm_iconst (mm_dc od_X0_init_0 3 rfl) ?_
  refine mm_putI (ci := 0) (k := 0) (mm_dc od_X0_init_0 4 rfl) rfl in_X0 tyX0_ok nmX0 (by decide) wd_1_34 rfl rfl rfl rfl ?_
  refine mm_aload_n (mm_dc od_X0_init_0 5 rfl) rfl ?_
  refine mm_bipush (mm_dc od_X0_init_0 6 rfl) (by decide) ?_
  refine mm_newb (n := 16) (q := 2) (La' := la_2) (mm_dc od_X0_init_0 7 rfl) wd_1_77 rfl (by decide) (by decide) (by decide) rfl (by decide) rfl rfl (fun _ => rfl) rfl ?_
  refine mm_putR (La' := la_3) (ci := 0) (k := 1) (mm_dc od_X0_init_0 8 rfl) rfl in_X0 tyX0_ok nmX0 (by decide) wd_1_37 rfl rfl rfl (fun _ => rfl) (fun _ => rfl) rfl (by decide) rfl ?_
  refine mm_aload_n (mm_dc od_X0_init_0 9 rfl) rfl ?_
  refine mm_bipush (mm_dc od_X0_init_0 10 rfl) (by decide) ?_
  refine mm_newb (n := 16) (q := 3) (La' := la_4) (mm_dc od_X0_init_0 11 rfl) wd_1_77 rfl (by decide) (by decide) (by decide) rfl (by decide) rfl rfl (fun _ => rfl) rfl ?_
  refine mm_putR (La' := la_5) (ci := 0) (k := 2) (mm_dc od_X0_init_0 12 rfl) rfl in_X0 tyX0_ok nmX0 (by decide) wd_1_39 rfl rfl rfl (fun _ => rfl) (fun _ => rfl) rfl (by decide) rfl ?_
  refine mm_aload_n (mm_dc od_X0_init_0 13 rfl) rfl ?_
  refine mm_bipush (mm_dc od_X0_init_0 14 rfl) (by decide) ?_
  refine mm_newb (n := 16) (q := 4) (La' := la_6) (mm_dc od_X0_init_0 15 rfl) wd_1_77 rfl (by decide) (by decide) (by decide) rfl (by decide) rfl rfl (fun _ => rfl) rfl ?_
  refine mm_putR (La' := la_7) (ci := 0) (k := 3) (mm_dc od_X0_init_0 16 rfl) rfl in_X0 tyX0_ok nmX0 (by decide) wd_1_41 rfl rfl rfl (fun _ => rfl) (fun _ => rfl) rfl (by decide) rfl ?_
  refine mm_aload_n (mm_dc od_X0_init_0 17 rfl) rfl ?_
  refine mm_bipush (mm_dc od_X0_init_0 18 rfl) (by decide) ?_
  refine mm_newb (n := 16) (q := 5) (La' := la_8) (mm_dc od_X0_init_0 19 rfl) wd_1_77 rfl (by decide) (by decide) (by decide) rfl (by decide) rfl rfl (fun _ => rfl) rfl ?_
  refine mm_putR (La' := la_9) (ci := 0) (k := 4) (mm_dc od_X0_init_0 20 rfl) rfl in_X0 tyX0_ok nmX0 (by decide) wd_1_43 rfl rfl rfl (fun _ => rfl) (fun _ => rfl) rfl (by decide) rfl ?_
  refine mm_aload_n (mm_dc od_X0_init_0 21 rfl) rfl ?_
  refine mm_iconst (mm_dc od_X0_init_0 22 rfl) ?_
  refine mm_putI (ci := 0) (k := 5) (mm_dc od_X0_init_0 23 rfl) rfl in_X0 tyX0_ok nmX0 (by decide) wd_1_46 rfl rfl rfl rfl ?_
  refine mm_aload_n (mm_dc od_X0_init_0 24 rfl) rfl ?_
  refine mm_bipush (mm_dc od_X0_init_0 25 rfl) (by decide) ?_
  refine mm_newb (n := 8) (q := 6) (La' := la_10) (mm_dc od_X0_init_0 26 rfl) wd_1_77 rfl (by decide) (by decide) (by decide) rfl (by decide) rfl rfl (fun _ => rfl) rfl ?_
  refine mm_putR (La' := la_11) (ci := 0) (k := 6) (mm_dc od_X0_init_0 27 rfl) rfl in_X0 tyX0_ok nmX0 (by decide) wd_1_48 rfl rfl rfl (fun _ => rfl) (fun _ => rfl) rfl (by decide) rfl ?_
  refine mm_aload_n (mm_dc od_X0_init_0 28 rfl) rfl ?_
  refine mm_bipush (mm_dc od_X0_init_0 29 rfl) (by decide) ?_
  refine mm_newb (n := 8) (q := 7) (La' := la_12) (mm_dc od_X0_init_0 30 rfl) wd_1_77 rfl (by decide) (by decide) (by decide) rfl (by decide) rfl rfl (fun _ => rfl) rfl ?_
  refine mm_putR (La' := la_13) (ci := 0) (k := 7) (mm_dc od_X0_init_0 31 rfl) rfl in_X0 tyX0_ok nmX0 (by decide) wd_1_50 rfl rfl rfl (fun _ => rfl) (fun _ => rfl) rfl (by decide) rfl ?_
  refine mm_aload_n (mm_dc od_X0_init_0 32 rfl) rfl ?_
  refine mm_bipush (mm_dc od_X0_init_0 33 rfl) (by decide) ?_
  refine mm_newb (n := 8) (q := 8) (La' := la_14) (mm_dc od_X0_init_0 34 rfl) wd_1_77 rfl (by decide) (by decide) (by decide) rfl (by decide) rfl rfl (fun _ => rfl) rfl ?_
  refine mm_putR (La' := la_15) (ci := 0) (k := 8) (mm_dc od_X0_init_0 35 rfl) rfl in_X0 tyX0_ok nmX0 (by decide) wd_1_52 rfl rfl rfl (fun _ => rfl) (fun _ => rfl) rfl (by decide) rfl ?_
  refine mm_aload_n (mm_dc od_X0_init_0 36 rfl) rfl ?_
  refine mm_bipush (mm_dc od_X0_init_0 37 rfl) (by decide) ?_
  refine mm_newb (n := 8) (q := 9) (La' := la_16) (mm_dc od_X0_init_0 38 rfl) wd_1_77 rfl (by decide) (by decide) (by decide) rfl (by decide) rfl rfl (fun _ => rfl) rfl ?_
  refine mm_putR (La' := la_17) (ci := 0) (k := 9) (mm_dc od_X0_init_0 39 rfl) rfl in_X0 tyX0_ok nmX0 (by decide) wd_1_54 rfl rfl rfl (fun _ => rfl) (fun _ => rfl) rfl (by decide) rfl ?_
  refine mm_ret (mm_dc od_X0_init_0 40 rfl) rfl ?_
  exact k
theorem c_X4_init {X : Nat × (Nat → Int)} {d : Nat} {Po : mm_Po} (k : Po none la_31 mem_2) : mm_E X (d) 6 194 mi_X4_init [v_r 10] Po la_19 mem_1 := by
  show mm_G X (d) 6 194 mi_X4_init Po 0 [(0, v_r 10)] [] la_19 mem_1 0 0
  refine mm_aload_n (mm_dc od_X4_init_0 0 rfl) rfl ?_
  refine mm_oinit (mm_dc od_X4_init_0 1 rfl) wd_1_83 wd_1_26 wd_1_27 (by decide) ?_
  refine mm_aload_n (mm_dc od_X4_init_0 2 rfl) rfl ?_
  refine mm_iconst (mm_dc od_X4_init_0 3 rfl) ?_
  refine mm_putI (ci := 4) (k := 0) (mm_dc od_X4_init_0 4 rfl) rfl in_X4 tyX4_ok nmX4 (by decide) wd_1_84 rfl rfl rfl rfl ?_
  refine mm_aload_n (mm_dc od_X4_init_0 5 rfl) rfl ?_
  refine mm_bipush (mm_dc od_X4_init_0 6 rfl) (by decide) ?_
  refine mm_newb (n := 40) (q := 11) (La' := la_20) (mm_dc od_X4_init_0 7 rfl) wd_1_77 rfl (by decide) (by decide) (by decide) rfl (by decide) rfl rfl (fun _ => rfl) rfl ?_
  refine mm_putR (La' := la_21) (ci := 4) (k := 1) (mm_dc od_X4_init_0 8 rfl) rfl in_X4 tyX4_ok nmX4 (by decide) wd_1_86 rfl rfl rfl (fun _ => rfl) (fun _ => rfl) rfl (by decide) rfl ?_
  refine mm_aload_n (mm_dc od_X4_init_0 9 rfl) rfl ?_
  refine mm_bipush (mm_dc od_X4_init_0 10 rfl) (by decide) ?_
  refine mm_newb (n := 40) (q := 12) (La' := la_22) (mm_dc od_X4_init_0 11 rfl) wd_1_77 rfl (by decide) (by decide) (by decide) rfl (by decide) rfl rfl (fun _ => rfl) rfl ?_
  refine mm_putR (La' := la_23) (ci := 4) (k := 2) (mm_dc od_X4_init_0 12 rfl) rfl in_X4 tyX4_ok nmX4 (by decide) wd_1_87 rfl rfl rfl (fun _ => rfl) (fun _ => rfl) rfl (by decide) rfl ?_
  refine mm_aload_n (mm_dc od_X4_init_0 13 rfl) rfl ?_
  refine mm_bipush (mm_dc od_X4_init_0 14 rfl) (by decide) ?_
  refine mm_newb (n := 40) (q := 13) (La' := la_24) (mm_dc od_X4_init_0 15 rfl) wd_1_77 rfl (by decide) (by decide) (by decide) rfl (by decide) rfl rfl (fun _ => rfl) rfl ?_
  refine mm_putR (La' := la_25) (ci := 4) (k := 3) (mm_dc od_X4_init_0 16 rfl) rfl in_X4 tyX4_ok nmX4 (by decide) wd_1_88 rfl rfl rfl (fun _ => rfl) (fun _ => rfl) rfl (by decide) rfl ?_
  refine mm_aload_n (mm_dc od_X4_init_0 17 rfl) rfl ?_
  refine mm_bipush (mm_dc od_X4_init_0 18 rfl) (by decide) ?_
  refine mm_newb (n := 16) (q := 14) (La' := la_26) (mm_dc od_X4_init_0 19 rfl) wd_1_112 rfl (by decide) (by decide) (by decide) rfl (by decide) rfl rfl (fun _ => rfl) rfl ?_
  refine mm_putR (La' := la_27) (ci := 4) (k := 4) (mm_dc od_X4_init_0 20 rfl) rfl in_X4 tyX4_ok nmX4 (by decide) wd_1_89 rfl rfl rfl (fun _ => rfl) (fun _ => rfl) rfl (by decide) rfl ?_
  refine mm_aload_n (mm_dc od_X4_init_0 21 rfl) rfl ?_
  refine mm_lconst (mm_dc od_X4_init_0 22 rfl) ?_
  refine mm_putL (ci := 4) (k := 5) (mm_dc od_X4_init_0 23 rfl) rfl in_X4 tyX4_ok nmX4 (by decide) wd_1_91 rfl rfl rfl rfl ?_
  refine mm_aload_n (mm_dc od_X4_init_0 24 rfl) rfl ?_
  refine mm_bipush (mm_dc od_X4_init_0 25 rfl) (by decide) ?_
  refine mm_newb (n := 16) (q := 15) (La' := la_28) (mm_dc od_X4_init_0 26 rfl) wd_1_77 rfl (by decide) (by decide) (by decide) rfl (by decide) rfl rfl (fun _ => rfl) rfl ?_
  refine mm_putR (La' := la_29) (ci := 4) (k := 6) (mm_dc od_X4_init_0 27 rfl) rfl in_X4 tyX4_ok nmX4 (by decide) wd_1_93 rfl rfl rfl (fun _ => rfl) (fun _ => rfl) rfl (by decide) rfl ?_
  refine mm_aload_n (mm_dc od_X4_init_0 28 rfl) rfl ?_
  refine mm_bipush (mm_dc od_X4_init_0 29 rfl) (by decide) ?_
  refine mm_newb (n := 42) (q := 16) (La' := la_30) (mm_dc od_X4_init_0 30 rfl) wd_1_112 rfl (by decide) (by decide) (by decide) rfl (by decide) rfl rfl (fun _ => rfl) rfl ?_
  refine mm_putR (La' := la_31) (ci := 4) (k := 7) (mm_dc od_X4_init_0 31 rfl) rfl in_X4 tyX4_ok nmX4 (by decide) wd_1_94 rfl rfl rfl (fun _ => rfl) (fun _ => rfl) rfl (by decide) rfl ?_
  refine mm_ret (mm_dc od_X4_init_0 32 rfl) rfl ?_
  exact k
theorem c_X1_init {X : Nat × (Nat → Int)} {d : Nat} {Po : mm_Po} (k : Po none la_39 mem_2) : mm_E X (d) 3 4376 mi_X1_init [v_r 17] Po la_33 mem_2 := by
  show mm_G X (d) 3 4376 mi_X1_init Po 0 [(0, v_r 17)] [] la_33 mem_2 0 0
  refine mm_aload_n (mm_dc od_X1_init_0 0 rfl) rfl ?_
  refine mm_oinit (mm_dc od_X1_init_0 1 rfl) wd_1_118 wd_1_26 wd_1_27 (by decide) ?_
  refine mm_aload_n (mm_dc od_X1_init_0 2 rfl) rfl ?_
  refine mm_sipush (mm_dc od_X1_init_0 3 rfl) (by decide) ?_
  refine mm_newb (n := 4352) (q := 18) (La' := la_34) (mm_dc od_X1_init_0 4 rfl) wd_1_77 rfl (by decide) (by decide) (by decide) rfl (by decide) rfl rfl (fun _ => rfl) rfl ?_
  refine mm_putR (La' := la_35) (ci := 1) (k := 0) (mm_dc od_X1_init_0 5 rfl) rfl in_X1 tyX1_ok nmX1 (by decide) wd_1_119 rfl rfl rfl (fun _ => rfl) (fun _ => rfl) rfl (by decide) rfl ?_
  refine mm_aload_n (mm_dc od_X1_init_0 6 rfl) rfl ?_
  refine mm_bipush (mm_dc od_X1_init_0 7 rfl) (by decide) ?_
  refine mm_newb (n := 8) (q := 19) (La' := la_36) (mm_dc od_X1_init_0 8 rfl) wd_1_77 rfl (by decide) (by decide) (by decide) rfl (by decide) rfl rfl (fun _ => rfl) rfl ?_
  refine mm_putR (La' := la_37) (ci := 1) (k := 1) (mm_dc od_X1_init_0 9 rfl) rfl in_X1 tyX1_ok nmX1 (by decide) wd_1_120 rfl rfl rfl (fun _ => rfl) (fun _ => rfl) rfl (by decide) rfl ?_
  refine mm_aload_n (mm_dc od_X1_init_0 10 rfl) rfl ?_
  refine mm_bipush (mm_dc od_X1_init_0 11 rfl) (by decide) ?_
  refine mm_newb (n := 16) (q := 20) (La' := la_38) (mm_dc od_X1_init_0 12 rfl) wd_1_77 rfl (by decide) (by decide) (by decide) rfl (by decide) rfl rfl (fun _ => rfl) rfl ?_
  refine mm_putR (La' := la_39) (ci := 1) (k := 2) (mm_dc od_X1_init_0 13 rfl) rfl in_X1 tyX1_ok nmX1 (by decide) wd_1_121 rfl rfl rfl (fun _ => rfl) (fun _ => rfl) rfl (by decide) rfl ?_
  refine mm_ret (mm_dc od_X1_init_0 14 rfl) rfl ?_
  exact k
theorem c_X6_init {X : Nat × (Nat → Int)} {d : Nat} {Po : mm_Po} (k : Po none la_45 mem_2) : mm_E X (d) 2 60 mi_X6_init [v_r 21] Po la_41 mem_2 := by
  show mm_G X (d) 2 60 mi_X6_init Po 0 [(0, v_r 21)] [] la_41 mem_2 0 0
  refine mm_aload_n (mm_dc od_X6_init_0 0 rfl) rfl ?_
  refine mm_oinit (mm_dc od_X6_init_0 1 rfl) wd_1_134 wd_1_26 wd_1_27 (by decide) ?_
  refine mm_aload_n (mm_dc od_X6_init_0 2 rfl) rfl ?_
  refine mm_bipush (mm_dc od_X6_init_0 3 rfl) (by decide) ?_
  refine mm_newb (n := 30) (q := 22) (La' := la_42) (mm_dc od_X6_init_0 4 rfl) wd_1_77 rfl (by decide) (by decide) (by decide) rfl (by decide) rfl rfl (fun _ => rfl) rfl ?_
  refine mm_putR (La' := la_43) (ci := 6) (k := 0) (mm_dc od_X6_init_0 5 rfl) rfl in_X6 tyX6_ok nmX6 (by decide) wd_1_135 rfl rfl rfl (fun _ => rfl) (fun _ => rfl) rfl (by decide) rfl ?_
  refine mm_aload_n (mm_dc od_X6_init_0 6 rfl) rfl ?_
  refine mm_bipush (mm_dc od_X6_init_0 7 rfl) (by decide) ?_
  refine mm_newb (n := 30) (q := 23) (La' := la_44) (mm_dc od_X6_init_0 8 rfl) wd_1_77 rfl (by decide) (by decide) (by decide) rfl (by decide) rfl rfl (fun _ => rfl) rfl ?_
  refine mm_putR (La' := la_45) (ci := 6) (k := 1) (mm_dc od_X6_init_0 9 rfl) rfl in_X6 tyX6_ok nmX6 (by decide) wd_1_137 rfl rfl rfl (fun _ => rfl) (fun _ => rfl) rfl (by decide) rfl ?_
  refine mm_ret (mm_dc od_X6_init_0 10 rfl) rfl ?_
  exact k
theorem c_X8_init {X : Nat × (Nat → Int)} {d : Nat} {Po : mm_Po} (k : Po none la_49 mem_3) : mm_E X (d) 1 120 mi_X8_init [v_r 24] Po la_47 mem_2 := by
  show mm_G X (d) 1 120 mi_X8_init Po 0 [(0, v_r 24)] [] la_47 mem_2 0 0
  refine mm_aload_n (mm_dc od_X8_init_0 0 rfl) rfl ?_
  refine mm_oinit (mm_dc od_X8_init_0 1 rfl) wd_1_149 wd_1_26 wd_1_27 (by decide) ?_
  refine mm_aload_n (mm_dc od_X8_init_0 2 rfl) rfl ?_
  refine mm_iconst (mm_dc od_X8_init_0 3 rfl) ?_
  refine mm_putI (ci := 8) (k := 0) (mm_dc od_X8_init_0 4 rfl) rfl in_X8 tyX8_ok nmX8 (by decide) wd_1_150 rfl rfl rfl rfl ?_
  refine mm_aload_n (mm_dc od_X8_init_0 5 rfl) rfl ?_
  refine mm_iconst (mm_dc od_X8_init_0 6 rfl) ?_
  refine mm_putI (ci := 8) (k := 1) (mm_dc od_X8_init_0 7 rfl) rfl in_X8 tyX8_ok nmX8 (by decide) wd_1_152 rfl rfl rfl rfl ?_
  refine mm_aload_n (mm_dc od_X8_init_0 8 rfl) rfl ?_
  refine mm_bipush (mm_dc od_X8_init_0 9 rfl) (by decide) ?_
  refine mm_newb (n := 120) (q := 25) (La' := la_48) (mm_dc od_X8_init_0 10 rfl) wd_1_77 rfl (by decide) (by decide) (by decide) rfl (by decide) rfl rfl (fun _ => rfl) rfl ?_
  refine mm_putR (La' := la_49) (ci := 8) (k := 2) (mm_dc od_X8_init_0 11 rfl) rfl in_X8 tyX8_ok nmX8 (by decide) wd_1_155 rfl rfl rfl (fun _ => rfl) (fun _ => rfl) rfl (by decide) rfl ?_
  refine mm_ret (mm_dc od_X8_init_0 12 rfl) rfl ?_
  exact k
theorem c_X7_init {X : Nat × (Nat → Int)} {d : Nat} {Po : mm_Po} (k : Po none la_67 mem_4) : mm_E X (d) 8 157 mi_X7_init [v_r 26] Po la_51 mem_3 := by
  show mm_G X (d) 8 157 mi_X7_init Po 0 [(0, v_r 26)] [] la_51 mem_3 0 0
  refine mm_aload_n (mm_dc od_X7_init_0 0 rfl) rfl ?_
  refine mm_oinit (mm_dc od_X7_init_0 1 rfl) wd_1_168 wd_1_26 wd_1_27 (by decide) ?_
  refine mm_aload_n (mm_dc od_X7_init_0 2 rfl) rfl ?_
  refine mm_iconst (mm_dc od_X7_init_0 3 rfl) ?_
  refine mm_putI (ci := 7) (k := 0) (mm_dc od_X7_init_0 4 rfl) rfl in_X7 tyX7_ok nmX7 (by decide) wd_1_169 rfl rfl rfl rfl ?_
  refine mm_aload_n (mm_dc od_X7_init_0 5 rfl) rfl ?_
  refine mm_bipush (mm_dc od_X7_init_0 6 rfl) (by decide) ?_
  refine mm_newb (n := 10) (q := 27) (La' := la_52) (mm_dc od_X7_init_0 7 rfl) wd_1_77 rfl (by decide) (by decide) (by decide) rfl (by decide) rfl rfl (fun _ => rfl) rfl ?_
  refine mm_putR (La' := la_53) (ci := 7) (k := 1) (mm_dc od_X7_init_0 8 rfl) rfl in_X7 tyX7_ok nmX7 (by decide) wd_1_171 rfl rfl rfl (fun _ => rfl) (fun _ => rfl) rfl (by decide) rfl ?_
  refine mm_aload_n (mm_dc od_X7_init_0 9 rfl) rfl ?_
  refine mm_bipush (mm_dc od_X7_init_0 10 rfl) (by decide) ?_
  refine mm_newb (n := 10) (q := 28) (La' := la_54) (mm_dc od_X7_init_0 11 rfl) wd_1_77 rfl (by decide) (by decide) (by decide) rfl (by decide) rfl rfl (fun _ => rfl) rfl ?_
  refine mm_putR (La' := la_55) (ci := 7) (k := 2) (mm_dc od_X7_init_0 12 rfl) rfl in_X7 tyX7_ok nmX7 (by decide) wd_1_173 rfl rfl rfl (fun _ => rfl) (fun _ => rfl) rfl (by decide) rfl ?_
  refine mm_aload_n (mm_dc od_X7_init_0 13 rfl) rfl ?_
  refine mm_bipush (mm_dc od_X7_init_0 14 rfl) (by decide) ?_
  refine mm_newb (n := 10) (q := 29) (La' := la_56) (mm_dc od_X7_init_0 15 rfl) wd_1_77 rfl (by decide) (by decide) (by decide) rfl (by decide) rfl rfl (fun _ => rfl) rfl ?_
  refine mm_putR (La' := la_57) (ci := 7) (k := 3) (mm_dc od_X7_init_0 16 rfl) rfl in_X7 tyX7_ok nmX7 (by decide) wd_1_174 rfl rfl rfl (fun _ => rfl) (fun _ => rfl) rfl (by decide) rfl ?_
  refine mm_aload_n (mm_dc od_X7_init_0 17 rfl) rfl ?_
  refine mm_bipush (mm_dc od_X7_init_0 18 rfl) (by decide) ?_
  refine mm_newb (n := 30) (q := 30) (La' := la_58) (mm_dc od_X7_init_0 19 rfl) wd_1_200 rfl (by decide) (by decide) (by decide) rfl (by decide) rfl rfl (fun _ => rfl) rfl ?_
  refine mm_putR (La' := la_59) (ci := 7) (k := 4) (mm_dc od_X7_init_0 20 rfl) rfl in_X7 tyX7_ok nmX7 (by decide) wd_1_175 rfl rfl rfl (fun _ => rfl) (fun _ => rfl) rfl (by decide) rfl ?_
  refine mm_aload_n (mm_dc od_X7_init_0 21 rfl) rfl ?_
  refine mm_bipush (mm_dc od_X7_init_0 22 rfl) (by decide) ?_
  refine mm_newb (n := 30) (q := 31) (La' := la_60) (mm_dc od_X7_init_0 23 rfl) wd_1_77 rfl (by decide) (by decide) (by decide) rfl (by decide) rfl rfl (fun _ => rfl) rfl ?_
  refine mm_putR (La' := la_61) (ci := 7) (k := 5) (mm_dc od_X7_init_0 24 rfl) rfl in_X7 tyX7_ok nmX7 (by decide) wd_1_176 rfl rfl rfl (fun _ => rfl) (fun _ => rfl) rfl (by decide) rfl ?_
  refine mm_aload_n (mm_dc od_X7_init_0 25 rfl) rfl ?_
  refine mm_bipush (mm_dc od_X7_init_0 26 rfl) (by decide) ?_
  refine mm_newb (n := 30) (q := 32) (La' := la_62) (mm_dc od_X7_init_0 27 rfl) wd_1_77 rfl (by decide) (by decide) (by decide) rfl (by decide) rfl rfl (fun _ => rfl) rfl ?_
  refine mm_putR (La' := la_63) (ci := 7) (k := 6) (mm_dc od_X7_init_0 28 rfl) rfl in_X7 tyX7_ok nmX7 (by decide) wd_1_177 rfl rfl rfl (fun _ => rfl) (fun _ => rfl) rfl (by decide) rfl ?_
  refine mm_aload_n (mm_dc od_X7_init_0 29 rfl) rfl ?_
  refine mm_bipush (mm_dc od_X7_init_0 30 rfl) (by decide) ?_
  refine mm_newb (n := 30) (q := 33) (La' := la_64) (mm_dc od_X7_init_0 31 rfl) wd_1_77 rfl (by decide) (by decide) (by decide) rfl (by decide) rfl rfl (fun _ => rfl) rfl ?_
  refine mm_putR (La' := la_65) (ci := 7) (k := 7) (mm_dc od_X7_init_0 32 rfl) rfl in_X7 tyX7_ok nmX7 (by decide) wd_1_178 rfl rfl rfl (fun _ => rfl) (fun _ => rfl) rfl (by decide) rfl ?_
  refine mm_aload_n (mm_dc od_X7_init_0 33 rfl) rfl ?_
  refine mm_bipush (mm_dc od_X7_init_0 34 rfl) (by decide) ?_
  refine mm_newb (n := 7) (q := 34) (La' := la_66) (mm_dc od_X7_init_0 35 rfl) wd_1_77 rfl (by decide) (by decide) (by decide) rfl (by decide) rfl rfl (fun _ => rfl) rfl ?_
  refine mm_putR (La' := la_67) (ci := 7) (k := 8) (mm_dc od_X7_init_0 36 rfl) rfl in_X7 tyX7_ok nmX7 (by decide) wd_1_179 rfl rfl rfl (fun _ => rfl) (fun _ => rfl) rfl (by decide) rfl ?_
  refine mm_ret (mm_dc od_X7_init_0 37 rfl) rfl ?_
  exact k
theorem c_X3_init {X : Nat × (Nat → Int)} {d : Nat} {Po : mm_Po} (k : Po none la_83 mem_5) : mm_E X (d) 7 300 mi_X3_init [v_r 35] Po la_69 mem_4 := by
  show mm_G X (d) 7 300 mi_X3_init Po 0 [(0, v_r 35)] [] la_69 mem_4 0 0
  refine mm_aload_n (mm_dc od_X3_init_0 0 rfl) rfl ?_
  refine mm_oinit (mm_dc od_X3_init_0 1 rfl) wd_1_206 wd_1_26 wd_1_27 (by decide) ?_
  refine mm_aload_n (mm_dc od_X3_init_0 2 rfl) rfl ?_
  refine mm_iconst (mm_dc od_X3_init_0 3 rfl) ?_
  refine mm_putI (ci := 3) (k := 0) (mm_dc od_X3_init_0 4 rfl) rfl in_X3 tyX3_ok nmX3 (by decide) wd_1_207 rfl rfl rfl rfl ?_
  refine mm_aload_n (mm_dc od_X3_init_0 5 rfl) rfl ?_
  refine mm_bipush (mm_dc od_X3_init_0 6 rfl) (by decide) ?_
  refine mm_newb (n := 30) (q := 36) (La' := la_70) (mm_dc od_X3_init_0 7 rfl) wd_1_77 rfl (by decide) (by decide) (by decide) rfl (by decide) rfl rfl (fun _ => rfl) rfl ?_
  refine mm_putR (La' := la_71) (ci := 3) (k := 1) (mm_dc od_X3_init_0 8 rfl) rfl in_X3 tyX3_ok nmX3 (by decide) wd_1_209 rfl rfl rfl (fun _ => rfl) (fun _ => rfl) rfl (by decide) rfl ?_
  refine mm_aload_n (mm_dc od_X3_init_0 9 rfl) rfl ?_
  refine mm_bipush (mm_dc od_X3_init_0 10 rfl) (by decide) ?_
  refine mm_newb (n := 30) (q := 37) (La' := la_72) (mm_dc od_X3_init_0 11 rfl) wd_1_77 rfl (by decide) (by decide) (by decide) rfl (by decide) rfl rfl (fun _ => rfl) rfl ?_
  refine mm_putR (La' := la_73) (ci := 3) (k := 2) (mm_dc od_X3_init_0 12 rfl) rfl in_X3 tyX3_ok nmX3 (by decide) wd_1_211 rfl rfl rfl (fun _ => rfl) (fun _ => rfl) rfl (by decide) rfl ?_
  refine mm_aload_n (mm_dc od_X3_init_0 13 rfl) rfl ?_
  refine mm_bipush (mm_dc od_X3_init_0 14 rfl) (by decide) ?_
  refine mm_newb (n := 30) (q := 38) (La' := la_74) (mm_dc od_X3_init_0 15 rfl) wd_1_77 rfl (by decide) (by decide) (by decide) rfl (by decide) rfl rfl (fun _ => rfl) rfl ?_
  refine mm_putR (La' := la_75) (ci := 3) (k := 3) (mm_dc od_X3_init_0 16 rfl) rfl in_X3 tyX3_ok nmX3 (by decide) wd_1_213 rfl rfl rfl (fun _ => rfl) (fun _ => rfl) rfl (by decide) rfl ?_
  refine mm_aload_n (mm_dc od_X3_init_0 17 rfl) rfl ?_
  refine mm_bipush (mm_dc od_X3_init_0 18 rfl) (by decide) ?_
  refine mm_newb (n := 30) (q := 39) (La' := la_76) (mm_dc od_X3_init_0 19 rfl) wd_1_77 rfl (by decide) (by decide) (by decide) rfl (by decide) rfl rfl (fun _ => rfl) rfl ?_
  refine mm_putR (La' := la_77) (ci := 3) (k := 4) (mm_dc od_X3_init_0 20 rfl) rfl in_X3 tyX3_ok nmX3 (by decide) wd_1_215 rfl rfl rfl (fun _ => rfl) (fun _ => rfl) rfl (by decide) rfl ?_
  refine mm_aload_n (mm_dc od_X3_init_0 21 rfl) rfl ?_
  refine mm_iconst (mm_dc od_X3_init_0 22 rfl) ?_
  refine mm_putI (ci := 3) (k := 5) (mm_dc od_X3_init_0 23 rfl) rfl in_X3 tyX3_ok nmX3 (by decide) wd_1_217 rfl rfl rfl rfl ?_
  refine mm_aload_n (mm_dc od_X3_init_0 24 rfl) rfl ?_
  refine mm_bipush (mm_dc od_X3_init_0 25 rfl) (by decide) ?_
  refine mm_newb (n := 60) (q := 40) (La' := la_78) (mm_dc od_X3_init_0 26 rfl) wd_1_77 rfl (by decide) (by decide) (by decide) rfl (by decide) rfl rfl (fun _ => rfl) rfl ?_
  refine mm_putR (La' := la_79) (ci := 3) (k := 6) (mm_dc od_X3_init_0 27 rfl) rfl in_X3 tyX3_ok nmX3 (by decide) wd_1_219 rfl rfl rfl (fun _ => rfl) (fun _ => rfl) rfl (by decide) rfl ?_
  refine mm_aload_n (mm_dc od_X3_init_0 28 rfl) rfl ?_
  refine mm_bipush (mm_dc od_X3_init_0 29 rfl) (by decide) ?_
  refine mm_newb (n := 60) (q := 41) (La' := la_80) (mm_dc od_X3_init_0 30 rfl) wd_1_77 rfl (by decide) (by decide) (by decide) rfl (by decide) rfl rfl (fun _ => rfl) rfl ?_
  refine mm_putR (La' := la_81) (ci := 3) (k := 7) (mm_dc od_X3_init_0 31 rfl) rfl in_X3 tyX3_ok nmX3 (by decide) wd_1_220 rfl rfl rfl (fun _ => rfl) (fun _ => rfl) rfl (by decide) rfl ?_
  refine mm_aload_n (mm_dc od_X3_init_0 32 rfl) rfl ?_
  refine mm_bipush (mm_dc od_X3_init_0 33 rfl) (by decide) ?_
  refine mm_newb (n := 60) (q := 42) (La' := la_82) (mm_dc od_X3_init_0 34 rfl) wd_1_77 rfl (by decide) (by decide) (by decide) rfl (by decide) rfl rfl (fun _ => rfl) rfl ?_
  refine mm_putR (La' := la_83) (ci := 3) (k := 8) (mm_dc od_X3_init_0 35 rfl) rfl in_X3 tyX3_ok nmX3 (by decide) wd_1_221 rfl rfl rfl (fun _ => rfl) (fun _ => rfl) rfl (by decide) rfl ?_
  refine mm_ret (mm_dc od_X3_init_0 36 rfl) rfl ?_
  exact k
theorem c_X2_init {X : Nat × (Nat → Int)} {d : Nat} {Po : mm_Po} (k : Po none la_89 mem_6) : mm_E X (d) 2 40 mi_X2_init [v_r 43] Po la_85 mem_5 := by
  show mm_G X (d) 2 40 mi_X2_init Po 0 [(0, v_r 43)] [] la_85 mem_5 0 0
  refine mm_aload_n (mm_dc od_X2_init_0 0 rfl) rfl ?_
  refine mm_oinit (mm_dc od_X2_init_0 1 rfl) wd_2_6 wd_1_26 wd_1_27 (by decide) ?_
  refine mm_aload_n (mm_dc od_X2_init_0 2 rfl) rfl ?_
  refine mm_iconst (mm_dc od_X2_init_0 3 rfl) ?_
  refine mm_putI (ci := 2) (k := 0) (mm_dc od_X2_init_0 4 rfl) rfl in_X2 tyX2_ok nmX2 (by decide) wd_2_7 rfl rfl rfl rfl ?_
  refine mm_aload_n (mm_dc od_X2_init_0 5 rfl) rfl ?_
  refine mm_bipush (mm_dc od_X2_init_0 6 rfl) (by decide) ?_
  refine mm_putI (ci := 2) (k := 1) (mm_dc od_X2_init_0 7 rfl) rfl in_X2 tyX2_ok nmX2 (by decide) wd_2_9 rfl rfl rfl rfl ?_
  refine mm_aload_n (mm_dc od_X2_init_0 8 rfl) rfl ?_
  refine mm_bipush (mm_dc od_X2_init_0 9 rfl) (by decide) ?_
  refine mm_newb (n := 20) (q := 44) (La' := la_86) (mm_dc od_X2_init_0 10 rfl) wd_1_77 rfl (by decide) (by decide) (by decide) rfl (by decide) rfl rfl (fun _ => rfl) rfl ?_
  refine mm_putR (La' := la_87) (ci := 2) (k := 2) (mm_dc od_X2_init_0 11 rfl) rfl in_X2 tyX2_ok nmX2 (by decide) wd_2_11 rfl rfl rfl (fun _ => rfl) (fun _ => rfl) rfl (by decide) rfl ?_
  refine mm_aload_n (mm_dc od_X2_init_0 12 rfl) rfl ?_
  refine mm_bipush (mm_dc od_X2_init_0 13 rfl) (by decide) ?_
  refine mm_newb (n := 20) (q := 45) (La' := la_88) (mm_dc od_X2_init_0 14 rfl) wd_1_77 rfl (by decide) (by decide) (by decide) rfl (by decide) rfl rfl (fun _ => rfl) rfl ?_
  refine mm_putR (La' := la_89) (ci := 2) (k := 3) (mm_dc od_X2_init_0 15 rfl) rfl in_X2 tyX2_ok nmX2 (by decide) wd_2_12 rfl rfl rfl (fun _ => rfl) (fun _ => rfl) rfl (by decide) rfl ?_
  refine mm_ret (mm_dc od_X2_init_0 16 rfl) rfl ?_
  exact k
theorem c_X5_init {X : Nat × (Nat → Int)} {d : Nat} {Po : mm_Po} (k : Po none la_97 mem_7) : mm_E X (d + 1) 3 19 mi_X5_init [v_r 46] Po la_91 mem_6 := by
  show mm_G X (d + 1) 3 19 mi_X5_init Po 0 [(0, v_r 46)] [] la_91 mem_6 0 0
  refine mm_aload_n (mm_dc od_X5_init_0 0 rfl) rfl ?_
  refine mm_oinit (mm_dc od_X5_init_0 1 rfl) wd_2_27 wd_1_26 wd_1_27 (by decide) ?_
  refine mm_aload_n (mm_dc od_X5_init_0 2 rfl) rfl ?_
  refine mm_bipush (mm_dc od_X5_init_0 3 rfl) (by decide) ?_
  refine mm_newb (n := 8) (q := 47) (La' := la_92) (mm_dc od_X5_init_0 4 rfl) wd_1_77 rfl (by decide) (by decide) (by decide) rfl (by decide) rfl rfl (fun _ => rfl) rfl ?_
  refine mm_putR (La' := la_93) (ci := 5) (k := 0) (mm_dc od_X5_init_0 5 rfl) rfl in_X5 tyX5_ok nmX5 (by decide) wd_2_31 rfl rfl rfl (fun _ => rfl) (fun _ => rfl) rfl (by decide) rfl ?_
  refine mm_aload_n (mm_dc od_X5_init_0 6 rfl) rfl ?_
  refine mm_bipush (mm_dc od_X5_init_0 7 rfl) (by decide) ?_
  refine mm_newb (n := 8) (q := 48) (La' := la_94) (mm_dc od_X5_init_0 8 rfl) wd_1_77 rfl (by decide) (by decide) (by decide) rfl (by decide) rfl rfl (fun _ => rfl) rfl ?_
  refine mm_putR (La' := la_95) (ci := 5) (k := 1) (mm_dc od_X5_init_0 9 rfl) rfl in_X5 tyX5_ok nmX5 (by decide) wd_2_33 rfl rfl rfl (fun _ => rfl) (fun _ => rfl) rfl (by decide) rfl ?_
  refine mm_aload_n (mm_dc od_X5_init_0 10 rfl) rfl ?_
  refine mm_iconst (mm_dc od_X5_init_0 11 rfl) ?_
  refine mm_newb (n := 3) (q := 49) (La' := la_96) (mm_dc od_X5_init_0 12 rfl) wd_1_77 rfl (by decide) (by decide) (by decide) rfl (by decide) rfl rfl (fun _ => rfl) rfl ?_
  refine mm_putR (La' := la_97) (ci := 5) (k := 2) (mm_dc od_X5_init_0 13 rfl) rfl in_X5 tyX5_ok nmX5 (by decide) wd_2_34 rfl rfl rfl (fun _ => rfl) (fun _ => rfl) rfl (by decide) rfl ?_
  refine mm_aload_n (mm_dc od_X5_init_0 14 rfl) rfl ?_
  refine mm_iconst (mm_dc od_X5_init_0 15 rfl) ?_
  refine mm_putI (ci := 5) (k := 3) (mm_dc od_X5_init_0 16 rfl) rfl in_X5 tyX5_ok nmX5 (by decide) wd_2_35 rfl rfl rfl rfl ?_
  refine mm_aload_n (mm_dc od_X5_init_0 17 rfl) rfl ?_
  refine mm_getR (ci := 5) (k := 0) (mm_dc od_X5_init_0 18 rfl) rfl in_X5 (by decide) wd_2_31 rfl rfl ?_
  refine mm_iconst (mm_dc od_X5_init_0 19 rfl) ?_
  refine mm_callS (mi' := mi_J7_fill_53178) [v_r 47, v_i (-1)] [] (mm_dc od_X5_init_0 20 rfl) rfl wd_2_28 wd_2_29 wd_1_11 wd_2_30 yk_J7_fill_53178 (by decide) rfl (by decide) (c_fillI (n := 8) (by decide) rfl _ ⟨Nat.le_refl _, ?_⟩)
  refine mm_ret (mm_dc od_X5_init_0 21 rfl) rfl ?_
  exact k
theorem c_X9_init {X : Nat × (Nat → Int)} {d : Nat} {Po : mm_Po} (k : Po none la_98 mem_8) : mm_E X (d + 2) 49 5414 mi_X9_init [v_r 0] Po la_0 mm_M0 := by
  show mm_G X (d + 2) 49 5414 mi_X9_init Po 0 [(0, v_r 0)] [] la_0 mm_M0 0 0
  refine mm_aload_n (mm_dc od_X9_init_0 0 rfl) rfl ?_
  refine mm_oinit (mm_dc od_X9_init_0 1 rfl) wd_1_25 wd_1_26 wd_1_27 (by decide) ?_
  refine mm_aload_n (mm_dc od_X9_init_0 2 rfl) rfl ?_
  refine mm_newo (ci := 0) (q := 1) (La' := la_1) (mm_dc od_X9_init_0 3 rfl) rfl in_X0 tyX0_ok wd_1_28 wd_1_29 wd_1_2 rfl rfl (by decide) rfl (by decide) rfl rfl (fun _ => rfl) rfl ?_
  refine mm_dup_r (mm_dc od_X9_init_0 4 rfl) ?_
  refine mm_callJ (b := 1) (mi' := mi_X0_init) [] [v_r 1, v_r 0] (mm_dc od_X9_init_0 5 rfl) rfl (List.mem_of_getElem? (i := 0) rfl) wd_1_31 wd_1_2 wd_1_32 rfl rfl yk_X0_init (by decide) rfl (by decide) (c_X0_init ⟨by decide, ?_⟩)
  refine mm_putR (La' := la_18) (ci := 9) (k := 0) (mm_dc od_X9_init_0 6 rfl) rfl in_X9 tyX9_ok nmX9 (by decide) wd_2_45 rfl rfl rfl (fun _ => rfl) (fun _ => rfl) rfl (by decide) rfl ?_
  refine mm_aload_n (mm_dc od_X9_init_0 7 rfl) rfl ?_
  refine mm_newo (ci := 4) (q := 10) (La' := la_19) (mm_dc od_X9_init_0 8 rfl) rfl in_X4 tyX4_ok wd_1_78 wd_1_79 wd_1_3 rfl rfl (by decide) rfl (by decide) rfl rfl (fun _ => rfl) rfl ?_
  refine mm_dup_r (mm_dc od_X9_init_0 9 rfl) ?_
  refine mm_callJ (b := 10) (mi' := mi_X4_init) [] [v_r 10, v_r 0] (mm_dc od_X9_init_0 10 rfl) rfl (List.mem_of_getElem? (i := 1) rfl) wd_1_81 wd_1_3 wd_1_82 rfl rfl yk_X4_init (by decide) rfl (by decide) (c_X4_init ⟨by decide, ?_⟩)
  refine mm_putR (La' := la_32) (ci := 9) (k := 1) (mm_dc od_X9_init_0 11 rfl) rfl in_X9 tyX9_ok nmX9 (by decide) wd_2_46 rfl rfl rfl (fun _ => rfl) (fun _ => rfl) rfl (by decide) rfl ?_
  refine mm_aload_n (mm_dc od_X9_init_0 12 rfl) rfl ?_
  refine mm_newo (ci := 1) (q := 17) (La' := la_33) (mm_dc od_X9_init_0 13 rfl) rfl in_X1 tyX1_ok wd_1_113 wd_1_114 wd_1_4 rfl rfl (by decide) rfl (by decide) rfl rfl (fun _ => rfl) rfl ?_
  refine mm_dup_r (mm_dc od_X9_init_0 14 rfl) ?_
  refine mm_callJ (b := 17) (mi' := mi_X1_init) [] [v_r 17, v_r 0] (mm_dc od_X9_init_0 15 rfl) rfl (List.mem_of_getElem? (i := 2) rfl) wd_1_116 wd_1_4 wd_1_117 rfl rfl yk_X1_init (by decide) rfl (by decide) (c_X1_init ⟨by decide, ?_⟩)
  refine mm_putR (La' := la_40) (ci := 9) (k := 2) (mm_dc od_X9_init_0 16 rfl) rfl in_X9 tyX9_ok nmX9 (by decide) wd_2_47 rfl rfl rfl (fun _ => rfl) (fun _ => rfl) rfl (by decide) rfl ?_
  refine mm_aload_n (mm_dc od_X9_init_0 17 rfl) rfl ?_
  refine mm_newo (ci := 6) (q := 21) (La' := la_41) (mm_dc od_X9_init_0 18 rfl) rfl in_X6 tyX6_ok wd_1_129 wd_1_130 wd_1_5 rfl rfl (by decide) rfl (by decide) rfl rfl (fun _ => rfl) rfl ?_
  refine mm_dup_r (mm_dc od_X9_init_0 19 rfl) ?_
  refine mm_callJ (b := 21) (mi' := mi_X6_init) [] [v_r 21, v_r 0] (mm_dc od_X9_init_0 20 rfl) rfl (List.mem_of_getElem? (i := 3) rfl) wd_1_132 wd_1_5 wd_1_133 rfl rfl yk_X6_init (by decide) rfl (by decide) (c_X6_init ⟨by decide, ?_⟩)
  refine mm_putR (La' := la_46) (ci := 9) (k := 3) (mm_dc od_X9_init_0 21 rfl) rfl in_X9 tyX9_ok nmX9 (by decide) wd_2_48 rfl rfl rfl (fun _ => rfl) (fun _ => rfl) rfl (by decide) rfl ?_
  refine mm_aload_n (mm_dc od_X9_init_0 22 rfl) rfl ?_
  refine mm_newo (ci := 8) (q := 24) (La' := la_47) (mm_dc od_X9_init_0 23 rfl) rfl in_X8 tyX8_ok wd_1_144 wd_1_145 wd_1_6 rfl rfl (by decide) rfl (by decide) rfl rfl (fun _ => rfl) rfl ?_
  refine mm_dup_r (mm_dc od_X9_init_0 24 rfl) ?_
  refine mm_callJ (b := 24) (mi' := mi_X8_init) [] [v_r 24, v_r 0] (mm_dc od_X9_init_0 25 rfl) rfl (List.mem_of_getElem? (i := 4) rfl) wd_1_147 wd_1_6 wd_1_148 rfl rfl yk_X8_init (by decide) rfl (by decide) (c_X8_init ⟨by decide, ?_⟩)
  refine mm_putR (La' := la_50) (ci := 9) (k := 4) (mm_dc od_X9_init_0 26 rfl) rfl in_X9 tyX9_ok nmX9 (by decide) wd_2_49 rfl rfl rfl (fun _ => rfl) (fun _ => rfl) rfl (by decide) rfl ?_
  refine mm_aload_n (mm_dc od_X9_init_0 27 rfl) rfl ?_
  refine mm_newo (ci := 7) (q := 26) (La' := la_51) (mm_dc od_X9_init_0 28 rfl) rfl in_X7 tyX7_ok wd_1_163 wd_1_164 wd_1_7 rfl rfl (by decide) rfl (by decide) rfl rfl (fun _ => rfl) rfl ?_
  refine mm_dup_r (mm_dc od_X9_init_0 29 rfl) ?_
  refine mm_callJ (b := 26) (mi' := mi_X7_init) [] [v_r 26, v_r 0] (mm_dc od_X9_init_0 30 rfl) rfl (List.mem_of_getElem? (i := 5) rfl) wd_1_166 wd_1_7 wd_1_167 rfl rfl yk_X7_init (by decide) rfl (by decide) (c_X7_init ⟨by decide, ?_⟩)
  refine mm_putR (La' := la_68) (ci := 9) (k := 5) (mm_dc od_X9_init_0 31 rfl) rfl in_X9 tyX9_ok nmX9 (by decide) wd_2_50 rfl rfl rfl (fun _ => rfl) (fun _ => rfl) rfl (by decide) rfl ?_
  refine mm_aload_n (mm_dc od_X9_init_0 32 rfl) rfl ?_
  refine mm_newo (ci := 3) (q := 35) (La' := la_69) (mm_dc od_X9_init_0 33 rfl) rfl in_X3 tyX3_ok wd_1_201 wd_1_202 wd_1_8 rfl rfl (by decide) rfl (by decide) rfl rfl (fun _ => rfl) rfl ?_
  refine mm_dup_r (mm_dc od_X9_init_0 34 rfl) ?_
  refine mm_callJ (b := 35) (mi' := mi_X3_init) [] [v_r 35, v_r 0] (mm_dc od_X9_init_0 35 rfl) rfl (List.mem_of_getElem? (i := 6) rfl) wd_1_204 wd_1_8 wd_1_205 rfl rfl yk_X3_init (by decide) rfl (by decide) (c_X3_init ⟨by decide, ?_⟩)
  refine mm_putR (La' := la_84) (ci := 9) (k := 6) (mm_dc od_X9_init_0 36 rfl) rfl in_X9 tyX9_ok nmX9 (by decide) wd_2_51 rfl rfl rfl (fun _ => rfl) (fun _ => rfl) rfl (by decide) rfl ?_
  refine mm_aload_n (mm_dc od_X9_init_0 37 rfl) rfl ?_
  refine mm_newo (ci := 2) (q := 43) (La' := la_85) (mm_dc od_X9_init_0 38 rfl) rfl in_X2 tyX2_ok wd_2_1 wd_2_2 wd_1_9 rfl rfl (by decide) rfl (by decide) rfl rfl (fun _ => rfl) rfl ?_
  refine mm_dup_r (mm_dc od_X9_init_0 39 rfl) ?_
  refine mm_callJ (b := 43) (mi' := mi_X2_init) [] [v_r 43, v_r 0] (mm_dc od_X9_init_0 40 rfl) rfl (List.mem_of_getElem? (i := 7) rfl) wd_2_4 wd_1_9 wd_2_5 rfl rfl yk_X2_init (by decide) rfl (by decide) (c_X2_init ⟨by decide, ?_⟩)
  refine mm_putR (La' := la_90) (ci := 9) (k := 7) (mm_dc od_X9_init_0 41 rfl) rfl in_X9 tyX9_ok nmX9 (by decide) wd_2_52 rfl rfl rfl (fun _ => rfl) (fun _ => rfl) rfl (by decide) rfl ?_
  refine mm_aload_n (mm_dc od_X9_init_0 42 rfl) rfl ?_
  refine mm_newo (ci := 5) (q := 46) (La' := la_91) (mm_dc od_X9_init_0 43 rfl) rfl in_X5 tyX5_ok wd_2_22 wd_2_23 wd_1_10 rfl rfl (by decide) rfl (by decide) rfl rfl (fun _ => rfl) rfl ?_
  refine mm_dup_r (mm_dc od_X9_init_0 44 rfl) ?_
  refine mm_callI (b := 46) (mi' := mi_X5_init) [] [v_r 46, v_r 0] (mm_dc od_X9_init_0 45 rfl) rfl wd_2_24 wd_2_25 wd_1_10 wd_2_26 rfl rfl yk_X5_init (by decide) rfl (by decide) (c_X5_init ⟨by decide, ?_⟩)
  refine mm_putR (La' := la_98) (ci := 9) (k := 8) (mm_dc od_X9_init_0 46 rfl) rfl in_X9 tyX9_ok nmX9 (by decide) wd_2_53 rfl rfl rfl (fun _ => rfl) (fun _ => rfl) rfl (by decide) rfl ?_
  refine mm_aload_n (mm_dc od_X9_init_0 47 rfl) rfl ?_
  refine mm_iconst (mm_dc od_X9_init_0 48 rfl) ?_
  refine mm_putI (ci := 9) (k := 9) (mm_dc od_X9_init_0 49 rfl) rfl in_X9 tyX9_ok nmX9 (by decide) wd_2_54 rfl rfl rfl rfl ?_
  refine mm_ret (mm_dc od_X9_init_0 50 rfl) rfl ?_
  exact k
end
section
theorem c_X10_init {X : Nat × (Nat → Int)} {d : Nat} {Po : mm_Po} (k : Po none la_179 mem_9) : mm_E X (d) 40 5529 mi_X10_init [v_r 50] Po la_99 mem_8 := by
  show mm_G X (d) 40 5529 mi_X10_init Po 0 [(0, v_r 50)] [] la_99 mem_8 0 0
  refine mm_aload_n (mm_dc od_X10_init_0 0 rfl) rfl ?_
  refine mm_oinit (mm_dc od_X10_init_0 1 rfl) wd_4_111 wd_1_26 wd_1_27 (by decide) ?_
  refine mm_aload_n (mm_dc od_X10_init_0 2 rfl) rfl ?_
  refine mm_bipush (mm_dc od_X10_init_0 3 rfl) (by decide) ?_
  refine mm_newb (n := 16) (q := 51) (La' := la_100) (mm_dc od_X10_init_0 4 rfl) wd_1_77 rfl (by decide) (by decide) (by decide) rfl (by decide) rfl rfl (fun _ => rfl) rfl ?_
  refine mm_putR (La' := la_101) (ci := 10) (k := 0) (mm_dc od_X10_init_0 5 rfl) rfl in_X10 tyX10_ok nmX10 (by decide) wd_4_112 rfl rfl rfl (fun _ => rfl) (fun _ => rfl) rfl (by decide) rfl ?_
  refine mm_aload_n (mm_dc od_X10_init_0 6 rfl) rfl ?_
  refine mm_bipush (mm_dc od_X10_init_0 7 rfl) (by decide) ?_
  refine mm_newb (n := 16) (q := 52) (La' := la_102) (mm_dc od_X10_init_0 8 rfl) wd_1_77 rfl (by decide) (by decide) (by decide) rfl (by decide) rfl rfl (fun _ => rfl) rfl ?_
  refine mm_putR (La' := la_103) (ci := 10) (k := 1) (mm_dc od_X10_init_0 9 rfl) rfl in_X10 tyX10_ok nmX10 (by decide) wd_4_113 rfl rfl rfl (fun _ => rfl) (fun _ => rfl) rfl (by decide) rfl ?_
  refine mm_aload_n (mm_dc od_X10_init_0 10 rfl) rfl ?_
  refine mm_bipush (mm_dc od_X10_init_0 11 rfl) (by decide) ?_
  refine mm_newb (n := 16) (q := 53) (La' := la_104) (mm_dc od_X10_init_0 12 rfl) wd_1_77 rfl (by decide) (by decide) (by decide) rfl (by decide) rfl rfl (fun _ => rfl) rfl ?_
  refine mm_putR (La' := la_105) (ci := 10) (k := 2) (mm_dc od_X10_init_0 13 rfl) rfl in_X10 tyX10_ok nmX10 (by decide) wd_4_114 rfl rfl rfl (fun _ => rfl) (fun _ => rfl) rfl (by decide) rfl ?_
  refine mm_aload_n (mm_dc od_X10_init_0 14 rfl) rfl ?_
  refine mm_bipush (mm_dc od_X10_init_0 15 rfl) (by decide) ?_
  refine mm_newb (n := 16) (q := 54) (La' := la_106) (mm_dc od_X10_init_0 16 rfl) wd_1_77 rfl (by decide) (by decide) (by decide) rfl (by decide) rfl rfl (fun _ => rfl) rfl ?_
  refine mm_putR (La' := la_107) (ci := 10) (k := 3) (mm_dc od_X10_init_0 17 rfl) rfl in_X10 tyX10_ok nmX10 (by decide) wd_4_115 rfl rfl rfl (fun _ => rfl) (fun _ => rfl) rfl (by decide) rfl ?_
  refine mm_aload_n (mm_dc od_X10_init_0 18 rfl) rfl ?_
  refine mm_bipush (mm_dc od_X10_init_0 19 rfl) (by decide) ?_
  refine mm_newb (n := 16) (q := 55) (La' := la_108) (mm_dc od_X10_init_0 20 rfl) wd_1_200 rfl (by decide) (by decide) (by decide) rfl (by decide) rfl rfl (fun _ => rfl) rfl ?_
  refine mm_putR (La' := la_109) (ci := 10) (k := 4) (mm_dc od_X10_init_0 21 rfl) rfl in_X10 tyX10_ok nmX10 (by decide) wd_4_116 rfl rfl rfl (fun _ => rfl) (fun _ => rfl) rfl (by decide) rfl ?_
  refine mm_aload_n (mm_dc od_X10_init_0 22 rfl) rfl ?_
  refine mm_bipush (mm_dc od_X10_init_0 23 rfl) (by decide) ?_
  refine mm_newb (n := 8) (q := 56) (La' := la_110) (mm_dc od_X10_init_0 24 rfl) wd_1_200 rfl (by decide) (by decide) (by decide) rfl (by decide) rfl rfl (fun _ => rfl) rfl ?_
  refine mm_putR (La' := la_111) (ci := 10) (k := 5) (mm_dc od_X10_init_0 25 rfl) rfl in_X10 tyX10_ok nmX10 (by decide) wd_4_117 rfl rfl rfl (fun _ => rfl) (fun _ => rfl) rfl (by decide) rfl ?_
  refine mm_aload_n (mm_dc od_X10_init_0 26 rfl) rfl ?_
  refine mm_bipush (mm_dc od_X10_init_0 27 rfl) (by decide) ?_
  refine mm_newb (n := 8) (q := 57) (La' := la_112) (mm_dc od_X10_init_0 28 rfl) wd_1_77 rfl (by decide) (by decide) (by decide) rfl (by decide) rfl rfl (fun _ => rfl) rfl ?_
  refine mm_putR (La' := la_113) (ci := 10) (k := 6) (mm_dc od_X10_init_0 29 rfl) rfl in_X10 tyX10_ok nmX10 (by decide) wd_4_118 rfl rfl rfl (fun _ => rfl) (fun _ => rfl) rfl (by decide) rfl ?_
  refine mm_aload_n (mm_dc od_X10_init_0 30 rfl) rfl ?_
  refine mm_bipush (mm_dc od_X10_init_0 31 rfl) (by decide) ?_
  refine mm_newb (n := 8) (q := 58) (La' := la_114) (mm_dc od_X10_init_0 32 rfl) wd_1_77 rfl (by decide) (by decide) (by decide) rfl (by decide) rfl rfl (fun _ => rfl) rfl ?_
  refine mm_putR (La' := la_115) (ci := 10) (k := 7) (mm_dc od_X10_init_0 33 rfl) rfl in_X10 tyX10_ok nmX10 (by decide) wd_4_119 rfl rfl rfl (fun _ => rfl) (fun _ => rfl) rfl (by decide) rfl ?_
  refine mm_aload_n (mm_dc od_X10_init_0 34 rfl) rfl ?_
  refine mm_bipush (mm_dc od_X10_init_0 35 rfl) (by decide) ?_
  refine mm_newb (n := 8) (q := 59) (La' := la_116) (mm_dc od_X10_init_0 36 rfl) wd_1_77 rfl (by decide) (by decide) (by decide) rfl (by decide) rfl rfl (fun _ => rfl) rfl ?_
  refine mm_putR (La' := la_117) (ci := 10) (k := 8) (mm_dc od_X10_init_0 37 rfl) rfl in_X10 tyX10_ok nmX10 (by decide) wd_4_120 rfl rfl rfl (fun _ => rfl) (fun _ => rfl) rfl (by decide) rfl ?_
  refine mm_aload_n (mm_dc od_X10_init_0 38 rfl) rfl ?_
  refine mm_bipush (mm_dc od_X10_init_0 39 rfl) (by decide) ?_
  refine mm_newb (n := 8) (q := 60) (La' := la_118) (mm_dc od_X10_init_0 40 rfl) wd_1_77 rfl (by decide) (by decide) (by decide) rfl (by decide) rfl rfl (fun _ => rfl) rfl ?_
  refine mm_putR (La' := la_119) (ci := 10) (k := 9) (mm_dc od_X10_init_0 41 rfl) rfl in_X10 tyX10_ok nmX10 (by decide) wd_4_121 rfl rfl rfl (fun _ => rfl) (fun _ => rfl) rfl (by decide) rfl ?_
  refine mm_aload_n (mm_dc od_X10_init_0 42 rfl) rfl ?_
  refine mm_bipush (mm_dc od_X10_init_0 43 rfl) (by decide) ?_
  refine mm_newb (n := 40) (q := 61) (La' := la_120) (mm_dc od_X10_init_0 44 rfl) wd_1_77 rfl (by decide) (by decide) (by decide) rfl (by decide) rfl rfl (fun _ => rfl) rfl ?_
  refine mm_putR (La' := la_121) (ci := 10) (k := 12) (mm_dc od_X10_init_0 45 rfl) rfl in_X10 tyX10_ok nmX10 (by decide) wd_4_124 rfl rfl rfl (fun _ => rfl) (fun _ => rfl) rfl (by decide) rfl ?_
  refine mm_aload_n (mm_dc od_X10_init_0 46 rfl) rfl ?_
  refine mm_bipush (mm_dc od_X10_init_0 47 rfl) (by decide) ?_
  refine mm_newb (n := 40) (q := 62) (La' := la_122) (mm_dc od_X10_init_0 48 rfl) wd_1_77 rfl (by decide) (by decide) (by decide) rfl (by decide) rfl rfl (fun _ => rfl) rfl ?_
  refine mm_putR (La' := la_123) (ci := 10) (k := 13) (mm_dc od_X10_init_0 49 rfl) rfl in_X10 tyX10_ok nmX10 (by decide) wd_4_125 rfl rfl rfl (fun _ => rfl) (fun _ => rfl) rfl (by decide) rfl ?_
  refine mm_aload_n (mm_dc od_X10_init_0 50 rfl) rfl ?_
  refine mm_bipush (mm_dc od_X10_init_0 51 rfl) (by decide) ?_
  refine mm_newb (n := 40) (q := 63) (La' := la_124) (mm_dc od_X10_init_0 52 rfl) wd_1_77 rfl (by decide) (by decide) (by decide) rfl (by decide) rfl rfl (fun _ => rfl) rfl ?_
  refine mm_putR (La' := la_125) (ci := 10) (k := 14) (mm_dc od_X10_init_0 53 rfl) rfl in_X10 tyX10_ok nmX10 (by decide) wd_4_126 rfl rfl rfl (fun _ => rfl) (fun _ => rfl) rfl (by decide) rfl ?_
  refine mm_aload_n (mm_dc od_X10_init_0 54 rfl) rfl ?_
  refine mm_bipush (mm_dc od_X10_init_0 55 rfl) (by decide) ?_
  refine mm_newb (n := 16) (q := 64) (La' := la_126) (mm_dc od_X10_init_0 56 rfl) wd_1_77 rfl (by decide) (by decide) (by decide) rfl (by decide) rfl rfl (fun _ => rfl) rfl ?_
  refine mm_putR (La' := la_127) (ci := 10) (k := 15) (mm_dc od_X10_init_0 57 rfl) rfl in_X10 tyX10_ok nmX10 (by decide) wd_4_127 rfl rfl rfl (fun _ => rfl) (fun _ => rfl) rfl (by decide) rfl ?_
  refine mm_aload_n (mm_dc od_X10_init_0 58 rfl) rfl ?_
  refine mm_bipush (mm_dc od_X10_init_0 59 rfl) (by decide) ?_
  refine mm_newb (n := 16) (q := 65) (La' := la_128) (mm_dc od_X10_init_1 0 rfl) wd_1_77 rfl (by decide) (by decide) (by decide) rfl (by decide) rfl rfl (fun _ => rfl) rfl ?_
  refine mm_putR (La' := la_129) (ci := 10) (k := 17) (mm_dc od_X10_init_1 1 rfl) rfl in_X10 tyX10_ok nmX10 (by decide) wd_4_129 rfl rfl rfl (fun _ => rfl) (fun _ => rfl) rfl (by decide) rfl ?_
  refine mm_aload_n (mm_dc od_X10_init_1 2 rfl) rfl ?_
  refine mm_bipush (mm_dc od_X10_init_1 3 rfl) (by decide) ?_
  refine mm_newb (n := 49) (q := 66) (La' := la_130) (mm_dc od_X10_init_1 4 rfl) wd_1_112 rfl (by decide) (by decide) (by decide) rfl (by decide) rfl rfl (fun _ => rfl) rfl ?_
  refine mm_putR (La' := la_131) (ci := 10) (k := 18) (mm_dc od_X10_init_1 5 rfl) rfl in_X10 tyX10_ok nmX10 (by decide) wd_4_130 rfl rfl rfl (fun _ => rfl) (fun _ => rfl) rfl (by decide) rfl ?_
  refine mm_aload_n (mm_dc od_X10_init_1 6 rfl) rfl ?_
  refine mm_bipush (mm_dc od_X10_init_1 7 rfl) (by decide) ?_
  refine mm_newb (n := 7) (q := 67) (La' := la_132) (mm_dc od_X10_init_1 8 rfl) wd_1_112 rfl (by decide) (by decide) (by decide) rfl (by decide) rfl rfl (fun _ => rfl) rfl ?_
  refine mm_putR (La' := la_133) (ci := 10) (k := 19) (mm_dc od_X10_init_1 9 rfl) rfl in_X10 tyX10_ok nmX10 (by decide) wd_4_131 rfl rfl rfl (fun _ => rfl) (fun _ => rfl) rfl (by decide) rfl ?_
  refine mm_aload_n (mm_dc od_X10_init_1 10 rfl) rfl ?_
  refine mm_sipush (mm_dc od_X10_init_1 11 rfl) (by decide) ?_
  refine mm_newb (n := 128) (q := 68) (La' := la_134) (mm_dc od_X10_init_1 12 rfl) wd_1_112 rfl (by decide) (by decide) (by decide) rfl (by decide) rfl rfl (fun _ => rfl) rfl ?_
  refine mm_putR (La' := la_135) (ci := 10) (k := 20) (mm_dc od_X10_init_1 13 rfl) rfl in_X10 tyX10_ok nmX10 (by decide) wd_4_132 rfl rfl rfl (fun _ => rfl) (fun _ => rfl) rfl (by decide) rfl ?_
  refine mm_aload_n (mm_dc od_X10_init_1 14 rfl) rfl ?_
  refine mm_bipush (mm_dc od_X10_init_1 15 rfl) (by decide) ?_
  refine mm_newb (n := 16) (q := 69) (La' := la_136) (mm_dc od_X10_init_1 16 rfl) wd_1_112 rfl (by decide) (by decide) (by decide) rfl (by decide) rfl rfl (fun _ => rfl) rfl ?_
  refine mm_putR (La' := la_137) (ci := 10) (k := 21) (mm_dc od_X10_init_1 17 rfl) rfl in_X10 tyX10_ok nmX10 (by decide) wd_4_133 rfl rfl rfl (fun _ => rfl) (fun _ => rfl) rfl (by decide) rfl ?_
  refine mm_aload_n (mm_dc od_X10_init_1 18 rfl) rfl ?_
  refine mm_sipush (mm_dc od_X10_init_1 19 rfl) (by decide) ?_
  refine mm_newb (n := 4352) (q := 70) (La' := la_138) (mm_dc od_X10_init_1 20 rfl) wd_1_77 rfl (by decide) (by decide) (by decide) rfl (by decide) rfl rfl (fun _ => rfl) rfl ?_
  refine mm_putR (La' := la_139) (ci := 10) (k := 24) (mm_dc od_X10_init_1 21 rfl) rfl in_X10 tyX10_ok nmX10 (by decide) wd_4_136 rfl rfl rfl (fun _ => rfl) (fun _ => rfl) rfl (by decide) rfl ?_
  refine mm_aload_n (mm_dc od_X10_init_1 22 rfl) rfl ?_
  refine mm_bipush (mm_dc od_X10_init_1 23 rfl) (by decide) ?_
  refine mm_newb (n := 16) (q := 71) (La' := la_140) (mm_dc od_X10_init_1 24 rfl) wd_1_77 rfl (by decide) (by decide) (by decide) rfl (by decide) rfl rfl (fun _ => rfl) rfl ?_
  refine mm_putR (La' := la_141) (ci := 10) (k := 25) (mm_dc od_X10_init_1 25 rfl) rfl in_X10 tyX10_ok nmX10 (by decide) wd_4_137 rfl rfl rfl (fun _ => rfl) (fun _ => rfl) rfl (by decide) rfl ?_
  refine mm_aload_n (mm_dc od_X10_init_1 26 rfl) rfl ?_
  refine mm_bipush (mm_dc od_X10_init_1 27 rfl) (by decide) ?_
  refine mm_newb (n := 30) (q := 72) (La' := la_142) (mm_dc od_X10_init_1 28 rfl) wd_1_77 rfl (by decide) (by decide) (by decide) rfl (by decide) rfl rfl (fun _ => rfl) rfl ?_
  refine mm_putR (La' := la_143) (ci := 10) (k := 26) (mm_dc od_X10_init_1 29 rfl) rfl in_X10 tyX10_ok nmX10 (by decide) wd_4_138 rfl rfl rfl (fun _ => rfl) (fun _ => rfl) rfl (by decide) rfl ?_
  refine mm_aload_n (mm_dc od_X10_init_1 30 rfl) rfl ?_
  refine mm_bipush (mm_dc od_X10_init_1 31 rfl) (by decide) ?_
  refine mm_newb (n := 30) (q := 73) (La' := la_144) (mm_dc od_X10_init_1 32 rfl) wd_1_77 rfl (by decide) (by decide) (by decide) rfl (by decide) rfl rfl (fun _ => rfl) rfl ?_
  refine mm_putR (La' := la_145) (ci := 10) (k := 27) (mm_dc od_X10_init_1 33 rfl) rfl in_X10 tyX10_ok nmX10 (by decide) wd_4_139 rfl rfl rfl (fun _ => rfl) (fun _ => rfl) rfl (by decide) rfl ?_
  refine mm_aload_n (mm_dc od_X10_init_1 34 rfl) rfl ?_
  refine mm_bipush (mm_dc od_X10_init_1 35 rfl) (by decide) ?_
  refine mm_newb (n := 120) (q := 74) (La' := la_146) (mm_dc od_X10_init_1 36 rfl) wd_1_77 rfl (by decide) (by decide) (by decide) rfl (by decide) rfl rfl (fun _ => rfl) rfl ?_
  refine mm_putR (La' := la_147) (ci := 10) (k := 28) (mm_dc od_X10_init_1 37 rfl) rfl in_X10 tyX10_ok nmX10 (by decide) wd_4_140 rfl rfl rfl (fun _ => rfl) (fun _ => rfl) rfl (by decide) rfl ?_
  refine mm_aload_n (mm_dc od_X10_init_1 38 rfl) rfl ?_
  refine mm_bipush (mm_dc od_X10_init_1 39 rfl) (by decide) ?_
  refine mm_newb (n := 10) (q := 75) (La' := la_148) (mm_dc od_X10_init_1 40 rfl) wd_1_200 rfl (by decide) (by decide) (by decide) rfl (by decide) rfl rfl (fun _ => rfl) rfl ?_
  refine mm_putR (La' := la_149) (ci := 10) (k := 32) (mm_dc od_X10_init_1 41 rfl) rfl in_X10 tyX10_ok nmX10 (by decide) wd_4_144 rfl rfl rfl (fun _ => rfl) (fun _ => rfl) rfl (by decide) rfl ?_
  refine mm_aload_n (mm_dc od_X10_init_1 42 rfl) rfl ?_
  refine mm_bipush (mm_dc od_X10_init_1 43 rfl) (by decide) ?_
  refine mm_newb (n := 10) (q := 76) (La' := la_150) (mm_dc od_X10_init_1 44 rfl) wd_1_77 rfl (by decide) (by decide) (by decide) rfl (by decide) rfl rfl (fun _ => rfl) rfl ?_
  refine mm_putR (La' := la_151) (ci := 10) (k := 33) (mm_dc od_X10_init_1 45 rfl) rfl in_X10 tyX10_ok nmX10 (by decide) wd_4_145 rfl rfl rfl (fun _ => rfl) (fun _ => rfl) rfl (by decide) rfl ?_
  refine mm_aload_n (mm_dc od_X10_init_1 46 rfl) rfl ?_
  refine mm_bipush (mm_dc od_X10_init_1 47 rfl) (by decide) ?_
  refine mm_newb (n := 10) (q := 77) (La' := la_152) (mm_dc od_X10_init_1 48 rfl) wd_1_77 rfl (by decide) (by decide) (by decide) rfl (by decide) rfl rfl (fun _ => rfl) rfl ?_
  refine mm_putR (La' := la_153) (ci := 10) (k := 34) (mm_dc od_X10_init_1 49 rfl) rfl in_X10 tyX10_ok nmX10 (by decide) wd_4_146 rfl rfl rfl (fun _ => rfl) (fun _ => rfl) rfl (by decide) rfl ?_
  refine mm_aload_n (mm_dc od_X10_init_1 50 rfl) rfl ?_
  refine mm_bipush (mm_dc od_X10_init_1 51 rfl) (by decide) ?_
  refine mm_newb (n := 120) (q := 78) (La' := la_154) (mm_dc od_X10_init_1 52 rfl) wd_1_77 rfl (by decide) (by decide) (by decide) rfl (by decide) rfl rfl (fun _ => rfl) rfl ?_
  refine mm_putR (La' := la_155) (ci := 10) (k := 35) (mm_dc od_X10_init_1 53 rfl) rfl in_X10 tyX10_ok nmX10 (by decide) wd_4_147 rfl rfl rfl (fun _ => rfl) (fun _ => rfl) rfl (by decide) rfl ?_
  refine mm_aload_n (mm_dc od_X10_init_1 54 rfl) rfl ?_
  refine mm_bipush (mm_dc od_X10_init_1 55 rfl) (by decide) ?_
  refine mm_newb (n := 30) (q := 79) (La' := la_156) (mm_dc od_X10_init_1 56 rfl) wd_1_77 rfl (by decide) (by decide) (by decide) rfl (by decide) rfl rfl (fun _ => rfl) rfl ?_
  refine mm_putR (La' := la_157) (ci := 10) (k := 37) (mm_dc od_X10_init_1 57 rfl) rfl in_X10 tyX10_ok nmX10 (by decide) wd_4_149 rfl rfl rfl (fun _ => rfl) (fun _ => rfl) rfl (by decide) rfl ?_
  refine mm_aload_n (mm_dc od_X10_init_1 58 rfl) rfl ?_
  refine mm_bipush (mm_dc od_X10_init_1 59 rfl) (by decide) ?_
  refine mm_newb (n := 30) (q := 80) (La' := la_158) (mm_dc od_X10_init_2 0 rfl) wd_1_77 rfl (by decide) (by decide) (by decide) rfl (by decide) rfl rfl (fun _ => rfl) rfl ?_
  refine mm_putR (La' := la_159) (ci := 10) (k := 38) (mm_dc od_X10_init_2 1 rfl) rfl in_X10 tyX10_ok nmX10 (by decide) wd_4_150 rfl rfl rfl (fun _ => rfl) (fun _ => rfl) rfl (by decide) rfl ?_
  refine mm_aload_n (mm_dc od_X10_init_2 2 rfl) rfl ?_
  refine mm_bipush (mm_dc od_X10_init_2 3 rfl) (by decide) ?_
  refine mm_newb (n := 30) (q := 81) (La' := la_160) (mm_dc od_X10_init_2 4 rfl) wd_1_77 rfl (by decide) (by decide) (by decide) rfl (by decide) rfl rfl (fun _ => rfl) rfl ?_
  refine mm_putR (La' := la_161) (ci := 10) (k := 39) (mm_dc od_X10_init_2 5 rfl) rfl in_X10 tyX10_ok nmX10 (by decide) wd_4_151 rfl rfl rfl (fun _ => rfl) (fun _ => rfl) rfl (by decide) rfl ?_
  refine mm_aload_n (mm_dc od_X10_init_2 6 rfl) rfl ?_
  refine mm_bipush (mm_dc od_X10_init_2 7 rfl) (by decide) ?_
  refine mm_newb (n := 30) (q := 82) (La' := la_162) (mm_dc od_X10_init_2 8 rfl) wd_1_77 rfl (by decide) (by decide) (by decide) rfl (by decide) rfl rfl (fun _ => rfl) rfl ?_
  refine mm_putR (La' := la_163) (ci := 10) (k := 40) (mm_dc od_X10_init_2 9 rfl) rfl in_X10 tyX10_ok nmX10 (by decide) wd_4_152 rfl rfl rfl (fun _ => rfl) (fun _ => rfl) rfl (by decide) rfl ?_
  refine mm_aload_n (mm_dc od_X10_init_2 10 rfl) rfl ?_
  refine mm_bipush (mm_dc od_X10_init_2 11 rfl) (by decide) ?_
  refine mm_newb (n := 60) (q := 83) (La' := la_164) (mm_dc od_X10_init_2 12 rfl) wd_1_77 rfl (by decide) (by decide) (by decide) rfl (by decide) rfl rfl (fun _ => rfl) rfl ?_
  refine mm_putR (La' := la_165) (ci := 10) (k := 41) (mm_dc od_X10_init_2 13 rfl) rfl in_X10 tyX10_ok nmX10 (by decide) wd_4_153 rfl rfl rfl (fun _ => rfl) (fun _ => rfl) rfl (by decide) rfl ?_
  refine mm_aload_n (mm_dc od_X10_init_2 14 rfl) rfl ?_
  refine mm_bipush (mm_dc od_X10_init_2 15 rfl) (by decide) ?_
  refine mm_newb (n := 60) (q := 84) (La' := la_166) (mm_dc od_X10_init_2 16 rfl) wd_1_77 rfl (by decide) (by decide) (by decide) rfl (by decide) rfl rfl (fun _ => rfl) rfl ?_
  refine mm_putR (La' := la_167) (ci := 10) (k := 42) (mm_dc od_X10_init_2 17 rfl) rfl in_X10 tyX10_ok nmX10 (by decide) wd_4_154 rfl rfl rfl (fun _ => rfl) (fun _ => rfl) rfl (by decide) rfl ?_
  refine mm_aload_n (mm_dc od_X10_init_2 18 rfl) rfl ?_
  refine mm_bipush (mm_dc od_X10_init_2 19 rfl) (by decide) ?_
  refine mm_newb (n := 60) (q := 85) (La' := la_168) (mm_dc od_X10_init_2 20 rfl) wd_1_200 rfl (by decide) (by decide) (by decide) rfl (by decide) rfl rfl (fun _ => rfl) rfl ?_
  refine mm_putR (La' := la_169) (ci := 10) (k := 43) (mm_dc od_X10_init_2 21 rfl) rfl in_X10 tyX10_ok nmX10 (by decide) wd_4_155 rfl rfl rfl (fun _ => rfl) (fun _ => rfl) rfl (by decide) rfl ?_
  refine mm_aload_n (mm_dc od_X10_init_2 22 rfl) rfl ?_
  refine mm_bipush (mm_dc od_X10_init_2 23 rfl) (by decide) ?_
  refine mm_newb (n := 20) (q := 86) (La' := la_170) (mm_dc od_X10_init_2 24 rfl) wd_1_77 rfl (by decide) (by decide) (by decide) rfl (by decide) rfl rfl (fun _ => rfl) rfl ?_
  refine mm_putR (La' := la_171) (ci := 10) (k := 46) (mm_dc od_X10_init_2 25 rfl) rfl in_X10 tyX10_ok nmX10 (by decide) wd_4_158 rfl rfl rfl (fun _ => rfl) (fun _ => rfl) rfl (by decide) rfl ?_
  refine mm_aload_n (mm_dc od_X10_init_2 26 rfl) rfl ?_
  refine mm_bipush (mm_dc od_X10_init_2 27 rfl) (by decide) ?_
  refine mm_newb (n := 20) (q := 87) (La' := la_172) (mm_dc od_X10_init_2 28 rfl) wd_1_77 rfl (by decide) (by decide) (by decide) rfl (by decide) rfl rfl (fun _ => rfl) rfl ?_
  refine mm_putR (La' := la_173) (ci := 10) (k := 47) (mm_dc od_X10_init_2 29 rfl) rfl in_X10 tyX10_ok nmX10 (by decide) wd_4_159 rfl rfl rfl (fun _ => rfl) (fun _ => rfl) rfl (by decide) rfl ?_
  refine mm_aload_n (mm_dc od_X10_init_2 30 rfl) rfl ?_
  refine mm_bipush (mm_dc od_X10_init_2 31 rfl) (by decide) ?_
  refine mm_putI (ci := 10) (k := 49) (mm_dc od_X10_init_2 32 rfl) rfl in_X10 tyX10_ok nmX10 (by decide) wd_4_161 rfl rfl rfl rfl ?_
  refine mm_aload_n (mm_dc od_X10_init_2 33 rfl) rfl ?_
  refine mm_bipush (mm_dc od_X10_init_2 34 rfl) (by decide) ?_
  refine mm_newb (n := 8) (q := 88) (La' := la_174) (mm_dc od_X10_init_2 35 rfl) wd_1_77 rfl (by decide) (by decide) (by decide) rfl (by decide) rfl rfl (fun _ => rfl) rfl ?_
  refine mm_putR (La' := la_175) (ci := 10) (k := 50) (mm_dc od_X10_init_2 36 rfl) rfl in_X10 tyX10_ok nmX10 (by decide) wd_4_162 rfl rfl rfl (fun _ => rfl) (fun _ => rfl) rfl (by decide) rfl ?_
  refine mm_aload_n (mm_dc od_X10_init_2 37 rfl) rfl ?_
  refine mm_bipush (mm_dc od_X10_init_2 38 rfl) (by decide) ?_
  refine mm_newb (n := 8) (q := 89) (La' := la_176) (mm_dc od_X10_init_2 39 rfl) wd_1_77 rfl (by decide) (by decide) (by decide) rfl (by decide) rfl rfl (fun _ => rfl) rfl ?_
  refine mm_putR (La' := la_177) (ci := 10) (k := 51) (mm_dc od_X10_init_2 40 rfl) rfl in_X10 tyX10_ok nmX10 (by decide) wd_4_163 rfl rfl rfl (fun _ => rfl) (fun _ => rfl) rfl (by decide) rfl ?_
  refine mm_aload_n (mm_dc od_X10_init_2 41 rfl) rfl ?_
  refine mm_iconst (mm_dc od_X10_init_2 42 rfl) ?_
  refine mm_newb (n := 3) (q := 90) (La' := la_178) (mm_dc od_X10_init_2 43 rfl) wd_1_77 rfl (by decide) (by decide) (by decide) rfl (by decide) rfl rfl (fun _ => rfl) rfl ?_
  refine mm_putR (La' := la_179) (ci := 10) (k := 52) (mm_dc od_X10_init_2 44 rfl) rfl in_X10 tyX10_ok nmX10 (by decide) wd_4_164 rfl rfl rfl (fun _ => rfl) (fun _ => rfl) rfl (by decide) rfl ?_
  refine mm_iconst (mm_dc od_X10_init_2 45 rfl) ?_
  refine mm_istore_n (L' := [(0, v_r 50), (1, v_i 0)]) (mm_dc od_X10_init_2 46 rfl) (by decide) rfl ?_
  refine mm_iload_n (mm_dc od_X10_init_2 47 rfl) rfl ?_
  refine mm_bipush (mm_dc od_X10_init_2 48 rfl) (by decide) ?_
  refine mm_icmp_ge 352 (mm_dc od_X10_init_2 49 rfl) (by omega) (by decide) (by decide) (fun h => absurd h (by decide)) (fun _ => ?_)
  refine mm_aload_n (mm_dc od_X10_init_2 50 rfl) rfl ?_
  refine mm_getR (ci := 10) (k := 50) (mm_dc od_X10_init_2 51 rfl) rfl in_X10 (by decide) wd_4_162 rfl rfl ?_
  refine mm_iload_n (mm_dc od_X10_init_2 52 rfl) rfl ?_
  refine mm_iconst (mm_dc od_X10_init_2 53 rfl) ?_
  refine mm_iast (mm_dc od_X10_init_2 54 rfl) rfl (by decide) (by decide) (by decide) ?_
  refine mm_iinc (L' := [(0, v_r 50), (1, v_i 1)]) (mm_dc od_X10_init_2 55 rfl) rfl (by decide) rfl ?_
  refine mm_goto 333 (mm_dc od_X10_init_2 56 rfl) (by omega) ?_
  refine mm_iload_n (mm_dc od_X10_init_2 47 rfl) rfl ?_
  refine mm_bipush (mm_dc od_X10_init_2 48 rfl) (by decide) ?_
  refine mm_icmp_ge 352 (mm_dc od_X10_init_2 49 rfl) (by omega) (by decide) (by decide) (fun h => absurd h (by decide)) (fun _ => ?_)
  refine mm_aload_n (mm_dc od_X10_init_2 50 rfl) rfl ?_
  refine mm_getR (ci := 10) (k := 50) (mm_dc od_X10_init_2 51 rfl) rfl in_X10 (by decide) wd_4_162 rfl rfl ?_
  refine mm_iload_n (mm_dc od_X10_init_2 52 rfl) rfl ?_
  refine mm_iconst (mm_dc od_X10_init_2 53 rfl) ?_
  refine mm_iast (mm_dc od_X10_init_2 54 rfl) rfl (by decide) (by decide) (by decide) ?_
  refine mm_iinc (L' := [(0, v_r 50), (1, v_i 2)]) (mm_dc od_X10_init_2 55 rfl) rfl (by decide) rfl ?_
  refine mm_goto 333 (mm_dc od_X10_init_2 56 rfl) (by omega) ?_
  refine mm_iload_n (mm_dc od_X10_init_2 47 rfl) rfl ?_
  refine mm_bipush (mm_dc od_X10_init_2 48 rfl) (by decide) ?_
  refine mm_icmp_ge 352 (mm_dc od_X10_init_2 49 rfl) (by omega) (by decide) (by decide) (fun h => absurd h (by decide)) (fun _ => ?_)
  refine mm_aload_n (mm_dc od_X10_init_2 50 rfl) rfl ?_
  refine mm_getR (ci := 10) (k := 50) (mm_dc od_X10_init_2 51 rfl) rfl in_X10 (by decide) wd_4_162 rfl rfl ?_
  refine mm_iload_n (mm_dc od_X10_init_2 52 rfl) rfl ?_
  refine mm_iconst (mm_dc od_X10_init_2 53 rfl) ?_
  refine mm_iast (mm_dc od_X10_init_2 54 rfl) rfl (by decide) (by decide) (by decide) ?_
  refine mm_iinc (L' := [(0, v_r 50), (1, v_i 3)]) (mm_dc od_X10_init_2 55 rfl) rfl (by decide) rfl ?_
  refine mm_goto 333 (mm_dc od_X10_init_2 56 rfl) (by omega) ?_
  refine mm_iload_n (mm_dc od_X10_init_2 47 rfl) rfl ?_
  refine mm_bipush (mm_dc od_X10_init_2 48 rfl) (by decide) ?_
  refine mm_icmp_ge 352 (mm_dc od_X10_init_2 49 rfl) (by omega) (by decide) (by decide) (fun h => absurd h (by decide)) (fun _ => ?_)
  refine mm_aload_n (mm_dc od_X10_init_2 50 rfl) rfl ?_
  refine mm_getR (ci := 10) (k := 50) (mm_dc od_X10_init_2 51 rfl) rfl in_X10 (by decide) wd_4_162 rfl rfl ?_
  refine mm_iload_n (mm_dc od_X10_init_2 52 rfl) rfl ?_
  refine mm_iconst (mm_dc od_X10_init_2 53 rfl) ?_
  refine mm_iast (mm_dc od_X10_init_2 54 rfl) rfl (by decide) (by decide) (by decide) ?_
  refine mm_iinc (L' := [(0, v_r 50), (1, v_i 4)]) (mm_dc od_X10_init_2 55 rfl) rfl (by decide) rfl ?_
  refine mm_goto 333 (mm_dc od_X10_init_2 56 rfl) (by omega) ?_
  refine mm_iload_n (mm_dc od_X10_init_2 47 rfl) rfl ?_
  refine mm_bipush (mm_dc od_X10_init_2 48 rfl) (by decide) ?_
  refine mm_icmp_ge 352 (mm_dc od_X10_init_2 49 rfl) (by omega) (by decide) (by decide) (fun h => absurd h (by decide)) (fun _ => ?_)
  refine mm_aload_n (mm_dc od_X10_init_2 50 rfl) rfl ?_
  refine mm_getR (ci := 10) (k := 50) (mm_dc od_X10_init_2 51 rfl) rfl in_X10 (by decide) wd_4_162 rfl rfl ?_
  refine mm_iload_n (mm_dc od_X10_init_2 52 rfl) rfl ?_
  refine mm_iconst (mm_dc od_X10_init_2 53 rfl) ?_
  refine mm_iast (mm_dc od_X10_init_2 54 rfl) rfl (by decide) (by decide) (by decide) ?_
  refine mm_iinc (L' := [(0, v_r 50), (1, v_i 5)]) (mm_dc od_X10_init_2 55 rfl) rfl (by decide) rfl ?_
  refine mm_goto 333 (mm_dc od_X10_init_2 56 rfl) (by omega) ?_
  refine mm_iload_n (mm_dc od_X10_init_2 47 rfl) rfl ?_
  refine mm_bipush (mm_dc od_X10_init_2 48 rfl) (by decide) ?_
  refine mm_icmp_ge 352 (mm_dc od_X10_init_2 49 rfl) (by omega) (by decide) (by decide) (fun h => absurd h (by decide)) (fun _ => ?_)
  refine mm_aload_n (mm_dc od_X10_init_2 50 rfl) rfl ?_
  refine mm_getR (ci := 10) (k := 50) (mm_dc od_X10_init_2 51 rfl) rfl in_X10 (by decide) wd_4_162 rfl rfl ?_
  refine mm_iload_n (mm_dc od_X10_init_2 52 rfl) rfl ?_
  refine mm_iconst (mm_dc od_X10_init_2 53 rfl) ?_
  refine mm_iast (mm_dc od_X10_init_2 54 rfl) rfl (by decide) (by decide) (by decide) ?_
  refine mm_iinc (L' := [(0, v_r 50), (1, v_i 6)]) (mm_dc od_X10_init_2 55 rfl) rfl (by decide) rfl ?_
  refine mm_goto 333 (mm_dc od_X10_init_2 56 rfl) (by omega) ?_
  refine mm_iload_n (mm_dc od_X10_init_2 47 rfl) rfl ?_
  refine mm_bipush (mm_dc od_X10_init_2 48 rfl) (by decide) ?_
  refine mm_icmp_ge 352 (mm_dc od_X10_init_2 49 rfl) (by omega) (by decide) (by decide) (fun h => absurd h (by decide)) (fun _ => ?_)
  refine mm_aload_n (mm_dc od_X10_init_2 50 rfl) rfl ?_
  refine mm_getR (ci := 10) (k := 50) (mm_dc od_X10_init_2 51 rfl) rfl in_X10 (by decide) wd_4_162 rfl rfl ?_
  refine mm_iload_n (mm_dc od_X10_init_2 52 rfl) rfl ?_
  refine mm_iconst (mm_dc od_X10_init_2 53 rfl) ?_
  refine mm_iast (mm_dc od_X10_init_2 54 rfl) rfl (by decide) (by decide) (by decide) ?_
  refine mm_iinc (L' := [(0, v_r 50), (1, v_i 7)]) (mm_dc od_X10_init_2 55 rfl) rfl (by decide) rfl ?_
  refine mm_goto 333 (mm_dc od_X10_init_2 56 rfl) (by omega) ?_
  refine mm_iload_n (mm_dc od_X10_init_2 47 rfl) rfl ?_
  refine mm_bipush (mm_dc od_X10_init_2 48 rfl) (by decide) ?_
  refine mm_icmp_ge 352 (mm_dc od_X10_init_2 49 rfl) (by omega) (by decide) (by decide) (fun h => absurd h (by decide)) (fun _ => ?_)
  refine mm_aload_n (mm_dc od_X10_init_2 50 rfl) rfl ?_
  refine mm_getR (ci := 10) (k := 50) (mm_dc od_X10_init_2 51 rfl) rfl in_X10 (by decide) wd_4_162 rfl rfl ?_
  refine mm_iload_n (mm_dc od_X10_init_2 52 rfl) rfl ?_
  refine mm_iconst (mm_dc od_X10_init_2 53 rfl) ?_
  refine mm_iast (mm_dc od_X10_init_2 54 rfl) rfl (by decide) (by decide) (by decide) ?_
  refine mm_iinc (L' := [(0, v_r 50), (1, v_i 8)]) (mm_dc od_X10_init_2 55 rfl) rfl (by decide) rfl ?_
  refine mm_goto 333 (mm_dc od_X10_init_2 56 rfl) (by omega) ?_
  refine mm_iload_n (mm_dc od_X10_init_2 47 rfl) rfl ?_
  refine mm_bipush (mm_dc od_X10_init_2 48 rfl) (by decide) ?_
  refine mm_icmp_ge 352 (mm_dc od_X10_init_2 49 rfl) (by omega) (by decide) (by decide) (fun _ => ?_) (fun h => absurd h (by decide))
  refine mm_ret (mm_dc od_X10_init_2 57 rfl) rfl ?_
  exact k
def Lam : List mm_S := la_179
end
section
/-! small methods of the class -/
section MMS
variable {X : Nat × (Nat → Int)} {d mc ms : Nat} {mi : mm_Mi} {Po : mm_Po} {pc : Nat} {L : List (Nat × mm_V)} {st st' : List mm_V} {La : List mm_S} {M : mm_M} {ck cs : Nat}
theorem mm_cst (h : st = st') (k : mm_G X d mc ms mi Po pc L st' La M ck cs) : mm_G X d mc ms mi Po pc L st La M ck cs := h ▸ k
end MMS
/-- the places that hold longs -/
def mm_isL (i k : Nat) : Bool := i == 14 || i == 16 || i == 66 || i == 67 || i == 68 || i == 69 || (i == 10 && k == 5) || (i == 50 && k == 23)
def R32 (M : mm_M) : Prop := ∀ i k, mm_isL i k = false → mm_r32 (M i k)
theorem R32_up {M : mm_M} {i k : Nat} {v : Int} (h : R32 M) (hv : mm_r32 v) : R32 (mm_up M i k v) := by
  intro a b hab
  unfold mm_up
  split
  · exact hv
  · exact h a b hab
/-- the class's oars and boats, as far as its own cells tell -/
def JO (M : mm_M) : Prop := 0 ≤ M 1 0 ∧ M 1 0 ≤ 16 ∧ ∀ o : Nat, (o : Int) < M 1 0 → (0 ≤ M 2 o ∧ M 2 o < 5) ∧ (30 ≤ M 3 o ∧ M 3 o ≤ 150) ∧ (M 4 o = 0 ∨ M 4 o = 1) ∧ (M 5 o = -1 ∨ (0 ≤ M 5 o ∧ M 5 o < 80))
def JB (M : mm_M) : Prop := 0 ≤ M 1 5 ∧ M 1 5 ≤ 8 ∧ ∀ b : Nat, (b : Int) < M 1 5 → (0 ≤ M 6 b ∧ M 6 b < 5) ∧ (30 ≤ M 7 b ∧ M 7 b ≤ 150) ∧ (30 ≤ M 8 b ∧ M 8 b ≤ 150) ∧ (1 ≤ M 9 b ∧ M 9 b ≤ 99)
theorem mm_seats_le (j : Nat) (h : j < 5) : 1 ≤ mm_seats j ∧ mm_seats j ≤ 8 := by
  rcases (show j = 0 ∨ j = 1 ∨ j = 2 ∨ j = 3 ∨ j = 4 by omega) with rfl | rfl | rfl | rfl | rfl <;> decide
theorem c_X9_within {X : Nat × (Nat → Int)} {d : Nat} {Po : mm_Po} {M : mm_M} (a : Int) (b : Int) (c : Int) (ha : mm_r32 a) (hb : mm_r32 b) (hc : mm_r32 c) (kt : b ≤ a ∧ a ≤ c → Po (some (v_i 1)) Lam M) (kf : ¬ (b ≤ a ∧ a ≤ c) → Po (some (v_i 0)) Lam M) : mm_E X d 0 0 mi_X9_within [v_i a, v_i b, v_i c] Po Lam M := by
  show mm_G X d 0 0 mi_X9_within Po 0 [(0, v_i a), (1, v_i b), (2, v_i c)] [] Lam M 0 0
  refine mm_iload_n (mm_dc od_X9_within_0 0 rfl) rfl ?_
  refine mm_iload_n (mm_dc od_X9_within_0 1 rfl) rfl ?_
  refine mm_icmp_lt 14 (mm_dc od_X9_within_0 2 rfl) (by omega) (by first | assumption | omega | exact hr _ _ rfl) (by first | assumption | omega | exact hr _ _ rfl) (fun c1 => ?_) (fun c1 => ?_)
  · refine mm_iconst (mm_dc od_X9_within_0 8 rfl) ?_
    refine mm_zret .boolean (mm_dc od_X9_within_0 9 rfl) rfl rfl ?_
    exact kf (by first | assumption | omega | grind)
  · refine mm_iload_n (mm_dc od_X9_within_0 3 rfl) rfl ?_
    refine mm_iload_n (mm_dc od_X9_within_0 4 rfl) rfl ?_
    refine mm_icmp_gt 14 (mm_dc od_X9_within_0 5 rfl) (by omega) (by first | assumption | omega | exact hr _ _ rfl) (by first | assumption | omega | exact hr _ _ rfl) (fun c2 => ?_) (fun c2 => ?_)
    · refine mm_iconst (mm_dc od_X9_within_0 8 rfl) ?_
      refine mm_zret .boolean (mm_dc od_X9_within_0 9 rfl) rfl rfl ?_
      exact kf (by first | assumption | omega | grind)
    · refine mm_iconst (mm_dc od_X9_within_0 6 rfl) ?_
      refine mm_goto 15 (mm_dc od_X9_within_0 7 rfl) (by omega) ?_
      refine mm_zret .boolean (mm_dc od_X9_within_0 9 rfl) rfl rfl ?_
      exact kt (by first | assumption | omega | grind)
theorem c_X9_isHour {X : Nat × (Nat → Int)} {d : Nat} {Po : mm_Po} {M : mm_M} (a : Int) (ha : mm_r32 a) (kt : 0 ≤ a ∧ a ≤ 23 → Po (some (v_i 1)) Lam M) (kf : ¬ (0 ≤ a ∧ a ≤ 23) → Po (some (v_i 0)) Lam M) : mm_E X (d + 1) 0 0 mi_X9_isHour [v_i a] Po Lam M := by
  show mm_G X (d + 1) 0 0 mi_X9_isHour Po 0 [(0, v_i a)] [] Lam M 0 0
  refine mm_iload_n (mm_dc od_X9_isHour_0 0 rfl) rfl ?_
  refine mm_iconst (mm_dc od_X9_isHour_0 1 rfl) ?_
  refine mm_bipush (mm_dc od_X9_isHour_0 2 rfl) (by decide) ?_
  refine mm_callS (mi' := mi_X9_within) [v_i a, v_i 0, v_i 23] [] (mm_dc od_X9_isHour_0 3 rfl) rfl wd_2_80 wd_2_81 wd_1_1 wd_2_82 yk_X9_within (Nat.le_of_ble_eq_true rfl) rfl (by decide) (c_X9_within a 0 23 (by first | assumption | omega | exact hr _ _ rfl) (by first | assumption | omega | exact hr _ _ rfl) (by first | assumption | omega | exact hr _ _ rfl) (fun c1 => ⟨Nat.le_refl _, ?_⟩) (fun c1 => ⟨Nat.le_refl _, ?_⟩))
  · refine mm_zret .boolean (mm_dc od_X9_isHour_0 4 rfl) rfl rfl ?_
    exact kt (by first | assumption | omega | grind)
  · refine mm_zret .boolean (mm_dc od_X9_isHour_0 4 rfl) rfl rfl ?_
    exact kf (by first | assumption | omega | grind)
theorem c_X0_hasOar {X : Nat × (Nat → Int)} {d : Nat} {Po : mm_Po} {M : mm_M} (o : Int) (ho : mm_r32 o) (hr : R32 M) (kt : 0 ≤ o ∧ o < M 1 0 → Po (some (v_i 1)) Lam M) (kf : ¬ (0 ≤ o ∧ o < M 1 0) → Po (some (v_i 0)) Lam M) : mm_E X d 0 0 mi_X0_hasOar [v_r 1, v_i o] Po Lam M := by
  show mm_G X d 0 0 mi_X0_hasOar Po 0 [(0, v_r 1), (1, v_i o)] [] Lam M 0 0
  refine mm_iload_n (mm_dc od_X0_hasOar_0 0 rfl) rfl ?_
  refine mm_if_lt 16 (mm_dc od_X0_hasOar_0 1 rfl) (by omega) (by first | assumption | omega | exact hr _ _ rfl) (fun c1 => ?_) (fun c1 => ?_)
  · refine mm_iconst (mm_dc od_X0_hasOar_0 8 rfl) ?_
    refine mm_zret .boolean (mm_dc od_X0_hasOar_0 9 rfl) rfl rfl ?_
    exact kf (by first | assumption | omega | grind)
  · refine mm_iload_n (mm_dc od_X0_hasOar_0 2 rfl) rfl ?_
    refine mm_aload_n (mm_dc od_X0_hasOar_0 3 rfl) rfl ?_
    refine mm_getI (ci := 0) (k := 0) (mm_dc od_X0_hasOar_0 4 rfl) rfl in_X0 (by decide) wd_1_34 rfl rfl ?_
    refine mm_icmp_ge 16 (mm_dc od_X0_hasOar_0 5 rfl) (by omega) (by first | assumption | omega | exact hr _ _ rfl) (by first | assumption | omega | exact hr _ _ rfl) (fun c2 => ?_) (fun c2 => ?_)
    · refine mm_iconst (mm_dc od_X0_hasOar_0 8 rfl) ?_
      refine mm_zret .boolean (mm_dc od_X0_hasOar_0 9 rfl) rfl rfl ?_
      exact kf (by first | assumption | omega | grind)
    · refine mm_iconst (mm_dc od_X0_hasOar_0 6 rfl) ?_
      refine mm_goto 17 (mm_dc od_X0_hasOar_0 7 rfl) (by omega) ?_
      refine mm_zret .boolean (mm_dc od_X0_hasOar_0 9 rfl) rfl rfl ?_
      exact kt (by first | assumption | omega | grind)
theorem c_X0_hasBoat {X : Nat × (Nat → Int)} {d : Nat} {Po : mm_Po} {M : mm_M} (b : Int) (hb : mm_r32 b) (hr : R32 M) (kt : 0 ≤ b ∧ b < M 1 5 → Po (some (v_i 1)) Lam M) (kf : ¬ (0 ≤ b ∧ b < M 1 5) → Po (some (v_i 0)) Lam M) : mm_E X d 0 0 mi_X0_hasBoat [v_r 1, v_i b] Po Lam M := by
  show mm_G X d 0 0 mi_X0_hasBoat Po 0 [(0, v_r 1), (1, v_i b)] [] Lam M 0 0
  refine mm_iload_n (mm_dc od_X0_hasBoat_0 0 rfl) rfl ?_
  refine mm_if_lt 16 (mm_dc od_X0_hasBoat_0 1 rfl) (by omega) (by first | assumption | omega | exact hr _ _ rfl) (fun c1 => ?_) (fun c1 => ?_)
  · refine mm_iconst (mm_dc od_X0_hasBoat_0 8 rfl) ?_
    refine mm_zret .boolean (mm_dc od_X0_hasBoat_0 9 rfl) rfl rfl ?_
    exact kf (by first | assumption | omega | grind)
  · refine mm_iload_n (mm_dc od_X0_hasBoat_0 2 rfl) rfl ?_
    refine mm_aload_n (mm_dc od_X0_hasBoat_0 3 rfl) rfl ?_
    refine mm_getI (ci := 0) (k := 5) (mm_dc od_X0_hasBoat_0 4 rfl) rfl in_X0 (by decide) wd_1_46 rfl rfl ?_
    refine mm_icmp_ge 16 (mm_dc od_X0_hasBoat_0 5 rfl) (by omega) (by first | assumption | omega | exact hr _ _ rfl) (by first | assumption | omega | exact hr _ _ rfl) (fun c2 => ?_) (fun c2 => ?_)
    · refine mm_iconst (mm_dc od_X0_hasBoat_0 8 rfl) ?_
      refine mm_zret .boolean (mm_dc od_X0_hasBoat_0 9 rfl) rfl rfl ?_
      exact kf (by first | assumption | omega | grind)
    · refine mm_iconst (mm_dc od_X0_hasBoat_0 6 rfl) ?_
      refine mm_goto 17 (mm_dc od_X0_hasBoat_0 7 rfl) (by omega) ?_
      refine mm_zret .boolean (mm_dc od_X0_hasBoat_0 9 rfl) rfl rfl ?_
      exact kt (by first | assumption | omega | grind)
theorem c_X0_seats {X : Nat × (Nat → Int)} {d : Nat} {Po : mm_Po} {M : mm_M} (b : Int) (h0 : 0 ≤ b ∧ b < M 1 5) (hJb : JB M) (hr : R32 M) (k : Po (some (v_i (mm_seats (M 6 b.toNat).toNat))) Lam M) : mm_E X d 0 0 mi_X0_seats [v_r 1, v_i b] Po Lam M := by
  show mm_G X d 0 0 mi_X0_seats Po 0 [(0, v_r 1), (1, v_i b)] [] Lam M 0 0
  have hJb2 := hJb
  obtain ⟨hb0, hb8, hB⟩ := hJb2
  have hB1 := hB b.toNat
  refine mm_getS0 (mm_dc od_X0_seats_0 0 rfl) wd_2_123 ?_
  refine mm_aload_n (mm_dc od_X0_seats_0 1 rfl) rfl ?_
  refine mm_getR (ci := 0) (k := 6) (mm_dc od_X0_seats_0 2 rfl) rfl in_X0 (by decide) wd_1_48 rfl rfl ?_
  refine mm_iload_n (mm_dc od_X0_seats_0 3 rfl) rfl ?_
  refine mm_iald (mm_dc od_X0_seats_0 4 rfl) rfl (by first | assumption | omega | exact hr _ _ rfl) (by first | assumption | omega | exact hr _ _ rfl) (by decide) ?_
  refine mm_ald0 (mm_dc od_X0_seats_0 5 rfl) (by first | assumption | omega | exact hr _ _ rfl) (by first | assumption | omega | exact hr _ _ rfl) ?_
  refine mm_iret (mm_dc od_X0_seats_0 6 rfl) rfl ?_
  exact mm_pi (by first | rfl | omega | (split <;> omega) | grind) k
theorem c_X0_hasCox {X : Nat × (Nat → Int)} {d : Nat} {Po : mm_Po} {M : mm_M} (b : Int) (h0 : 0 ≤ b ∧ b < M 1 5) (hJb : JB M) (hr : R32 M) (kt : M 6 b.toNat = 1 ∨ M 6 b.toNat = 2 → Po (some (v_i 1)) Lam M) (kf : ¬ (M 6 b.toNat = 1 ∨ M 6 b.toNat = 2) → Po (some (v_i 0)) Lam M) : mm_E X d 0 0 mi_X0_hasCox [v_r 1, v_i b] Po Lam M := by
  show mm_G X d 0 0 mi_X0_hasCox Po 0 [(0, v_r 1), (1, v_i b)] [] Lam M 0 0
  have hJb2 := hJb
  obtain ⟨hb0, hb8, hB⟩ := hJb2
  have hB1 := hB b.toNat
  refine mm_aload_n (mm_dc od_X0_hasCox_0 0 rfl) rfl ?_
  refine mm_getR (ci := 0) (k := 6) (mm_dc od_X0_hasCox_0 1 rfl) rfl in_X0 (by decide) wd_1_48 rfl rfl ?_
  refine mm_iload_n (mm_dc od_X0_hasCox_0 2 rfl) rfl ?_
  refine mm_iald (mm_dc od_X0_hasCox_0 3 rfl) rfl (by first | assumption | omega | exact hr _ _ rfl) (by first | assumption | omega | exact hr _ _ rfl) (by decide) ?_
  refine mm_iconst (mm_dc od_X0_hasCox_0 4 rfl) ?_
  refine mm_icmp_eq 20 (mm_dc od_X0_hasCox_0 5 rfl) (by omega) (by first | assumption | omega | exact hr _ _ rfl) (by first | assumption | omega | exact hr _ _ rfl) (fun c1 => ?_) (fun c1 => ?_)
  · refine mm_iconst (mm_dc od_X0_hasCox_0 12 rfl) ?_
    refine mm_goto 25 (mm_dc od_X0_hasCox_0 13 rfl) (by omega) ?_
    refine mm_zret .boolean (mm_dc od_X0_hasCox_0 15 rfl) rfl rfl ?_
    exact kt (by first | assumption | omega | grind)
  · refine mm_aload_n (mm_dc od_X0_hasCox_0 6 rfl) rfl ?_
    refine mm_getR (ci := 0) (k := 6) (mm_dc od_X0_hasCox_0 7 rfl) rfl in_X0 (by decide) wd_1_48 rfl rfl ?_
    refine mm_iload_n (mm_dc od_X0_hasCox_0 8 rfl) rfl ?_
    refine mm_iald (mm_dc od_X0_hasCox_0 9 rfl) rfl (by first | assumption | omega | exact hr _ _ rfl) (by first | assumption | omega | exact hr _ _ rfl) (by decide) ?_
    refine mm_iconst (mm_dc od_X0_hasCox_0 10 rfl) ?_
    refine mm_icmp_ne 24 (mm_dc od_X0_hasCox_0 11 rfl) (by omega) (by first | assumption | omega | exact hr _ _ rfl) (by first | assumption | omega | exact hr _ _ rfl) (fun c2 => ?_) (fun c2 => ?_)
    · refine mm_iconst (mm_dc od_X0_hasCox_0 14 rfl) ?_
      refine mm_zret .boolean (mm_dc od_X0_hasCox_0 15 rfl) rfl rfl ?_
      exact kf (by first | assumption | omega | grind)
    · refine mm_iconst (mm_dc od_X0_hasCox_0 12 rfl) ?_
      refine mm_goto 25 (mm_dc od_X0_hasCox_0 13 rfl) (by omega) ?_
      refine mm_zret .boolean (mm_dc od_X0_hasCox_0 15 rfl) rfl rfl ?_
      exact kt (by first | assumption | omega | grind)
theorem c_X0_hasSeat {X : Nat × (Nat → Int)} {d : Nat} {Po : mm_Po} {M : mm_M} (b : Int) (s : Int) (hb : mm_r32 b) (hs : mm_r32 s) (hJb : JB M) (hr : R32 M) (kt : (0 ≤ b ∧ b < M 1 5) ∧ ((s = 8 ∧ (M 6 b.toNat = 1 ∨ M 6 b.toNat = 2)) ∨ (s ≠ 8 ∧ 0 ≤ s ∧ s < mm_seats (M 6 b.toNat).toNat)) → Po (some (v_i 1)) Lam M) (kf : ¬ ((0 ≤ b ∧ b < M 1 5) ∧ ((s = 8 ∧ (M 6 b.toNat = 1 ∨ M 6 b.toNat = 2)) ∨ (s ≠ 8 ∧ 0 ≤ s ∧ s < mm_seats (M 6 b.toNat).toNat))) → Po (some (v_i 0)) Lam M) : mm_E X (d + 1) 0 0 mi_X0_hasSeat [v_r 1, v_i b, v_i s] Po Lam M := by
  show mm_G X (d + 1) 0 0 mi_X0_hasSeat Po 0 [(0, v_r 1), (1, v_i b), (2, v_i s)] [] Lam M 0 0
  have hJb2 := hJb
  obtain ⟨hb0, hb8, hB⟩ := hJb2
  have hB1 := hB b.toNat
  have hs1 := mm_seats_le (M 6 b.toNat).toNat
  refine mm_aload_n (mm_dc od_X0_hasSeat_0 0 rfl) rfl ?_
  refine mm_iload_n (mm_dc od_X0_hasSeat_0 1 rfl) rfl ?_
  refine mm_callV (b := 1) (mi' := mi_X0_hasBoat) [v_i b] [] (mm_dc od_X0_hasSeat_0 2 rfl) rfl wd_2_111 wd_2_112 wd_2_113 wd_1_2 wd_2_114 yk_X0_hasBoat rfl rfl rfl (Nat.le_of_ble_eq_true rfl) rfl (by decide) (c_X0_hasBoat b (by first | assumption | omega | exact hr _ _ rfl) (by first | assumption | omega | exact hr _ _ rfl) (fun c1 => ⟨Nat.le_refl _, ?_⟩) (fun c1 => ⟨Nat.le_refl _, ?_⟩))
  · refine mm_if_ne 10 (mm_dc od_X0_hasSeat_0 3 rfl) (by omega) (by first | assumption | omega | exact hr _ _ rfl) (fun _ => ?_) (fun h => absurd h (by decide))
    refine mm_iload_n (mm_dc od_X0_hasSeat_0 6 rfl) rfl ?_
    refine mm_bipush (mm_dc od_X0_hasSeat_0 7 rfl) (by decide) ?_
    refine mm_icmp_ne 24 (mm_dc od_X0_hasSeat_0 8 rfl) (by omega) (by first | assumption | omega | exact hr _ _ rfl) (by first | assumption | omega | exact hr _ _ rfl) (fun c2 => ?_) (fun c2 => ?_)
    · refine mm_iload_n (mm_dc od_X0_hasSeat_0 13 rfl) rfl ?_
      refine mm_iconst (mm_dc od_X0_hasSeat_0 14 rfl) ?_
      refine mm_aload_n (mm_dc od_X0_hasSeat_0 15 rfl) rfl ?_
      refine mm_iload_n (mm_dc od_X0_hasSeat_0 16 rfl) rfl ?_
      refine mm_callV (b := 1) (mi' := mi_X0_seats) [v_i b] [v_i 0, v_i s] (mm_dc od_X0_hasSeat_0 17 rfl) rfl wd_2_119 wd_2_120 wd_2_121 wd_1_2 wd_2_122 yk_X0_seats rfl rfl rfl (Nat.le_of_ble_eq_true rfl) rfl (by decide) (c_X0_seats b (by first | assumption | omega | exact hr _ _ rfl) hJb (by first | assumption | omega | exact hr _ _ rfl) ⟨Nat.le_refl _, ?_⟩)
      refine mm_iconst (mm_dc od_X0_hasSeat_0 18 rfl) ?_
      refine mm_isub (mm_dc od_X0_hasSeat_0 19 rfl) ?_
      refine mm_callN (mi' := mi_X9_within) [v_i s, v_i 0, v_i ((mm_seats (M 6 b.toNat).toNat) - 1)] [] (mm_dc od_X0_hasSeat_0 20 rfl) rfl (List.mem_of_getElem? (i := 8) rfl) wd_2_81 wd_1_1 wd_2_82 yk_X9_within (Nat.le_of_ble_eq_true rfl) rfl (by decide) (c_X9_within s 0 ((mm_seats (M 6 b.toNat).toNat) - 1) (by first | assumption | omega | exact hr _ _ rfl) (by first | assumption | omega | exact hr _ _ rfl) (by first | assumption | omega | exact hr _ _ rfl) (fun c3 => ⟨Nat.le_refl _, ?_⟩) (fun c3 => ⟨Nat.le_refl _, ?_⟩))
      · refine mm_zret .boolean (mm_dc od_X0_hasSeat_0 21 rfl) rfl rfl ?_
        exact kt (by first | assumption | omega | grind)
      · refine mm_zret .boolean (mm_dc od_X0_hasSeat_0 21 rfl) rfl rfl ?_
        exact kf (by first | assumption | omega | grind)
    · refine mm_aload_n (mm_dc od_X0_hasSeat_0 9 rfl) rfl ?_
      refine mm_iload_n (mm_dc od_X0_hasSeat_0 10 rfl) rfl ?_
      refine mm_callV (b := 1) (mi' := mi_X0_hasCox) [v_i b] [] (mm_dc od_X0_hasSeat_0 11 rfl) rfl wd_2_115 wd_2_116 wd_2_117 wd_1_2 wd_2_118 yk_X0_hasCox rfl rfl rfl (Nat.le_of_ble_eq_true rfl) rfl (by decide) (c_X0_hasCox b (by first | assumption | omega | exact hr _ _ rfl) hJb (by first | assumption | omega | exact hr _ _ rfl) (fun c4 => ⟨Nat.le_refl _, ?_⟩) (fun c4 => ⟨Nat.le_refl _, ?_⟩))
      · refine mm_goto 36 (mm_dc od_X0_hasSeat_0 12 rfl) (by omega) ?_
        refine mm_zret .boolean (mm_dc od_X0_hasSeat_0 21 rfl) rfl rfl ?_
        exact kt (by first | assumption | omega | grind)
      · refine mm_goto 36 (mm_dc od_X0_hasSeat_0 12 rfl) (by omega) ?_
        refine mm_zret .boolean (mm_dc od_X0_hasSeat_0 21 rfl) rfl rfl ?_
        exact kf (by first | assumption | omega | grind)
  · refine mm_if_ne 10 (mm_dc od_X0_hasSeat_0 3 rfl) (by omega) (by first | assumption | omega | exact hr _ _ rfl) (fun h => absurd h (by decide)) (fun _ => ?_)
    refine mm_iconst (mm_dc od_X0_hasSeat_0 4 rfl) ?_
    refine mm_zret .boolean (mm_dc od_X0_hasSeat_0 5 rfl) rfl rfl ?_
    exact kf (by first | assumption | omega | grind)
theorem c_X0_sitsIn {X : Nat × (Nat → Int)} {d : Nat} {Po : mm_Po} {M : mm_M} (o : Int) (b : Int) (h0 : 0 ≤ o ∧ o < M 1 0) (hb1 : mm_r32 b) (hJo : JO M) (hr : R32 M) (kt : M 5 o.toNat ≠ -1 ∧ M 5 o.toNat / 10 = b → Po (some (v_i 1)) Lam M) (kf : ¬ (M 5 o.toNat ≠ -1 ∧ M 5 o.toNat / 10 = b) → Po (some (v_i 0)) Lam M) : mm_E X d 0 0 mi_X0_sitsIn [v_r 1, v_i o, v_i b] Po Lam M := by
  show mm_G X d 0 0 mi_X0_sitsIn Po 0 [(0, v_r 1), (1, v_i o), (2, v_i b)] [] Lam M 0 0
  have hJo2 := hJo
  obtain ⟨ho0, ho16, hO⟩ := hJo2
  have hO1 := hO o.toNat
  have e10 : 0 ≤ M 5 o.toNat → (M 5 o.toNat).tdiv 10 = M 5 o.toNat / 10 := fun h => Int.tdiv_eq_ediv_of_nonneg h
  refine mm_aload_n (mm_dc od_X0_sitsIn_0 0 rfl) rfl ?_
  refine mm_getR (ci := 0) (k := 4) (mm_dc od_X0_sitsIn_0 1 rfl) rfl in_X0 (by decide) wd_1_43 rfl rfl ?_
  refine mm_iload_n (mm_dc od_X0_sitsIn_0 2 rfl) rfl ?_
  refine mm_iald (mm_dc od_X0_sitsIn_0 3 rfl) rfl (by first | assumption | omega | exact hr _ _ rfl) (by first | assumption | omega | exact hr _ _ rfl) (by decide) ?_
  refine mm_iconst (mm_dc od_X0_sitsIn_0 4 rfl) ?_
  refine mm_icmp_eq 27 (mm_dc od_X0_sitsIn_0 5 rfl) (by omega) (by first | assumption | omega | exact hr _ _ rfl) (by first | assumption | omega | exact hr _ _ rfl) (fun c1 => ?_) (fun c1 => ?_)
  · refine mm_iconst (mm_dc od_X0_sitsIn_0 16 rfl) ?_
    refine mm_zret .boolean (mm_dc od_X0_sitsIn_0 17 rfl) rfl rfl ?_
    exact kf (by first | assumption | omega | grind)
  · refine mm_aload_n (mm_dc od_X0_sitsIn_0 6 rfl) rfl ?_
    refine mm_getR (ci := 0) (k := 4) (mm_dc od_X0_sitsIn_0 7 rfl) rfl in_X0 (by decide) wd_1_43 rfl rfl ?_
    refine mm_iload_n (mm_dc od_X0_sitsIn_0 8 rfl) rfl ?_
    refine mm_iald (mm_dc od_X0_sitsIn_0 9 rfl) rfl (by first | assumption | omega | exact hr _ _ rfl) (by first | assumption | omega | exact hr _ _ rfl) (by decide) ?_
    refine mm_bipush (mm_dc od_X0_sitsIn_0 10 rfl) (by decide) ?_
    refine mm_idiv (mm_dc od_X0_sitsIn_0 11 rfl) (by first | assumption | omega | exact hr _ _ rfl) (by first | assumption | omega | exact hr _ _ rfl) (by first | assumption | omega | exact hr _ _ rfl) ?_
    refine mm_iload_n (mm_dc od_X0_sitsIn_0 12 rfl) rfl ?_
    refine mm_icmp_ne 27 (mm_dc od_X0_sitsIn_0 13 rfl) (by omega) (by first | assumption | omega | exact hr _ _ rfl) (by first | assumption | omega | exact hr _ _ rfl) (fun c2 => ?_) (fun c2 => ?_)
    · refine mm_iconst (mm_dc od_X0_sitsIn_0 16 rfl) ?_
      refine mm_zret .boolean (mm_dc od_X0_sitsIn_0 17 rfl) rfl rfl ?_
      exact kf (by first | assumption | omega | grind)
    · refine mm_iconst (mm_dc od_X0_sitsIn_0 14 rfl) ?_
      refine mm_goto 28 (mm_dc od_X0_sitsIn_0 15 rfl) (by omega) ?_
      refine mm_zret .boolean (mm_dc od_X0_sitsIn_0 17 rfl) rfl rfl ?_
      exact kt (by first | assumption | omega | grind)
theorem c_X0_isCox {X : Nat × (Nat → Int)} {d : Nat} {Po : mm_Po} {M : mm_M} (o : Int) (h0 : 0 ≤ o ∧ o < M 1 0) (hJo : JO M) (hr : R32 M) (kt : M 5 o.toNat ≠ -1 ∧ M 5 o.toNat % 10 = 8 → Po (some (v_i 1)) Lam M) (kf : ¬ (M 5 o.toNat ≠ -1 ∧ M 5 o.toNat % 10 = 8) → Po (some (v_i 0)) Lam M) : mm_E X d 0 0 mi_X0_isCox [v_r 1, v_i o] Po Lam M := by
  show mm_G X d 0 0 mi_X0_isCox Po 0 [(0, v_r 1), (1, v_i o)] [] Lam M 0 0
  have hJo2 := hJo
  obtain ⟨ho0, ho16, hO⟩ := hJo2
  have hO1 := hO o.toNat
  have e10 : 0 ≤ M 5 o.toNat → (M 5 o.toNat).tmod 10 = M 5 o.toNat % 10 := fun h => Int.tmod_eq_emod_of_nonneg h
  refine mm_aload_n (mm_dc od_X0_isCox_0 0 rfl) rfl ?_
  refine mm_getR (ci := 0) (k := 4) (mm_dc od_X0_isCox_0 1 rfl) rfl in_X0 (by decide) wd_1_43 rfl rfl ?_
  refine mm_iload_n (mm_dc od_X0_isCox_0 2 rfl) rfl ?_
  refine mm_iald (mm_dc od_X0_isCox_0 3 rfl) rfl (by first | assumption | omega | exact hr _ _ rfl) (by first | assumption | omega | exact hr _ _ rfl) (by decide) ?_
  refine mm_iconst (mm_dc od_X0_isCox_0 4 rfl) ?_
  refine mm_icmp_eq 28 (mm_dc od_X0_isCox_0 5 rfl) (by omega) (by first | assumption | omega | exact hr _ _ rfl) (by first | assumption | omega | exact hr _ _ rfl) (fun c1 => ?_) (fun c1 => ?_)
  · refine mm_iconst (mm_dc od_X0_isCox_0 16 rfl) ?_
    refine mm_zret .boolean (mm_dc od_X0_isCox_0 17 rfl) rfl rfl ?_
    exact kf (by first | assumption | omega | grind)
  · refine mm_aload_n (mm_dc od_X0_isCox_0 6 rfl) rfl ?_
    refine mm_getR (ci := 0) (k := 4) (mm_dc od_X0_isCox_0 7 rfl) rfl in_X0 (by decide) wd_1_43 rfl rfl ?_
    refine mm_iload_n (mm_dc od_X0_isCox_0 8 rfl) rfl ?_
    refine mm_iald (mm_dc od_X0_isCox_0 9 rfl) rfl (by first | assumption | omega | exact hr _ _ rfl) (by first | assumption | omega | exact hr _ _ rfl) (by decide) ?_
    refine mm_bipush (mm_dc od_X0_isCox_0 10 rfl) (by decide) ?_
    refine mm_irem (mm_dc od_X0_isCox_0 11 rfl) (by first | assumption | omega | exact hr _ _ rfl) (by first | assumption | omega | exact hr _ _ rfl) (by first | assumption | omega | exact hr _ _ rfl) ?_
    refine mm_bipush (mm_dc od_X0_isCox_0 12 rfl) (by decide) ?_
    refine mm_icmp_ne 28 (mm_dc od_X0_isCox_0 13 rfl) (by omega) (by first | assumption | omega | exact hr _ _ rfl) (by first | assumption | omega | exact hr _ _ rfl) (fun c2 => ?_) (fun c2 => ?_)
    · refine mm_iconst (mm_dc od_X0_isCox_0 16 rfl) ?_
      refine mm_zret .boolean (mm_dc od_X0_isCox_0 17 rfl) rfl rfl ?_
      exact kf (by first | assumption | omega | grind)
    · refine mm_iconst (mm_dc od_X0_isCox_0 14 rfl) ?_
      refine mm_goto 29 (mm_dc od_X0_isCox_0 15 rfl) (by omega) ?_
      refine mm_zret .boolean (mm_dc od_X0_isCox_0 17 rfl) rfl rfl ?_
      exact kt (by first | assumption | omega | grind)
theorem c_X0_maySit {X : Nat × (Nat → Int)} {d : Nat} {Po : mm_Po} {M : mm_M} (o : Int) (s : Int) (h0 : 0 ≤ o ∧ o < M 1 0) (hs1 : mm_r32 s) (hJo : JO M) (hr : R32 M) (kt : M 4 o.toNat = 0 ∧ (s ≠ 8 ∨ M 3 o.toNat ≤ 70) → Po (some (v_i 1)) Lam M) (kf : ¬ (M 4 o.toNat = 0 ∧ (s ≠ 8 ∨ M 3 o.toNat ≤ 70)) → Po (some (v_i 0)) Lam M) : mm_E X d 0 0 mi_X0_maySit [v_r 1, v_i o, v_i s] Po Lam M := by
  show mm_G X d 0 0 mi_X0_maySit Po 0 [(0, v_r 1), (1, v_i o), (2, v_i s)] [] Lam M 0 0
  have hJo2 := hJo
  obtain ⟨ho0, ho16, hO⟩ := hJo2
  have hO1 := hO o.toNat
  refine mm_aload_n (mm_dc od_X0_maySit_0 0 rfl) rfl ?_
  refine mm_getR (ci := 0) (k := 3) (mm_dc od_X0_maySit_0 1 rfl) rfl in_X0 (by decide) wd_1_41 rfl rfl ?_
  refine mm_iload_n (mm_dc od_X0_maySit_0 2 rfl) rfl ?_
  refine mm_iald (mm_dc od_X0_maySit_0 3 rfl) rfl (by first | assumption | omega | exact hr _ _ rfl) (by first | assumption | omega | exact hr _ _ rfl) (by decide) ?_
  refine mm_if_ne 30 (mm_dc od_X0_maySit_0 4 rfl) (by omega) (by first | assumption | omega | exact hr _ _ rfl) (fun c1 => ?_) (fun c1 => ?_)
  · refine mm_iconst (mm_dc od_X0_maySit_0 16 rfl) ?_
    refine mm_zret .boolean (mm_dc od_X0_maySit_0 17 rfl) rfl rfl ?_
    exact kf (by first | assumption | omega | grind)
  · refine mm_iload_n (mm_dc od_X0_maySit_0 5 rfl) rfl ?_
    refine mm_bipush (mm_dc od_X0_maySit_0 6 rfl) (by decide) ?_
    refine mm_icmp_ne 26 (mm_dc od_X0_maySit_0 7 rfl) (by omega) (by first | assumption | omega | exact hr _ _ rfl) (by first | assumption | omega | exact hr _ _ rfl) (fun c2 => ?_) (fun c2 => ?_)
    · refine mm_iconst (mm_dc od_X0_maySit_0 14 rfl) ?_
      refine mm_goto 31 (mm_dc od_X0_maySit_0 15 rfl) (by omega) ?_
      refine mm_zret .boolean (mm_dc od_X0_maySit_0 17 rfl) rfl rfl ?_
      exact kt (by first | assumption | omega | grind)
    · refine mm_aload_n (mm_dc od_X0_maySit_0 8 rfl) rfl ?_
      refine mm_getR (ci := 0) (k := 2) (mm_dc od_X0_maySit_0 9 rfl) rfl in_X0 (by decide) wd_1_39 rfl rfl ?_
      refine mm_iload_n (mm_dc od_X0_maySit_0 10 rfl) rfl ?_
      refine mm_iald (mm_dc od_X0_maySit_0 11 rfl) rfl (by first | assumption | omega | exact hr _ _ rfl) (by first | assumption | omega | exact hr _ _ rfl) (by decide) ?_
      refine mm_bipush (mm_dc od_X0_maySit_0 12 rfl) (by decide) ?_
      refine mm_icmp_gt 30 (mm_dc od_X0_maySit_0 13 rfl) (by omega) (by first | assumption | omega | exact hr _ _ rfl) (by first | assumption | omega | exact hr _ _ rfl) (fun c3 => ?_) (fun c3 => ?_)
      · refine mm_iconst (mm_dc od_X0_maySit_0 16 rfl) ?_
        refine mm_zret .boolean (mm_dc od_X0_maySit_0 17 rfl) rfl rfl ?_
        exact kf (by first | assumption | omega | grind)
      · refine mm_iconst (mm_dc od_X0_maySit_0 14 rfl) ?_
        refine mm_goto 31 (mm_dc od_X0_maySit_0 15 rfl) (by omega) ?_
        refine mm_zret .boolean (mm_dc od_X0_maySit_0 17 rfl) rfl rfl ?_
        exact kt (by first | assumption | omega | grind)
theorem c_X0_mayBeOut {X : Nat × (Nat → Int)} {d : Nat} {Po : mm_Po} {M : mm_M} (o : Int) (hour : Int) (h0 : 0 ≤ o ∧ o < M 1 0) (hs1 : mm_r32 hour) (hJo : JO M) (hr : R32 M) (kt : M 4 o.toNat = 0 ∧ (M 2 o.toNat ≠ 4 ∨ 7 ≤ hour) → Po (some (v_i 1)) Lam M) (kf : ¬ (M 4 o.toNat = 0 ∧ (M 2 o.toNat ≠ 4 ∨ 7 ≤ hour)) → Po (some (v_i 0)) Lam M) : mm_E X d 0 0 mi_X0_mayBeOut [v_r 1, v_i o, v_i hour] Po Lam M := by
  show mm_G X d 0 0 mi_X0_mayBeOut Po 0 [(0, v_r 1), (1, v_i o), (2, v_i hour)] [] Lam M 0 0
  have hJo2 := hJo
  obtain ⟨ho0, ho16, hO⟩ := hJo2
  have hO1 := hO o.toNat
  refine mm_aload_n (mm_dc od_X0_mayBeOut_0 0 rfl) rfl ?_
  refine mm_getR (ci := 0) (k := 3) (mm_dc od_X0_mayBeOut_0 1 rfl) rfl in_X0 (by decide) wd_1_41 rfl rfl ?_
  refine mm_iload_n (mm_dc od_X0_mayBeOut_0 2 rfl) rfl ?_
  refine mm_iald (mm_dc od_X0_mayBeOut_0 3 rfl) rfl (by first | assumption | omega | exact hr _ _ rfl) (by first | assumption | omega | exact hr _ _ rfl) (by decide) ?_
  refine mm_if_ne 29 (mm_dc od_X0_mayBeOut_0 4 rfl) (by omega) (by first | assumption | omega | exact hr _ _ rfl) (fun c1 => ?_) (fun c1 => ?_)
  · refine mm_iconst (mm_dc od_X0_mayBeOut_0 16 rfl) ?_
    refine mm_zret .boolean (mm_dc od_X0_mayBeOut_0 17 rfl) rfl rfl ?_
    exact kf (by first | assumption | omega | grind)
  · refine mm_aload_n (mm_dc od_X0_mayBeOut_0 5 rfl) rfl ?_
    refine mm_getR (ci := 0) (k := 1) (mm_dc od_X0_mayBeOut_0 6 rfl) rfl in_X0 (by decide) wd_1_37 rfl rfl ?_
    refine mm_iload_n (mm_dc od_X0_mayBeOut_0 7 rfl) rfl ?_
    refine mm_iald (mm_dc od_X0_mayBeOut_0 8 rfl) rfl (by first | assumption | omega | exact hr _ _ rfl) (by first | assumption | omega | exact hr _ _ rfl) (by decide) ?_
    refine mm_iconst (mm_dc od_X0_mayBeOut_0 9 rfl) ?_
    refine mm_icmp_ne 25 (mm_dc od_X0_mayBeOut_0 10 rfl) (by omega) (by first | assumption | omega | exact hr _ _ rfl) (by first | assumption | omega | exact hr _ _ rfl) (fun c2 => ?_) (fun c2 => ?_)
    · refine mm_iconst (mm_dc od_X0_mayBeOut_0 14 rfl) ?_
      refine mm_goto 30 (mm_dc od_X0_mayBeOut_0 15 rfl) (by omega) ?_
      refine mm_zret .boolean (mm_dc od_X0_mayBeOut_0 17 rfl) rfl rfl ?_
      exact kt (by first | assumption | omega | grind)
    · refine mm_iload_n (mm_dc od_X0_mayBeOut_0 11 rfl) rfl ?_
      refine mm_bipush (mm_dc od_X0_mayBeOut_0 12 rfl) (by decide) ?_
      refine mm_icmp_lt 29 (mm_dc od_X0_mayBeOut_0 13 rfl) (by omega) (by first | assumption | omega | exact hr _ _ rfl) (by first | assumption | omega | exact hr _ _ rfl) (fun c3 => ?_) (fun c3 => ?_)
      · refine mm_iconst (mm_dc od_X0_mayBeOut_0 16 rfl) ?_
        refine mm_zret .boolean (mm_dc od_X0_mayBeOut_0 17 rfl) rfl rfl ?_
        exact kf (by first | assumption | omega | grind)
      · refine mm_iconst (mm_dc od_X0_mayBeOut_0 14 rfl) ?_
        refine mm_goto 30 (mm_dc od_X0_mayBeOut_0 15 rfl) (by omega) ?_
        refine mm_zret .boolean (mm_dc od_X0_mayBeOut_0 17 rfl) rfl rfl ?_
        exact kt (by first | assumption | omega | grind)
theorem c_X0_addOar {X : Nat × (Nat → Int)} {d : Nat} {Po : mm_Po} {M : mm_M} (kind : Int) (w : Int) (h0 : 0 ≤ M 1 0 ∧ M 1 0 < 16) (hr : R32 M) (k : Po (some (v_i (M 1 0))) Lam (mm_up (mm_up (mm_up (mm_up (mm_up M 2 (M 1 0).toNat kind) 3 (M 1 0).toNat w) 4 (M 1 0).toNat 0) 5 (M 1 0).toNat (-1)) 1 0 (M 1 0 + 1))) : mm_E X d 0 0 mi_X0_addOar [v_r 1, v_i kind, v_i w] Po Lam M := by
  show mm_G X d 0 0 mi_X0_addOar Po 0 [(0, v_r 1), (1, v_i kind), (2, v_i w)] [] Lam M 0 0
  refine mm_aload_n (mm_dc od_X0_addOar_0 0 rfl) rfl ?_
  refine mm_getR (ci := 0) (k := 1) (mm_dc od_X0_addOar_0 1 rfl) rfl in_X0 (by decide) wd_1_37 rfl rfl ?_
  refine mm_aload_n (mm_dc od_X0_addOar_0 2 rfl) rfl ?_
  refine mm_getI (ci := 0) (k := 0) (mm_dc od_X0_addOar_0 3 rfl) rfl in_X0 (by decide) wd_1_34 rfl rfl ?_
  refine mm_iload_n (mm_dc od_X0_addOar_0 4 rfl) rfl ?_
  refine mm_iast (mm_dc od_X0_addOar_0 5 rfl) rfl (by first | assumption | omega | exact hr _ _ rfl) (by first | assumption | omega | exact hr _ _ rfl) (by decide) ?_
  refine mm_aload_n (mm_dc od_X0_addOar_0 6 rfl) rfl ?_
  refine mm_getR (ci := 0) (k := 2) (mm_dc od_X0_addOar_0 7 rfl) rfl in_X0 (by decide) wd_1_39 rfl rfl ?_
  refine mm_aload_n (mm_dc od_X0_addOar_0 8 rfl) rfl ?_
  refine mm_getI (ci := 0) (k := 0) (mm_dc od_X0_addOar_0 9 rfl) rfl in_X0 (by decide) wd_1_34 rfl rfl ?_
  refine mm_cst (st' := [v_i (M 1 0), v_r 3]) rfl ?_
  refine mm_iload_n (mm_dc od_X0_addOar_0 10 rfl) rfl ?_
  refine mm_iast (mm_dc od_X0_addOar_0 11 rfl) rfl (by first | assumption | omega | exact hr _ _ rfl) (by first | assumption | omega | exact hr _ _ rfl) (by decide) ?_
  refine mm_aload_n (mm_dc od_X0_addOar_0 12 rfl) rfl ?_
  refine mm_getR (ci := 0) (k := 3) (mm_dc od_X0_addOar_0 13 rfl) rfl in_X0 (by decide) wd_1_41 rfl rfl ?_
  refine mm_aload_n (mm_dc od_X0_addOar_0 14 rfl) rfl ?_
  refine mm_getI (ci := 0) (k := 0) (mm_dc od_X0_addOar_0 15 rfl) rfl in_X0 (by decide) wd_1_34 rfl rfl ?_
  refine mm_cst (st' := [v_i (M 1 0), v_r 4]) rfl ?_
  refine mm_iconst (mm_dc od_X0_addOar_0 16 rfl) ?_
  refine mm_iast (mm_dc od_X0_addOar_0 17 rfl) rfl (by first | assumption | omega | exact hr _ _ rfl) (by first | assumption | omega | exact hr _ _ rfl) (by decide) ?_
  refine mm_aload_n (mm_dc od_X0_addOar_0 18 rfl) rfl ?_
  refine mm_getR (ci := 0) (k := 4) (mm_dc od_X0_addOar_0 19 rfl) rfl in_X0 (by decide) wd_1_43 rfl rfl ?_
  refine mm_aload_n (mm_dc od_X0_addOar_0 20 rfl) rfl ?_
  refine mm_getI (ci := 0) (k := 0) (mm_dc od_X0_addOar_0 21 rfl) rfl in_X0 (by decide) wd_1_34 rfl rfl ?_
  refine mm_cst (st' := [v_i (M 1 0), v_r 5]) rfl ?_
  refine mm_iconst (mm_dc od_X0_addOar_0 22 rfl) ?_
  refine mm_iast (mm_dc od_X0_addOar_0 23 rfl) rfl (by first | assumption | omega | exact hr _ _ rfl) (by first | assumption | omega | exact hr _ _ rfl) (by decide) ?_
  refine mm_aload_n (mm_dc od_X0_addOar_0 24 rfl) rfl ?_
  refine mm_dup_r (mm_dc od_X0_addOar_0 25 rfl) ?_
  refine mm_getI (ci := 0) (k := 0) (mm_dc od_X0_addOar_0 26 rfl) rfl in_X0 (by decide) wd_1_34 rfl rfl ?_
  refine mm_cst (st' := [v_i (M 1 0), v_r 1]) rfl ?_
  refine mm_iconst (mm_dc od_X0_addOar_0 27 rfl) ?_
  refine mm_iadd (mm_dc od_X0_addOar_0 28 rfl) ?_
  refine mm_putI (ci := 0) (k := 0) (mm_dc od_X0_addOar_0 29 rfl) rfl in_X0 tyX0_ok nmX0 (by decide) wd_1_34 rfl rfl rfl rfl ?_
  refine mm_aload_n (mm_dc od_X0_addOar_0 30 rfl) rfl ?_
  refine mm_getI (ci := 0) (k := 0) (mm_dc od_X0_addOar_0 31 rfl) rfl in_X0 (by decide) wd_1_34 rfl rfl ?_
  refine mm_cst (st' := [v_i ((M 1 0) + 1)]) rfl ?_
  refine mm_iconst (mm_dc od_X0_addOar_0 32 rfl) ?_
  refine mm_isub (mm_dc od_X0_addOar_0 33 rfl) ?_
  refine mm_iret (mm_dc od_X0_addOar_0 34 rfl) rfl ?_
  exact mm_pi (by first | rfl | omega | (split <;> omega) | grind) k
theorem c_X0_addBoat {X : Nat × (Nat → Int)} {d : Nat} {Po : mm_Po} {M : mm_M} (kind : Int) (least : Int) (most : Int) (len : Int) (h0 : 0 ≤ M 1 5 ∧ M 1 5 < 8) (hr : R32 M) (k : Po (some (v_i (M 1 5))) Lam (mm_up (mm_up (mm_up (mm_up (mm_up M 6 (M 1 5).toNat kind) 7 (M 1 5).toNat least) 8 (M 1 5).toNat most) 9 (M 1 5).toNat len) 1 5 (M 1 5 + 1))) : mm_E X d 0 0 mi_X0_addBoat [v_r 1, v_i kind, v_i least, v_i most, v_i len] Po Lam M := by
  show mm_G X d 0 0 mi_X0_addBoat Po 0 [(0, v_r 1), (1, v_i kind), (2, v_i least), (3, v_i most), (4, v_i len)] [] Lam M 0 0
  refine mm_aload_n (mm_dc od_X0_addBoat_0 0 rfl) rfl ?_
  refine mm_getR (ci := 0) (k := 6) (mm_dc od_X0_addBoat_0 1 rfl) rfl in_X0 (by decide) wd_1_48 rfl rfl ?_
  refine mm_aload_n (mm_dc od_X0_addBoat_0 2 rfl) rfl ?_
  refine mm_getI (ci := 0) (k := 5) (mm_dc od_X0_addBoat_0 3 rfl) rfl in_X0 (by decide) wd_1_46 rfl rfl ?_
  refine mm_iload_n (mm_dc od_X0_addBoat_0 4 rfl) rfl ?_
  refine mm_iast (mm_dc od_X0_addBoat_0 5 rfl) rfl (by first | assumption | omega | exact hr _ _ rfl) (by first | assumption | omega | exact hr _ _ rfl) (by decide) ?_
  refine mm_aload_n (mm_dc od_X0_addBoat_0 6 rfl) rfl ?_
  refine mm_getR (ci := 0) (k := 7) (mm_dc od_X0_addBoat_0 7 rfl) rfl in_X0 (by decide) wd_1_50 rfl rfl ?_
  refine mm_aload_n (mm_dc od_X0_addBoat_0 8 rfl) rfl ?_
  refine mm_getI (ci := 0) (k := 5) (mm_dc od_X0_addBoat_0 9 rfl) rfl in_X0 (by decide) wd_1_46 rfl rfl ?_
  refine mm_cst (st' := [v_i (M 1 5), v_r 7]) rfl ?_
  refine mm_iload_n (mm_dc od_X0_addBoat_0 10 rfl) rfl ?_
  refine mm_iast (mm_dc od_X0_addBoat_0 11 rfl) rfl (by first | assumption | omega | exact hr _ _ rfl) (by first | assumption | omega | exact hr _ _ rfl) (by decide) ?_
  refine mm_aload_n (mm_dc od_X0_addBoat_0 12 rfl) rfl ?_
  refine mm_getR (ci := 0) (k := 8) (mm_dc od_X0_addBoat_0 13 rfl) rfl in_X0 (by decide) wd_1_52 rfl rfl ?_
  refine mm_aload_n (mm_dc od_X0_addBoat_0 14 rfl) rfl ?_
  refine mm_getI (ci := 0) (k := 5) (mm_dc od_X0_addBoat_0 15 rfl) rfl in_X0 (by decide) wd_1_46 rfl rfl ?_
  refine mm_cst (st' := [v_i (M 1 5), v_r 8]) rfl ?_
  refine mm_iload_n (mm_dc od_X0_addBoat_0 16 rfl) rfl ?_
  refine mm_iast (mm_dc od_X0_addBoat_0 17 rfl) rfl (by first | assumption | omega | exact hr _ _ rfl) (by first | assumption | omega | exact hr _ _ rfl) (by decide) ?_
  refine mm_aload_n (mm_dc od_X0_addBoat_0 18 rfl) rfl ?_
  refine mm_getR (ci := 0) (k := 9) (mm_dc od_X0_addBoat_0 19 rfl) rfl in_X0 (by decide) wd_1_54 rfl rfl ?_
  refine mm_aload_n (mm_dc od_X0_addBoat_0 20 rfl) rfl ?_
  refine mm_getI (ci := 0) (k := 5) (mm_dc od_X0_addBoat_0 21 rfl) rfl in_X0 (by decide) wd_1_46 rfl rfl ?_
  refine mm_cst (st' := [v_i (M 1 5), v_r 9]) rfl ?_
  refine mm_iload (mm_dc od_X0_addBoat_0 22 rfl) rfl ?_
  refine mm_iast (mm_dc od_X0_addBoat_0 23 rfl) rfl (by first | assumption | omega | exact hr _ _ rfl) (by first | assumption | omega | exact hr _ _ rfl) (by decide) ?_
  refine mm_aload_n (mm_dc od_X0_addBoat_0 24 rfl) rfl ?_
  refine mm_dup_r (mm_dc od_X0_addBoat_0 25 rfl) ?_
  refine mm_getI (ci := 0) (k := 5) (mm_dc od_X0_addBoat_0 26 rfl) rfl in_X0 (by decide) wd_1_46 rfl rfl ?_
  refine mm_cst (st' := [v_i (M 1 5), v_r 1]) rfl ?_
  refine mm_iconst (mm_dc od_X0_addBoat_0 27 rfl) ?_
  refine mm_iadd (mm_dc od_X0_addBoat_0 28 rfl) ?_
  refine mm_putI (ci := 0) (k := 5) (mm_dc od_X0_addBoat_0 29 rfl) rfl in_X0 tyX0_ok nmX0 (by decide) wd_1_46 rfl rfl rfl rfl ?_
  refine mm_aload_n (mm_dc od_X0_addBoat_0 30 rfl) rfl ?_
  refine mm_getI (ci := 0) (k := 5) (mm_dc od_X0_addBoat_0 31 rfl) rfl in_X0 (by decide) wd_1_46 rfl rfl ?_
  refine mm_cst (st' := [v_i ((M 1 5) + 1)]) rfl ?_
  refine mm_iconst (mm_dc od_X0_addBoat_0 32 rfl) ?_
  refine mm_isub (mm_dc od_X0_addBoat_0 33 rfl) ?_
  refine mm_iret (mm_dc od_X0_addBoat_0 34 rfl) rfl ?_
  exact mm_pi (by first | rfl | omega | (split <;> omega) | grind) k
theorem L_whoSits {X : Nat × (Nat → Int)} {d : Nat} {Po : mm_Po} {M : mm_M} (b s : Int) (hb1 : 0 ≤ b ∧ b < 8) (hs1 : 0 ≤ s ∧ s < 10) (hJo : JO M) (hr : R32 M) (k : ∀ r : Int, ((r = -1 ∧ ∀ i : Nat, (i : Int) < M 1 0 → M 5 i ≠ 10 * b + s) ∨ (0 ≤ r ∧ r < M 1 0 ∧ M 5 r.toNat = 10 * b + s ∧ ∀ i : Nat, (i : Int) < r → M 5 i ≠ 10 * b + s)) → Po (some (v_i r)) Lam M) (j : Nat) (hj : ∀ i : Nat, i < j → M 5 i ≠ 10 * b + s) (hj2 : (j : Int) ≤ M 1 0) : mm_G X d 0 0 mi_X0_whoSits Po 2 [(0, v_r 1), (1, v_i b), (2, v_i s), (3, v_i (j : Int))] [] Lam M 0 0 := by
  have hJo2 := hJo
  obtain ⟨ho0, ho16, hO⟩ := hJo2
  have hO1 := hO j
  refine mm_iload_n (mm_dc od_X0_whoSits_0 2 rfl) rfl ?_
  refine mm_aload_n (mm_dc od_X0_whoSits_0 3 rfl) rfl ?_
  refine mm_getI (ci := 0) (k := 0) (mm_dc od_X0_whoSits_0 4 rfl) rfl in_X0 (by decide) wd_1_34 rfl rfl ?_
  refine mm_icmp_ge 33 (mm_dc od_X0_whoSits_0 5 rfl) (by omega) (by first | assumption | omega | exact hr _ _ rfl) (by first | assumption | omega | exact hr _ _ rfl) (fun c1 => ?_) (fun c1 => ?_)
  · refine mm_iconst (mm_dc od_X0_whoSits_0 20 rfl) ?_
    refine mm_iret (mm_dc od_X0_whoSits_0 21 rfl) rfl ?_
    exact k _ (Or.inl ⟨rfl, fun i hi => hj i (by omega)⟩)
  · refine mm_aload_n (mm_dc od_X0_whoSits_0 6 rfl) rfl ?_
    refine mm_getR (ci := 0) (k := 4) (mm_dc od_X0_whoSits_0 7 rfl) rfl in_X0 (by decide) wd_1_43 rfl rfl ?_
    refine mm_iload_n (mm_dc od_X0_whoSits_0 8 rfl) rfl ?_
    refine mm_iald (mm_dc od_X0_whoSits_0 9 rfl) rfl (by first | assumption | omega | exact hr _ _ rfl) (by first | assumption | omega | exact hr _ _ rfl) (by decide) ?_
    refine mm_cst (st' := [v_i (M 5 j)]) rfl ?_
    refine mm_bipush (mm_dc od_X0_whoSits_0 10 rfl) (by decide) ?_
    refine mm_iload_n (mm_dc od_X0_whoSits_0 11 rfl) rfl ?_
    refine mm_imul (mm_dc od_X0_whoSits_0 12 rfl) ?_
    refine mm_iload_n (mm_dc od_X0_whoSits_0 13 rfl) rfl ?_
    refine mm_iadd (mm_dc od_X0_whoSits_0 14 rfl) ?_
    refine mm_icmp_ne 27 (mm_dc od_X0_whoSits_0 15 rfl) (by omega) (by first | assumption | omega | exact hr _ _ rfl) (by first | assumption | omega | exact hr _ _ rfl) (fun c2 => ?_) (fun c2 => ?_)
    · refine mm_iinc (L' := [(0, v_r 1), (1, v_i b), (2, v_i s), (3, v_i ((j : Int) + 1))]) (mm_dc od_X0_whoSits_0 18 rfl) rfl (by decide) rfl ?_
      refine mm_goto 2 (mm_dc od_X0_whoSits_0 19 rfl) (by omega) ?_
      exact L_whoSits b s hb1 hs1 hJo hr k (j + 1) (lt_s (p := fun i => M 5 i ≠ 10 * b + s) hj (by assumption)) (by omega)
    · refine mm_iload_n (mm_dc od_X0_whoSits_0 16 rfl) rfl ?_
      refine mm_iret (mm_dc od_X0_whoSits_0 17 rfl) rfl ?_
      exact k _ (Or.inr ⟨by omega, by omega, by assumption, fun i hi => hj i (by omega)⟩)
termination_by (M 1 0).toNat - j
decreasing_by all_goals (first | omega | (simp_wf; omega))
theorem c_X0_whoSits {X : Nat × (Nat → Int)} {d : Nat} {Po : mm_Po} {M : mm_M} (b : Int) (s : Int) (hb1 : 0 ≤ b ∧ b < 8) (hs1 : 0 ≤ s ∧ s < 10) (hJo : JO M) (hr : R32 M) (k : ∀ r : Int, ((r = -1 ∧ ∀ i : Nat, (i : Int) < M 1 0 → M 5 i ≠ 10 * b + s) ∨ (0 ≤ r ∧ r < M 1 0 ∧ M 5 r.toNat = 10 * b + s ∧ ∀ i : Nat, (i : Int) < r → M 5 i ≠ 10 * b + s)) → Po (some (v_i r)) Lam M) : mm_E X d 0 0 mi_X0_whoSits [v_r 1, v_i b, v_i s] Po Lam M := by
  show mm_G X d 0 0 mi_X0_whoSits Po 0 [(0, v_r 1), (1, v_i b), (2, v_i s)] [] Lam M 0 0
  refine mm_iconst (mm_dc od_X0_whoSits_0 0 rfl) ?_
  refine mm_istore_n (L' := [(0, v_r 1), (1, v_i b), (2, v_i s), (3, v_i 0)]) (mm_dc od_X0_whoSits_0 1 rfl) (by decide) rfl ?_
  exact L_whoSits b s hb1 hs1 hJo hr k 0 (fun i hi => by omega) (by have := hJo.1; omega)
end
section
theorem i_vc : Claimed_1_1 ∧ Claimed_1_2 := sorry
end
