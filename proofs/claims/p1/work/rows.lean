section
-- ===== PART A: goes FIRST, ahead of the names: the tables' words, and 'selects' of the private methods out of them =====
/-- a private method of a class that the tables say can be made, by its rows of tables_1 -/
def lw_okq (q : MethodName × Nat) : Prop := (q.1.cls ≠ "java/lang/invoke/MethodHandle" ∧ q.1.cls ≠ "java/lang/invoke/VarHandle") ∧ Cond.instantiable q.1.cls q.2 ∈ tables_1 ∧ Cond.privateMethod q.1 ∈ tables_1 ∧ Cond.instanceMethod q.1 ∈ tables_1
theorem lw_p0 : lw_okq (⟨"GroundProver", "tidy", "()V"⟩, 11) := ⟨⟨by decide +kernel, by decide +kernel⟩, List.mem_of_getElem? (i := 27) (by decide +kernel), List.mem_of_getElem? (i := 602) (by decide +kernel), List.mem_of_getElem? (i := 603) (by decide +kernel)⟩
theorem lw_p1 : lw_okq (⟨"GroundProver$TermStore", "markOne", "(I)V"⟩, 13) := ⟨⟨by decide +kernel, by decide +kernel⟩, List.mem_of_getElem? (i := 78) (by decide +kernel), List.mem_of_getElem? (i := 618) (by decide +kernel), List.mem_of_getElem? (i := 619) (by decide +kernel)⟩
theorem lw_p2 : lw_okq (⟨"GroundProver$TermStore", "relink", "(I)V"⟩, 13) := ⟨⟨by decide +kernel, by decide +kernel⟩, List.mem_of_getElem? (i := 78) (by decide +kernel), List.mem_of_getElem? (i := 654) (by decide +kernel), List.mem_of_getElem? (i := 655) (by decide +kernel)⟩
theorem lw_p3 : lw_okq (⟨"GroundProver$TermStore", "bucketOf", "(IIII)I"⟩, 13) := ⟨⟨by decide +kernel, by decide +kernel⟩, List.mem_of_getElem? (i := 78) (by decide +kernel), List.mem_of_getElem? (i := 658) (by decide +kernel), List.mem_of_getElem? (i := 659) (by decide +kernel)⟩
theorem lw_p4 : lw_okq (⟨"GroundProver$Walk", "firstUnlisted", "(I)I"⟩, 7) := ⟨⟨by decide +kernel, by decide +kernel⟩, List.mem_of_getElem? (i := 142) (by decide +kernel), List.mem_of_getElem? (i := 686) (by decide +kernel), List.mem_of_getElem? (i := 687) (by decide +kernel)⟩
theorem lw_p5 : lw_okq (⟨"GroundProver$TermStore", "keep", "(IIIII)I"⟩, 13) := ⟨⟨by decide +kernel, by decide +kernel⟩, List.mem_of_getElem? (i := 78) (by decide +kernel), List.mem_of_getElem? (i := 720) (by decide +kernel), List.mem_of_getElem? (i := 721) (by decide +kernel)⟩
theorem lw_p6 : lw_okq (⟨"GroundProver$TermStore", "extentOver", "(IIII)I"⟩, 13) := ⟨⟨by decide +kernel, by decide +kernel⟩, List.mem_of_getElem? (i := 78) (by decide +kernel), List.mem_of_getElem? (i := 728) (by decide +kernel), List.mem_of_getElem? (i := 729) (by decide +kernel)⟩
theorem lw_p7 : lw_okq (⟨"GroundProver$Theory", "ruleFor", "(I)I"⟩, 18) := ⟨⟨by decide +kernel, by decide +kernel⟩, List.mem_of_getElem? (i := 245) (by decide +kernel), List.mem_of_getElem? (i := 737) (by decide +kernel), List.mem_of_getElem? (i := 738) (by decide +kernel)⟩
theorem lw_p8 : lw_okq (⟨"java/lang/Throwable", "fillInStackTrace", "(I)Ljava/lang/Throwable;"⟩, 6) := ⟨⟨by decide +kernel, by decide +kernel⟩, List.mem_of_getElem? (i := 838) (by decide +kernel), List.mem_of_getElem? (i := 836) (by decide +kernel), List.mem_of_getElem? (i := 837) (by decide +kernel)⟩
theorem lw_p9 : lw_okq (⟨"GroundProver$Reader", "isLetter", "(I)Z"⟩, 19) := ⟨⟨by decide +kernel, by decide +kernel⟩, List.mem_of_getElem? (i := 361) (by decide +kernel), List.mem_of_getElem? (i := 910) (by decide +kernel), List.mem_of_getElem? (i := 911) (by decide +kernel)⟩
theorem lw_p10 : lw_okq (⟨"GroundProver$Reader", "isNamePart", "(I)Z"⟩, 19) := ⟨⟨by decide +kernel, by decide +kernel⟩, List.mem_of_getElem? (i := 361) (by decide +kernel), List.mem_of_getElem? (i := 914) (by decide +kernel), List.mem_of_getElem? (i := 915) (by decide +kernel)⟩
theorem lw_p11 : lw_okq (⟨"GroundProver$Symbols", "isNameAt", "(I[BI)Z"⟩, 11) := ⟨⟨by decide +kernel, by decide +kernel⟩, List.mem_of_getElem? (i := 35) (by decide +kernel), List.mem_of_getElem? (i := 926) (by decide +kernel), List.mem_of_getElem? (i := 927) (by decide +kernel)⟩
theorem lw_p12 : lw_okq (⟨"GroundProver", "isTerm", "(I)Z"⟩, 11) := ⟨⟨by decide +kernel, by decide +kernel⟩, List.mem_of_getElem? (i := 27) (by decide +kernel), List.mem_of_getElem? (i := 1090) (by decide +kernel), List.mem_of_getElem? (i := 1091) (by decide +kernel)⟩
theorem lw_p13 : lw_okq (⟨"GroundProver", "giveNumber", "(I)I"⟩, 11) := ⟨⟨by decide +kernel, by decide +kernel⟩, List.mem_of_getElem? (i := 27) (by decide +kernel), List.mem_of_getElem? (i := 1108) (by decide +kernel), List.mem_of_getElem? (i := 1109) (by decide +kernel)⟩
theorem lw_p14 : lw_okq (⟨"GroundProver$Reader", "start", "(Z)V"⟩, 19) := ⟨⟨by decide +kernel, by decide +kernel⟩, List.mem_of_getElem? (i := 361) (by decide +kernel), List.mem_of_getElem? (i := 1136) (by decide +kernel), List.mem_of_getElem? (i := 1137) (by decide +kernel)⟩
theorem lw_p15 : lw_okq (⟨"GroundProver$Reader", "readOne", "()I"⟩, 19) := ⟨⟨by decide +kernel, by decide +kernel⟩, List.mem_of_getElem? (i := 361) (by decide +kernel), List.mem_of_getElem? (i := 1141) (by decide +kernel), List.mem_of_getElem? (i := 1142) (by decide +kernel)⟩
def lw_privs_1 : List (MethodName × Nat) := [(⟨"GroundProver", "tidy", "()V"⟩, 11), (⟨"GroundProver$TermStore", "markOne", "(I)V"⟩, 13), (⟨"GroundProver$TermStore", "relink", "(I)V"⟩, 13), (⟨"GroundProver$TermStore", "bucketOf", "(IIII)I"⟩, 13), (⟨"GroundProver$Walk", "firstUnlisted", "(I)I"⟩, 7), (⟨"GroundProver$TermStore", "keep", "(IIIII)I"⟩, 13), (⟨"GroundProver$TermStore", "extentOver", "(IIII)I"⟩, 13), (⟨"GroundProver$Theory", "ruleFor", "(I)I"⟩, 18), (⟨"java/lang/Throwable", "fillInStackTrace", "(I)Ljava/lang/Throwable;"⟩, 6), (⟨"GroundProver$Reader", "isLetter", "(I)Z"⟩, 19), (⟨"GroundProver$Reader", "isNamePart", "(I)Z"⟩, 19), (⟨"GroundProver$Symbols", "isNameAt", "(I[BI)Z"⟩, 11), (⟨"GroundProver", "isTerm", "(I)Z"⟩, 11), (⟨"GroundProver", "giveNumber", "(I)I"⟩, 11), (⟨"GroundProver$Reader", "start", "(Z)V"⟩, 19), (⟨"GroundProver$Reader", "readOne", "()I"⟩, 19)]
theorem lw_r1 : ∀ q ∈ lw_privs_1, lw_okq q := List.forall_mem_cons.mpr ⟨lw_p0, List.forall_mem_cons.mpr ⟨lw_p1, List.forall_mem_cons.mpr ⟨lw_p2, List.forall_mem_cons.mpr ⟨lw_p3, List.forall_mem_cons.mpr ⟨lw_p4, List.forall_mem_cons.mpr ⟨lw_p5, List.forall_mem_cons.mpr ⟨lw_p6, List.forall_mem_cons.mpr ⟨lw_p7, List.forall_mem_cons.mpr ⟨lw_p8, List.forall_mem_cons.mpr ⟨lw_p9, List.forall_mem_cons.mpr ⟨lw_p10, List.forall_mem_cons.mpr ⟨lw_p11, List.forall_mem_cons.mpr ⟨lw_p12, List.forall_mem_cons.mpr ⟨lw_p13, List.forall_mem_cons.mpr ⟨lw_p14, List.forall_mem_cons.mpr ⟨lw_p15, fun _ h => absurd h List.not_mem_nil⟩⟩⟩⟩⟩⟩⟩⟩⟩⟩⟩⟩⟩⟩⟩⟩
theorem lw_p16 : lw_okq (⟨"GroundProver$Reader", "readName", "()I"⟩, 19) := ⟨⟨by decide +kernel, by decide +kernel⟩, List.mem_of_getElem? (i := 361) (by decide +kernel), List.mem_of_getElem? (i := 1145) (by decide +kernel), List.mem_of_getElem? (i := 1146) (by decide +kernel)⟩
theorem lw_p17 : lw_okq (⟨"GroundProver$Reader", "skipBlanks", "()V"⟩, 19) := ⟨⟨by decide +kernel, by decide +kernel⟩, List.mem_of_getElem? (i := 361) (by decide +kernel), List.mem_of_getElem? (i := 1149) (by decide +kernel), List.mem_of_getElem? (i := 1150) (by decide +kernel)⟩
theorem lw_p18 : lw_okq (⟨"GroundProver$Reader", "peek", "()I"⟩, 19) := ⟨⟨by decide +kernel, by decide +kernel⟩, List.mem_of_getElem? (i := 361) (by decide +kernel), List.mem_of_getElem? (i := 1153) (by decide +kernel), List.mem_of_getElem? (i := 1154) (by decide +kernel)⟩
theorem lw_p19 : lw_okq (⟨"GroundProver$Reader", "fail", "(II)I"⟩, 19) := ⟨⟨by decide +kernel, by decide +kernel⟩, List.mem_of_getElem? (i := 361) (by decide +kernel), List.mem_of_getElem? (i := 1157) (by decide +kernel), List.mem_of_getElem? (i := 1158) (by decide +kernel)⟩
theorem lw_p20 : lw_okq (⟨"GroundProver$Reader", "open", "(I)V"⟩, 19) := ⟨⟨by decide +kernel, by decide +kernel⟩, List.mem_of_getElem? (i := 361) (by decide +kernel), List.mem_of_getElem? (i := 1163) (by decide +kernel), List.mem_of_getElem? (i := 1164) (by decide +kernel)⟩
theorem lw_p21 : lw_okq (⟨"GroundProver$Reader", "closeBehind", "(I)I"⟩, 19) := ⟨⟨by decide +kernel, by decide +kernel⟩, List.mem_of_getElem? (i := 361) (by decide +kernel), List.mem_of_getElem? (i := 1168) (by decide +kernel), List.mem_of_getElem? (i := 1169) (by decide +kernel)⟩
theorem lw_p22 : lw_okq (⟨"GroundProver$Reader", "addOpenPart", "(II)V"⟩, 19) := ⟨⟨by decide +kernel, by decide +kernel⟩, List.mem_of_getElem? (i := 361) (by decide +kernel), List.mem_of_getElem? (i := 1172) (by decide +kernel), List.mem_of_getElem? (i := 1173) (by decide +kernel)⟩
theorem lw_p23 : lw_okq (⟨"GroundProver$Grammar", "linkUsers", "()V"⟩, 20) := ⟨⟨by decide +kernel, by decide +kernel⟩, List.mem_of_getElem? (i := 174) (by decide +kernel), List.mem_of_getElem? (i := 1258) (by decide +kernel), List.mem_of_getElem? (i := 1259) (by decide +kernel)⟩
theorem lw_p24 : lw_okq (⟨"GroundProver$Grammar", "enter", "(I)V"⟩, 20) := ⟨⟨by decide +kernel, by decide +kernel⟩, List.mem_of_getElem? (i := 174) (by decide +kernel), List.mem_of_getElem? (i := 1262) (by decide +kernel), List.mem_of_getElem? (i := 1263) (by decide +kernel)⟩
theorem lw_p25 : lw_okq (⟨"GroundProver$Grammar", "isBefore", "(II)Z"⟩, 20) := ⟨⟨by decide +kernel, by decide +kernel⟩, List.mem_of_getElem? (i := 174) (by decide +kernel), List.mem_of_getElem? (i := 1273) (by decide +kernel), List.mem_of_getElem? (i := 1274) (by decide +kernel)⟩
theorem lw_p26 : lw_okq (⟨"GroundProver$Grammar", "takeLeast", "()I"⟩, 20) := ⟨⟨by decide +kernel, by decide +kernel⟩, List.mem_of_getElem? (i := 174) (by decide +kernel), List.mem_of_getElem? (i := 1279) (by decide +kernel), List.mem_of_getElem? (i := 1280) (by decide +kernel)⟩
theorem lw_p27 : lw_okq (⟨"GroundProver$Grammar", "isReadyAfter", "(I)Z"⟩, 20) := ⟨⟨by decide +kernel, by decide +kernel⟩, List.mem_of_getElem? (i := 174) (by decide +kernel), List.mem_of_getElem? (i := 1283) (by decide +kernel), List.mem_of_getElem? (i := 1284) (by decide +kernel)⟩
theorem lw_p28 : lw_okq (⟨"GroundProver$Printer", "printFrom", "(II)V"⟩, 5) := ⟨⟨by decide +kernel, by decide +kernel⟩, List.mem_of_getElem? (i := 425) (by decide +kernel), List.mem_of_getElem? (i := 1347) (by decide +kernel), List.mem_of_getElem? (i := 1348) (by decide +kernel)⟩
theorem lw_p29 : lw_okq (⟨"GroundProver$Printer", "put", "(B)V"⟩, 5) := ⟨⟨by decide +kernel, by decide +kernel⟩, List.mem_of_getElem? (i := 425) (by decide +kernel), List.mem_of_getElem? (i := 1352) (by decide +kernel), List.mem_of_getElem? (i := 1353) (by decide +kernel)⟩
theorem lw_p30 : lw_okq (⟨"GroundProver$Theory", "gather", "(III)V"⟩, 18) := ⟨⟨by decide +kernel, by decide +kernel⟩, List.mem_of_getElem? (i := 245) (by decide +kernel), List.mem_of_getElem? (i := 1394) (by decide +kernel), List.mem_of_getElem? (i := 1395) (by decide +kernel)⟩
theorem lw_p31 : lw_okq (⟨"GroundProver$Closure", "joinTwins", "()Z"⟩, 11) := ⟨⟨by decide +kernel, by decide +kernel⟩, List.mem_of_getElem? (i := 254) (by decide +kernel), List.mem_of_getElem? (i := 1417) (by decide +kernel), List.mem_of_getElem? (i := 1418) (by decide +kernel)⟩
def lw_privs_2 : List (MethodName × Nat) := [(⟨"GroundProver$Reader", "readName", "()I"⟩, 19), (⟨"GroundProver$Reader", "skipBlanks", "()V"⟩, 19), (⟨"GroundProver$Reader", "peek", "()I"⟩, 19), (⟨"GroundProver$Reader", "fail", "(II)I"⟩, 19), (⟨"GroundProver$Reader", "open", "(I)V"⟩, 19), (⟨"GroundProver$Reader", "closeBehind", "(I)I"⟩, 19), (⟨"GroundProver$Reader", "addOpenPart", "(II)V"⟩, 19), (⟨"GroundProver$Grammar", "linkUsers", "()V"⟩, 20), (⟨"GroundProver$Grammar", "enter", "(I)V"⟩, 20), (⟨"GroundProver$Grammar", "isBefore", "(II)Z"⟩, 20), (⟨"GroundProver$Grammar", "takeLeast", "()I"⟩, 20), (⟨"GroundProver$Grammar", "isReadyAfter", "(I)Z"⟩, 20), (⟨"GroundProver$Printer", "printFrom", "(II)V"⟩, 5), (⟨"GroundProver$Printer", "put", "(B)V"⟩, 5), (⟨"GroundProver$Theory", "gather", "(III)V"⟩, 18), (⟨"GroundProver$Closure", "joinTwins", "()Z"⟩, 11)]
theorem lw_r2 : ∀ q ∈ lw_privs_2, lw_okq q := List.forall_mem_cons.mpr ⟨lw_p16, List.forall_mem_cons.mpr ⟨lw_p17, List.forall_mem_cons.mpr ⟨lw_p18, List.forall_mem_cons.mpr ⟨lw_p19, List.forall_mem_cons.mpr ⟨lw_p20, List.forall_mem_cons.mpr ⟨lw_p21, List.forall_mem_cons.mpr ⟨lw_p22, List.forall_mem_cons.mpr ⟨lw_p23, List.forall_mem_cons.mpr ⟨lw_p24, List.forall_mem_cons.mpr ⟨lw_p25, List.forall_mem_cons.mpr ⟨lw_p26, List.forall_mem_cons.mpr ⟨lw_p27, List.forall_mem_cons.mpr ⟨lw_p28, List.forall_mem_cons.mpr ⟨lw_p29, List.forall_mem_cons.mpr ⟨lw_p30, List.forall_mem_cons.mpr ⟨lw_p31, fun _ h => absurd h List.not_mem_nil⟩⟩⟩⟩⟩⟩⟩⟩⟩⟩⟩⟩⟩⟩⟩⟩
theorem lw_p32 : lw_okq (⟨"GroundProver$Closure", "bucketOf", "(I)I"⟩, 11) := ⟨⟨by decide +kernel, by decide +kernel⟩, List.mem_of_getElem? (i := 254) (by decide +kernel), List.mem_of_getElem? (i := 1421) (by decide +kernel), List.mem_of_getElem? (i := 1422) (by decide +kernel)⟩
theorem lw_p33 : lw_okq (⟨"GroundProver$Closure", "areTwins", "(II)Z"⟩, 11) := ⟨⟨by decide +kernel, by decide +kernel⟩, List.mem_of_getElem? (i := 254) (by decide +kernel), List.mem_of_getElem? (i := 1426) (by decide +kernel), List.mem_of_getElem? (i := 1427) (by decide +kernel)⟩
theorem lw_p34 : lw_okq (⟨"GroundProver$Theory", "isTooLargeSide", "(I)Z"⟩, 18) := ⟨⟨by decide +kernel, by decide +kernel⟩, List.mem_of_getElem? (i := 245) (by decide +kernel), List.mem_of_getElem? (i := 1457) (by decide +kernel), List.mem_of_getElem? (i := 1458) (by decide +kernel)⟩
theorem lw_p35 : lw_okq (⟨"GroundProver$Theory", "takeRules", "()V"⟩, 18) := ⟨⟨by decide +kernel, by decide +kernel⟩, List.mem_of_getElem? (i := 245) (by decide +kernel), List.mem_of_getElem? (i := 1469) (by decide +kernel), List.mem_of_getElem? (i := 1470) (by decide +kernel)⟩
theorem lw_p36 : lw_okq (⟨"GroundProver$Theory", "addRule", "(II)V"⟩, 18) := ⟨⟨by decide +kernel, by decide +kernel⟩, List.mem_of_getElem? (i := 245) (by decide +kernel), List.mem_of_getElem? (i := 1508) (by decide +kernel), List.mem_of_getElem? (i := 1509) (by decide +kernel)⟩
theorem lw_p37 : lw_okq (⟨"GroundProver$Reader", "readSign", "()I"⟩, 19) := ⟨⟨by decide +kernel, by decide +kernel⟩, List.mem_of_getElem? (i := 361) (by decide +kernel), List.mem_of_getElem? (i := 1541) (by decide +kernel), List.mem_of_getElem? (i := 1542) (by decide +kernel)⟩
theorem lw_p38 : lw_okq (⟨"GroundProver$Reader", "readSemicolon", "()Z"⟩, 19) := ⟨⟨by decide +kernel, by decide +kernel⟩, List.mem_of_getElem? (i := 361) (by decide +kernel), List.mem_of_getElem? (i := 1545) (by decide +kernel), List.mem_of_getElem? (i := 1546) (by decide +kernel)⟩
theorem lw_p39 : lw_okq (⟨"GroundProver$Reader", "keepStatement", "(IZI)V"⟩, 19) := ⟨⟨by decide +kernel, by decide +kernel⟩, List.mem_of_getElem? (i := 361) (by decide +kernel), List.mem_of_getElem? (i := 1549) (by decide +kernel), List.mem_of_getElem? (i := 1550) (by decide +kernel)⟩
theorem lw_p40 : lw_okq (⟨"GroundProver$Theory", "stepFrom", "(III)I"⟩, 18) := ⟨⟨by decide +kernel, by decide +kernel⟩, List.mem_of_getElem? (i := 245) (by decide +kernel), List.mem_of_getElem? (i := 1700) (by decide +kernel), List.mem_of_getElem? (i := 1701) (by decide +kernel)⟩
theorem lw_p41 : lw_okq (⟨"GroundProver$ClassSearch", "gather", "(I)V"⟩, 5) := ⟨⟨by decide +kernel, by decide +kernel⟩, List.mem_of_getElem? (i := 447) (by decide +kernel), List.mem_of_getElem? (i := 1722) (by decide +kernel), List.mem_of_getElem? (i := 1723) (by decide +kernel)⟩
theorem lw_p42 : lw_okq (⟨"GroundProver$ClassSearch", "appendParts", "(I)V"⟩, 5) := ⟨⟨by decide +kernel, by decide +kernel⟩, List.mem_of_getElem? (i := 447) (by decide +kernel), List.mem_of_getElem? (i := 1731) (by decide +kernel), List.mem_of_getElem? (i := 1732) (by decide +kernel)⟩
theorem lw_p43 : lw_okq (⟨"GroundProver$ClassSearch", "addProduction", "(II)V"⟩, 5) := ⟨⟨by decide +kernel, by decide +kernel⟩, List.mem_of_getElem? (i := 447) (by decide +kernel), List.mem_of_getElem? (i := 1740) (by decide +kernel), List.mem_of_getElem? (i := 1741) (by decide +kernel)⟩
theorem lw_p44 : lw_okq (⟨"GroundProver$ClassSearch", "cellOf", "(II)I"⟩, 5) := ⟨⟨by decide +kernel, by decide +kernel⟩, List.mem_of_getElem? (i := 447) (by decide +kernel), List.mem_of_getElem? (i := 1754) (by decide +kernel), List.mem_of_getElem? (i := 1755) (by decide +kernel)⟩
theorem lw_p45 : lw_okq (⟨"GroundProver$ClassSearch", "countMade", "(II)J"⟩, 5) := ⟨⟨by decide +kernel, by decide +kernel⟩, List.mem_of_getElem? (i := 447) (by decide +kernel), List.mem_of_getElem? (i := 1758) (by decide +kernel), List.mem_of_getElem? (i := 1759) (by decide +kernel)⟩
theorem lw_p46 : lw_okq (⟨"GroundProver$ClassSearch", "countPairs", "(III)J"⟩, 5) := ⟨⟨by decide +kernel, by decide +kernel⟩, List.mem_of_getElem? (i := 447) (by decide +kernel), List.mem_of_getElem? (i := 1767) (by decide +kernel), List.mem_of_getElem? (i := 1768) (by decide +kernel)⟩
theorem lw_p47 : lw_okq (⟨"GroundProver$Grammar", "endIfReady", "(I)V"⟩, 20) := ⟨⟨by decide +kernel, by decide +kernel⟩, List.mem_of_getElem? (i := 174) (by decide +kernel), List.mem_of_getElem? (i := 1786) (by decide +kernel), List.mem_of_getElem? (i := 1787) (by decide +kernel)⟩
def lw_privs_3 : List (MethodName × Nat) := [(⟨"GroundProver$Closure", "bucketOf", "(I)I"⟩, 11), (⟨"GroundProver$Closure", "areTwins", "(II)Z"⟩, 11), (⟨"GroundProver$Theory", "isTooLargeSide", "(I)Z"⟩, 18), (⟨"GroundProver$Theory", "takeRules", "()V"⟩, 18), (⟨"GroundProver$Theory", "addRule", "(II)V"⟩, 18), (⟨"GroundProver$Reader", "readSign", "()I"⟩, 19), (⟨"GroundProver$Reader", "readSemicolon", "()Z"⟩, 19), (⟨"GroundProver$Reader", "keepStatement", "(IZI)V"⟩, 19), (⟨"GroundProver$Theory", "stepFrom", "(III)I"⟩, 18), (⟨"GroundProver$ClassSearch", "gather", "(I)V"⟩, 5), (⟨"GroundProver$ClassSearch", "appendParts", "(I)V"⟩, 5), (⟨"GroundProver$ClassSearch", "addProduction", "(II)V"⟩, 5), (⟨"GroundProver$ClassSearch", "cellOf", "(II)I"⟩, 5), (⟨"GroundProver$ClassSearch", "countMade", "(II)J"⟩, 5), (⟨"GroundProver$ClassSearch", "countPairs", "(III)J"⟩, 5), (⟨"GroundProver$Grammar", "endIfReady", "(I)V"⟩, 20)]
theorem lw_r3 : ∀ q ∈ lw_privs_3, lw_okq q := List.forall_mem_cons.mpr ⟨lw_p32, List.forall_mem_cons.mpr ⟨lw_p33, List.forall_mem_cons.mpr ⟨lw_p34, List.forall_mem_cons.mpr ⟨lw_p35, List.forall_mem_cons.mpr ⟨lw_p36, List.forall_mem_cons.mpr ⟨lw_p37, List.forall_mem_cons.mpr ⟨lw_p38, List.forall_mem_cons.mpr ⟨lw_p39, List.forall_mem_cons.mpr ⟨lw_p40, List.forall_mem_cons.mpr ⟨lw_p41, List.forall_mem_cons.mpr ⟨lw_p42, List.forall_mem_cons.mpr ⟨lw_p43, List.forall_mem_cons.mpr ⟨lw_p44, List.forall_mem_cons.mpr ⟨lw_p45, List.forall_mem_cons.mpr ⟨lw_p46, List.forall_mem_cons.mpr ⟨lw_p47, fun _ h => absurd h List.not_mem_nil⟩⟩⟩⟩⟩⟩⟩⟩⟩⟩⟩⟩⟩⟩⟩⟩
theorem lw_p48 : lw_okq (⟨"GroundProver$Grammar", "releaseUsers", "(I)V"⟩, 20) := ⟨⟨by decide +kernel, by decide +kernel⟩, List.mem_of_getElem? (i := 174) (by decide +kernel), List.mem_of_getElem? (i := 1790) (by decide +kernel), List.mem_of_getElem? (i := 1791) (by decide +kernel)⟩
theorem lw_p49 : lw_okq (⟨"GroundProver$Matcher", "agrees", "(II)Z"⟩, 15) := ⟨⟨by decide +kernel, by decide +kernel⟩, List.mem_of_getElem? (i := 470) (by decide +kernel), List.mem_of_getElem? (i := 1843) (by decide +kernel), List.mem_of_getElem? (i := 1844) (by decide +kernel)⟩
theorem lw_p50 : lw_okq (⟨"GroundProver$Matcher", "solveFrom", "(I)V"⟩, 15) := ⟨⟨by decide +kernel, by decide +kernel⟩, List.mem_of_getElem? (i := 470) (by decide +kernel), List.mem_of_getElem? (i := 1848) (by decide +kernel), List.mem_of_getElem? (i := 1849) (by decide +kernel)⟩
theorem lw_p51 : lw_okq (⟨"GroundProver$Matcher", "solveWith", "(II)V"⟩, 15) := ⟨⟨by decide +kernel, by decide +kernel⟩, List.mem_of_getElem? (i := 470) (by decide +kernel), List.mem_of_getElem? (i := 1853) (by decide +kernel), List.mem_of_getElem? (i := 1854) (by decide +kernel)⟩
theorem lw_p52 : lw_okq (⟨"GroundProver$Matcher", "keyOf", "(I)J"⟩, 15) := ⟨⟨by decide +kernel, by decide +kernel⟩, List.mem_of_getElem? (i := 470) (by decide +kernel), List.mem_of_getElem? (i := 1872) (by decide +kernel), List.mem_of_getElem? (i := 1873) (by decide +kernel)⟩
theorem lw_p53 : lw_okq (⟨"GroundProver$Matcher", "shiftOf", "(I)I"⟩, 15) := ⟨⟨by decide +kernel, by decide +kernel⟩, List.mem_of_getElem? (i := 470) (by decide +kernel), List.mem_of_getElem? (i := 1878) (by decide +kernel), List.mem_of_getElem? (i := 1879) (by decide +kernel)⟩
theorem lw_p54 : lw_okq (⟨"GroundProver$Matcher", "insertKey", "(IJ)V"⟩, 15) := ⟨⟨by decide +kernel, by decide +kernel⟩, List.mem_of_getElem? (i := 470) (by decide +kernel), List.mem_of_getElem? (i := 1882) (by decide +kernel), List.mem_of_getElem? (i := 1883) (by decide +kernel)⟩
theorem lw_p55 : lw_okq (⟨"GroundProverModel", "fail", "(I)I"⟩, 92) := ⟨⟨by decide +kernel, by decide +kernel⟩, List.mem_of_getElem? (i := 1907) (by decide +kernel), List.mem_of_getElem? (i := 2198) (by decide +kernel), List.mem_of_getElem? (i := 2199) (by decide +kernel)⟩
theorem lw_p56 : lw_okq (⟨"GroundProverModel", "four", "(I)V"⟩, 92) := ⟨⟨by decide +kernel, by decide +kernel⟩, List.mem_of_getElem? (i := 1907) (by decide +kernel), List.mem_of_getElem? (i := 2202) (by decide +kernel), List.mem_of_getElem? (i := 2203) (by decide +kernel)⟩
theorem lw_p57 : lw_okq (⟨"GroundProverModel", "isName", "(I)Z"⟩, 92) := ⟨⟨by decide +kernel, by decide +kernel⟩, List.mem_of_getElem? (i := 1907) (by decide +kernel), List.mem_of_getElem? (i := 2214) (by decide +kernel), List.mem_of_getElem? (i := 2215) (by decide +kernel)⟩
theorem lw_p58 : lw_okq (⟨"GroundProverModel", "symbolNamed", "(II)I"⟩, 92) := ⟨⟨by decide +kernel, by decide +kernel⟩, List.mem_of_getElem? (i := 1907) (by decide +kernel), List.mem_of_getElem? (i := 2224) (by decide +kernel), List.mem_of_getElem? (i := 2225) (by decide +kernel)⟩
theorem lw_p59 : lw_okq (⟨"GroundProverModel", "declared", "(IIIZ)I"⟩, 92) := ⟨⟨by decide +kernel, by decide +kernel⟩, List.mem_of_getElem? (i := 1907) (by decide +kernel), List.mem_of_getElem? (i := 2228) (by decide +kernel), List.mem_of_getElem? (i := 2229) (by decide +kernel)⟩
theorem lw_p60 : lw_okq (⟨"GroundProverModel", "isSymbol", "(I)Z"⟩, 92) := ⟨⟨by decide +kernel, by decide +kernel⟩, List.mem_of_getElem? (i := 1907) (by decide +kernel), List.mem_of_getElem? (i := 2248) (by decide +kernel), List.mem_of_getElem? (i := 2249) (by decide +kernel)⟩
theorem lw_p61 : lw_okq (⟨"GroundProverModel", "isNumber", "(I)Z"⟩, 92) := ⟨⟨by decide +kernel, by decide +kernel⟩, List.mem_of_getElem? (i := 1907) (by decide +kernel), List.mem_of_getElem? (i := 2264) (by decide +kernel), List.mem_of_getElem? (i := 2265) (by decide +kernel)⟩
theorem lw_p62 : lw_okq (⟨"GroundProverModel", "made", "(IIII)I"⟩, 92) := ⟨⟨by decide +kernel, by decide +kernel⟩, List.mem_of_getElem? (i := 1907) (by decide +kernel), List.mem_of_getElem? (i := 2268) (by decide +kernel), List.mem_of_getElem? (i := 2269) (by decide +kernel)⟩
theorem lw_p63 : lw_okq (⟨"GroundProverModel", "known", "(IIII)I"⟩, 92) := ⟨⟨by decide +kernel, by decide +kernel⟩, List.mem_of_getElem? (i := 1907) (by decide +kernel), List.mem_of_getElem? (i := 2272) (by decide +kernel), List.mem_of_getElem? (i := 2273) (by decide +kernel)⟩
def lw_privs_4 : List (MethodName × Nat) := [(⟨"GroundProver$Grammar", "releaseUsers", "(I)V"⟩, 20), (⟨"GroundProver$Matcher", "agrees", "(II)Z"⟩, 15), (⟨"GroundProver$Matcher", "solveFrom", "(I)V"⟩, 15), (⟨"GroundProver$Matcher", "solveWith", "(II)V"⟩, 15), (⟨"GroundProver$Matcher", "keyOf", "(I)J"⟩, 15), (⟨"GroundProver$Matcher", "shiftOf", "(I)I"⟩, 15), (⟨"GroundProver$Matcher", "insertKey", "(IJ)V"⟩, 15), (⟨"GroundProverModel", "fail", "(I)I"⟩, 92), (⟨"GroundProverModel", "four", "(I)V"⟩, 92), (⟨"GroundProverModel", "isName", "(I)Z"⟩, 92), (⟨"GroundProverModel", "symbolNamed", "(II)I"⟩, 92), (⟨"GroundProverModel", "declared", "(IIIZ)I"⟩, 92), (⟨"GroundProverModel", "isSymbol", "(I)Z"⟩, 92), (⟨"GroundProverModel", "isNumber", "(I)Z"⟩, 92), (⟨"GroundProverModel", "made", "(IIII)I"⟩, 92), (⟨"GroundProverModel", "known", "(IIII)I"⟩, 92)]
theorem lw_r4 : ∀ q ∈ lw_privs_4, lw_okq q := List.forall_mem_cons.mpr ⟨lw_p48, List.forall_mem_cons.mpr ⟨lw_p49, List.forall_mem_cons.mpr ⟨lw_p50, List.forall_mem_cons.mpr ⟨lw_p51, List.forall_mem_cons.mpr ⟨lw_p52, List.forall_mem_cons.mpr ⟨lw_p53, List.forall_mem_cons.mpr ⟨lw_p54, List.forall_mem_cons.mpr ⟨lw_p55, List.forall_mem_cons.mpr ⟨lw_p56, List.forall_mem_cons.mpr ⟨lw_p57, List.forall_mem_cons.mpr ⟨lw_p58, List.forall_mem_cons.mpr ⟨lw_p59, List.forall_mem_cons.mpr ⟨lw_p60, List.forall_mem_cons.mpr ⟨lw_p61, List.forall_mem_cons.mpr ⟨lw_p62, List.forall_mem_cons.mpr ⟨lw_p63, fun _ h => absurd h List.not_mem_nil⟩⟩⟩⟩⟩⟩⟩⟩⟩⟩⟩⟩⟩⟩⟩⟩
theorem lw_p64 : lw_okq (⟨"GroundProverModel", "slotOf", "(IIII)I"⟩, 92) := ⟨⟨by decide +kernel, by decide +kernel⟩, List.mem_of_getElem? (i := 1907) (by decide +kernel), List.mem_of_getElem? (i := 2276) (by decide +kernel), List.mem_of_getElem? (i := 2277) (by decide +kernel)⟩
theorem lw_p65 : lw_okq (⟨"GroundProverModel", "isTerm", "(IIIII)Z"⟩, 92) := ⟨⟨by decide +kernel, by decide +kernel⟩, List.mem_of_getElem? (i := 1907) (by decide +kernel), List.mem_of_getElem? (i := 2280) (by decide +kernel), List.mem_of_getElem? (i := 2281) (by decide +kernel)⟩
theorem lw_p66 : lw_okq (⟨"GroundProverModel", "grow", "()V"⟩, 92) := ⟨⟨by decide +kernel, by decide +kernel⟩, List.mem_of_getElem? (i := 1907) (by decide +kernel), List.mem_of_getElem? (i := 2284) (by decide +kernel), List.mem_of_getElem? (i := 2285) (by decide +kernel)⟩
theorem lw_p67 : lw_okq (⟨"GroundProverModel", "given", "(II)I"⟩, 92) := ⟨⟨by decide +kernel, by decide +kernel⟩, List.mem_of_getElem? (i := 1907) (by decide +kernel), List.mem_of_getElem? (i := 2297) (by decide +kernel), List.mem_of_getElem? (i := 2298) (by decide +kernel)⟩
theorem lw_p68 : lw_okq (⟨"GroundProverModel", "isTooLarge", "(I)Z"⟩, 92) := ⟨⟨by decide +kernel, by decide +kernel⟩, List.mem_of_getElem? (i := 1907) (by decide +kernel), List.mem_of_getElem? (i := 2301) (by decide +kernel), List.mem_of_getElem? (i := 2302) (by decide +kernel)⟩
theorem lw_p69 : lw_okq (⟨"GroundProverModel", "beginText", "()V"⟩, 92) := ⟨⟨by decide +kernel, by decide +kernel⟩, List.mem_of_getElem? (i := 1907) (by decide +kernel), List.mem_of_getElem? (i := 2309) (by decide +kernel), List.mem_of_getElem? (i := 2310) (by decide +kernel)⟩
theorem lw_p70 : lw_okq (⟨"GroundProverModel", "readsTerm", "(Z)Z"⟩, 92) := ⟨⟨by decide +kernel, by decide +kernel⟩, List.mem_of_getElem? (i := 1907) (by decide +kernel), List.mem_of_getElem? (i := 2313) (by decide +kernel), List.mem_of_getElem? (i := 2314) (by decide +kernel)⟩
theorem lw_p71 : lw_okq (⟨"GroundProverModel", "look", "()I"⟩, 92) := ⟨⟨by decide +kernel, by decide +kernel⟩, List.mem_of_getElem? (i := 1907) (by decide +kernel), List.mem_of_getElem? (i := 2317) (by decide +kernel), List.mem_of_getElem? (i := 2318) (by decide +kernel)⟩
theorem lw_p72 : lw_okq (⟨"GroundProverModel", "error", "(II)Z"⟩, 92) := ⟨⟨by decide +kernel, by decide +kernel⟩, List.mem_of_getElem? (i := 1907) (by decide +kernel), List.mem_of_getElem? (i := 2321) (by decide +kernel), List.mem_of_getElem? (i := 2322) (by decide +kernel)⟩
theorem lw_p73 : lw_okq (⟨"GroundProverModel", "arityOf", "(I)I"⟩, 92) := ⟨⟨by decide +kernel, by decide +kernel⟩, List.mem_of_getElem? (i := 1907) (by decide +kernel), List.mem_of_getElem? (i := 2345) (by decide +kernel), List.mem_of_getElem? (i := 2346) (by decide +kernel)⟩
theorem lw_p74 : lw_okq (⟨"GroundProverModel", "argumentOf", "(II)I"⟩, 92) := ⟨⟨by decide +kernel, by decide +kernel⟩, List.mem_of_getElem? (i := 1907) (by decide +kernel), List.mem_of_getElem? (i := 2349) (by decide +kernel), List.mem_of_getElem? (i := 2350) (by decide +kernel)⟩
theorem lw_p75 : lw_okq (⟨"GroundProverModel", "order", "(II)I"⟩, 92) := ⟨⟨by decide +kernel, by decide +kernel⟩, List.mem_of_getElem? (i := 1907) (by decide +kernel), List.mem_of_getElem? (i := 2365) (by decide +kernel), List.mem_of_getElem? (i := 2366) (by decide +kernel)⟩
theorem lw_p76 : lw_okq (⟨"GroundProverModel", "orderByWeights", "(II)I"⟩, 92) := ⟨⟨by decide +kernel, by decide +kernel⟩, List.mem_of_getElem? (i := 1907) (by decide +kernel), List.mem_of_getElem? (i := 2369) (by decide +kernel), List.mem_of_getElem? (i := 2370) (by decide +kernel)⟩
theorem lw_p77 : lw_okq (⟨"GroundProverModel", "firstUnlike", "(II)I"⟩, 92) := ⟨⟨by decide +kernel, by decide +kernel⟩, List.mem_of_getElem? (i := 1907) (by decide +kernel), List.mem_of_getElem? (i := 2373) (by decide +kernel), List.mem_of_getElem? (i := 2374) (by decide +kernel)⟩
theorem lw_p78 : lw_okq (⟨"GroundProverModel", "isGreaterByPaths", "(II)Z"⟩, 92) := ⟨⟨by decide +kernel, by decide +kernel⟩, List.mem_of_getElem? (i := 1907) (by decide +kernel), List.mem_of_getElem? (i := 2377) (by decide +kernel), List.mem_of_getElem? (i := 2378) (by decide +kernel)⟩
theorem lw_p79 : lw_okq (⟨"GroundProverModel", "collect", "(I[II)I"⟩, 92) := ⟨⟨by decide +kernel, by decide +kernel⟩, List.mem_of_getElem? (i := 1907) (by decide +kernel), List.mem_of_getElem? (i := 2381) (by decide +kernel), List.mem_of_getElem? (i := 2382) (by decide +kernel)⟩
def lw_privs_5 : List (MethodName × Nat) := [(⟨"GroundProverModel", "slotOf", "(IIII)I"⟩, 92), (⟨"GroundProverModel", "isTerm", "(IIIII)Z"⟩, 92), (⟨"GroundProverModel", "grow", "()V"⟩, 92), (⟨"GroundProverModel", "given", "(II)I"⟩, 92), (⟨"GroundProverModel", "isTooLarge", "(I)Z"⟩, 92), (⟨"GroundProverModel", "beginText", "()V"⟩, 92), (⟨"GroundProverModel", "readsTerm", "(Z)Z"⟩, 92), (⟨"GroundProverModel", "look", "()I"⟩, 92), (⟨"GroundProverModel", "error", "(II)Z"⟩, 92), (⟨"GroundProverModel", "arityOf", "(I)I"⟩, 92), (⟨"GroundProverModel", "argumentOf", "(II)I"⟩, 92), (⟨"GroundProverModel", "order", "(II)I"⟩, 92), (⟨"GroundProverModel", "orderByWeights", "(II)I"⟩, 92), (⟨"GroundProverModel", "firstUnlike", "(II)I"⟩, 92), (⟨"GroundProverModel", "isGreaterByPaths", "(II)Z"⟩, 92), (⟨"GroundProverModel", "collect", "(I[II)I"⟩, 92)]
theorem lw_r5 : ∀ q ∈ lw_privs_5, lw_okq q := List.forall_mem_cons.mpr ⟨lw_p64, List.forall_mem_cons.mpr ⟨lw_p65, List.forall_mem_cons.mpr ⟨lw_p66, List.forall_mem_cons.mpr ⟨lw_p67, List.forall_mem_cons.mpr ⟨lw_p68, List.forall_mem_cons.mpr ⟨lw_p69, List.forall_mem_cons.mpr ⟨lw_p70, List.forall_mem_cons.mpr ⟨lw_p71, List.forall_mem_cons.mpr ⟨lw_p72, List.forall_mem_cons.mpr ⟨lw_p73, List.forall_mem_cons.mpr ⟨lw_p74, List.forall_mem_cons.mpr ⟨lw_p75, List.forall_mem_cons.mpr ⟨lw_p76, List.forall_mem_cons.mpr ⟨lw_p77, List.forall_mem_cons.mpr ⟨lw_p78, List.forall_mem_cons.mpr ⟨lw_p79, fun _ h => absurd h List.not_mem_nil⟩⟩⟩⟩⟩⟩⟩⟩⟩⟩⟩⟩⟩⟩⟩⟩
theorem lw_p80 : lw_okq (⟨"GroundProverModel", "isGreaterInTable", "(II)Z"⟩, 92) := ⟨⟨by decide +kernel, by decide +kernel⟩, List.mem_of_getElem? (i := 1907) (by decide +kernel), List.mem_of_getElem? (i := 2385) (by decide +kernel), List.mem_of_getElem? (i := 2386) (by decide +kernel)⟩
theorem lw_p81 : lw_okq (⟨"GroundProverModel", "told", "(II)Z"⟩, 92) := ⟨⟨by decide +kernel, by decide +kernel⟩, List.mem_of_getElem? (i := 1907) (by decide +kernel), List.mem_of_getElem? (i := 2389) (by decide +kernel), List.mem_of_getElem? (i := 2390) (by decide +kernel)⟩
theorem lw_p82 : lw_okq (⟨"GroundProverModel", "collected", "(I)I"⟩, 92) := ⟨⟨by decide +kernel, by decide +kernel⟩, List.mem_of_getElem? (i := 1907) (by decide +kernel), List.mem_of_getElem? (i := 2397) (by decide +kernel), List.mem_of_getElem? (i := 2398) (by decide +kernel)⟩
theorem lw_p83 : lw_okq (⟨"GroundProverModel", "areGround", "(II)Z"⟩, 92) := ⟨⟨by decide +kernel, by decide +kernel⟩, List.mem_of_getElem? (i := 1907) (by decide +kernel), List.mem_of_getElem? (i := 2417) (by decide +kernel), List.mem_of_getElem? (i := 2418) (by decide +kernel)⟩
theorem lw_p84 : lw_okq (⟨"GroundProverModel", "addEquation", "(II)I"⟩, 92) := ⟨⟨by decide +kernel, by decide +kernel⟩, List.mem_of_getElem? (i := 1907) (by decide +kernel), List.mem_of_getElem? (i := 2421) (by decide +kernel), List.mem_of_getElem? (i := 2422) (by decide +kernel)⟩
theorem lw_p85 : lw_okq (⟨"GroundProverModel", "build", "(I)Z"⟩, 92) := ⟨⟨by decide +kernel, by decide +kernel⟩, List.mem_of_getElem? (i := 1907) (by decide +kernel), List.mem_of_getElem? (i := 2425) (by decide +kernel), List.mem_of_getElem? (i := 2426) (by decide +kernel)⟩
theorem lw_p86 : lw_okq (⟨"GroundProverModel", "beginMembers", "()V"⟩, 92) := ⟨⟨by decide +kernel, by decide +kernel⟩, List.mem_of_getElem? (i := 1907) (by decide +kernel), List.mem_of_getElem? (i := 2429) (by decide +kernel), List.mem_of_getElem? (i := 2430) (by decide +kernel)⟩
theorem lw_p87 : lw_okq (⟨"GroundProverModel", "addMembers", "(I)V"⟩, 92) := ⟨⟨by decide +kernel, by decide +kernel⟩, List.mem_of_getElem? (i := 1907) (by decide +kernel), List.mem_of_getElem? (i := 2433) (by decide +kernel), List.mem_of_getElem? (i := 2434) (by decide +kernel)⟩
theorem lw_p88 : lw_okq (⟨"GroundProverModel", "close", "(II)V"⟩, 92) := ⟨⟨by decide +kernel, by decide +kernel⟩, List.mem_of_getElem? (i := 1907) (by decide +kernel), List.mem_of_getElem? (i := 2437) (by decide +kernel), List.mem_of_getElem? (i := 2438) (by decide +kernel)⟩
theorem lw_p89 : lw_okq (⟨"GroundProverModel", "classOf", "(I)I"⟩, 92) := ⟨⟨by decide +kernel, by decide +kernel⟩, List.mem_of_getElem? (i := 1907) (by decide +kernel), List.mem_of_getElem? (i := 2441) (by decide +kernel), List.mem_of_getElem? (i := 2442) (by decide +kernel)⟩
theorem lw_p90 : lw_okq (⟨"GroundProverModel", "unite", "(II)V"⟩, 92) := ⟨⟨by decide +kernel, by decide +kernel⟩, List.mem_of_getElem? (i := 1907) (by decide +kernel), List.mem_of_getElem? (i := 2445) (by decide +kernel), List.mem_of_getElem? (i := 2446) (by decide +kernel)⟩
theorem lw_p91 : lw_okq (⟨"GroundProverModel", "areCongruent", "(II)Z"⟩, 92) := ⟨⟨by decide +kernel, by decide +kernel⟩, List.mem_of_getElem? (i := 1907) (by decide +kernel), List.mem_of_getElem? (i := 2449) (by decide +kernel), List.mem_of_getElem? (i := 2450) (by decide +kernel)⟩
theorem lw_p92 : lw_okq (⟨"GroundProverModel", "findLeast", "()V"⟩, 92) := ⟨⟨by decide +kernel, by decide +kernel⟩, List.mem_of_getElem? (i := 1907) (by decide +kernel), List.mem_of_getElem? (i := 2453) (by decide +kernel), List.mem_of_getElem? (i := 2454) (by decide +kernel)⟩
theorem lw_p93 : lw_okq (⟨"GroundProverModel", "offer", "()V"⟩, 92) := ⟨⟨by decide +kernel, by decide +kernel⟩, List.mem_of_getElem? (i := 1907) (by decide +kernel), List.mem_of_getElem? (i := 2457) (by decide +kernel), List.mem_of_getElem? (i := 2458) (by decide +kernel)⟩
theorem lw_p94 : lw_okq (⟨"GroundProverModel", "candidate", "(I)I"⟩, 92) := ⟨⟨by decide +kernel, by decide +kernel⟩, List.mem_of_getElem? (i := 1907) (by decide +kernel), List.mem_of_getElem? (i := 2461) (by decide +kernel), List.mem_of_getElem? (i := 2462) (by decide +kernel)⟩
theorem lw_p95 : lw_okq (⟨"GroundProverModel", "push", "(I)V"⟩, 92) := ⟨⟨by decide +kernel, by decide +kernel⟩, List.mem_of_getElem? (i := 1907) (by decide +kernel), List.mem_of_getElem? (i := 2465) (by decide +kernel), List.mem_of_getElem? (i := 2466) (by decide +kernel)⟩
def lw_privs_6 : List (MethodName × Nat) := [(⟨"GroundProverModel", "isGreaterInTable", "(II)Z"⟩, 92), (⟨"GroundProverModel", "told", "(II)Z"⟩, 92), (⟨"GroundProverModel", "collected", "(I)I"⟩, 92), (⟨"GroundProverModel", "areGround", "(II)Z"⟩, 92), (⟨"GroundProverModel", "addEquation", "(II)I"⟩, 92), (⟨"GroundProverModel", "build", "(I)Z"⟩, 92), (⟨"GroundProverModel", "beginMembers", "()V"⟩, 92), (⟨"GroundProverModel", "addMembers", "(I)V"⟩, 92), (⟨"GroundProverModel", "close", "(II)V"⟩, 92), (⟨"GroundProverModel", "classOf", "(I)I"⟩, 92), (⟨"GroundProverModel", "unite", "(II)V"⟩, 92), (⟨"GroundProverModel", "areCongruent", "(II)Z"⟩, 92), (⟨"GroundProverModel", "findLeast", "()V"⟩, 92), (⟨"GroundProverModel", "offer", "()V"⟩, 92), (⟨"GroundProverModel", "candidate", "(I)I"⟩, 92), (⟨"GroundProverModel", "push", "(I)V"⟩, 92)]
theorem lw_r6 : ∀ q ∈ lw_privs_6, lw_okq q := List.forall_mem_cons.mpr ⟨lw_p80, List.forall_mem_cons.mpr ⟨lw_p81, List.forall_mem_cons.mpr ⟨lw_p82, List.forall_mem_cons.mpr ⟨lw_p83, List.forall_mem_cons.mpr ⟨lw_p84, List.forall_mem_cons.mpr ⟨lw_p85, List.forall_mem_cons.mpr ⟨lw_p86, List.forall_mem_cons.mpr ⟨lw_p87, List.forall_mem_cons.mpr ⟨lw_p88, List.forall_mem_cons.mpr ⟨lw_p89, List.forall_mem_cons.mpr ⟨lw_p90, List.forall_mem_cons.mpr ⟨lw_p91, List.forall_mem_cons.mpr ⟨lw_p92, List.forall_mem_cons.mpr ⟨lw_p93, List.forall_mem_cons.mpr ⟨lw_p94, List.forall_mem_cons.mpr ⟨lw_p95, fun _ h => absurd h List.not_mem_nil⟩⟩⟩⟩⟩⟩⟩⟩⟩⟩⟩⟩⟩⟩⟩⟩
theorem lw_p96 : lw_okq (⟨"GroundProverModel", "isLess", "(II)Z"⟩, 92) := ⟨⟨by decide +kernel, by decide +kernel⟩, List.mem_of_getElem? (i := 1907) (by decide +kernel), List.mem_of_getElem? (i := 2469) (by decide +kernel), List.mem_of_getElem? (i := 2470) (by decide +kernel)⟩
theorem lw_p97 : lw_okq (⟨"GroundProverModel", "swap", "(II)V"⟩, 92) := ⟨⟨by decide +kernel, by decide +kernel⟩, List.mem_of_getElem? (i := 1907) (by decide +kernel), List.mem_of_getElem? (i := 2473) (by decide +kernel), List.mem_of_getElem? (i := 2474) (by decide +kernel)⟩
theorem lw_p98 : lw_okq (⟨"GroundProverModel", "takeFirst", "()I"⟩, 92) := ⟨⟨by decide +kernel, by decide +kernel⟩, List.mem_of_getElem? (i := 1907) (by decide +kernel), List.mem_of_getElem? (i := 2477) (by decide +kernel), List.mem_of_getElem? (i := 2478) (by decide +kernel)⟩
theorem lw_p99 : lw_okq (⟨"GroundProverModel", "addRule", "(II)V"⟩, 92) := ⟨⟨by decide +kernel, by decide +kernel⟩, List.mem_of_getElem? (i := 1907) (by decide +kernel), List.mem_of_getElem? (i := 2481) (by decide +kernel), List.mem_of_getElem? (i := 2482) (by decide +kernel)⟩
theorem lw_p100 : lw_okq (⟨"GroundProverModel", "isSmall", "(I)Z"⟩, 92) := ⟨⟨by decide +kernel, by decide +kernel⟩, List.mem_of_getElem? (i := 1907) (by decide +kernel), List.mem_of_getElem? (i := 2485) (by decide +kernel), List.mem_of_getElem? (i := 2486) (by decide +kernel)⟩
theorem lw_p101 : lw_okq (⟨"GroundProverModel", "addSeparation", "(II)I"⟩, 92) := ⟨⟨by decide +kernel, by decide +kernel⟩, List.mem_of_getElem? (i := 1907) (by decide +kernel), List.mem_of_getElem? (i := 2493) (by decide +kernel), List.mem_of_getElem? (i := 2494) (by decide +kernel)⟩
theorem lw_p102 : lw_okq (⟨"GroundProverModel", "readsTheory", "()Z"⟩, 92) := ⟨⟨by decide +kernel, by decide +kernel⟩, List.mem_of_getElem? (i := 1907) (by decide +kernel), List.mem_of_getElem? (i := 2501) (by decide +kernel), List.mem_of_getElem? (i := 2502) (by decide +kernel)⟩
theorem lw_p103 : lw_okq (⟨"GroundProverModel", "firstConflict", "()I"⟩, 92) := ⟨⟨by decide +kernel, by decide +kernel⟩, List.mem_of_getElem? (i := 1907) (by decide +kernel), List.mem_of_getElem? (i := 2517) (by decide +kernel), List.mem_of_getElem? (i := 2518) (by decide +kernel)⟩
theorem lw_p104 : lw_okq (⟨"GroundProverModel", "norm", "(I)I"⟩, 92) := ⟨⟨by decide +kernel, by decide +kernel⟩, List.mem_of_getElem? (i := 1907) (by decide +kernel), List.mem_of_getElem? (i := 2521) (by decide +kernel), List.mem_of_getElem? (i := 2522) (by decide +kernel)⟩
theorem lw_p105 : lw_okq (⟨"GroundProverModel", "areEqualWithout", "(III)Z"⟩, 92) := ⟨⟨by decide +kernel, by decide +kernel⟩, List.mem_of_getElem? (i := 1907) (by decide +kernel), List.mem_of_getElem? (i := 2561) (by decide +kernel), List.mem_of_getElem? (i := 2562) (by decide +kernel)⟩
theorem lw_p106 : lw_okq (⟨"GroundProverModel", "after", "(II)I"⟩, 92) := ⟨⟨by decide +kernel, by decide +kernel⟩, List.mem_of_getElem? (i := 1907) (by decide +kernel), List.mem_of_getElem? (i := 2573) (by decide +kernel), List.mem_of_getElem? (i := 2574) (by decide +kernel)⟩
theorem lw_p107 : lw_okq (⟨"GroundProverModel", "counted", "(II)J"⟩, 92) := ⟨⟨by decide +kernel, by decide +kernel⟩, List.mem_of_getElem? (i := 1907) (by decide +kernel), List.mem_of_getElem? (i := 2582) (by decide +kernel), List.mem_of_getElem? (i := 2583) (by decide +kernel)⟩
theorem lw_p108 : lw_okq (⟨"GroundProverModel", "findForms", "(I)V"⟩, 92) := ⟨⟨by decide +kernel, by decide +kernel⟩, List.mem_of_getElem? (i := 1907) (by decide +kernel), List.mem_of_getElem? (i := 2586) (by decide +kernel), List.mem_of_getElem? (i := 2587) (by decide +kernel)⟩
theorem lw_p109 : lw_okq (⟨"GroundProverModel", "addForm", "(I)V"⟩, 92) := ⟨⟨by decide +kernel, by decide +kernel⟩, List.mem_of_getElem? (i := 1907) (by decide +kernel), List.mem_of_getElem? (i := 2590) (by decide +kernel), List.mem_of_getElem? (i := 2591) (by decide +kernel)⟩
theorem lw_p110 : lw_okq (⟨"GroundProverModel", "termOf", "(II)I"⟩, 92) := ⟨⟨by decide +kernel, by decide +kernel⟩, List.mem_of_getElem? (i := 1907) (by decide +kernel), List.mem_of_getElem? (i := 2594) (by decide +kernel), List.mem_of_getElem? (i := 2595) (by decide +kernel)⟩
theorem lw_p111 : lw_okq (⟨"GroundProverModel", "ways", "(II[JI)J"⟩, 92) := ⟨⟨by decide +kernel, by decide +kernel⟩, List.mem_of_getElem? (i := 1907) (by decide +kernel), List.mem_of_getElem? (i := 2598) (by decide +kernel), List.mem_of_getElem? (i := 2599) (by decide +kernel)⟩
def lw_privs_7 : List (MethodName × Nat) := [(⟨"GroundProverModel", "isLess", "(II)Z"⟩, 92), (⟨"GroundProverModel", "swap", "(II)V"⟩, 92), (⟨"GroundProverModel", "takeFirst", "()I"⟩, 92), (⟨"GroundProverModel", "addRule", "(II)V"⟩, 92), (⟨"GroundProverModel", "isSmall", "(I)Z"⟩, 92), (⟨"GroundProverModel", "addSeparation", "(II)I"⟩, 92), (⟨"GroundProverModel", "readsTheory", "()Z"⟩, 92), (⟨"GroundProverModel", "firstConflict", "()I"⟩, 92), (⟨"GroundProverModel", "norm", "(I)I"⟩, 92), (⟨"GroundProverModel", "areEqualWithout", "(III)Z"⟩, 92), (⟨"GroundProverModel", "after", "(II)I"⟩, 92), (⟨"GroundProverModel", "counted", "(II)J"⟩, 92), (⟨"GroundProverModel", "findForms", "(I)V"⟩, 92), (⟨"GroundProverModel", "addForm", "(I)V"⟩, 92), (⟨"GroundProverModel", "termOf", "(II)I"⟩, 92), (⟨"GroundProverModel", "ways", "(II[JI)J"⟩, 92)]
theorem lw_r7 : ∀ q ∈ lw_privs_7, lw_okq q := List.forall_mem_cons.mpr ⟨lw_p96, List.forall_mem_cons.mpr ⟨lw_p97, List.forall_mem_cons.mpr ⟨lw_p98, List.forall_mem_cons.mpr ⟨lw_p99, List.forall_mem_cons.mpr ⟨lw_p100, List.forall_mem_cons.mpr ⟨lw_p101, List.forall_mem_cons.mpr ⟨lw_p102, List.forall_mem_cons.mpr ⟨lw_p103, List.forall_mem_cons.mpr ⟨lw_p104, List.forall_mem_cons.mpr ⟨lw_p105, List.forall_mem_cons.mpr ⟨lw_p106, List.forall_mem_cons.mpr ⟨lw_p107, List.forall_mem_cons.mpr ⟨lw_p108, List.forall_mem_cons.mpr ⟨lw_p109, List.forall_mem_cons.mpr ⟨lw_p110, List.forall_mem_cons.mpr ⟨lw_p111, fun _ h => absurd h List.not_mem_nil⟩⟩⟩⟩⟩⟩⟩⟩⟩⟩⟩⟩⟩⟩⟩⟩
theorem lw_p112 : lw_okq (⟨"GroundProverModel", "isFiniteForm", "(I)Z"⟩, 92) := ⟨⟨by decide +kernel, by decide +kernel⟩, List.mem_of_getElem? (i := 1907) (by decide +kernel), List.mem_of_getElem? (i := 2606) (by decide +kernel), List.mem_of_getElem? (i := 2607) (by decide +kernel)⟩
theorem lw_p113 : lw_okq (⟨"GroundProverModel", "smallestOf", "(I)I"⟩, 92) := ⟨⟨by decide +kernel, by decide +kernel⟩, List.mem_of_getElem? (i := 1907) (by decide +kernel), List.mem_of_getElem? (i := 2614) (by decide +kernel), List.mem_of_getElem? (i := 2615) (by decide +kernel)⟩
theorem lw_p114 : lw_okq (⟨"GroundProverModel", "withBest", "(I[I)I"⟩, 92) := ⟨⟨by decide +kernel, by decide +kernel⟩, List.mem_of_getElem? (i := 1907) (by decide +kernel), List.mem_of_getElem? (i := 2618) (by decide +kernel), List.mem_of_getElem? (i := 2619) (by decide +kernel)⟩
theorem lw_p115 : lw_okq (⟨"GroundProverModel", "isBetter", "(II)Z"⟩, 92) := ⟨⟨by decide +kernel, by decide +kernel⟩, List.mem_of_getElem? (i := 1907) (by decide +kernel), List.mem_of_getElem? (i := 2622) (by decide +kernel), List.mem_of_getElem? (i := 2623) (by decide +kernel)⟩
theorem lw_p116 : lw_okq (⟨"GroundProverModel", "solve", "(II)V"⟩, 92) := ⟨⟨by decide +kernel, by decide +kernel⟩, List.mem_of_getElem? (i := 1907) (by decide +kernel), List.mem_of_getElem? (i := 2630) (by decide +kernel), List.mem_of_getElem? (i := 2631) (by decide +kernel)⟩
theorem lw_p117 : lw_okq (⟨"GroundProverModel", "addCandidates", "(I)V"⟩, 92) := ⟨⟨by decide +kernel, by decide +kernel⟩, List.mem_of_getElem? (i := 1907) (by decide +kernel), List.mem_of_getElem? (i := 2634) (by decide +kernel), List.mem_of_getElem? (i := 2635) (by decide +kernel)⟩
theorem lw_p118 : lw_okq (⟨"GroundProverModel", "sortCandidates", "()V"⟩, 92) := ⟨⟨by decide +kernel, by decide +kernel⟩, List.mem_of_getElem? (i := 1907) (by decide +kernel), List.mem_of_getElem? (i := 2638) (by decide +kernel), List.mem_of_getElem? (i := 2639) (by decide +kernel)⟩
theorem lw_p119 : lw_okq (⟨"GroundProverModel", "findUnknowns", "()V"⟩, 92) := ⟨⟨by decide +kernel, by decide +kernel⟩, List.mem_of_getElem? (i := 1907) (by decide +kernel), List.mem_of_getElem? (i := 2642) (by decide +kernel), List.mem_of_getElem? (i := 2643) (by decide +kernel)⟩
theorem lw_p120 : lw_okq (⟨"GroundProverModel", "evaluated", "()I"⟩, 92) := ⟨⟨by decide +kernel, by decide +kernel⟩, List.mem_of_getElem? (i := 1907) (by decide +kernel), List.mem_of_getElem? (i := 2646) (by decide +kernel), List.mem_of_getElem? (i := 2647) (by decide +kernel)⟩
theorem lw_p121 : lw_okq (⟨"GroundProverModel", "valueOf", "(I)I"⟩, 92) := ⟨⟨by decide +kernel, by decide +kernel⟩, List.mem_of_getElem? (i := 1907) (by decide +kernel), List.mem_of_getElem? (i := 2650) (by decide +kernel), List.mem_of_getElem? (i := 2651) (by decide +kernel)⟩
def lw_privs_8 : List (MethodName × Nat) := [(⟨"GroundProverModel", "isFiniteForm", "(I)Z"⟩, 92), (⟨"GroundProverModel", "smallestOf", "(I)I"⟩, 92), (⟨"GroundProverModel", "withBest", "(I[I)I"⟩, 92), (⟨"GroundProverModel", "isBetter", "(II)Z"⟩, 92), (⟨"GroundProverModel", "solve", "(II)V"⟩, 92), (⟨"GroundProverModel", "addCandidates", "(I)V"⟩, 92), (⟨"GroundProverModel", "sortCandidates", "()V"⟩, 92), (⟨"GroundProverModel", "findUnknowns", "()V"⟩, 92), (⟨"GroundProverModel", "evaluated", "()I"⟩, 92), (⟨"GroundProverModel", "valueOf", "(I)I"⟩, 92)]
theorem lw_r8 : ∀ q ∈ lw_privs_8, lw_okq q := List.forall_mem_cons.mpr ⟨lw_p112, List.forall_mem_cons.mpr ⟨lw_p113, List.forall_mem_cons.mpr ⟨lw_p114, List.forall_mem_cons.mpr ⟨lw_p115, List.forall_mem_cons.mpr ⟨lw_p116, List.forall_mem_cons.mpr ⟨lw_p117, List.forall_mem_cons.mpr ⟨lw_p118, List.forall_mem_cons.mpr ⟨lw_p119, List.forall_mem_cons.mpr ⟨lw_p120, List.forall_mem_cons.mpr ⟨lw_p121, fun _ h => absurd h List.not_mem_nil⟩⟩⟩⟩⟩⟩⟩⟩⟩⟩
def lw_privs : List (MethodName × Nat) := lw_privs_1 ++ (lw_privs_2 ++ (lw_privs_3 ++ (lw_privs_4 ++ (lw_privs_5 ++ (lw_privs_6 ++ (lw_privs_7 ++ (lw_privs_8)))))))
def lw_tbl : List Cond := k2_sels lw_privs ++ tables_1
theorem lw_privs_ok : ∀ q ∈ lw_privs, lw_okq q := by
  show ∀ q ∈ lw_privs_1 ++ (lw_privs_2 ++ (lw_privs_3 ++ (lw_privs_4 ++ (lw_privs_5 ++ (lw_privs_6 ++ (lw_privs_7 ++ (lw_privs_8))))))), lw_okq q
  exact List.forall_mem_append.mpr ⟨lw_r1, List.forall_mem_append.mpr ⟨lw_r2, List.forall_mem_append.mpr ⟨lw_r3, List.forall_mem_append.mpr ⟨lw_r4, List.forall_mem_append.mpr ⟨lw_r5, List.forall_mem_append.mpr ⟨lw_r6, List.forall_mem_append.mpr ⟨lw_r7, lw_r8⟩⟩⟩⟩⟩⟩⟩
end
section
/-! ===== BEGIN words of one list among another's, by their places ===== -/
theorem goodIn_r {big : List Cond} (ws : List Cond) (ps : List Nat) (hp : ws = ps.filterMap (fun i => big[i]?)) (h : ws.all goodWord = true) : GoodIn big ws := by
  intro w hw
  have h1 := List.all_eq_true.mp h w hw
  rw [hp] at hw
  obtain ⟨i, -, hi⟩ := List.mem_filterMap.mp hw
  have hm : w ∈ big := by first | exact List.mem_of_getElem? hi | exact List.getElem?_mem hi
  exact ⟨hm, good_of_word h1⟩
theorem goodIn_app {big a b : List Cond} (ha : GoodIn big a) (hb : GoodIn big b) : GoodIn big (a ++ b) := fun w h => (List.mem_append.mp h).elim (ha w) (hb w)
theorem goodIn_ca {big a b : List Cond} {c : Cond} (ha : GoodIn big (c :: a)) (hb : GoodIn big b) : GoodIn big (c :: (a ++ b)) := fun w h => (List.mem_cons.mp h).elim (fun e => ha w (List.mem_cons.mpr (Or.inl e))) (fun h => (List.mem_append.mp h).elim (fun h => ha w (List.mem_cons.mpr (Or.inr h))) (hb w))
theorem goodIn_sub {big ws : List Cond} (hm : ∀ w ∈ ws, w ∈ big) (h : ws.all goodWord = true) : GoodIn big ws := fun w hw => ⟨hm w hw, good_of_word (List.all_eq_true.mp h w hw)⟩
/-! ===== END ===== -/

/-! ===== BEGIN exceptions that leave a method, and their catching by the caller (launches without stack traces) ===== -/
section VXA
/-! The laws vx_back, vx_callV, vx_callS, vx_callSW, vx_throw0, vx_throwS follow proofs of the library, with one case more: JvmDerived/Free/Laws.lean (Back.of_free), Shelf42/LK1.lean (callV, callS), Shelf/KitTraced.lean (throwNew0V, throwNewS). -/
/-- where a method has thrown q: the class by its name, the cell, what was written, the world -/
def vx_T (XC : String → State → State → Prop) (st : State) (q : Addr) (t : State) (mc ms : Nat) (free : Addr → Prop) : Prop :=
  ∃ (E : String) (ce : Cell) (L : List Loc), XC E st t ∧ t.heap[q]? = some ce ∧ ce.vm = .none ∧ st.vm.findClass E = some ce.cls ∧ st.WarmedH t.vm ∧ st.sameButNew ({ t with vm := st.vm } : State) L mc ms ∧ ∀ z ∈ L, free z.base
def vx_Q (Qc : Array Value → State → Outcome → State → Prop) (XC : String → State → State → Prop) (mc ms : Nat) (free : Addr → Prop) : Array Value → State → Outcome → State → Prop := fun a st o t =>
  (Qc a st o t ∧ ∃ L, FrameEnd st o t L mc ms ∧ ∀ q ∈ L, free q.base) ∨ ∃ q, o = .threw q ∧ vx_T XC st q t mc ms free
/-- a callee that returns or throws -/
def vx_Met (l : Launch) (y : MethodName) (ws : List Cond) (rm : Room) (Pc : Array Value → State → Prop) (Qc : Array Value → State → Outcome → State → Prop) (XC : String → State → State → Prop) (mc ms : Nat) (free : Addr → Prop) : Prop :=
  MetFree l y (headSpec ws rm) Pc (fun _ _ _ _ _ => True) (vx_Q Qc XC mc ms free)
def vx_Post (XC : String → State → State → Prop) (mc ms : Nat) (free : Addr → Prop) : Pt → Array Value → Addr → Pt → Prop := fun A a q B =>
  ∃ (g : JFrame) (mk : MethodId) (t : State) (L : List Loc) (E : String) (ce : Cell), B.U.heap = t.heap ∧ B.U.vm = t.vm ∧ XC E (A.U.calling g mk a) t ∧ t.heap[q]? = some ce ∧ ce.vm = .none ∧ A.U.vm.findClass E = some ce.cls ∧ B.locs = A.locs ++ L ∧ (∀ z ∈ L, free z.base) ∧ B.cells = A.cells + mc ∧ B.slots = A.slots + ms
def vx_Back (l : Launch) (R : Room) (p : Program) (e : Env) (below : List Frame) (s : State) (sargs : Array Value) (y : MethodName) (len W9 : Nat)
    (Pre : Pt → Array Value → Prop) (Post : Pt → Array Value → Option Value → Pt → Prop) (PostX : Pt → Array Value → Addr → Pt → Prop) : Prop :=
  ∀ (m : MethodId) (meth : Method) (c : Code) (A : Pt) (g : JFrame) (ig : Instr) (mk : MethodId) (a : Array Value),
    Stand p l e R s m sargs below meth c A.U A.locs A.cells A.slots → g.method = m → g.locals.size = c.maxLocals → decode c.code g.pc = .ok (ig, len) →
    2 * g.monitorRoom + (g.stack.map fun v => v.category).sum ≤ W9 → A.U.methodNamed? y = some mk → Pre A a →
    (∃ (v : Option Value) (B : Pt), Stand p l e R s m sargs below meth c B.U B.locs B.cells B.slots ∧ Post A a v B ∧
      Steps p.tables e below (doInvoke e (A.U.setTop g) [] mk a).1 (B.U.setTop { g with pc := g.pc + len, stack := v.toList ++ g.stack })) ∨
    (∃ (q : Addr) (B : Pt), Stand p l e R s m sargs below meth c B.U B.locs B.cells B.slots ∧ PostX A a q B ∧
      Steps p.tables e below (doInvoke e (A.U.setTop g) [] mk a).1 ((B.U.setTop g).pushFrame (.throwing q)))
section Payer
variable {l : Launch} {R : Room} {p : Program} {e : Env} {below : List Frame} {s : State} {sargs : Array Value} {y : MethodName} {len W9 : Nat}
theorem vx_back {ws : List Cond} {rm : Room} {Pc : Array Value → State → Prop} {Qc : Array Value → State → Outcome → State → Prop} {XC : String → State → State → Prop} {mc ms : Nat} {free : Addr → Prop} {bytes : ByteArray} {maxL : Nat} {ret : Option FieldType}
    (hM : vx_Met l y ws rm Pc Qc XC mc ms free) (hblind : FrameBlind Pc) (hrc : rm.cells = mc) (hrs : rm.slots = ms)
    (hframes : rm.frames + 1 ≤ R.frames) (hlocals : W9 + (maxL + 11) + rm.locals ≤ R.locals)
    (hws : ∀ w ∈ ws, ∀ a' U, s.WarmedH U.vm → w.before a' U = true) (hcode : Cond.code y bytes maxL ret ∈ ws) (hinit : ∀ a' U, s.WarmedH U.vm → (Cond.initialized y.cls).before a' U = true) :
    vx_Back l R p e below s sargs y len W9 (PreOf R mc ms Pc) (PostOf Qc mc ms free) (vx_Post XC mc ms free) := by
  intro m meth c A g ig mk a X hg hsize hdg hW hn hp
  have h1 : (headSpec ws rm).pre.before a A.U = true := atoms_intro fun w hw => hws w hw _ _ X.warmed
  have h2 : (Cond.code y bytes maxL ret).before a A.U = true := hws _ hcode _ _ X.warmed
  have h3 : (Cond.initialized y.cls).before a A.U = true := hinit _ _ X.warmed
  have h4 : A.cells + (headSpec ws rm).room.cells ≤ R.cells := by rw [show (headSpec ws rm).room.cells = mc from hrc]; exact hp.1
  have h5 : A.slots + (headSpec ws rm).room.slots ≤ R.slots := by rw [show (headSpec ws rm).room.slots = ms from hrs]; exact hp.2.1
  have hPc : Pc a (A.U.calling g mk a) := hblind _ _ _ _ hp.2.2
  obtain ⟨U, Ls, c0, s0⟩ := A
  dsimp only [Pt.U, Pt.locs, Pt.cells, Pt.slots] at h1 h2 h3 h4 h5 X hn hPc ⊢
  obtain ⟨methY, cY, hmY, hcY, -, hlY, -, -, -, -⟩ := Cond.code_spec hn h2
  obtain ⟨kY, hkY, -⟩ := className_of_methodNamed hn
  have hinitY : kY.init = .initialized := Cond.initialized_spec (findClass_of_methodNamed hn) hkY h3
  have h : At U g.method c below := by rw [hg]; exact X.here
  have hlocals9 : W9 + (maxL + 11) + (headSpec ws rm).room.locals ≤ R.locals := hlocals
  have happ : (headSpec ws rm).appliesLoose y e.platform (U.calling g mk a) = true :=
    Spec.appliesLoose_calling (g := g) h hdg hn hkY hinitY
      (X.room_calling (g := g) (R' := (headSpec ws rm).room) hsize hmY hcY hframes (by rw [hlY]; omega) h4 h5) h1
  obtain ⟨mid, hmid⟩ := h.above
  have hfr : (U.setTop g).frames = (.java g :: mid) ++ below := by rw [State.frames_setTop' g h.top, hmid]; rfl
  obtain ⟨o, s₂, hsteps, -, hend, hq⟩ := Steps.callFree hM p X.admits X.cas X.clock (acts := []) hfr happ hPc trivial
  have hq' : vx_Q Qc XC mc ms free a (U.calling g mk a) o s₂ := hq
  rw [State.frames_setTop' g h.top] at hend
  obtain ⟨g₀, hg0⟩ := Option.isSome_iff_exists.mp h.top
  obtain ⟨r, hr⟩ := State.topJava?_eq_some.mp hg0
  have hr' : (({ U with heap := s₂.heap, slotsUsed := s₂.slotsUsed } : State).setVm s₂.vm).frames = .java g₀ :: r := hr
  rcases hq' with ⟨hqc, L, hfe, hL⟩ | ⟨q, rfl, E, ce, L, hx, hce, hcv, hcl, hW₂, hsm, hL⟩
  · obtain ⟨⟨v, rfl⟩, hW₂, e2, q2, q3, q4, q5, q6⟩ := id hfe
    have e3 : s₂ = ({ (U.calling g mk a).setFrames s₂.frames with heap := s₂.heap, slotsUsed := s₂.slotsUsed } : State).setVm s₂.vm := by
      have : s₂ = ({ s₂ with vm := (U.calling g mk a).vm } : State).setVm s₂.vm := rfl
      rw [e2] at this
      exact this
    obtain ⟨c₂, i₂, len₂, hc₂, hd₂, hf₂⟩ := hend
    have hW' : U.WarmedH s₂.vm := hW₂
    have hcc : c₂ = c := by
      have h1 : s₂.code? g.method = U.code? g.method := by
        rw [State.code?_eq, State.code?_eq, hW'.alike.method?]
      exact Option.some.inj (hc₂.symm.trans (h1.trans h.code))
    subst hcc
    have hlen : len₂ = len := by rw [hdg] at hd₂; cases hd₂; rfl
    subst hlen
    have hs₂ : s₂ = (({ U with heap := s₂.heap, slotsUsed := s₂.slotsUsed } : State).setVm s₂.vm).setTop { g with pc := g.pc + len₂, stack := v.toList ++ g.stack } := by
      refine e3.trans ?_
      rw [hf₂, State.calling_eq h.top, State.setFrames_setFrames, State.setTop_of_frames _ hr', hr]
      rfl
    have hsame : U.sameButNew ({ U with heap := s₂.heap, slotsUsed := s₂.slotsUsed } : State) L mc ms := by
      refine ⟨?_, q2, q3, q4, q5, q6⟩
      obtain ⟨t, ht, -⟩ := State.frames_cons hr
      show ({ U with heap := s₂.heap, slotsUsed := s₂.slotsUsed } : State) = { U.setFrames U.frames with heap := s₂.heap, slotsUsed := s₂.slotsUsed }
      rw [State.setFrames_self ht]
    subst hg
    refine Or.inl ⟨v, ⟨(({ U with heap := s₂.heap, slotsUsed := s₂.slotsUsed } : State).setVm s₂.vm), Ls ++ L, c0 + mc, s0 + ms⟩,
      ⟨X.admits, X.cas, X.clock, X.frames, X.room, X.hears, X.method, X.code, (X.here.setHeapUsed s₂.heap s₂.slotsUsed).setVm hW'.alike, X.tail, State.WarmedH.trans X.warmed hW', X.limits, X.bytes, X.same.trans (hsame.setVm s.vm)⟩,
      ⟨g, mk, s₂, L, rfl, rfl, hqc, rfl, hL, rfl, rfl⟩, ?_⟩
    show Steps p.tables e below _ ((({ U with heap := s₂.heap, slotsUsed := s₂.slotsUsed } : State).setVm s₂.vm).setTop { g with pc := g.pc + len₂, stack := v.toList ++ g.stack })
    rw [← hs₂]
    exact hsteps
  · obtain ⟨e2, q2, q3, q4, q5, q6⟩ := id hsm
    have e3 : s₂ = ({ (U.calling g mk a).setFrames s₂.frames with heap := s₂.heap, slotsUsed := s₂.slotsUsed } : State).setVm s₂.vm := by
      have : s₂ = ({ s₂ with vm := (U.calling g mk a).vm } : State).setVm s₂.vm := rfl
      rw [e2] at this
      exact this
    have hf₂ : s₂.frames = .throwing q :: .java g :: U.frames.tail := hend
    have hW' : U.WarmedH s₂.vm := hW₂
    have hs₂ : s₂ = ((({ U with heap := s₂.heap, slotsUsed := s₂.slotsUsed } : State).setVm s₂.vm).setTop g).pushFrame (.throwing q) := by
      refine e3.trans ?_
      rw [hf₂, State.calling_eq h.top, State.setFrames_setFrames, State.pushFrame, State.frames_setTop _ hr', State.setTop_of_frames _ hr', State.setFrames_setFrames, hr]
      rfl
    have hsame : U.sameButNew ({ U with heap := s₂.heap, slotsUsed := s₂.slotsUsed } : State) L mc ms := by
      refine ⟨?_, q2, q3, q4, q5, q6⟩
      obtain ⟨t, ht, -⟩ := State.frames_cons hr
      show ({ U with heap := s₂.heap, slotsUsed := s₂.slotsUsed } : State) = { U.setFrames U.frames with heap := s₂.heap, slotsUsed := s₂.slotsUsed }
      rw [State.setFrames_self ht]
    subst hg
    refine Or.inr ⟨q, ⟨(({ U with heap := s₂.heap, slotsUsed := s₂.slotsUsed } : State).setVm s₂.vm), Ls ++ L, c0 + mc, s0 + ms⟩,
      ⟨X.admits, X.cas, X.clock, X.frames, X.room, X.hears, X.method, X.code, (X.here.setHeapUsed s₂.heap s₂.slotsUsed).setVm hW'.alike, X.tail, State.WarmedH.trans X.warmed hW', X.limits, X.bytes, X.same.trans (hsame.setVm s.vm)⟩,
      ⟨g, mk, s₂, L, E, ce, rfl, rfl, hx, hce, hcv, hcl, rfl, hL, rfl, rfl⟩, ?_⟩
    show Steps p.tables e below _ (((({ U with heap := s₂.heap, slotsUsed := s₂.slotsUsed } : State).setVm s₂.vm).setTop g).pushFrame (.throwing q))
    rw [← hs₂]
    exact hsteps
end Payer
section Calls
variable {p : Program} {l : Launch} {e : Env} {R : Room} {s : State} {m : MethodId} {args : Array Value} {below : List Frame} {meth : Method} {c : Code} {T : State} {locs : List Loc} {cells slots : Nat}
theorem vx_callV (X : Stand p l e R s m args below meth c T locs cells slots) (hexec : p.tables.exec = Jvm.exec) {own C : String} {index : Nat} {y : MethodName} {bytes : ByteArray} {maxL : Nat} {ret : Option FieldType}
    (hown : s.vm.findClass own = some m.cls) (hlink : (Cond.methodLink own index y).before args s = true) (hinst : (Cond.instanceMethod y).before args s = true) (hsel : (Cond.selects C y y).before args s = true)
    (hcode : (Cond.code y bytes maxL ret).before args s = true) (hy : y.cls ≠ "java/lang/invoke/MethodHandle" ∧ y.cls ≠ "java/lang/invoke/VarHandle")
    {W9 : Nat} {Pre : Pt → Array Value → Prop} {Post : Pt → Array Value → Option Value → Pt → Prop} {PostX : Pt → Array Value → Addr → Pt → Prop} (hK : vx_Back l R p e below s args y 3 W9 Pre Post PostX)
    {b : Addr} {cellB : Cell} (hcell : T.heap[b]? = some cellB) (hobj : cellB.vm.isStatics = false) (hcls : s.vm.findClass C = some cellB.cls)
    {g : JFrame} (hg : g.method = m) (hsize : g.locals.size = c.maxLocals) {argsL rest : List Value} (hlen : ∀ sig, parseMethodDescriptor y.desc = some sig → argsL.length = sig.parameters.length)
    (hstack : g.stack = argsL.reverse ++ .ref b :: rest) (hW : 2 * g.monitorRoom + (rest.map fun v => v.category).sum ≤ W9) (hdg : decode c.code g.pc = .ok (.invokevirtual index, 3))
    (hpre : ∀ vm₁, s.WarmedH vm₁ → Pre ⟨T.setVm vm₁, locs, cells, slots⟩ (Value.ref b :: argsL).toArray) :
    (∃ (v : Option Value) (vm₁ : Vm) (B : Pt), s.WarmedH vm₁ ∧ Stand p l e R s m args below meth c B.U B.locs B.cells B.slots ∧ Post ⟨T.setVm vm₁, locs, cells, slots⟩ (Value.ref b :: argsL).toArray v B ∧
      ∀ target, Steps p.tables e below (B.U.setTop { g with pc := g.pc + 3, stack := v.toList ++ rest }) target → Steps p.tables e below (T.setTop g) target) ∨
    (∃ (q : Addr) (vm₁ : Vm) (B : Pt), s.WarmedH vm₁ ∧ Stand p l e R s m args below meth c B.U B.locs B.cells B.slots ∧ PostX ⟨T.setVm vm₁, locs, cells, slots⟩ (Value.ref b :: argsL).toArray q B ∧
      Steps p.tables e below (T.setTop g) ((B.U.setTop { g with stack := rest }).pushFrame (.throwing q))) := by
  obtain ⟨mk, methM, hnamed, hmethM, hstM, habM⟩ := Cond.instanceMethod_spec hinst
  obtain ⟨methM', cM, hmethM', -, -, -, -, -, -, hsigM⟩ := Cond.code_spec hnamed hcode
  cases hmethM.symm.trans hmethM'
  obtain ⟨c2, r2, m2, q1, q2, q3, q4, kP, hkP, hkPi⟩ := Cond.selects_spec hsel
  cases hcls.symm.trans q1
  cases (State.methodFound?_of_named hnamed hy).symm.trans q2
  cases hnamed.symm.trans q3
  have hselP : selectMethod e.platform s.vm cellB.cls mk = .method mk := by rw [Launch.admits_selectMethod X.admits]; exact q4
  obtain ⟨vm₁, X₁, hstep₁⟩ := X.invokevirtual hexec hown hlink hnamed hmethM hstM hkP hkPi hy (a := b) (cell := cellB) hcell
    (fun z h => by rw [h] at hobj; cases hobj) hselP hmethM habM hkP hkPi (g := g) hg (argsL := argsL) (rest := rest) (hlen _ hsigM) hstack hdg
  rcases hK m meth c ⟨T.setVm vm₁, locs, cells, slots⟩ { g with stack := rest } (.invokevirtual index) mk (Value.ref b :: argsL).toArray X₁ hg hsize hdg hW (X₁.named hnamed) (hpre vm₁ X₁.warmed) with ⟨v, B, X', hpost, hsteps⟩ | ⟨q, B, X', hpost, hsteps⟩
  · exact Or.inl ⟨v, vm₁, B, X₁.warmed, X', hpost, fun target h => hstep₁ _ fun acts => by rw [doInvoke_state]; exact hsteps.trans h⟩
  · exact Or.inr ⟨q, vm₁, B, X₁.warmed, X', hpost, hstep₁ _ fun acts => by rw [doInvoke_state]; exact hsteps⟩
theorem vx_callS (X : Stand p l e R s m args below meth c T locs cells slots) (hexec : p.tables.exec = Jvm.exec) {own : String} {index : Nat} {y : MethodName} {bytes : ByteArray} {maxL : Nat} {ret : Option FieldType}
    (hown : s.vm.findClass own = some m.cls) (hlink : (Cond.methodLink own index y).before args s = true) (hstat : (Cond.static y).before args s = true) (hinit : (Cond.initialized y.cls).before args s = true)
    (hcode : (Cond.code y bytes maxL ret).before args s = true) (hy : y.cls ≠ "java/lang/invoke/MethodHandle" ∧ y.cls ≠ "java/lang/invoke/VarHandle")
    {W9 : Nat} {Pre : Pt → Array Value → Prop} {Post : Pt → Array Value → Option Value → Pt → Prop} {PostX : Pt → Array Value → Addr → Pt → Prop} (hK : vx_Back l R p e below s args y 3 W9 Pre Post PostX)
    {g : JFrame} (hg : g.method = m) (hsize : g.locals.size = c.maxLocals) {argsL rest : List Value} (hlen : ∀ sig, parseMethodDescriptor y.desc = some sig → argsL.length = sig.parameters.length)
    (hstack : g.stack = argsL.reverse ++ rest) (hW : 2 * g.monitorRoom + (rest.map fun v => v.category).sum ≤ W9) (hdg : decode c.code g.pc = .ok (.invokestatic index, 3))
    (hpre : ∀ vm₁, s.WarmedH vm₁ → Pre ⟨T.setVm vm₁, locs, cells, slots⟩ argsL.toArray) :
    (∃ (v : Option Value) (vm₁ : Vm) (B : Pt), s.WarmedH vm₁ ∧ Stand p l e R s m args below meth c B.U B.locs B.cells B.slots ∧ Post ⟨T.setVm vm₁, locs, cells, slots⟩ argsL.toArray v B ∧
      ∀ target, Steps p.tables e below (B.U.setTop { g with pc := g.pc + 3, stack := v.toList ++ rest }) target → Steps p.tables e below (T.setTop g) target) ∨
    (∃ (q : Addr) (vm₁ : Vm) (B : Pt), s.WarmedH vm₁ ∧ Stand p l e R s m args below meth c B.U B.locs B.cells B.slots ∧ PostX ⟨T.setVm vm₁, locs, cells, slots⟩ argsL.toArray q B ∧
      Steps p.tables e below (T.setTop g) ((B.U.setTop { g with stack := rest }).pushFrame (.throwing q))) := by
  obtain ⟨mk, hnamed⟩ := Cond.code_named hcode
  obtain ⟨methM, cM, hmethM, -, -, -, -, -, -, hsigM⟩ := Cond.code_spec hnamed hcode
  have hstatic : methM.isStatic = true := Cond.static_spec hnamed hmethM hstat
  obtain ⟨kP, hkP, -⟩ := className_of_methodNamed hnamed
  have hinitP : kP.init = .initialized := Cond.initialized_spec (findClass_of_methodNamed hnamed) hkP hinit
  obtain ⟨vm₁, X₁, hstep₁⟩ := X.invokestatic hexec hown hlink hnamed hmethM hstatic hkP hinitP hy (g := g) hg (argsL := argsL) (rest := rest) (hlen _ hsigM) hstack hdg
  rcases hK m meth c ⟨T.setVm vm₁, locs, cells, slots⟩ { g with stack := rest } (.invokestatic index) mk argsL.toArray X₁ hg hsize hdg hW (X₁.named hnamed) (hpre vm₁ X₁.warmed) with ⟨v, B, X', hpost, hsteps⟩ | ⟨q, B, X', hpost, hsteps⟩
  · exact Or.inl ⟨v, vm₁, B, X₁.warmed, X', hpost, fun target h => hstep₁ _ fun acts => by rw [doInvoke_state]; exact hsteps.trans h⟩
  · exact Or.inr ⟨q, vm₁, B, X₁.warmed, X', hpost, hstep₁ _ fun acts => by rw [doInvoke_state]; exact hsteps⟩
end Calls
theorem vx_cls {s : State} {T : State} {vm₁ : Vm} {E : String} {k : ClassId} (hW : s.WarmedH vm₁) (h : (T.setVm vm₁).vm.findClass E = some k) : s.vm.findClass E = some k := by
  have h1 : vm₁.findClass E = some k := h
  rw [hW.alike.findClass] at h1
  exact h1
/-- the method's frame g, with q thrown over it -/
def vx_W (p : Program) (l : Launch) (e : Env) (R : Room) (s : State) (m : MethodId) (args : Array Value) (below : List Frame) (meth : Method) (c : Code) (H : Heap) (locs : List Loc) (cells slots : Nat) (Q : State → Prop) (g : JFrame) (q : Addr) : Prop :=
  ∀ T : State, T.heap = H → Stand p l e R s m args below meth c T locs cells slots → ∃ t, Steps p.tables e below ((T.setTop g).pushFrame (.throwing q)) t ∧ Q t
def vx_Run (p : Program) (l : Launch) (e : Env) (R : Room) (s : State) (m : MethodId) (args : Array Value) (below : List Frame) (meth : Method) (c : Code) (H : Heap) (locs : List Loc) (cells slots mc ms : Nat) (g : JFrame) (rest : List Value) (Qa : State → Outcome → State → Prop) (XC : String → State → State → Prop) (free : Addr → Prop) : Prop :=
  ∀ T : State, T.heap = H → Stand p l e R s m args below meth c T locs cells slots →
    (∃ (v : Option Value) (st₀ t T' : State) (L : List Loc), st₀.heap = H ∧ Stand p l e R s m args below meth c T' (locs ++ L) (cells + mc) (slots + ms) ∧ (∀ q ∈ L, free q.base) ∧ T'.heap = t.heap ∧ T'.vm = t.vm ∧ Qa st₀ (.returned v) t ∧
      Goes p e below T g T' { g with pc := g.pc + 3, stack := v.toList ++ rest }) ∨
    (∃ (q : Addr) (st₀ t T' : State) (L : List Loc) (E : String) (ce : Cell), st₀.heap = H ∧ Stand p l e R s m args below meth c T' (locs ++ L) (cells + mc) (slots + ms) ∧ (∀ z ∈ L, free z.base) ∧ T'.heap = t.heap ∧ T'.vm = t.vm ∧ XC E st₀ t ∧ t.heap[q]? = some ce ∧ ce.vm = .none ∧ s.vm.findClass E = some ce.cls ∧
      Steps p.tables e below (T.setTop g) ((T'.setTop { g with stack := rest }).pushFrame (.throwing q)))
def vx_X {S : Type} (px : S → Prop) (B : String → S → State → Prop) (A : Nat → Prop) : String → State → State → Prop := fun E st t => ∃ u : S, px u ∧ B E u t ∧ va_F A st t
section Runs
variable {p : Program} {l : Launch} {e : Env} {R : Room} {s : State} {m : MethodId} {args : Array Value} {below : List Frame} {meth : Method} {c : Code} {H : Heap} {locs : List Loc} {cells slots : Nat}
variable {y : MethodName} {bytes cc : ByteArray} {maxL nL mc ms n index : Nat} {ret : Option FieldType} {ws : List Cond} {rm : Room} {Pc : Array Value → State → Prop} {Qc : Array Value → State → Outcome → State → Prop} {XC : String → State → State → Prop} {free : Addr → Prop} {Ts : List Cond} {own C : String} {b : Addr} {As rest : List Value} {g : JFrame}
theorem vx_callBack (cb : CallB R s args own index y bytes maxL ret ws rm mc ms n) (hM : vx_Met l y ws rm Pc Qc XC mc ms free) (hbl : FrameBlind Pc) : vx_Back l R p e below s args y 3 8 (PreOf R mc ms Pc) (PostOf Qc mc ms free) (vx_Post XC mc ms free) := by
  obtain ⟨hrc, hrs, hfr, hlo, hws, hcw, -, hini, -⟩ := cb
  exact vx_back (bytes := bytes) (maxL := maxL) (ret := ret) hM hbl hrc hrs hfr hlo hws hcw (fun a' U hW => word_at hW (Or.inl (by first | rfl | simp [Cond.onTables, Cond.keeps, Cond.steady])) hini)
theorem vx_runV (S : CallFix p m c cc nL s args Ts own) (hM : vx_Met l y ws rm Pc Qc XC mc ms free) (cw : CallW R s args own C index y bytes maxL ret ws rm mc ms n) (hp : PreV s H C b Pc As)
    (hg : g.method = m) (hn : As.length = n) (hsize : g.locals.size = nL) (hstack : g.stack = As.reverse ++ .ref b :: rest) (hW : 2 * g.monitorRoom + (rest.map fun v => v.category).sum ≤ 8) (hdg : decode cc g.pc = .ok (.invokevirtual index, 3)) (hf : cells + mc ≤ R.cells ∧ slots + ms ≤ R.slots) :
    vx_Run p l e R s m args below meth c H locs cells slots mc ms g rest (Qc (Value.ref b :: As).toArray) XC free := by
  have hK : vx_Back l R p e below s args y 3 8 (PreOf R mc ms Pc) (PostOf Qc mc ms free) (vx_Post XC mc ms free) := vx_callBack cw.1 hM hp.1
  obtain ⟨⟨-, -, -, -, -, -, hcode, -, hy, hlen, hl⟩, hin, hse⟩ := cw
  obtain ⟨hx, hb, hml, ho, -⟩ := S
  obtain ⟨-, ⟨cellB, hcB, hoB, hclB⟩, hPc⟩ := hp
  intro T hT X
  rcases vx_callV X hx (C := C) (bytes := bytes) (maxL := maxL) (ret := ret) ho hl hin hse hcode hy hK (by rw [hT]; exact hcB) hoB hclB hg (hsize.trans hml.symm) (argsL := As) (rest := rest) (fun sig h => hn.trans (hlen sig h)) hstack hW (by rw [hb]; exact hdg)
    (fun vm₁ hW₁ => ⟨hf.1, hf.2, hPc (T.setVm vm₁) hT hW₁⟩) with ⟨v, vm₁, ⟨U', l2, c2, s2⟩, hW₁, X', ⟨g', mk, t, L, e1, e2, hq, h1, hL, h2, h3⟩, st⟩ | ⟨q, vm₁, ⟨U', l2, c2, s2⟩, hW₁, X', ⟨g', mk, t, L, E, ce, e1, e2, hq, hce, hcv, hcl, h1, hL, h2, h3⟩, st⟩
  · dsimp only [Pt.U, Pt.locs, Pt.cells, Pt.slots] at X' e1 e2 h1 h2 h3 st
    subst h1; subst h2; subst h3
    exact Or.inl ⟨v, (T.setVm vm₁).calling g' mk (Value.ref b :: As).toArray, t, U', L, hT, X', hL, e1, e2, hq, st⟩
  · dsimp only [Pt.U, Pt.locs, Pt.cells, Pt.slots] at X' e1 e2 h1 h2 h3 st hcl
    subst h1; subst h2; subst h3
    exact Or.inr ⟨q, (T.setVm vm₁).calling g' mk (Value.ref b :: As).toArray, t, U', L, E, ce, hT, X', hL, e1, e2, hq, hce, hcv, vx_cls hW₁ hcl, st⟩
theorem vx_runS (S : CallFix p m c cc nL s args Ts own) (hM : vx_Met l y ws rm Pc Qc XC mc ms free) (cw : CallB R s args own index y bytes maxL ret ws rm mc ms n ∧ (Cond.static y).before args s = true) (hp : PreS s H Pc As)
    (hg : g.method = m) (hn : As.length = n) (hsize : g.locals.size = nL) (hstack : g.stack = As.reverse ++ rest) (hW : 2 * g.monitorRoom + (rest.map fun v => v.category).sum ≤ 8) (hdg : decode cc g.pc = .ok (.invokestatic index, 3)) (hf : cells + mc ≤ R.cells ∧ slots + ms ≤ R.slots) :
    vx_Run p l e R s m args below meth c H locs cells slots mc ms g rest (Qc As.toArray) XC free := by
  have hK : vx_Back l R p e below s args y 3 8 (PreOf R mc ms Pc) (PostOf Qc mc ms free) (vx_Post XC mc ms free) := vx_callBack cw.1 hM hp.1
  obtain ⟨⟨-, -, -, -, -, -, hcode, hini, hy, hlen, hl⟩, hstt⟩ := cw
  obtain ⟨hx, hb, hml, ho, -⟩ := S
  intro T hT X
  rcases vx_callS X hx (bytes := bytes) (maxL := maxL) (ret := ret) ho hl hstt hini hcode hy hK hg (hsize.trans hml.symm) (argsL := As) (rest := rest) (fun sig h => hn.trans (hlen sig h)) hstack hW (by rw [hb]; exact hdg)
    (fun vm₁ hW₁ => ⟨hf.1, hf.2, hp.2 (T.setVm vm₁) hT hW₁⟩) with ⟨v, vm₁, ⟨U', l2, c2, s2⟩, hW₁, X', ⟨g', mk, t, L, e1, e2, hq, h1, hL, h2, h3⟩, st⟩ | ⟨q, vm₁, ⟨U', l2, c2, s2⟩, hW₁, X', ⟨g', mk, t, L, E, ce, e1, e2, hq, hce, hcv, hcl, h1, hL, h2, h3⟩, st⟩
  · dsimp only [Pt.U, Pt.locs, Pt.cells, Pt.slots] at X' e1 e2 h1 h2 h3 st
    subst h1; subst h2; subst h3
    exact Or.inl ⟨v, (T.setVm vm₁).calling g' mk As.toArray, t, U', L, hT, X', hL, e1, e2, hq, st⟩
  · dsimp only [Pt.U, Pt.locs, Pt.cells, Pt.slots] at X' e1 e2 h1 h2 h3 st hcl
    subst h1; subst h2; subst h3
    exact Or.inr ⟨q, (T.setVm vm₁).calling g' mk As.toArray, t, U', L, E, ce, hT, X', hL, e1, e2, hq, hce, hcv, vx_cls hW₁ hcl, st⟩
end Runs
section Rows
variable {p : Program} {l : Launch} {e : Env} {R : Room} {s : State} {m : MethodId} {args : Array Value} {below : List Frame} {meth : Method} {c : Code} {H : Heap} {locs : List Loc} {cells slots : Nat} {Q : State → Prop}
variable {mc ms : Nat} {free : Addr → Prop} {A0 A1 : Nat → Prop} {H0 : Heap} {a : Array Value} {pc : Nat} {ls : Array Slot} {st0 rest : List Value}
theorem vx_keep {st₀ t T' : State} {L : List Loc} (h0 : st₀.heap = H) (e1 : T'.heap = t.heap) (hS : va_S A0 H0 H locs) (hA : ∀ q, q < H.size → A1 q → A0 q) (hf : ∀ q, free q → A0 q) (hL : ∀ q ∈ L, free q.base) (hF : va_F A1 st₀ t) :
    H.size ≤ T'.heap.size ∧ (∀ q : Nat, q < H.size → ¬ A1 q → T'.heap[q]? = H[q]?) ∧ va_S A0 H0 T'.heap (locs ++ L) := by
  obtain ⟨hz, hk⟩ := hF
  rw [h0] at hz hk
  exact ⟨by rw [e1]; exact hz, fun q h1 h2 => by rw [e1]; exact hk q h1 h2,
    ⟨Nat.le_trans hS.1 (by rw [e1]; exact hz), fun q h1 h2 => by rw [e1, hk q (Nat.lt_of_lt_of_le h1 hS.1) (fun z => h2 (hA q (Nat.lt_of_lt_of_le h1 hS.1) z))]; exact hS.2.1 q h1 h2, fun q hq => by
      rcases List.mem_append.mp hq with h | h
      · exact hS.2.2 q h
      · exact hf _ (hL q h)⟩⟩
theorem vx_calli {S SX : Type} {post : Int32 → S → Prop} {px : SX → Prop} {B : S → State → Prop} {BX : String → SX → State → Prop} {AX : Nat → Prop} (hr : vx_Run p l e R s m args below meth c H locs cells slots mc ms (F0 m pc ls st0) rest (va_Qi post B A1 a) (vx_X px BX AX) free) (hS : va_S A0 H0 H locs) (hA : ∀ q, q < H.size → A1 q → A0 q) (hf : ∀ q, free q → A0 q) (hAX : ∀ q, q < H.size → AX q → A0 q)
    (kx : ∀ (E : String) (ce : Cell) (q9 : Addr) (u : SX) (t : State) (H1 : Heap) (locs1 : List Loc), t.heap = H1 → s.vm.Alike t.vm → px u → BX E u t → H.size ≤ H1.size → (∀ q : Nat, q < H.size → ¬ AX q → H1[q]? = H[q]?) → va_S A0 H0 H1 locs1 → H1[q9]? = some ce → ce.vm = .none → s.vm.findClass E = some ce.cls → vx_W p l e R s m args below meth c H1 locs1 (cells + mc) (slots + ms) Q (F0 m pc ls rest) q9)
    (kk : ∀ (r : Int32) (u : S) (t : State) (H1 : Heap) (locs1 : List Loc), t.heap = H1 → s.vm.Alike t.vm → post r u → B u t → H.size ≤ H1.size → (∀ q : Nat, q < H.size → ¬ A1 q → H1[q]? = H[q]?) → va_S A0 H0 H1 locs1 → W p l e R s m args below meth c H1 locs1 (cells + mc) (slots + ms) Q (F0 m (pc + 3) ls (.int r :: rest))) : W p l e R s m args below meth c H locs cells slots Q (F0 m pc ls st0) := by
  intro T hT X
  rcases hr T hT X with ⟨v, st₀, t, T', L, h0, X', hL, e1, e2, ⟨⟨r, u, hv, hp, hb⟩, hF⟩, st⟩ | ⟨q, st₀, t, T', L, E, ce, h0, X', hL, e1, e2, ⟨u, hp, hb, hF⟩, hce, hcv, hcl, st⟩
  · cases hv
    obtain ⟨k1, k2, k3⟩ := vx_keep h0 e1 hS hA hf hL hF
    obtain ⟨t2, a1, b1⟩ := kk r u t T'.heap (locs ++ L) e1.symm (by rw [← e2]; exact X'.warmed.alike) hp hb k1 k2 k3 T' rfl X'
    exact ⟨t2, st t2 a1, b1⟩
  · obtain ⟨k1, k2, k3⟩ := vx_keep h0 e1 hS hAX hf hL hF
    obtain ⟨t2, a1, b1⟩ := kx E ce q u t T'.heap (locs ++ L) e1.symm (by rw [← e2]; exact X'.warmed.alike) hp hb k1 k2 k3 (by rw [e1]; exact hce) hcv hcl T' rfl X'
    exact ⟨t2, st.trans a1, b1⟩
theorem vx_calll {S SX : Type} {post : Int64 → S → Prop} {px : SX → Prop} {B : S → State → Prop} {BX : String → SX → State → Prop} {AX : Nat → Prop} (hr : vx_Run p l e R s m args below meth c H locs cells slots mc ms (F0 m pc ls st0) rest (va_Ql post B A1 a) (vx_X px BX AX) free) (hS : va_S A0 H0 H locs) (hA : ∀ q, q < H.size → A1 q → A0 q) (hf : ∀ q, free q → A0 q) (hAX : ∀ q, q < H.size → AX q → A0 q)
    (kx : ∀ (E : String) (ce : Cell) (q9 : Addr) (u : SX) (t : State) (H1 : Heap) (locs1 : List Loc), t.heap = H1 → s.vm.Alike t.vm → px u → BX E u t → H.size ≤ H1.size → (∀ q : Nat, q < H.size → ¬ AX q → H1[q]? = H[q]?) → va_S A0 H0 H1 locs1 → H1[q9]? = some ce → ce.vm = .none → s.vm.findClass E = some ce.cls → vx_W p l e R s m args below meth c H1 locs1 (cells + mc) (slots + ms) Q (F0 m pc ls rest) q9)
    (kk : ∀ (r : Int64) (u : S) (t : State) (H1 : Heap) (locs1 : List Loc), t.heap = H1 → s.vm.Alike t.vm → post r u → B u t → H.size ≤ H1.size → (∀ q : Nat, q < H.size → ¬ A1 q → H1[q]? = H[q]?) → va_S A0 H0 H1 locs1 → W p l e R s m args below meth c H1 locs1 (cells + mc) (slots + ms) Q (F0 m (pc + 3) ls (.long r :: rest))) : W p l e R s m args below meth c H locs cells slots Q (F0 m pc ls st0) := by
  intro T hT X
  rcases hr T hT X with ⟨v, st₀, t, T', L, h0, X', hL, e1, e2, ⟨⟨r, u, hv, hp, hb⟩, hF⟩, st⟩ | ⟨q, st₀, t, T', L, E, ce, h0, X', hL, e1, e2, ⟨u, hp, hb, hF⟩, hce, hcv, hcl, st⟩
  · cases hv
    obtain ⟨k1, k2, k3⟩ := vx_keep h0 e1 hS hA hf hL hF
    obtain ⟨t2, a1, b1⟩ := kk r u t T'.heap (locs ++ L) e1.symm (by rw [← e2]; exact X'.warmed.alike) hp hb k1 k2 k3 T' rfl X'
    exact ⟨t2, st t2 a1, b1⟩
  · obtain ⟨k1, k2, k3⟩ := vx_keep h0 e1 hS hAX hf hL hF
    obtain ⟨t2, a1, b1⟩ := kx E ce q u t T'.heap (locs ++ L) e1.symm (by rw [← e2]; exact X'.warmed.alike) hp hb k1 k2 k3 (by rw [e1]; exact hce) hcv hcl T' rfl X'
    exact ⟨t2, st.trans a1, b1⟩
theorem vx_callf {S SX : Type} {post : UInt32 → S → Prop} {px : SX → Prop} {B : S → State → Prop} {BX : String → SX → State → Prop} {AX : Nat → Prop} (hr : vx_Run p l e R s m args below meth c H locs cells slots mc ms (F0 m pc ls st0) rest (va_Qf post B A1 a) (vx_X px BX AX) free) (hS : va_S A0 H0 H locs) (hA : ∀ q, q < H.size → A1 q → A0 q) (hf : ∀ q, free q → A0 q) (hAX : ∀ q, q < H.size → AX q → A0 q)
    (kx : ∀ (E : String) (ce : Cell) (q9 : Addr) (u : SX) (t : State) (H1 : Heap) (locs1 : List Loc), t.heap = H1 → s.vm.Alike t.vm → px u → BX E u t → H.size ≤ H1.size → (∀ q : Nat, q < H.size → ¬ AX q → H1[q]? = H[q]?) → va_S A0 H0 H1 locs1 → H1[q9]? = some ce → ce.vm = .none → s.vm.findClass E = some ce.cls → vx_W p l e R s m args below meth c H1 locs1 (cells + mc) (slots + ms) Q (F0 m pc ls rest) q9)
    (kk : ∀ (r : UInt32) (u : S) (t : State) (H1 : Heap) (locs1 : List Loc), t.heap = H1 → s.vm.Alike t.vm → post r u → B u t → H.size ≤ H1.size → (∀ q : Nat, q < H.size → ¬ A1 q → H1[q]? = H[q]?) → va_S A0 H0 H1 locs1 → W p l e R s m args below meth c H1 locs1 (cells + mc) (slots + ms) Q (F0 m (pc + 3) ls (.float r :: rest))) : W p l e R s m args below meth c H locs cells slots Q (F0 m pc ls st0) := by
  intro T hT X
  rcases hr T hT X with ⟨v, st₀, t, T', L, h0, X', hL, e1, e2, ⟨⟨r, u, hv, hp, hb⟩, hF⟩, st⟩ | ⟨q, st₀, t, T', L, E, ce, h0, X', hL, e1, e2, ⟨u, hp, hb, hF⟩, hce, hcv, hcl, st⟩
  · cases hv
    obtain ⟨k1, k2, k3⟩ := vx_keep h0 e1 hS hA hf hL hF
    obtain ⟨t2, a1, b1⟩ := kk r u t T'.heap (locs ++ L) e1.symm (by rw [← e2]; exact X'.warmed.alike) hp hb k1 k2 k3 T' rfl X'
    exact ⟨t2, st t2 a1, b1⟩
  · obtain ⟨k1, k2, k3⟩ := vx_keep h0 e1 hS hAX hf hL hF
    obtain ⟨t2, a1, b1⟩ := kx E ce q u t T'.heap (locs ++ L) e1.symm (by rw [← e2]; exact X'.warmed.alike) hp hb k1 k2 k3 (by rw [e1]; exact hce) hcv hcl T' rfl X'
    exact ⟨t2, st.trans a1, b1⟩
theorem vx_calld {S SX : Type} {post : UInt64 → S → Prop} {px : SX → Prop} {B : S → State → Prop} {BX : String → SX → State → Prop} {AX : Nat → Prop} (hr : vx_Run p l e R s m args below meth c H locs cells slots mc ms (F0 m pc ls st0) rest (va_Qd post B A1 a) (vx_X px BX AX) free) (hS : va_S A0 H0 H locs) (hA : ∀ q, q < H.size → A1 q → A0 q) (hf : ∀ q, free q → A0 q) (hAX : ∀ q, q < H.size → AX q → A0 q)
    (kx : ∀ (E : String) (ce : Cell) (q9 : Addr) (u : SX) (t : State) (H1 : Heap) (locs1 : List Loc), t.heap = H1 → s.vm.Alike t.vm → px u → BX E u t → H.size ≤ H1.size → (∀ q : Nat, q < H.size → ¬ AX q → H1[q]? = H[q]?) → va_S A0 H0 H1 locs1 → H1[q9]? = some ce → ce.vm = .none → s.vm.findClass E = some ce.cls → vx_W p l e R s m args below meth c H1 locs1 (cells + mc) (slots + ms) Q (F0 m pc ls rest) q9)
    (kk : ∀ (r : UInt64) (u : S) (t : State) (H1 : Heap) (locs1 : List Loc), t.heap = H1 → s.vm.Alike t.vm → post r u → B u t → H.size ≤ H1.size → (∀ q : Nat, q < H.size → ¬ A1 q → H1[q]? = H[q]?) → va_S A0 H0 H1 locs1 → W p l e R s m args below meth c H1 locs1 (cells + mc) (slots + ms) Q (F0 m (pc + 3) ls (.double r :: rest))) : W p l e R s m args below meth c H locs cells slots Q (F0 m pc ls st0) := by
  intro T hT X
  rcases hr T hT X with ⟨v, st₀, t, T', L, h0, X', hL, e1, e2, ⟨⟨r, u, hv, hp, hb⟩, hF⟩, st⟩ | ⟨q, st₀, t, T', L, E, ce, h0, X', hL, e1, e2, ⟨u, hp, hb, hF⟩, hce, hcv, hcl, st⟩
  · cases hv
    obtain ⟨k1, k2, k3⟩ := vx_keep h0 e1 hS hA hf hL hF
    obtain ⟨t2, a1, b1⟩ := kk r u t T'.heap (locs ++ L) e1.symm (by rw [← e2]; exact X'.warmed.alike) hp hb k1 k2 k3 T' rfl X'
    exact ⟨t2, st t2 a1, b1⟩
  · obtain ⟨k1, k2, k3⟩ := vx_keep h0 e1 hS hAX hf hL hF
    obtain ⟨t2, a1, b1⟩ := kx E ce q u t T'.heap (locs ++ L) e1.symm (by rw [← e2]; exact X'.warmed.alike) hp hb k1 k2 k3 (by rw [e1]; exact hce) hcv hcl T' rfl X'
    exact ⟨t2, st.trans a1, b1⟩
theorem vx_callv {S SX : Type} {post : S → Prop} {px : SX → Prop} {B : S → State → Prop} {BX : String → SX → State → Prop} {AX : Nat → Prop} (hr : vx_Run p l e R s m args below meth c H locs cells slots mc ms (F0 m pc ls st0) rest (va_Qv post B A1 a) (vx_X px BX AX) free) (hS : va_S A0 H0 H locs) (hA : ∀ q, q < H.size → A1 q → A0 q) (hf : ∀ q, free q → A0 q) (hAX : ∀ q, q < H.size → AX q → A0 q)
    (kx : ∀ (E : String) (ce : Cell) (q9 : Addr) (u : SX) (t : State) (H1 : Heap) (locs1 : List Loc), t.heap = H1 → s.vm.Alike t.vm → px u → BX E u t → H.size ≤ H1.size → (∀ q : Nat, q < H.size → ¬ AX q → H1[q]? = H[q]?) → va_S A0 H0 H1 locs1 → H1[q9]? = some ce → ce.vm = .none → s.vm.findClass E = some ce.cls → vx_W p l e R s m args below meth c H1 locs1 (cells + mc) (slots + ms) Q (F0 m pc ls rest) q9)
    (kk : ∀ (u : S) (t : State) (H1 : Heap) (locs1 : List Loc), t.heap = H1 → s.vm.Alike t.vm → post u → B u t → H.size ≤ H1.size → (∀ q : Nat, q < H.size → ¬ A1 q → H1[q]? = H[q]?) → va_S A0 H0 H1 locs1 → W p l e R s m args below meth c H1 locs1 (cells + mc) (slots + ms) Q (F0 m (pc + 3) ls (rest))) : W p l e R s m args below meth c H locs cells slots Q (F0 m pc ls st0) := by
  intro T hT X
  rcases hr T hT X with ⟨v, st₀, t, T', L, h0, X', hL, e1, e2, ⟨⟨u, hv, hp, hb⟩, hF⟩, st⟩ | ⟨q, st₀, t, T', L, E, ce, h0, X', hL, e1, e2, ⟨u, hp, hb, hF⟩, hce, hcv, hcl, st⟩
  · cases hv
    obtain ⟨k1, k2, k3⟩ := vx_keep h0 e1 hS hA hf hL hF
    obtain ⟨t2, a1, b1⟩ := kk u t T'.heap (locs ++ L) e1.symm (by rw [← e2]; exact X'.warmed.alike) hp hb k1 k2 k3 T' rfl X'
    exact ⟨t2, st t2 a1, b1⟩
  · obtain ⟨k1, k2, k3⟩ := vx_keep h0 e1 hS hAX hf hL hF
    obtain ⟨t2, a1, b1⟩ := kx E ce q u t T'.heap (locs ++ L) e1.symm (by rw [← e2]; exact X'.warmed.alike) hp hb k1 k2 k3 (by rw [e1]; exact hce) hcv hcl T' rfl X'
    exact ⟨t2, st.trans a1, b1⟩
/-- caught by the row x of this method's table; the rows ahead don't take it -/
theorem vx_catch {own name : String} {E : String} {ce : Cell} {q : Addr} (hown : s.vm.findClass own = some m.cls) (pre : List ExceptionTableEntry) (x : ExceptionTableEntry) (suf : List ExceptionTableEntry) (hsplit : c.exceptionTable.toList = pre ++ x :: suf)
    (hpass : ∀ z ∈ pre, covers z pc = false ∨ (z.catchType ≠ 0 ∧ ∃ nm : String, (Cond.classLink own z.catchType nm).before args s = true ∧ va_Nc E nm s)) (hx : covers x pc = true) (h0 : x.catchType ≠ 0)
    (hlink : (Cond.classLink own x.catchType name).before args s = true) (hcast : (Cond.castable E name).before args s = true) (hcell : H[q]? = some ce) (hv : ce.vm = .none) (hcl : s.vm.findClass E = some ce.cls)
    (kk : W p l e R s m args below meth c H locs cells slots Q (F0 m x.handlerPc ls [.ref q])) : vx_W p l e R s m args below meth c H locs cells slots Q (F0 m pc ls rest) q := by
  intro T hT X
  have hpl : e.platform.magicAccessors = ({} : Platform).magicAccessors := by rw [X.admits.platform]
  obtain ⟨c3, c4, hc3, hc4, hasg⟩ := Cond.castable_spec hcast
  cases Option.some.inj (hc3.symm.trans hcl)
  obtain ⟨c5, hc5, hcl5⟩ := Cond.classLink_spec hown hlink e.platform hpl
  cases Option.some.inj (hc4.symm.trans hc5)
  obtain ⟨vm', X', st⟩ := X.thenCaughtThrough q (g := F0 m pc ls rest) rfl (Steps.refl _) (by rw [hT]; exact hcell) (by rw [hv]; rfl) (by obtain ⟨k9, h9, -⟩ := Vm.findClass_spec hcl; exact ⟨k9, h9⟩) pre x suf hsplit
    (fun z hz => by
      rcases hpass z hz with h | ⟨hz0, nm, hl1, hn1⟩
      · exact Or.inl h
      · obtain ⟨c6, hc6, hcl6⟩ := Cond.classLink_spec hown hl1 e.platform hpl
        obtain ⟨a8, b8, h1, h2, h3⟩ := hn1
        cases Option.some.inj (h1.symm.trans hcl)
        cases Option.some.inj (h2.symm.trans hc6)
        exact Or.inr ⟨hz0, _, hcl6, h3⟩) hx (Or.inr ⟨h0, c4, hcl5, hasg⟩)
  obtain ⟨t, a1, b1⟩ := kk (T.setVm vm') hT X'
  exact ⟨t, st.trans a1, b1⟩
end Rows
section Ends
variable {p : Program} {l : Launch} {e : Env} {R : Room} {s : State} {m : MethodId} {args : Array Value} {below : List Frame} {meth : Method} {c : Code} {H : Heap} {locs : List Loc} {cells slots : Nat} {Q : State → Prop}
variable {mc ms : Nat} {free : Addr → Prop} {A0 A1 : Nat → Prop} {H0 : Heap} {a : Array Value} {ls : Array Slot} {st0 rest : List Value}
variable {Qc : Array Value → State → Outcome → State → Prop} {XC : String → State → State → Prop}
/-- what a body that may throw owes at its end -/
def vx_MQ (below : List Frame) (Qc : Array Value → State → Outcome → State → Prop) (XC : String → State → State → Prop) (a : Array Value) (s : State) (mc ms : Nat) (free : Addr → Prop) : State → Prop := fun t =>
  ∃ o, t.status = .running ∧ Ended t below o ∧ vx_Q Qc XC mc ms free a s o t
theorem vx_ret {g : JFrame} {mc ms : Nat} (k : W p l e R s m args below meth c H locs cells slots (MQ below Qc args s mc ms free) g) : W p l e R s m args below meth c H locs cells slots (vx_MQ below Qc XC args s mc ms free) g := by
  intro T hT X
  obtain ⟨t, a1, o, b1, b2, b3, b4⟩ := k T hT X
  exact ⟨t, a1, o, b1, b2, Or.inl ⟨b3, b4⟩⟩
/-- not caught here: it goes on to the caller -/
theorem vx_widen {g : JFrame} {q : Addr} {k n : Nat} (h1 : cells ≤ k) (h2 : slots ≤ n) (kk : vx_W p l e R s m args below meth c H locs k n Q g q) : vx_W p l e R s m args below meth c H locs cells slots Q g q := fun T hT X => kk T hT (stand_widen X h1 h2)
theorem vx_out {pc : Nat} {E : String} {ce : Cell} {q : Addr} {mc ms : Nat} (hout : ∀ x ∈ c.exceptionTable.toList, covers x pc = false) (hlocks : meth.locks = false) (hcell : H[q]? = some ce) (hv : ce.vm = .none) (hcl : s.vm.findClass E = some ce.cls)
    (hx : ∀ t : State, t.heap = H → s.vm.Alike t.vm → XC E s t) (hf : ∀ z ∈ locs, free z.base) (hc : cells ≤ mc) (hs : slots ≤ ms) :
    vx_W p l e R s m args below meth c H locs cells slots (vx_MQ below Qc XC args s mc ms free) (F0 m pc ls rest) q := by
  intro T hT X
  obtain ⟨st1, hrun, hend, hW, hsm⟩ := X.leaveThrown q (g := F0 m pc ls rest) rfl rfl rfl hout hlocks
  have hcell9 : (T.setFrames (.throwing q :: below)).heap[q]? = some ce := by
    show T.heap[q]? = some ce
    rw [hT]; exact hcell
  exact ⟨_, st1, .threw q, hrun, hend, Or.inr ⟨q, rfl, E, ce, locs, hx _ hT hW.alike, hcell9, hv, hcl, hW, hsm.mono hc hs, hf⟩⟩
theorem vx_frame {U : State} {k n : Nat} (h : s.sameButNew ({ U with vm := s.vm } : State) locs k n) : s.heap.size ≤ U.heap.size ∧ ∀ q : Nat, q < s.heap.size → (∀ z ∈ locs, z.base ≠ q) → U.heap[q]? = s.heap[q]? := by
  obtain ⟨-, h2, -, -, -, h6⟩ := h
  refine ⟨h2, fun q hq hz => ?_⟩
  obtain ⟨c9, e1, e2, e3, e4⟩ := h6 q _ (Array.getElem?_eq_getElem hq)
  have hs : c9.slots = (s.heap[q]).slots := Array.ext_getElem? fun i => e4 i fun hm => hz _ hm rfl
  have h9 : c9 = s.heap[q] := by
    rw [hs] at e2
    exact e2
  have e5 : U.heap[q]? = some c9 := e1
  rw [e5, h9, Array.getElem?_eq_getElem hq]
/-- the words of a throw but the four that speak of the heap -/
def vx_no (w : Cond) : Bool := decide (w ≠ .isRef (.static Bundle.tN "UNASSIGNED_STACK" Bundle.steD)) && decide (w ≠ .isRef (.static Bundle.tN "SUPPRESSED_SENTINEL" Bundle.listD)) && decide (w ≠ .laysStatic Bundle.tN "UNASSIGNED_STACK" Bundle.steD) && decide (w ≠ .laysStatic Bundle.tN "SUPPRESSED_SENTINEL" Bundle.listD)
def vx_at0 (own : String) (ic : Nat) (X : String) (names : List String) : List Cond := (Bundle.ownAtoms0 own ic X names).filter vx_no
def vx_atS (own : String) (ic : Nat) (X : String) (names : List String) : List Cond := (Bundle.ownAtoms own ic X names).filter vx_no
/-- a word that the tables alone decide, or a good one -/
def vx_ot (w : Cond) : Bool := w.onTables || goodWord w
theorem vx_ot_at {args a' : Array Value} {s U : State} {w : Cond} (hW : s.WarmedH U.vm) (hvm : s.vm = U.vm) (hg : vx_ot w = true) (h : w.before args s = true) : w.before a' U = true := by
  simp only [vx_ot, Bool.or_eq_true] at hg
  rcases hg with hg | hg
  · exact va_tabs hg hvm h
  · exact word_at hW (good_of_word hg) h
/-- a list's words: the good ones out of the method's own list, the others by premises of their own -/
theorem vx_hat {args : Array Value} {s : State} {L B : List Cond} (h1 : ∀ w ∈ L.filter goodWord, w.before args s = true) (h2 : ∀ w ∈ L.filter (fun w => !goodWord w), w ∈ B) (h3 : ∀ w ∈ B, w.before args s = true) : ∀ w ∈ L, w.before args s = true := by
  intro w hw
  by_cases g : goodWord w = true
  · exact h1 w (List.mem_filter.mpr ⟨hw, g⟩)
  · refine h3 w (h2 w (List.mem_filter.mpr ⟨hw, ?_⟩))
    show (!goodWord w) = true
    cases hgw : goodWord w
    · rfl
    · exact absurd hgw g
theorem vx_c {args : Array Value} {s : State} {w : Cond} {B : List Cond} (h : w.before args s = true) (t : ∀ w ∈ B, w.before args s = true) : ∀ w' ∈ w :: B, w'.before args s = true := fun w' h' => (List.mem_cons.mp h').elim (fun e => by rw [e]; exact h) (t w')
theorem vx_n {args : Array Value} {s : State} : ∀ w ∈ ([] : List Cond), w.before args s = true := fun _ h => nomatch h
theorem vx_own {args : Array Value} {s : State} {L : List Cond} (h1 : ∀ w ∈ L.filter vx_no, w.before args s = true)
    (hU : (Cond.isRef (.static Bundle.tN "UNASSIGNED_STACK" Bundle.steD)).before args s = true) (hN : (Cond.isRef (.static Bundle.tN "SUPPRESSED_SENTINEL" Bundle.listD)).before args s = true)
    (lU : (Cond.laysStatic Bundle.tN "UNASSIGNED_STACK" Bundle.steD).before args s = true) (lN : (Cond.laysStatic Bundle.tN "SUPPRESSED_SENTINEL" Bundle.listD).before args s = true) : ∀ w ∈ L, w.before args s = true := by
  intro w hw
  by_cases e1 : w = .isRef (.static Bundle.tN "UNASSIGNED_STACK" Bundle.steD)
  · rw [e1]; exact hU
  · by_cases e2 : w = .isRef (.static Bundle.tN "SUPPRESSED_SENTINEL" Bundle.listD)
    · rw [e2]; exact hN
    · by_cases e3 : w = .laysStatic Bundle.tN "UNASSIGNED_STACK" Bundle.steD
      · rw [e3]; exact lU
      · by_cases e4 : w = .laysStatic Bundle.tN "SUPPRESSED_SENTINEL" Bundle.listD
        · rw [e4]; exact lN
        · exact h1 w (List.mem_filter.mpr ⟨hw, by unfold vx_no; rw [decide_eq_true e1, decide_eq_true e2, decide_eq_true e3, decide_eq_true e4]; rfl⟩)
/-- where a static field lies, its class's statics cell in H -/
def vx_L (C n d : String) (A : Nat → Prop) (U : State) (H : Heap) : Prop := ∃ (c : ClassId) (k : Class) (i : Nat) (f : Field) (a : Nat) (cell : Cell), U.vm.findClass C = some c ∧ U.fieldFound? C n d = some (c, k, i, f) ∧ f.isStatic = true ∧ k.statics = some a ∧ H[a]? = some cell ∧ cell.vm.isStatics = true ∧ cell.cls = c ∧ f.slot < cell.slots.size ∧ k.staticTypes[f.slot]? = some f.type ∧ ¬ A a
theorem vx_L.moved {C n d : String} {A : Nat → Prop} {u U : State} {H : Heap} (hvm : u.vm.Alike U.vm) (h : vx_L C n d A u H) : vx_L C n d A U H := by
  obtain ⟨c, k, i, f, a, cell, h1, h2, h3, h4, h5, h6, h7, h8, h9, h10⟩ := h
  obtain ⟨k', hi', he⟩ := State.fieldFound?_setVm hvm h2
  exact ⟨c, k', i, f, a, cell, by rw [hvm.findClass]; exact h1, hi', h3, by rw [he]; exact h4, h5, h6, h7, h8, by rw [he]; exact h9, h10⟩
theorem vx_L.kept {C n d : String} {A : Nat → Prop} {U : State} {H H1 : Heap} (h : vx_L C n d A U H) (hq : ∀ a : Nat, a < H.size → ¬ A a → H1[a]? = H[a]?) : vx_L C n d A U H1 := by
  obtain ⟨c, k, i, f, a, cell, h1, h2, h3, h4, h5, h6, h7, h8, h9, h10⟩ := h
  exact ⟨c, k, i, f, a, cell, h1, h2, h3, h4, by rw [hq a (Array.getElem?_eq_some_iff.mp h5).1 h10]; exact h5, h6, h7, h8, h9, h10⟩
theorem vx_L.narrow {C n d : String} {A B : Nat → Prop} {U : State} {H : Heap} (h : vx_L C n d A U H) (hAB : ∀ q, B q → A q) : vx_L C n d B U H := by
  obtain ⟨c, k, i, f, a, cell, h1, h2, h3, h4, h5, h6, h7, h8, h9, h10⟩ := h
  exact ⟨c, k, i, f, a, cell, h1, h2, h3, h4, h5, h6, h7, h8, h9, fun z => h10 (hAB _ z)⟩
theorem vx_L.word {C n d : String} {A : Nat → Prop} {s : State} {args : Array Value} (h : vx_L C n d A s s.heap) : (Cond.laysStatic C n d).before args s = true := by
  obtain ⟨c, k, i, f, a, cell, h1, h2, h3, h4, h5, h6, h7, h8, h9, -⟩ := h
  show (Cond.laysStatic C n d).holds args s none s [] = true
  exact Cond.laysStatic_of h1 h2 h3 h4 h5 h6 h7 h8 h9
/-- .. and what it holds: null or some reference -/
def vx_Zq (C n d : String) (A : Nat → Prop) (U : State) (H : Heap) : Prop := va_Zq C n d A U H ∧ vx_L C n d A U H
theorem vx_Zq.moved {C n d : String} {A : Nat → Prop} {u U : State} {H : Heap} (hvm : u.vm.Alike U.vm) (h : vx_Zq C n d A u H) : vx_Zq C n d A U H := ⟨va_Zq.moved hvm h.1, vx_L.moved hvm h.2⟩
theorem vx_Zq.kept {C n d : String} {A : Nat → Prop} {U : State} {H H1 : Heap} (h : vx_Zq C n d A U H) (hq : ∀ a : Nat, a < H.size → ¬ A a → H1[a]? = H[a]?) : vx_Zq C n d A U H1 := ⟨va_Zq.kept h.1 hq, vx_L.kept h.2 hq⟩
theorem vx_Zq.narrow {C n d : String} {A B : Nat → Prop} {U : State} {H : Heap} (h : vx_Zq C n d A U H) (hAB : ∀ q, B q → A q) : vx_Zq C n d B U H := ⟨va_Zq.narrow h.1 hAB, vx_L.narrow h.2 hAB⟩
theorem vx_Zqof {args : Array Value} {s : State} {C n d : String} {A : Nat → Prop} (hl : (Cond.laysStatic C n d).before args s = true) (hini : (Cond.initialized C).before args s = true) (h : (Cond.isRef (.static C n d)).before args s = true) (hA : ∀ a : Nat, a < s.heap.size → ¬ A a) : vx_Zq C n d A s s.heap := by
  refine ⟨va_Zqof hl hini h hA, ?_⟩
  obtain ⟨c, k, i, f, a, cell, h1, h2, h3, h4, h5, h6, h7, h8, h9⟩ := Cond.laysStatic_spec hl
  exact ⟨c, k, i, f, a, cell, h1, h2, h3, h4, h5, h6, h7, h8, h9, hA a (Array.getElem?_eq_some_iff.mp h5).1⟩
theorem vx_isRef {C n d : String} {v : Value} {A : Nat → Prop} {s : State} {args : Array Value} (h : va_Z C n d v A s s.heap) (hv : v.isRef = true) : (Cond.isRef (.static C n d)).before args s = true := by
  obtain ⟨cf, kf, fi, f, a, cell, h1, h2, h3, h4, h5, h6, h7, -⟩ := h
  have he : (Term.static C n d).eval args s none [] s = some v := by
    simp [Term.eval, State.fieldNamed?, h1, h2, h4, h5, h6, h7]
  simp only [Cond.before, Cond.holds, Cond.value, he]
  cases v <;> simp_all [Value.isRef]
theorem vx_isRefq {C n d : String} {A : Nat → Prop} {s : State} {args : Array Value} (h : va_Zq C n d A s s.heap) : (Cond.isRef (.static C n d)).before args s = true := by
  rcases h with h | ⟨t, h⟩
  · exact vx_isRef h rfl
  · exact vx_isRef h rfl
/-- the same frame, seen from here: as if the method were called anew in this heap -/
theorem vx_rebase {T : State} (X : Stand p l e R s m args below meth c T locs cells slots) {R' : Room} (hf : R'.frames ≤ R.frames) (hl : R'.locals ≤ R.locals) (hc : cells + R'.cells ≤ R.cells) (hs : slots + R'.slots ≤ R.slots) :
    Stand p l e R' ((T.setVm s.vm).setFrames (.invoking m args :: below)) m args below meth c T [] 0 0 := by
  have htop : (T.setVm s.vm).topJava?.isSome := X.here.top
  have hF : ((T.setVm s.vm).setFrames (.invoking m args :: below)).frames = .invoking m args :: below := State.frames_setFrames _ (State.cur_lt_of_top htop)
  obtain ⟨g₀, hg0⟩ := Option.isSome_iff_exists.mp htop
  obtain ⟨r, hr⟩ := State.topJava?_eq_some.mp hg0
  have hl9 : e.platform.stackLimits (T.setVm s.vm).me = e.platform.stackLimits s.me := X.limits
  have hb9 : (T.setVm s.vm).me.stackBytes = s.me.stackBytes := X.bytes
  refine ⟨X.admits, X.cas, X.clock, hF, ?_, X.hears, X.method, X.code, X.here, X.tail, X.warmed, ?_, ?_, ?_⟩
  · have h := X.room
    have hU : ((T.setVm s.vm).setFrames (.invoking m args :: below)).localsInUse = s.localsInUse := by
      rw [State.localsInUse_invoking hF (meth := meth) (c := c) X.method X.code, State.localsInUse_invoking X.frames X.method X.code]
    simp only [State.hasRoom, Bool.and_eq_true, decide_eq_true_eq] at h ⊢
    obtain ⟨⟨⟨⟨h1, h2, h3, h4, h5, h6⟩, h7⟩, h8⟩, h9⟩ := h
    rw [X.frames, List.length_cons] at h2 h3
    have q1 := X.heapSize
    have q2 := X.used
    simp only [hF, hU, List.length_cons, State.stackLimits_setFrames, State.stackBytes_setFrames, hl9, hb9]
    refine ⟨⟨⟨⟨by omega, by omega, by omega, by omega, by omega, h6⟩, ?_⟩, ?_⟩, X.book⟩
    · show T.heap.size + R'.cells ≤ e.platform.maxCells
      omega
    · show T.slotsUsed + R'.slots ≤ e.platform.maxSlots
      omega
  · rw [State.stackLimits_setFrames]; rfl
  · rw [State.stackBytes_setFrames]; rfl
  · refine ⟨?_, Nat.le_refl _, Nat.le_refl _, ?_, ?_, fun a c9 h9 => ⟨c9, h9, rfl, rfl, fun _ _ => rfl⟩⟩
    · obtain ⟨t, ht, -⟩ := State.frames_cons hr
      show T.setVm s.vm = { ((T.setVm s.vm).setFrames (.invoking m args :: below)).setFrames (T.setVm s.vm).frames with heap := T.heap, slotsUsed := T.slotsUsed }
      rw [State.setFrames_setFrames, State.setFrames_self ht]
      rfl
    · show T.slotsUsed = T.slotsUsed + ((T.heap.toList.drop T.heap.size).map (·.slots.size)).sum
      rw [List.drop_eq_nil_of_le (Nat.le_of_eq Array.length_toList)]
      rfl
    · show ((T.heap.toList.drop T.heap.size).map (·.slots.size)).sum ≤ 0
      rw [List.drop_eq_nil_of_le (Nat.le_of_eq Array.length_toList)]
      exact Nat.le_refl _
/-- 'throw new E()': new; dup; invokespecial; athrow -/
theorem vx_throw0 {cc : ByteArray} {pc : Nat} (hexec : p.tables.exec = Jvm.exec) (hb : c.code = cc) (hl : l.stackTraces = false) {own cls : String} {names : List String} {ik ic mc ms : Nat} {A : Nat → Prop}
    (hown : s.vm.findClass own = some m.cls) (hcls : Bundle.fit cls = true) (hnames : ∀ n ∈ names, Bundle.fit n = true)
    (hk : (Cond.classLink own ik cls).before args s = true) (hini : (Cond.initialized cls).before args s = true) (hat : ∀ w ∈ vx_at0 own ic cls names, w.before args s = true)
    (hgood : ∀ w ∈ Cond.classLink own ik cls :: Cond.initialized cls :: vx_at0 own ic cls names, vx_ot w = true)
    (hU : vx_Zq Bundle.tN "UNASSIGNED_STACK" Bundle.steD A s s.heap) (hN : vx_Zq Bundle.tN "SUPPRESSED_SENTINEL" Bundle.listD A s s.heap) (hS : va_S A s.heap H locs) (hsize : ls.size = c.maxLocals)
    (d0 : decode cc pc = .ok (.new ik, 3)) (d3 : decode cc (pc + 3) = .ok (.dup, 1)) (d4 : decode cc (pc + 4) = .ok (.invokespecial ic, 3)) (d7 : decode cc (pc + 7) = .ok (.athrow, 1))
    (hout : ∀ x ∈ c.exceptionTable.toList, covers x (pc + 7) = false)
    (hRframes : names.length + 3 < R.frames) (hRlocals : (rest.map fun v => v.category).sum + (13 * (names.length + 1) + 42) ≤ R.locals) (hRcells : cells + 1 ≤ R.cells) (hRslots : slots + 6 ≤ R.slots) (hlocks : meth.locks = false)
    (hx : ∀ t : State, s.vm.Alike t.vm → H.size ≤ t.heap.size → (∀ q : Nat, q < H.size → t.heap[q]? = H[q]?) → XC cls s t)
    (hf : ∀ z ∈ locs, free z.base) (hc : cells + 1 ≤ mc) (hs : slots + 6 ≤ ms) :
    W p l e R s m args below meth c H locs cells slots (vx_MQ below Qc XC args s mc ms free) (F0 m pc ls rest) := by
  intro T hT X
  have htr : e.platform.stackTraces = false := (show e.platform.stackTraces = l.stackTraces by rw [X.admits.platform]).trans hl
  have Y := vx_rebase X (R' := { frames := R.frames, locals := R.locals, cells := 1, slots := 6 }) (Nat.le_refl _) (Nat.le_refl _) hRcells hRslots
  obtain ⟨s', hA⟩ : ∃ z, z = (T.setVm s.vm).setFrames (.invoking m args :: below) := ⟨_, rfl⟩
  rw [← hA] at Y
  have hvm : s'.vm = s.vm := by rw [hA]; rfl
  have hhp : s'.heap = H := by rw [hA]; exact hT
  have hW0 : s.WarmedH s'.vm := by rw [hvm]; exact State.WarmedH.refl s
  have hat' : ∀ w ∈ vx_at0 own ic cls names, w.before args s' = true := fun w hw => vx_ot_at hW0 hvm.symm (hgood w (List.mem_cons_of_mem _ (List.mem_cons_of_mem _ hw))) (hat w hw)
  have hk' : (Cond.classLink own ik cls).before args s' = true := vx_ot_at hW0 hvm.symm (hgood _ List.mem_cons_self) hk
  have hini' : (Cond.initialized cls).before args s' = true := vx_ot_at hW0 hvm.symm (hgood _ (List.mem_cons_of_mem _ List.mem_cons_self)) hini
  have hU' : vx_Zq Bundle.tN "UNASSIGNED_STACK" Bundle.steD A s' s'.heap := by rw [hhp]; exact vx_Zq.moved hW0.alike (hU.kept hS.2.1)
  have hN' : vx_Zq Bundle.tN "SUPPRESSED_SENTINEL" Bundle.listD A s' s'.heap := by rw [hhp]; exact vx_Zq.moved hW0.alike (hN.kept hS.2.1)
  have h : ∀ w ∈ Bundle.ownAtoms0 own ic cls names, w.before args s' = true := vx_own hat' (vx_isRefq hU'.1) (vx_isRefq hN'.1) hU'.2.word hN'.2.word
  have hown' : s'.vm.findClass own = some m.cls := by rw [hvm]; exact hown
  have hins : (Cond.instantiable cls 6).before args s' = true := h _ (by simp [Bundle.ownAtoms0])
  obtain ⟨vm₁, cX, kX, hfX, hkX, -, -, X₁, st1⟩ := Y.newCold hexec (own := own) (C := cls) (index := ik) (n := 6) hown' hk' hins hini'
    (g := F0 m pc ls rest) rfl (by rw [hb]; exact d0) (Nat.le_refl _) (Nat.le_refl _)
  generalize hT1 : (T.setVm vm₁).pushCell { cls := cX, slots := kX.instanceTypes.map defaultValue, vm := .none } = T1 at X₁ st1
  have hcat : (Value.ref T.heap.size).category = 1 := rfl
  have hcellA : T1.heap[T.heap.size]? = some (freshCell cX kX) := by rw [← hT1]; exact State.heap_pushCell_size _ _
  have d3' : decode c.code (pc + 3) = .ok (.dup, 1) := by rw [hb]; exact d3
  obtain ⟨U, hsteps, hrun, hend, hW, hsame, ce, hce, hO⟩ := X₁.ctorThrow0 hexec htr (own := own) (cls := cls) (names := names) (ic := ic) hown' hcls hnames h (fun x hx => nomatch hx) hfX hkX hcellA (by rw [hhp, hT]; exact Nat.le_refl _)
    (g := { method := m, pc := pc + 4, locals := ls, stack := .ref T.heap.size :: .ref T.heap.size :: rest, locked := none }) rfl hsize rfl rfl (rest := rest) rfl
    (by rw [hb]; exact d4) (by rw [hb]; exact d7) hout hRframes (by simp only [List.map_cons, List.sum_cons, hcat]; omega) hlocks
  obtain ⟨f1, f2⟩ := vx_frame hsame
  rw [hhp] at f1 f2
  have hWs : s.WarmedH U.vm := State.WarmedH.trans hW0 hW
  have hcl : s.vm.findClass cls = some ce.cls := by
    have h9 := hO.cls
    rw [hvm] at h9
    exact h9
  have hall : s.sameButNew ({ U with vm := s.vm } : State) locs mc ms := by
    subst hA
    obtain ⟨e1, e2⟩ := hsame
    rw [State.setFrames_setFrames] at e1
    have h2 : (T.setVm s.vm).sameButNew ({ U with vm := s.vm } : State) [] (0 + 1) (0 + 6) := ⟨e1, e2⟩
    have h3 := X.same.trans h2
    rw [List.append_nil] at h3
    exact h3.mono hc hs
  refine ⟨U, ?_, .threw T.heap.size, hrun, hend, Or.inr ⟨T.heap.size, rfl, cls, ce, locs, hx U hWs.alike f1 (fun q hq => f2 q hq (fun z hz => nomatch hz)), hce, hO.vm, hcl, hWs, hall, hf⟩⟩
  refine st1 _ ?_
  show Steps p.tables e below (T1.setTop { method := m, pc := pc + 3, locals := ls, stack := .ref T.heap.size :: rest, locked := none }) _
  jvm_step X₁.here [X₁.here.top, hexec, d3', Value.category]
  exact hsteps
/-- 'throw new E("text")': new; dup; ldc; invokespecial; athrow -/
theorem vx_throwS {cc : ByteArray} {pc : Nat} (hexec : p.tables.exec = Jvm.exec) (hb : c.code = cc) (hl : l.stackTraces = false) {own cls text : String} {names : List String} {ik is ic mc ms sa : Nat} {A : Nat → Prop}
    (hown : s.vm.findClass own = some m.cls) (hcls : Bundle.fit cls = true) (hnames : ∀ n ∈ names, Bundle.fit n = true)
    (hk : (Cond.classLink own ik cls).before args s = true) (hini : (Cond.initialized cls).before args s = true) (hstr : vk_R own is text sa s) (hat : ∀ w ∈ vx_atS own ic cls names, w.before args s = true)
    (hgood : ∀ w ∈ Cond.classLink own ik cls :: Cond.initialized cls :: vx_atS own ic cls names, vx_ot w = true)
    (hU : vx_Zq Bundle.tN "UNASSIGNED_STACK" Bundle.steD A s s.heap) (hN : vx_Zq Bundle.tN "SUPPRESSED_SENTINEL" Bundle.listD A s s.heap) (hS : va_S A s.heap H locs) (hsize : ls.size = c.maxLocals)
    (d0 : decode cc pc = .ok (.new ik, 3)) (d3 : decode cc (pc + 3) = .ok (.dup, 1)) (d4 : decode cc (pc + 4) = .ok (.ldc is, 2)) (d6 : decode cc (pc + 6) = .ok (.invokespecial ic, 3)) (d9 : decode cc (pc + 9) = .ok (.athrow, 1))
    (hout : ∀ x ∈ c.exceptionTable.toList, covers x (pc + 9) = false)
    (hRframes : names.length + 3 < R.frames) (hRlocals : (rest.map fun v => v.category).sum + (13 * (names.length + 1) + 43) ≤ R.locals) (hRcells : cells + 1 ≤ R.cells) (hRslots : slots + 6 ≤ R.slots) (hlocks : meth.locks = false)
    (hx : ∀ t : State, s.vm.Alike t.vm → H.size ≤ t.heap.size → (∀ q : Nat, q < H.size → t.heap[q]? = H[q]?) → XC cls s t)
    (hf : ∀ z ∈ locs, free z.base) (hc : cells + 1 ≤ mc) (hs : slots + 6 ≤ ms) :
    W p l e R s m args below meth c H locs cells slots (vx_MQ below Qc XC args s mc ms free) (F0 m pc ls rest) := by
  intro T hT X
  have htr : e.platform.stackTraces = false := (show e.platform.stackTraces = l.stackTraces by rw [X.admits.platform]).trans hl
  have Y := vx_rebase X (R' := { frames := R.frames, locals := R.locals, cells := 1, slots := 6 }) (Nat.le_refl _) (Nat.le_refl _) hRcells hRslots
  obtain ⟨s', hA⟩ : ∃ z, z = (T.setVm s.vm).setFrames (.invoking m args :: below) := ⟨_, rfl⟩
  rw [← hA] at Y
  have hvm : s'.vm = s.vm := by rw [hA]; rfl
  have hhp : s'.heap = H := by rw [hA]; exact hT
  have hW0 : s.WarmedH s'.vm := by rw [hvm]; exact State.WarmedH.refl s
  have hat' : ∀ w ∈ vx_atS own ic cls names, w.before args s' = true := fun w hw => vx_ot_at hW0 hvm.symm (hgood w (List.mem_cons_of_mem _ (List.mem_cons_of_mem _ hw))) (hat w hw)
  have hk' : (Cond.classLink own ik cls).before args s' = true := vx_ot_at hW0 hvm.symm (hgood _ List.mem_cons_self) hk
  have hini' : (Cond.initialized cls).before args s' = true := vx_ot_at hW0 hvm.symm (hgood _ (List.mem_cons_of_mem _ List.mem_cons_self)) hini
  have hU' : vx_Zq Bundle.tN "UNASSIGNED_STACK" Bundle.steD A s' s'.heap := by rw [hhp]; exact vx_Zq.moved hW0.alike (hU.kept hS.2.1)
  have hN' : vx_Zq Bundle.tN "SUPPRESSED_SENTINEL" Bundle.listD A s' s'.heap := by rw [hhp]; exact vx_Zq.moved hW0.alike (hN.kept hS.2.1)
  have h : ∀ w ∈ Bundle.ownAtoms own ic cls names, w.before args s' = true := vx_own hat' (vx_isRefq hU'.1) (vx_isRefq hN'.1) hU'.2.word hN'.2.word
  have hown' : s'.vm.findClass own = some m.cls := by rw [hvm]; exact hown
  have hins : (Cond.instantiable cls 6).before args s' = true := h _ (by simp [Bundle.ownAtoms])
  obtain ⟨vm₁, cX, kX, hfX, hkX, -, -, X₁, st1⟩ := Y.newCold hexec (own := own) (C := cls) (index := ik) (n := 6) hown' hk' hins hini'
    (g := F0 m pc ls rest) rfl (by rw [hb]; exact d0) (Nat.le_refl _) (Nat.le_refl _)
  generalize hT1 : (T.setVm vm₁).pushCell { cls := cX, slots := kX.instanceTypes.map defaultValue, vm := .none } = T1 at X₁ st1
  have hcat : (Value.ref T.heap.size).category = 1 := rfl
  have hcellA : T1.heap[T.heap.size]? = some (freshCell cX kX) := by rw [← hT1]; exact State.heap_pushCell_size _ _
  have d3' : decode c.code (pc + 3) = .ok (.dup, 1) := by rw [hb]; exact d3
  have d4' : decode c.code (pc + 4) = .ok (.ldc is, 2) := by rw [hb]; exact d4
  have hstr' : vk_R own is text sa s' := vk_R.warm hW0 hstr
  obtain ⟨U, hsteps, hrun, hend, hW, hsame, ce, hce, hO⟩ := X₁.ctorThrowS hexec htr (own := own) (cls := cls) (names := names) (ic := ic) hown' hcls hnames h (fun x hx => nomatch hx) hfX hkX hcellA (by rw [hhp, hT]; exact Nat.le_refl _) (msg := .ref sa) rfl
    (g := { method := m, pc := pc + 6, locals := ls, stack := .ref sa :: .ref T.heap.size :: .ref T.heap.size :: rest, locked := none }) rfl hsize rfl rfl (rest := rest) rfl
    (by rw [hb]; exact d6) (by rw [hb]; exact d9) hout hRframes (by simp only [List.map_cons, List.sum_cons, hcat]; omega) hlocks
  obtain ⟨f1, f2⟩ := vx_frame hsame
  rw [hhp] at f1 f2
  have hWs : s.WarmedH U.vm := State.WarmedH.trans hW0 hW
  have hcl : s.vm.findClass cls = some ce.cls := by
    have h9 := hO.cls
    rw [hvm] at h9
    exact h9
  have hall : s.sameButNew ({ U with vm := s.vm } : State) locs mc ms := by
    subst hA
    obtain ⟨e1, e2⟩ := hsame
    rw [State.setFrames_setFrames] at e1
    have h2 : (T.setVm s.vm).sameButNew ({ U with vm := s.vm } : State) [] (0 + 1) (0 + 6) := ⟨e1, e2⟩
    have h3 := X.same.trans h2
    rw [List.append_nil] at h3
    exact h3.mono hc hs
  refine ⟨U, ?_, .threw T.heap.size, hrun, hend, Or.inr ⟨T.heap.size, rfl, cls, ce, locs, hx U hWs.alike f1 (fun q hq => f2 q hq (fun z hz => nomatch hz)), hce, hO.vm, hcl, hWs, hall, hf⟩⟩
  refine st1 _ ?_
  show Steps p.tables e below (T1.setTop { method := m, pc := pc + 3, locals := ls, stack := .ref T.heap.size :: rest, locked := none }) _
  jvm_step X₁.here [X₁.here.top, hexec, d3', Value.category]
  exact X₁.ldcString hexec (own := own) (text := text) (index := is) (a := sa) hown' hstr'.1 hstr'.2
    (g := { method := m, pc := pc + 4, locals := ls, stack := .ref T.heap.size :: .ref T.heap.size :: rest, locked := none }) rfl d4' _ hsteps
/-- 'throw new E("text")', the text by a wide index -/
theorem vx_throwSW {cc : ByteArray} {pc : Nat} (hexec : p.tables.exec = Jvm.exec) (hb : c.code = cc) (hl : l.stackTraces = false) {own cls text : String} {names : List String} {ik is ic mc ms sa : Nat} {A : Nat → Prop}
    (hown : s.vm.findClass own = some m.cls) (hcls : Bundle.fit cls = true) (hnames : ∀ n ∈ names, Bundle.fit n = true)
    (hk : (Cond.classLink own ik cls).before args s = true) (hini : (Cond.initialized cls).before args s = true) (hstr : vk_R own is text sa s) (hat : ∀ w ∈ vx_atS own ic cls names, w.before args s = true)
    (hgood : ∀ w ∈ Cond.classLink own ik cls :: Cond.initialized cls :: vx_atS own ic cls names, vx_ot w = true)
    (hU : vx_Zq Bundle.tN "UNASSIGNED_STACK" Bundle.steD A s s.heap) (hN : vx_Zq Bundle.tN "SUPPRESSED_SENTINEL" Bundle.listD A s s.heap) (hS : va_S A s.heap H locs) (hsize : ls.size = c.maxLocals)
    (d0 : decode cc pc = .ok (.new ik, 3)) (d3 : decode cc (pc + 3) = .ok (.dup, 1)) (d4 : decode cc (pc + 4) = .ok (.ldc_w is, 3)) (d7 : decode cc (pc + 7) = .ok (.invokespecial ic, 3)) (d10 : decode cc (pc + 10) = .ok (.athrow, 1))
    (hout : ∀ x ∈ c.exceptionTable.toList, covers x (pc + 10) = false)
    (hRframes : names.length + 3 < R.frames) (hRlocals : (rest.map fun v => v.category).sum + (13 * (names.length + 1) + 43) ≤ R.locals) (hRcells : cells + 1 ≤ R.cells) (hRslots : slots + 6 ≤ R.slots) (hlocks : meth.locks = false)
    (hx : ∀ t : State, s.vm.Alike t.vm → H.size ≤ t.heap.size → (∀ q : Nat, q < H.size → t.heap[q]? = H[q]?) → XC cls s t)
    (hf : ∀ z ∈ locs, free z.base) (hc : cells + 1 ≤ mc) (hs : slots + 6 ≤ ms) :
    W p l e R s m args below meth c H locs cells slots (vx_MQ below Qc XC args s mc ms free) (F0 m pc ls rest) := by
  intro T hT X
  have htr : e.platform.stackTraces = false := (show e.platform.stackTraces = l.stackTraces by rw [X.admits.platform]).trans hl
  have Y := vx_rebase X (R' := { frames := R.frames, locals := R.locals, cells := 1, slots := 6 }) (Nat.le_refl _) (Nat.le_refl _) hRcells hRslots
  obtain ⟨s', hA⟩ : ∃ z, z = (T.setVm s.vm).setFrames (.invoking m args :: below) := ⟨_, rfl⟩
  rw [← hA] at Y
  have hvm : s'.vm = s.vm := by rw [hA]; rfl
  have hhp : s'.heap = H := by rw [hA]; exact hT
  have hW0 : s.WarmedH s'.vm := by rw [hvm]; exact State.WarmedH.refl s
  have hat' : ∀ w ∈ vx_atS own ic cls names, w.before args s' = true := fun w hw => vx_ot_at hW0 hvm.symm (hgood w (List.mem_cons_of_mem _ (List.mem_cons_of_mem _ hw))) (hat w hw)
  have hk' : (Cond.classLink own ik cls).before args s' = true := vx_ot_at hW0 hvm.symm (hgood _ List.mem_cons_self) hk
  have hini' : (Cond.initialized cls).before args s' = true := vx_ot_at hW0 hvm.symm (hgood _ (List.mem_cons_of_mem _ List.mem_cons_self)) hini
  have hU' : vx_Zq Bundle.tN "UNASSIGNED_STACK" Bundle.steD A s' s'.heap := by rw [hhp]; exact vx_Zq.moved hW0.alike (hU.kept hS.2.1)
  have hN' : vx_Zq Bundle.tN "SUPPRESSED_SENTINEL" Bundle.listD A s' s'.heap := by rw [hhp]; exact vx_Zq.moved hW0.alike (hN.kept hS.2.1)
  have h : ∀ w ∈ Bundle.ownAtoms own ic cls names, w.before args s' = true := vx_own hat' (vx_isRefq hU'.1) (vx_isRefq hN'.1) hU'.2.word hN'.2.word
  have hown' : s'.vm.findClass own = some m.cls := by rw [hvm]; exact hown
  have hins : (Cond.instantiable cls 6).before args s' = true := h _ (by simp [Bundle.ownAtoms])
  obtain ⟨vm₁, cX, kX, hfX, hkX, -, -, X₁, st1⟩ := Y.newCold hexec (own := own) (C := cls) (index := ik) (n := 6) hown' hk' hins hini'
    (g := F0 m pc ls rest) rfl (by rw [hb]; exact d0) (Nat.le_refl _) (Nat.le_refl _)
  generalize hT1 : (T.setVm vm₁).pushCell { cls := cX, slots := kX.instanceTypes.map defaultValue, vm := .none } = T1 at X₁ st1
  have hcat : (Value.ref T.heap.size).category = 1 := rfl
  have hcellA : T1.heap[T.heap.size]? = some (freshCell cX kX) := by rw [← hT1]; exact State.heap_pushCell_size _ _
  have d3' : decode c.code (pc + 3) = .ok (.dup, 1) := by rw [hb]; exact d3
  have d4' : decode c.code (pc + 4) = .ok (.ldc_w is, 3) := by rw [hb]; exact d4
  have hstr' : vk_R own is text sa s' := vk_R.warm hW0 hstr
  obtain ⟨U, hsteps, hrun, hend, hW, hsame, ce, hce, hO⟩ := X₁.ctorThrowS hexec htr (own := own) (cls := cls) (names := names) (ic := ic) hown' hcls hnames h (fun x hx => nomatch hx) hfX hkX hcellA (by rw [hhp, hT]; exact Nat.le_refl _) (msg := .ref sa) rfl
    (g := { method := m, pc := pc + 7, locals := ls, stack := .ref sa :: .ref T.heap.size :: .ref T.heap.size :: rest, locked := none }) rfl hsize rfl rfl (rest := rest) rfl
    (by rw [hb]; exact d7) (by rw [hb]; exact d10) hout hRframes (by simp only [List.map_cons, List.sum_cons, hcat]; omega) hlocks
  obtain ⟨f1, f2⟩ := vx_frame hsame
  rw [hhp] at f1 f2
  have hWs : s.WarmedH U.vm := State.WarmedH.trans hW0 hW
  have hcl : s.vm.findClass cls = some ce.cls := by
    have h9 := hO.cls
    rw [hvm] at h9
    exact h9
  have hall : s.sameButNew ({ U with vm := s.vm } : State) locs mc ms := by
    subst hA
    obtain ⟨e1, e2⟩ := hsame
    rw [State.setFrames_setFrames] at e1
    have h2 : (T.setVm s.vm).sameButNew ({ U with vm := s.vm } : State) [] (0 + 1) (0 + 6) := ⟨e1, e2⟩
    have h3 := X.same.trans h2
    rw [List.append_nil] at h3
    exact h3.mono hc hs
  refine ⟨U, ?_, .threw T.heap.size, hrun, hend, Or.inr ⟨T.heap.size, rfl, cls, ce, locs, hx U hWs.alike f1 (fun q hq => f2 q hq (fun z hz => nomatch hz)), hce, hO.vm, hcl, hWs, hall, hf⟩⟩
  refine st1 _ ?_
  show Steps p.tables e below (T1.setTop { method := m, pc := pc + 3, locals := ls, stack := .ref T.heap.size :: rest, locked := none }) _
  jvm_step X₁.here [X₁.here.top, hexec, d3', Value.category]
  exact X₁.ldcStringW hexec (own := own) (text := text) (index := is) (a := sa) hown' hstr'.1 hstr'.2
    (g := { method := m, pc := pc + 4, locals := ls, stack := .ref T.heap.size :: .ref T.heap.size :: rest, locked := none }) rfl d4' _ hsteps
end Ends
section Bodies
variable {l : Launch}
theorem vx_ofW {y : MethodName} {ws ws' : List Cond} {rm : Room} {Pc : Array Value → State → Prop} {Qc : Array Value → State → Outcome → State → Prop} {XC : String → State → State → Prop} {mc ms : Nat} {free : Addr → Prop} {cc : ByteArray} {maxL : Nat} {ret : Option FieldType}
    (hy : plainName y.cls = true) (hw : ws = Cond.code y cc maxL ret :: ws')
    (body : ∀ p e s m args below meth c s₁, BodyLoose p l y (headSpec ws rm) cc maxL ret e s m args below meth c s₁ → c.maxLocals = maxL → (∀ x ∈ c.exceptionTable.toList, False) → Pc args s →
      W p l e (headSpec ws rm).room s m args below meth c s.heap [] 0 0 (vx_MQ below Qc XC args s mc ms free) (entryFrame m args maxL)) : vx_Met l y ws rm Pc Qc XC mc ms free := by
  refine MetFree.of_bodyS (code := cc) (maxLocals := maxL) (ret := ret) hy ?_ ?_
  · intro args s m h hn
    obtain ⟨meth, c, h1, h2, h3, h4, h5, h6, -, -⟩ := Cond.code_spec hn (atoms_spec (ws := ws) h _ (by rw [hw]; exact List.mem_cons_self))
    exact ⟨meth, c, h1, h2, h3, h4, h5, h6⟩
  · intro p e s m args below meth c s₁ B hml hP _
    have hh0 : s₁.heap = s.heap := by rw [B.state]; rfl
    have ht : ∀ x ∈ c.exceptionTable.toList, False := by
      obtain ⟨meth9, c9, h1, h2, -, -, -, -, h7, -⟩ := Cond.code_spec B.named (atoms_spec (ws := ws) B.pre _ (by rw [hw]; exact List.mem_cons_self))
      cases Option.some.inj (h1.symm.trans B.method)
      cases Option.some.inj (h2.symm.trans (Stand.of_body B).code)
      intro x hx
      rw [Array.isEmpty_iff.mp h7] at hx
      cases hx
    obtain ⟨t, a1, o, b1, b2, b3⟩ := body p e s m args below meth c s₁ B hml ht hP s₁ hh0 (Stand.of_body B)
    exact ⟨t, o, a1, b1, b2, b3⟩
/-- the table of a body with handlers -/
theorem vx_table {p : Program} {x y : MethodName} {S : Spec} {cc bytes : ByteArray} {maxL maxL' : Nat} {ret ret' : Option FieldType} {e : Env} {s s₁ : State} {m : MethodId} {args : Array Value} {below : List Frame} {meth : Method} {c : Code} {hh : List (Nat × Nat × Nat × Nat)}
    (B : BodyLoose p l y S cc maxL ret e s m args below meth c s₁) (h : (Cond.codeWith y bytes maxL' ret' hh).before args s = true) : c.exceptionTable.toList = tableOf hh := by
  obtain ⟨m9, meth9, c9, hn9, h1, h2, -, -, h6, -⟩ := Cond.codeWith_spec h
  cases Option.some.inj (hn9.symm.trans B.named)
  cases Option.some.inj (h1.symm.trans B.method)
  cases Option.some.inj (h2.symm.trans (Stand.of_body B).code)
  rw [← h6, table_eq]
end Bodies
end VXA
/-! ===== END ===== -/
/-! ===== BEGIN a static call of a method with an exception table ===== -/
section VXS
variable {p : Program} {l : Launch} {e : Env} {R : Room} {s : State} {m : MethodId} {args : Array Value} {below : List Frame} {meth : Method} {c : Code} {T : State} {H : Heap} {locs : List Loc} {cells slots : Nat}
abbrev vx_CSW (R : Room) (s : State) (args : Array Value) (own : String) (index : Nat) (y : MethodName) (bytes : ByteArray) (maxL : Nat) (ret : Option FieldType) (hh : List (Nat × Nat × Nat × Nat)) (ws : List Cond) (rm : Room) (mc ms n : Nat) : Prop :=
  (rm.cells = mc ∧ rm.slots = ms ∧ rm.frames + 1 ≤ R.frames ∧ 8 + (maxL + 11) + rm.locals ≤ R.locals ∧ (∀ w ∈ ws, ∀ (a' : Array Value) (U : State), s.WarmedH U.vm → w.before a' U = true) ∧ Cond.codeWith y bytes maxL ret hh ∈ ws) ∧
  (Cond.codeWith y bytes maxL ret hh).before args s = true ∧ (Cond.initialized y.cls).before args s = true ∧ (y.cls ≠ "java/lang/invoke/MethodHandle" ∧ y.cls ≠ "java/lang/invoke/VarHandle") ∧
  (∀ sig, parseMethodDescriptor y.desc = some sig → n = sig.parameters.length) ∧ (Cond.methodLink own index y).before args s = true ∧ (Cond.static y).before args s = true
theorem vx_cwSW {own : String} {index maxL mc ms : Nat} {y : MethodName} {bytes : ByteArray} {ret : Option FieldType} {hh : List (Nat × Nat × Nat × Nat)} {Ts ws ws' : List Cond} {rm : Room} (n : Nat) (ht : ∀ w ∈ Ts, w.before args s = true) (hT : GoodIn Ts (va_wsS own index y ws)) (hw : ws = Cond.codeWith y bytes maxL ret hh :: ws') (hrc : rm.cells = mc) (hrs : rm.slots = ms)
    (hd : y.cls ≠ "java/lang/invoke/MethodHandle" ∧ y.cls ≠ "java/lang/invoke/VarHandle" ∧ (parseMethodDescriptor y.desc).map (fun d => d.parameters.length) = some n) (hR : rm.frames + 1 ≤ R.frames ∧ 8 + (maxL + 11) + rm.locals ≤ R.locals) :
    vx_CSW R s args own index y bytes maxL ret hh ws rm mc ms n := by
  have ok : ∀ w ∈ va_wsS own index y ws, w.before args s = true := fun w h => ht w (hT w h).1
  have hG : GoodIn Ts ws := fun w h => hT w (by unfold va_wsS; exact List.mem_append_right _ h)
  have hc : Cond.codeWith y bytes maxL ret hh ∈ ws := by rw [hw]; exact List.mem_cons_self
  refine ⟨⟨hrc, hrs, hR.1, hR.2, pay_in ht hG, hc⟩, ht _ (hG _ hc).1, ok _ (by simp [va_wsS]), ⟨hd.1, hd.2.1⟩, fun sig h => ?_, ok _ (by simp [va_wsS]), ok _ (by simp [va_wsS])⟩
  have h2 := hd.2.2
  rw [h] at h2
  exact (Option.some.inj h2).symm
theorem vx_callSW (X : Stand p l e R s m args below meth c T locs cells slots) (hexec : p.tables.exec = Jvm.exec) {own : String} {index : Nat} {y : MethodName} {bytes : ByteArray} {maxL : Nat} {ret : Option FieldType} {hh : List (Nat × Nat × Nat × Nat)}
    (hown : s.vm.findClass own = some m.cls) (hlink : (Cond.methodLink own index y).before args s = true) (hstat : (Cond.static y).before args s = true) (hinit : (Cond.initialized y.cls).before args s = true)
    (hcode : (Cond.codeWith y bytes maxL ret hh).before args s = true) (hy : y.cls ≠ "java/lang/invoke/MethodHandle" ∧ y.cls ≠ "java/lang/invoke/VarHandle")
    {W9 : Nat} {Pre : Pt → Array Value → Prop} {Post : Pt → Array Value → Option Value → Pt → Prop} (hK : Back l R p e below s args y 3 W9 Pre Post)
    {g : JFrame} (hg : g.method = m) (hsize : g.locals.size = c.maxLocals) {argsL rest : List Value} (hlen : ∀ sig, parseMethodDescriptor y.desc = some sig → argsL.length = sig.parameters.length)
    (hstack : g.stack = argsL.reverse ++ rest) (hW : 2 * g.monitorRoom + (rest.map fun v => v.category).sum ≤ W9) (hdg : decode c.code g.pc = .ok (.invokestatic index, 3))
    (hpre : ∀ vm₁, s.WarmedH vm₁ → Pre ⟨T.setVm vm₁, locs, cells, slots⟩ argsL.toArray) :
    ∃ (v : Option Value) (vm₁ : Vm) (B : Pt), s.WarmedH vm₁ ∧ Stand p l e R s m args below meth c B.U B.locs B.cells B.slots ∧ Post ⟨T.setVm vm₁, locs, cells, slots⟩ argsL.toArray v B ∧
      ∀ target, Steps p.tables e below (B.U.setTop { g with pc := g.pc + 3, stack := v.toList ++ rest }) target → Steps p.tables e below (T.setTop g) target := by
  obtain ⟨mk, methM, cM, hnamed, hmethM, -, -, -, -, -, -, hsigM⟩ := Cond.codeWith_spec hcode
  have hstatic : methM.isStatic = true := Cond.static_spec hnamed hmethM hstat
  obtain ⟨kP, hkP, -⟩ := className_of_methodNamed hnamed
  have hinitP : kP.init = .initialized := Cond.initialized_spec (findClass_of_methodNamed hnamed) hkP hinit
  obtain ⟨vm₁, X₁, hstep₁⟩ := X.invokestatic hexec hown hlink hnamed hmethM hstatic hkP hinitP hy (g := g) hg (argsL := argsL) (rest := rest) (hlen _ hsigM) hstack hdg
  obtain ⟨v, B, X', hpost, hsteps⟩ := hK m meth c ⟨T.setVm vm₁, locs, cells, slots⟩ { g with stack := rest } (.invokestatic index) mk argsL.toArray X₁ hg hsize hdg hW (X₁.named hnamed) (hpre vm₁ X₁.warmed)
  exact ⟨v, vm₁, B, X₁.warmed, X', hpost, fun target h => hstep₁ _ fun acts => by rw [doInvoke_state]; exact hsteps.trans h⟩
theorem vx_runSW {y : MethodName} {bytes cc : ByteArray} {maxL nL mc ms n index : Nat} {ret : Option FieldType} {hh : List (Nat × Nat × Nat × Nat)} {ws : List Cond} {rm : Room} {Pc : Array Value → State → Prop} {Qc : Array Value → State → Outcome → State → Prop} {free : Addr → Prop} {Ts : List Cond} {own : String} {As rest : List Value} {g : JFrame}
    (S : CallFix p m c cc nL s args Ts own) (hM : Met l y ws rm Pc Qc mc ms free) (cw : vx_CSW R s args own index y bytes maxL ret hh ws rm mc ms n) (hp : PreS s H Pc As)
    (hg : g.method = m) (hn : As.length = n) (hsize : g.locals.size = nL) (hstack : g.stack = As.reverse ++ rest) (hW : 2 * g.monitorRoom + (rest.map fun v => v.category).sum ≤ 8) (hdg : decode cc g.pc = .ok (.invokestatic index, 3)) (hf : cells + mc ≤ R.cells ∧ slots + ms ≤ R.slots) :
    va_Run p l e R s m args below meth c H locs cells slots mc ms g rest (Qc As.toArray) (free) := by
  obtain ⟨⟨hrc, hrs, hfr, hlo, hws, hcw⟩, hcode, hini, hy, hlen, hl, hstt⟩ := cw
  have hK : Back l R p e below s args y 3 8 (PreOf R mc ms Pc) (PostOf Qc mc ms free) := va_backW (hh := hh) (bytes := bytes) (maxL := maxL) (ret := ret) hM hp.1 hrc hrs hfr hlo hws hcw (fun a' U hW => word_at hW (Or.inl (by first | rfl | simp [Cond.onTables, Cond.keeps, Cond.steady])) hini)
  obtain ⟨hx, hb, hml, ho, -⟩ := S
  intro T hT X
  obtain ⟨v, vm₁, ⟨U', l2, c2, s2⟩, hW₁, X', ⟨g', mk, t, L, e1, e2, hq, h1, hL, h2, h3⟩, st⟩ := vx_callSW X hx (hh := hh) (bytes := bytes) (maxL := maxL) (ret := ret) ho hl hstt hini hcode hy hK hg (hsize.trans hml.symm) (argsL := As) (rest := rest) (fun sig h => hn.trans (hlen sig h)) hstack hW (by rw [hb]; exact hdg)
    (fun vm₁ hW₁ => ⟨hf.1, hf.2, hp.2 (T.setVm vm₁) hT hW₁⟩)
  dsimp only [Pt.U, Pt.locs, Pt.cells, Pt.slots] at X' e1 e2 h1 h2 h3 st
  subst h1; subst h2; subst h3
  exact ⟨v, (T.setVm vm₁).calling g' mk As.toArray, t, U', L, hT, X', hL, e1, e2, hq, st⟩
/-- not caught here, past rows that name other classes: it goes on to the caller -/
theorem vx_outP {p : Program} {l : Launch} {e : Env} {R : Room} {s : State} {m : MethodId} {args : Array Value} {below : List Frame} {meth : Method} {c : Code} {H : Heap} {locs : List Loc} {cells slots : Nat} {free : Addr → Prop} {ls : Array Slot} {rest : List Value} {Qc : Array Value → State → Outcome → State → Prop} {XC : String → State → State → Prop}
    {pc : Nat} {own E : String} {ce : Cell} {q : Addr} {mc ms : Nat} (hown : s.vm.findClass own = some m.cls) (hlocks : meth.locks = false)
    (hpass : ∀ z ∈ c.exceptionTable.toList, covers z pc = false ∨ (z.catchType ≠ 0 ∧ ∃ nm : String, (Cond.classLink own z.catchType nm).before args s = true ∧ va_Nc E nm s)) (hcell : H[q]? = some ce) (hv : ce.vm = .none) (hcl : s.vm.findClass E = some ce.cls)
    (hx : ∀ t : State, t.heap = H → s.vm.Alike t.vm → XC E s t) (hf : ∀ z ∈ locs, free z.base) (hc : cells ≤ mc) (hs : slots ≤ ms) :
    vx_W p l e R s m args below meth c H locs cells slots (vx_MQ below Qc XC args s mc ms free) (F0 m pc ls rest) q := by
  intro T hT X
  have hpl : e.platform.magicAccessors = ({} : Platform).magicAccessors := by rw [X.admits.platform]
  obtain ⟨vm', hW', X', st⟩ := X.outThrough hlocks q (g := F0 m pc ls rest) rfl rfl rfl (cell := ce) (by rw [hT]; exact hcell) (by rw [hv]; rfl)
    (by obtain ⟨k9, h9, -⟩ := Vm.findClass_spec hcl; exact ⟨k9, h9⟩) (fun z hz => by
      rcases hpass z hz with h | ⟨hz0, nm, hl1, hn1⟩
      · exact Or.inl h
      · obtain ⟨c6, hc6, hcl6⟩ := Cond.classLink_spec hown hl1 e.platform hpl
        obtain ⟨a8, b8, h1, h2, h3⟩ := hn1
        cases Option.some.inj (h1.symm.trans hcl)
        cases Option.some.inj (h2.symm.trans hc6)
        exact Or.inr ⟨hz0, _, hcl6, h3⟩)
  obtain ⟨g₀, hfr⟩ := X'.frames_eq
  have hcell9 : ((T.setVm vm').setFrames (.throwing q :: below)).heap[q]? = some ce := by
    show T.heap[q]? = some ce
    rw [hT]; exact hcell
  have hend : Ended ((T.setVm vm').setFrames (.throwing q :: below)) below (.threw q) := State.frames_setFrames _ (State.cur_lt_of_frames hfr)
  refine ⟨(T.setVm vm').setFrames (.throwing q :: below), ?_, .threw q, X'.here.running, hend, Or.inr ⟨q, rfl, E, ce, locs, hx _ hT (X'.ends _).1.alike, hcell9, hv, hcl, (X'.ends _).1, (X'.ends _).2.mono hc hs, hf⟩⟩
  rw [X.pushThrowing_eq]
  exact st
/-- a thing of a world lies in the heap -/
theorem vx_lt {D : va_G} {cl : List vw_C} {ws : va_W} {H1 : Heap} (h : va_P D cl ws H1) {k : Nat} {q : Nat × va_E} (hk : ws[k]? = some q) : q.1 < H1.size := (h k q hk).lt
end VXS
/-! ===== END ===== -/
end
section
def RX0 : String := "GroundProver$ClassSearch"
def TX0 : u_T := fun k => match k with
  | 0 => ("GroundProver$ClassSearch", "theory", "LGroundProver$Theory;", true)
  | 1 => ("GroundProver$ClassSearch", "store", "LGroundProver$TermStore;", true)
  | 2 => ("GroundProver$ClassSearch", "walk", "LGroundProver$Walk;", true)
  | 3 => ("GroundProver$ClassSearch", "grammar", "LGroundProver$Grammar;", true)
  | _ => ("GroundProver$ClassSearch", "counts", "[J", false)
def tyX0 : Nat → FieldType := fun k => match k with
  | 0 => .object "GroundProver$Theory"
  | 1 => .object "GroundProver$TermStore"
  | 2 => .object "GroundProver$Walk"
  | 3 => .object "GroundProver$Grammar"
  | _ => .array .long
abbrev wsX00 : List Cond := u_ws RX0 TX0 5
theorem nmX0 : ∀ a, a < 5 → ∀ b, b < 5 → a ≠ b → (TX0 a).2.1 ≠ (TX0 b).2.1 := by decide +kernel
theorem tyX0_ok : ∀ k, k < 5 → parseFieldDescriptor (TX0 k).2.2.1 = some (tyX0 k) := by decide +kernel
abbrev cX0_init : ByteArray := prog_2_method_1_code
def yX0_init : MethodName := ⟨RX0, "<init>", "(LGroundProver$Theory;LGroundProver$TermStore;LGroundProver$Walk;LGroundProver$Grammar;)V"⟩
abbrev cX0_gather : ByteArray := prog_2_method_2_code
def yX0_gather : MethodName := ⟨RX0, "gather", "(I)V"⟩
abbrev cX0_appendParts : ByteArray := prog_2_method_3_code
def yX0_appendParts : MethodName := ⟨RX0, "appendParts", "(I)V"⟩
abbrev cX0_addProduction : ByteArray := prog_2_method_4_code
def yX0_addProduction : MethodName := ⟨RX0, "addProduction", "(II)V"⟩
abbrev cX0_hasFiniteClass : ByteArray := prog_2_method_5_code
def yX0_hasFiniteClass : MethodName := ⟨RX0, "hasFiniteClass", "(I)Z"⟩
abbrev cX0_leastOfSmallest : ByteArray := prog_2_method_6_code
def yX0_leastOfSmallest : MethodName := ⟨RX0, "leastOfSmallest", "(I)I"⟩
abbrev cX0_countEqual : ByteArray := prog_2_method_7_code
def yX0_countEqual : MethodName := ⟨RX0, "countEqual", "(II)J"⟩
abbrev cX0_cellOf : ByteArray := prog_2_method_8_code
def yX0_cellOf : MethodName := ⟨RX0, "cellOf", "(II)I"⟩
abbrev cX0_countMade : ByteArray := prog_2_method_9_code
def yX0_countMade : MethodName := ⟨RX0, "countMade", "(II)J"⟩
abbrev cX0_countPairs : ByteArray := prog_2_method_10_code
def yX0_countPairs : MethodName := ⟨RX0, "countPairs", "(III)J"⟩
def RX1 : String := "GroundProver$Closure"
def TX1 : u_T := fun k => match k with
  | 0 => ("GroundProver$Closure", "store", "LGroundProver$TermStore;", true)
  | 1 => ("GroundProver$Closure", "walk", "LGroundProver$Walk;", true)
  | 2 => ("GroundProver$Closure", "leaders", "LGroundProver$Row;", true)
  | 3 => ("GroundProver$Closure", "nextMembers", "LGroundProver$Row;", true)
  | 4 => ("GroundProver$Closure", "memberCounts", "LGroundProver$Row;", true)
  | 5 => ("GroundProver$Closure", "twins", "LGroundProver$Row;", true)
  | 6 => ("GroundProver$Closure", "signs", "LGroundProver$Row;", true)
  | 7 => ("GroundProver$Closure", "parts", "LGroundProver$Row;", true)
  | 8 => ("GroundProver$Closure", "buckets", "LGroundProver$Row;", true)
  | 9 => ("GroundProver$Closure", "links", "LGroundProver$Row;", true)
  | _ => ("GroundProver$Closure", "bucketCount", "I", false)
def tyX1 : Nat → FieldType := fun k => match k with
  | 0 => .object "GroundProver$TermStore"
  | 1 => .object "GroundProver$Walk"
  | 2 => .object "GroundProver$Row"
  | 3 => .object "GroundProver$Row"
  | 4 => .object "GroundProver$Row"
  | 5 => .object "GroundProver$Row"
  | 6 => .object "GroundProver$Row"
  | 7 => .object "GroundProver$Row"
  | 8 => .object "GroundProver$Row"
  | 9 => .object "GroundProver$Row"
  | _ => .int
abbrev wsX10 : List Cond := u_ws RX1 TX1 11
theorem nmX1 : ∀ a, a < 11 → ∀ b, b < 11 → a ≠ b → (TX1 a).2.1 ≠ (TX1 b).2.1 := by decide +kernel
theorem tyX1_ok : ∀ k, k < 11 → parseFieldDescriptor (TX1 k).2.2.1 = some (tyX1 k) := by decide +kernel
abbrev cX1_init : ByteArray := prog_3_method_1_code
def yX1_init : MethodName := ⟨RX1, "<init>", "(LGroundProver$TermStore;LGroundProver$Walk;)V"⟩
abbrev cX1_start : ByteArray := prog_3_method_2_code
def yX1_start : MethodName := ⟨RX1, "start", "()V"⟩
abbrev cX1_leader : ByteArray := prog_3_method_3_code
def yX1_leader : MethodName := ⟨RX1, "leader", "(I)I"⟩
abbrev cX1_join : ByteArray := prog_3_method_4_code
def yX1_join : MethodName := ⟨RX1, "join", "(II)V"⟩
abbrev cX1_close : ByteArray := prog_3_method_5_code
def yX1_close : MethodName := ⟨RX1, "close", "()V"⟩
abbrev cX1_joinTwins : ByteArray := prog_3_method_6_code
def yX1_joinTwins : MethodName := ⟨RX1, "joinTwins", "()Z"⟩
abbrev cX1_bucketOf : ByteArray := prog_3_method_7_code
def yX1_bucketOf : MethodName := ⟨RX1, "bucketOf", "(I)I"⟩
abbrev cX1_areTwins : ByteArray := prog_3_method_8_code
def yX1_areTwins : MethodName := ⟨RX1, "areTwins", "(II)Z"⟩
abbrev cX1_pourInto : ByteArray := prog_3_method_9_code
def yX1_pourInto : MethodName := ⟨RX1, "pourInto", "(LGroundProver$Grammar;)V"⟩
def RX2 : String := "GroundProver$Grammar"
def TX2 : u_T := fun k => match k with
  | 0 => ("GroundProver$Grammar", "symbols", "LGroundProver$Symbols;", true)
  | 1 => ("GroundProver$Grammar", "owners", "LGroundProver$Row;", true)
  | 2 => ("GroundProver$Grammar", "signs", "LGroundProver$Row;", true)
  | 3 => ("GroundProver$Grammar", "parts", "LGroundProver$Row;", true)
  | 4 => ("GroundProver$Grammar", "waits", "LGroundProver$Row;", true)
  | 5 => ("GroundProver$Grammar", "users", "LGroundProver$Row;", true)
  | 6 => ("GroundProver$Grammar", "nextUsers", "LGroundProver$Row;", true)
  | 7 => ("GroundProver$Grammar", "weights", "LGroundProver$Row;", true)
  | 8 => ("GroundProver$Grammar", "sizes", "LGroundProver$Row;", true)
  | 9 => ("GroundProver$Grammar", "depths", "LGroundProver$Row;", true)
  | 10 => ("GroundProver$Grammar", "heap", "LGroundProver$Row;", true)
  | 11 => ("GroundProver$Grammar", "chosen", "LGroundProver$Row;", true)
  | 12 => ("GroundProver$Grammar", "positions", "LGroundProver$Row;", true)
  | 13 => ("GroundProver$Grammar", "sequence", "LGroundProver$Row;", true)
  | 14 => ("GroundProver$Grammar", "nodes", "LGroundProver$Row;", true)
  | 15 => ("GroundProver$Grammar", "classCount", "I", false)
  | 16 => ("GroundProver$Grammar", "count", "I", false)
  | 17 => ("GroundProver$Grammar", "heapCount", "I", false)
  | 18 => ("GroundProver$Grammar", "sequenceCount", "I", false)
  | _ => ("GroundProver$Grammar", "mode", "I", false)
def tyX2 : Nat → FieldType := fun k => match k with
  | 0 => .object "GroundProver$Symbols"
  | 1 => .object "GroundProver$Row"
  | 2 => .object "GroundProver$Row"
  | 3 => .object "GroundProver$Row"
  | 4 => .object "GroundProver$Row"
  | 5 => .object "GroundProver$Row"
  | 6 => .object "GroundProver$Row"
  | 7 => .object "GroundProver$Row"
  | 8 => .object "GroundProver$Row"
  | 9 => .object "GroundProver$Row"
  | 10 => .object "GroundProver$Row"
  | 11 => .object "GroundProver$Row"
  | 12 => .object "GroundProver$Row"
  | 13 => .object "GroundProver$Row"
  | 14 => .object "GroundProver$Row"
  | 15 => .int
  | 16 => .int
  | 17 => .int
  | 18 => .int
  | _ => .int
abbrev wsX20 : List Cond := u_ws RX2 TX2 20
theorem nmX2 : ∀ a, a < 20 → ∀ b, b < 20 → a ≠ b → (TX2 a).2.1 ≠ (TX2 b).2.1 := by decide +kernel
theorem tyX2_ok : ∀ k, k < 20 → parseFieldDescriptor (TX2 k).2.2.1 = some (tyX2 k) := by decide +kernel
abbrev cX2_init : ByteArray := prog_4_method_1_code
def yX2_init : MethodName := ⟨RX2, "<init>", "(LGroundProver$Symbols;)V"⟩
abbrev cX2_clear : ByteArray := prog_4_method_2_code
def yX2_clear : MethodName := ⟨RX2, "clear", "(I)V"⟩
abbrev cX2_count : ByteArray := prog_4_method_3_code
def yX2_count : MethodName := ⟨RX2, "count", "()I"⟩
abbrev cX2_addProduction : ByteArray := prog_4_method_4_code
def yX2_addProduction : MethodName := ⟨RX2, "addProduction", "(II)I"⟩
abbrev cX2_setPart : ByteArray := prog_4_method_5_code
def yX2_setPart : MethodName := ⟨RX2, "setPart", "(III)V"⟩
abbrev cX2_owner : ByteArray := prog_4_method_6_code
def yX2_owner : MethodName := ⟨RX2, "owner", "(I)I"⟩
abbrev cX2_part : ByteArray := prog_4_method_7_code
def yX2_part : MethodName := ⟨RX2, "part", "(II)I"⟩
abbrev cX2_arity : ByteArray := prog_4_method_8_code
def yX2_arity : MethodName := ⟨RX2, "arity", "(I)I"⟩
abbrev cX2_takeTerms : ByteArray := prog_4_method_9_code
def yX2_takeTerms : MethodName := ⟨RX2, "takeTerms", "(LGroundProver$Walk;LGroundProver$TermStore;)V"⟩
abbrev cX2_sequenceCount : ByteArray := prog_4_method_10_code
def yX2_sequenceCount : MethodName := ⟨RX2, "sequenceCount", "()I"⟩
abbrev cX2_ranked : ByteArray := prog_4_method_11_code
def yX2_ranked : MethodName := ⟨RX2, "ranked", "(I)I"⟩
abbrev cX2_position : ByteArray := prog_4_method_12_code
def yX2_position : MethodName := ⟨RX2, "position", "(I)I"⟩
abbrev cX2_choice : ByteArray := prog_4_method_13_code
def yX2_choice : MethodName := ⟨RX2, "choice", "(I)I"⟩
abbrev cX2_termSize : ByteArray := prog_4_method_14_code
def yX2_termSize : MethodName := ⟨RX2, "termSize", "(I)I"⟩
abbrev cX2_termDepth : ByteArray := prog_4_method_15_code
def yX2_termDepth : MethodName := ⟨RX2, "termDepth", "(I)I"⟩
abbrev cX2_rank : ByteArray := prog_4_method_16_code
def yX2_rank : MethodName := ⟨RX2, "rank", "(I)V"⟩
abbrev cX2_isReadyAfter : ByteArray := prog_4_method_17_code
def yX2_isReadyAfter : MethodName := ⟨RX2, "isReadyAfter", "(I)Z"⟩
abbrev cX2_linkUsers : ByteArray := prog_4_method_18_code
def yX2_linkUsers : MethodName := ⟨RX2, "linkUsers", "()V"⟩
abbrev cX2_enter : ByteArray := prog_4_method_19_code
def yX2_enter : MethodName := ⟨RX2, "enter", "(I)V"⟩
abbrev cX2_takeLeast : ByteArray := prog_4_method_20_code
def yX2_takeLeast : MethodName := ⟨RX2, "takeLeast", "()I"⟩
abbrev cX2_isBefore : ByteArray := prog_4_method_21_code
def yX2_isBefore : MethodName := ⟨RX2, "isBefore", "(II)Z"⟩
abbrev cX2_keepSmallest : ByteArray := prog_4_method_22_code
def yX2_keepSmallest : MethodName := ⟨RX2, "keepSmallest", "()V"⟩
abbrev cX2_makeTerm : ByteArray := prog_4_method_23_code
def yX2_makeTerm : MethodName := ⟨RX2, "makeTerm", "(ILGroundProver$TermStore;)I"⟩
abbrev cX2_leastTerm : ByteArray := prog_4_method_24_code
def yX2_leastTerm : MethodName := ⟨RX2, "leastTerm", "(I)I"⟩
abbrev cX2_setLeastTerm : ByteArray := prog_4_method_25_code
def yX2_setLeastTerm : MethodName := ⟨RX2, "setLeastTerm", "(II)V"⟩
abbrev cX2_dropNeeds : ByteArray := prog_4_method_26_code
def yX2_dropNeeds : MethodName := ⟨RX2, "dropNeeds", "()V"⟩
abbrev cX2_need : ByteArray := prog_4_method_27_code
def yX2_need : MethodName := ⟨RX2, "need", "(I)V"⟩
abbrev cX2_needParts : ByteArray := prog_4_method_28_code
def yX2_needParts : MethodName := ⟨RX2, "needParts", "(I)V"⟩
abbrev cX2_spreadNeeds : ByteArray := prog_4_method_29_code
def yX2_spreadNeeds : MethodName := ⟨RX2, "spreadNeeds", "()V"⟩
abbrev cX2_isNeeded : ByteArray := prog_4_method_30_code
def yX2_isNeeded : MethodName := ⟨RX2, "isNeeded", "(I)Z"⟩
abbrev cX2_isFiniteClass : ByteArray := prog_4_method_31_code
def yX2_isFiniteClass : MethodName := ⟨RX2, "isFiniteClass", "(I)Z"⟩
abbrev cX2_endIfReady : ByteArray := prog_4_method_32_code
def yX2_endIfReady : MethodName := ⟨RX2, "endIfReady", "(I)V"⟩
abbrev cX2_releaseUsers : ByteArray := prog_4_method_33_code
def yX2_releaseUsers : MethodName := ⟨RX2, "releaseUsers", "(I)V"⟩
def RX3 : String := "GroundProver$Matcher"
def TX3 : u_T := fun k => match k with
  | 0 => ("GroundProver$Matcher", "theory", "LGroundProver$Theory;", true)
  | 1 => ("GroundProver$Matcher", "store", "LGroundProver$TermStore;", true)
  | 2 => ("GroundProver$Matcher", "walk", "LGroundProver$Walk;", true)
  | 3 => ("GroundProver$Matcher", "grammar", "LGroundProver$Grammar;", true)
  | 4 => ("GroundProver$Matcher", "found", "LGroundProver$Row;", true)
  | 5 => ("GroundProver$Matcher", "foundCount", "I", false)
  | 6 => ("GroundProver$Matcher", "foundVariables", "I", false)
  | 7 => ("GroundProver$Matcher", "kept", "LGroundProver$Row;", true)
  | 8 => ("GroundProver$Matcher", "keptCount", "I", false)
  | 9 => ("GroundProver$Matcher", "keptVariables", "I", false)
  | 10 => ("GroundProver$Matcher", "bindings", "[I", true)
  | 11 => ("GroundProver$Matcher", "goalPatterns", "[I", true)
  | 12 => ("GroundProver$Matcher", "goalNodes", "[I", true)
  | 13 => ("GroundProver$Matcher", "goalCount", "I", false)
  | _ => ("GroundProver$Matcher", "keys", "[J", true)
def tyX3 : Nat → FieldType := fun k => match k with
  | 0 => .object "GroundProver$Theory"
  | 1 => .object "GroundProver$TermStore"
  | 2 => .object "GroundProver$Walk"
  | 3 => .object "GroundProver$Grammar"
  | 4 => .object "GroundProver$Row"
  | 5 => .int
  | 6 => .int
  | 7 => .object "GroundProver$Row"
  | 8 => .int
  | 9 => .int
  | 10 => .array .int
  | 11 => .array .int
  | 12 => .array .int
  | 13 => .int
  | _ => .array .long
abbrev wsX30 : List Cond := u_ws RX3 TX3 15
theorem nmX3 : ∀ a, a < 15 → ∀ b, b < 15 → a ≠ b → (TX3 a).2.1 ≠ (TX3 b).2.1 := by decide +kernel
theorem tyX3_ok : ∀ k, k < 15 → parseFieldDescriptor (TX3 k).2.2.1 = some (tyX3 k) := by decide +kernel
abbrev cX3_init : ByteArray := prog_5_method_1_code
def yX3_init : MethodName := ⟨RX3, "<init>", "(LGroundProver$Theory;LGroundProver$TermStore;LGroundProver$Walk;LGroundProver$Grammar;)V"⟩
abbrev cX3_assigns : ByteArray := prog_5_method_2_code
def yX3_assigns : MethodName := ⟨RX3, "assigns", "(I)Z"⟩
abbrev cX3_assigned : ByteArray := prog_5_method_3_code
def yX3_assigned : MethodName := ⟨RX3, "assigned", "(II)I"⟩
abbrev cX3_solve : ByteArray := prog_5_method_4_code
def yX3_solve : MethodName := ⟨RX3, "solve", "(II)I"⟩
abbrev cX3_solveFrom : ByteArray := prog_5_method_5_code
def yX3_solveFrom : MethodName := ⟨RX3, "solveFrom", "(I)V"⟩
abbrev cX3_solveWith : ByteArray := prog_5_method_6_code
def yX3_solveWith : MethodName := ⟨RX3, "solveWith", "(II)V"⟩
abbrev cX3_agrees : ByteArray := prog_5_method_7_code
def yX3_agrees : MethodName := ⟨RX3, "agrees", "(II)Z"⟩
abbrev cX3_keepFound : ByteArray := prog_5_method_8_code
def yX3_keepFound : MethodName := ⟨RX3, "keepFound", "()V"⟩
abbrev cX3_shiftOf : ByteArray := prog_5_method_9_code
def yX3_shiftOf : MethodName := ⟨RX3, "shiftOf", "(I)I"⟩
abbrev cX3_keyOf : ByteArray := prog_5_method_10_code
def yX3_keyOf : MethodName := ⟨RX3, "keyOf", "(I)J"⟩
abbrev cX3_insertKey : ByteArray := prog_5_method_11_code
def yX3_insertKey : MethodName := ⟨RX3, "insertKey", "(IJ)V"⟩
abbrev cX3_markTerms : ByteArray := prog_5_method_12_code
def yX3_markTerms : MethodName := ⟨RX3, "markTerms", "()V"⟩
def RX4 : String := "GroundProver$Printer"
def TX4 : u_T := fun k => match k with
  | 0 => ("GroundProver$Printer", "symbols", "LGroundProver$Symbols;", true)
  | 1 => ("GroundProver$Printer", "store", "LGroundProver$TermStore;", true)
  | 2 => ("GroundProver$Printer", "walk", "LGroundProver$Walk;", true)
  | 3 => ("GroundProver$Printer", "output", "[B", true)
  | _ => ("GroundProver$Printer", "length", "I", false)
def tyX4 : Nat → FieldType := fun k => match k with
  | 0 => .object "GroundProver$Symbols"
  | 1 => .object "GroundProver$TermStore"
  | 2 => .object "GroundProver$Walk"
  | 3 => .array .byte
  | _ => .int
abbrev wsX40 : List Cond := u_ws RX4 TX4 5
theorem nmX4 : ∀ a, a < 5 → ∀ b, b < 5 → a ≠ b → (TX4 a).2.1 ≠ (TX4 b).2.1 := by decide +kernel
theorem tyX4_ok : ∀ k, k < 5 → parseFieldDescriptor (TX4 k).2.2.1 = some (tyX4 k) := by decide +kernel
abbrev cX4_init : ByteArray := prog_6_method_1_code
def yX4_init : MethodName := ⟨RX4, "<init>", "(LGroundProver$Symbols;LGroundProver$TermStore;LGroundProver$Walk;)V"⟩
abbrev cX4_length : ByteArray := prog_6_method_2_code
def yX4_length : MethodName := ⟨RX4, "length", "()I"⟩
abbrev cX4_byteAt : ByteArray := prog_6_method_3_code
def yX4_byteAt : MethodName := ⟨RX4, "byteAt", "(I)I"⟩
abbrev cX4_measure : ByteArray := prog_6_method_4_code
def yX4_measure : MethodName := ⟨RX4, "measure", "(I)I"⟩
abbrev cX4_print : ByteArray := prog_6_method_5_code
def yX4_print : MethodName := ⟨RX4, "print", "(I)I"⟩
abbrev cX4_printFrom : ByteArray := prog_6_method_6_code
def yX4_printFrom : MethodName := ⟨RX4, "printFrom", "(II)V"⟩
abbrev cX4_put : ByteArray := prog_6_method_7_code
def yX4_put : MethodName := ⟨RX4, "put", "(B)V"⟩
def RX5 : String := "GroundProver$Reader"
def TX5 : u_T := fun k => match k with
  | 0 => ("GroundProver$Reader", "symbols", "LGroundProver$Symbols;", true)
  | 1 => ("GroundProver$Reader", "store", "LGroundProver$TermStore;", true)
  | 2 => ("GroundProver$Reader", "input", "[B", true)
  | 3 => ("GroundProver$Reader", "length", "I", false)
  | 4 => ("GroundProver$Reader", "end", "I", false)
  | 5 => ("GroundProver$Reader", "at", "I", false)
  | 6 => ("GroundProver$Reader", "nameStart", "I", false)
  | 7 => ("GroundProver$Reader", "isTheory", "Z", false)
  | 8 => ("GroundProver$Reader", "kind", "I", false)
  | 9 => ("GroundProver$Reader", "position", "I", false)
  | 10 => ("GroundProver$Reader", "openSymbols", "[I", true)
  | 11 => ("GroundProver$Reader", "openStarts", "[I", true)
  | 12 => ("GroundProver$Reader", "openCounts", "[I", true)
  | 13 => ("GroundProver$Reader", "openParts", "[I", true)
  | 14 => ("GroundProver$Reader", "openCount", "I", false)
  | 15 => ("GroundProver$Reader", "lefts", "[I", true)
  | 16 => ("GroundProver$Reader", "rights", "[I", true)
  | 17 => ("GroundProver$Reader", "areEquations", "[Z", true)
  | _ => ("GroundProver$Reader", "statementCount", "I", false)
def tyX5 : Nat → FieldType := fun k => match k with
  | 0 => .object "GroundProver$Symbols"
  | 1 => .object "GroundProver$TermStore"
  | 2 => .array .byte
  | 3 => .int
  | 4 => .int
  | 5 => .int
  | 6 => .int
  | 7 => .boolean
  | 8 => .int
  | 9 => .int
  | 10 => .array .int
  | 11 => .array .int
  | 12 => .array .int
  | 13 => .array .int
  | 14 => .int
  | 15 => .array .int
  | 16 => .array .int
  | 17 => .array .boolean
  | _ => .int
abbrev wsX50 : List Cond := u_ws RX5 TX5 19
theorem nmX5 : ∀ a, a < 19 → ∀ b, b < 19 → a ≠ b → (TX5 a).2.1 ≠ (TX5 b).2.1 := by decide +kernel
theorem tyX5_ok : ∀ k, k < 19 → parseFieldDescriptor (TX5 k).2.2.1 = some (tyX5 k) := by decide +kernel
abbrev cX5_init : ByteArray := prog_7_method_1_code
def yX5_init : MethodName := ⟨RX5, "<init>", "(LGroundProver$Symbols;LGroundProver$TermStore;)V"⟩
abbrev cX5_length : ByteArray := prog_7_method_2_code
def yX5_length : MethodName := ⟨RX5, "length", "()I"⟩
abbrev cX5_bytes : ByteArray := prog_7_method_3_code
def yX5_bytes : MethodName := ⟨RX5, "bytes", "()[B"⟩
abbrev cX5_kind : ByteArray := prog_7_method_4_code
def yX5_kind : MethodName := ⟨RX5, "kind", "()I"⟩
abbrev cX5_position : ByteArray := prog_7_method_5_code
def yX5_position : MethodName := ⟨RX5, "position", "()I"⟩
abbrev cX5_statementCount : ByteArray := prog_7_method_6_code
def yX5_statementCount : MethodName := ⟨RX5, "statementCount", "()I"⟩
abbrev cX5_isEquation : ByteArray := prog_7_method_7_code
def yX5_isEquation : MethodName := ⟨RX5, "isEquation", "(I)Z"⟩
abbrev cX5_leftTerm : ByteArray := prog_7_method_8_code
def yX5_leftTerm : MethodName := ⟨RX5, "leftTerm", "(I)I"⟩
abbrev cX5_rightTerm : ByteArray := prog_7_method_9_code
def yX5_rightTerm : MethodName := ⟨RX5, "rightTerm", "(I)I"⟩
abbrev cX5_append : ByteArray := prog_7_method_10_code
def yX5_append : MethodName := ⟨RX5, "append", "(I)V"⟩
abbrev cX5_shorten : ByteArray := prog_7_method_11_code
def yX5_shorten : MethodName := ⟨RX5, "shorten", "(I)V"⟩
abbrev cX5_drain : ByteArray := prog_7_method_12_code
def yX5_drain : MethodName := ⟨RX5, "drain", "()I"⟩
abbrev cX5_holdsName : ByteArray := prog_7_method_13_code
def yX5_holdsName : MethodName := ⟨RX5, "holdsName", "()Z"⟩
abbrev cX5_heldSymbol : ByteArray := prog_7_method_14_code
def yX5_heldSymbol : MethodName := ⟨RX5, "heldSymbol", "()I"⟩
abbrev cX5_readTerm : ByteArray := prog_7_method_15_code
def yX5_readTerm : MethodName := ⟨RX5, "readTerm", "()I"⟩
abbrev cX5_readTheoryText : ByteArray := prog_7_method_16_code
def yX5_readTheoryText : MethodName := ⟨RX5, "readTheoryText", "()Z"⟩
abbrev cX5_start : ByteArray := prog_7_method_17_code
def yX5_start : MethodName := ⟨RX5, "start", "(Z)V"⟩
abbrev cX5_keepStatement : ByteArray := prog_7_method_18_code
def yX5_keepStatement : MethodName := ⟨RX5, "keepStatement", "(IZI)V"⟩
abbrev cX5_readSemicolon : ByteArray := prog_7_method_19_code
def yX5_readSemicolon : MethodName := ⟨RX5, "readSemicolon", "()Z"⟩
abbrev cX5_readSign : ByteArray := prog_7_method_20_code
def yX5_readSign : MethodName := ⟨RX5, "readSign", "()I"⟩
abbrev cX5_readOne : ByteArray := prog_7_method_21_code
def yX5_readOne : MethodName := ⟨RX5, "readOne", "()I"⟩
abbrev cX5_readName : ByteArray := prog_7_method_22_code
def yX5_readName : MethodName := ⟨RX5, "readName", "()I"⟩
abbrev cX5_open : ByteArray := prog_7_method_23_code
def yX5_open : MethodName := ⟨RX5, "open", "(I)V"⟩
abbrev cX5_closeBehind : ByteArray := prog_7_method_24_code
def yX5_closeBehind : MethodName := ⟨RX5, "closeBehind", "(I)I"⟩
abbrev cX5_addOpenPart : ByteArray := prog_7_method_25_code
def yX5_addOpenPart : MethodName := ⟨RX5, "addOpenPart", "(II)V"⟩
abbrev cX5_fail : ByteArray := prog_7_method_26_code
def yX5_fail : MethodName := ⟨RX5, "fail", "(II)I"⟩
abbrev cX5_skipBlanks : ByteArray := prog_7_method_27_code
def yX5_skipBlanks : MethodName := ⟨RX5, "skipBlanks", "()V"⟩
abbrev cX5_peek : ByteArray := prog_7_method_28_code
def yX5_peek : MethodName := ⟨RX5, "peek", "()I"⟩
abbrev cX5_isLetter : ByteArray := prog_7_method_29_code
def yX5_isLetter : MethodName := ⟨RX5, "isLetter", "(I)Z"⟩
abbrev cX5_isNamePart : ByteArray := prog_7_method_30_code
def yX5_isNamePart : MethodName := ⟨RX5, "isNamePart", "(I)Z"⟩
def RX6 : String := "GroundProver$Row"
def TX6 : u_T := fun k => match k with
  | _ => ("GroundProver$Row", "blocks", "[[I", true)
def tyX6 : Nat → FieldType := fun k => match k with
  | _ => .array (.array .int)
abbrev wsX60 : List Cond := u_ws RX6 TX6 1
theorem nmX6 : ∀ a, a < 1 → ∀ b, b < 1 → a ≠ b → (TX6 a).2.1 ≠ (TX6 b).2.1 := by decide +kernel
theorem tyX6_ok : ∀ k, k < 1 → parseFieldDescriptor (TX6 k).2.2.1 = some (tyX6 k) := by decide +kernel
abbrev cX6_init : ByteArray := prog_8_method_1_code
def yX6_init : MethodName := ⟨RX6, "<init>", "(I)V"⟩
abbrev cX6_get : ByteArray := prog_8_method_2_code
def yX6_get : MethodName := ⟨RX6, "get", "(I)I"⟩
abbrev cX6_set : ByteArray := prog_8_method_3_code
def yX6_set : MethodName := ⟨RX6, "set", "(II)V"⟩
def RX7 : String := "GroundProver$Symbols"
def TX7 : u_T := fun k => match k with
  | 0 => ("GroundProver$Symbols", "names", "[B", true)
  | 1 => ("GroundProver$Symbols", "lengths", "[I", true)
  | 2 => ("GroundProver$Symbols", "arities", "[I", true)
  | 3 => ("GroundProver$Symbols", "weights", "[I", true)
  | 4 => ("GroundProver$Symbols", "ranks", "[I", true)
  | 5 => ("GroundProver$Symbols", "ordinals", "[I", true)
  | 6 => ("GroundProver$Symbols", "directions", "[Z", true)
  | 7 => ("GroundProver$Symbols", "count", "I", false)
  | 8 => ("GroundProver$Symbols", "variableCount", "I", false)
  | 9 => ("GroundProver$Symbols", "isByWeight", "Z", false)
  | _ => ("GroundProver$Symbols", "isOrderFixed", "Z", false)
def tyX7 : Nat → FieldType := fun k => match k with
  | 0 => .array .byte
  | 1 => .array .int
  | 2 => .array .int
  | 3 => .array .int
  | 4 => .array .int
  | 5 => .array .int
  | 6 => .array .boolean
  | 7 => .int
  | 8 => .int
  | 9 => .boolean
  | _ => .boolean
abbrev wsX70 : List Cond := u_ws RX7 TX7 11
theorem nmX7 : ∀ a, a < 11 → ∀ b, b < 11 → a ≠ b → (TX7 a).2.1 ≠ (TX7 b).2.1 := by decide +kernel
theorem tyX7_ok : ∀ k, k < 11 → parseFieldDescriptor (TX7 k).2.2.1 = some (tyX7 k) := by decide +kernel
abbrev cX7_init : ByteArray := prog_9_method_1_code
def yX7_init : MethodName := ⟨RX7, "<init>", "()V"⟩
abbrev cX7_count : ByteArray := prog_9_method_2_code
def yX7_count : MethodName := ⟨RX7, "count", "()I"⟩
abbrev cX7_has : ByteArray := prog_9_method_3_code
def yX7_has : MethodName := ⟨RX7, "has", "(I)Z"⟩
abbrev cX7_isFull : ByteArray := prog_9_method_4_code
def yX7_isFull : MethodName := ⟨RX7, "isFull", "()Z"⟩
abbrev cX7_hasAllVariables : ByteArray := prog_9_method_5_code
def yX7_hasAllVariables : MethodName := ⟨RX7, "hasAllVariables", "()Z"⟩
abbrev cX7_arity : ByteArray := prog_9_method_6_code
def yX7_arity : MethodName := ⟨RX7, "arity", "(I)I"⟩
abbrev cX7_weight : ByteArray := prog_9_method_7_code
def yX7_weight : MethodName := ⟨RX7, "weight", "(I)I"⟩
abbrev cX7_rank : ByteArray := prog_9_method_8_code
def yX7_rank : MethodName := ⟨RX7, "rank", "(I)I"⟩
abbrev cX7_isFromRight : ByteArray := prog_9_method_9_code
def yX7_isFromRight : MethodName := ⟨RX7, "isFromRight", "(I)Z"⟩
abbrev cX7_variableOrdinal : ByteArray := prog_9_method_10_code
def yX7_variableOrdinal : MethodName := ⟨RX7, "variableOrdinal", "(I)I"⟩
abbrev cX7_nameLength : ByteArray := prog_9_method_11_code
def yX7_nameLength : MethodName := ⟨RX7, "nameLength", "(I)I"⟩
abbrev cX7_nameByte : ByteArray := prog_9_method_12_code
def yX7_nameByte : MethodName := ⟨RX7, "nameByte", "(II)B"⟩
abbrev cX7_add : ByteArray := prog_9_method_13_code
def yX7_add : MethodName := ⟨RX7, "add", "([BIII)I"⟩
abbrev cX7_addVariable : ByteArray := prog_9_method_14_code
def yX7_addVariable : MethodName := ⟨RX7, "addVariable", "([BI)I"⟩
abbrev cX7_find : ByteArray := prog_9_method_15_code
def yX7_find : MethodName := ⟨RX7, "find", "([BII)I"⟩
abbrev cX7_isNameAt : ByteArray := prog_9_method_16_code
def yX7_isNameAt : MethodName := ⟨RX7, "isNameAt", "(I[BI)Z"⟩
abbrev cX7_isByWeight : ByteArray := prog_9_method_17_code
def yX7_isByWeight : MethodName := ⟨RX7, "isByWeight", "()Z"⟩
abbrev cX7_orderMode : ByteArray := prog_9_method_18_code
def yX7_orderMode : MethodName := ⟨RX7, "orderMode", "()I"⟩
abbrev cX7_chooseOrder : ByteArray := prog_9_method_19_code
def yX7_chooseOrder : MethodName := ⟨RX7, "chooseOrder", "(Z)V"⟩
abbrev cX7_isOrderFixed : ByteArray := prog_9_method_20_code
def yX7_isOrderFixed : MethodName := ⟨RX7, "isOrderFixed", "()Z"⟩
abbrev cX7_fixOrder : ByteArray := prog_9_method_21_code
def yX7_fixOrder : MethodName := ⟨RX7, "fixOrder", "()V"⟩
abbrev cX7_direct : ByteArray := prog_9_method_22_code
def yX7_direct : MethodName := ⟨RX7, "direct", "(IZ)V"⟩
abbrev cX7_moveTo : ByteArray := prog_9_method_23_code
def yX7_moveTo : MethodName := ⟨RX7, "moveTo", "(II)V"⟩
def RX8 : String := "GroundProver$TermStore"
def TX8 : u_T := fun k => match k with
  | 0 => ("GroundProver$TermStore", "symbols", "LGroundProver$Symbols;", true)
  | 1 => ("GroundProver$TermStore", "signs", "LGroundProver$Row;", true)
  | 2 => ("GroundProver$TermStore", "parts", "LGroundProver$Row;", true)
  | 3 => ("GroundProver$TermStore", "extents", "LGroundProver$Row;", true)
  | 4 => ("GroundProver$TermStore", "numbers", "LGroundProver$Row;", true)
  | 5 => ("GroundProver$TermStore", "links", "LGroundProver$Row;", true)
  | 6 => ("GroundProver$TermStore", "buckets", "LGroundProver$Row;", true)
  | 7 => ("GroundProver$TermStore", "pending", "[I", true)
  | 8 => ("GroundProver$TermStore", "pendingCount", "I", false)
  | 9 => ("GroundProver$TermStore", "top", "I", false)
  | 10 => ("GroundProver$TermStore", "used", "I", false)
  | 11 => ("GroundProver$TermStore", "freeLink", "I", false)
  | _ => ("GroundProver$TermStore", "crowd", "I", false)
def tyX8 : Nat → FieldType := fun k => match k with
  | 0 => .object "GroundProver$Symbols"
  | 1 => .object "GroundProver$Row"
  | 2 => .object "GroundProver$Row"
  | 3 => .object "GroundProver$Row"
  | 4 => .object "GroundProver$Row"
  | 5 => .object "GroundProver$Row"
  | 6 => .object "GroundProver$Row"
  | 7 => .array .int
  | 8 => .int
  | 9 => .int
  | 10 => .int
  | 11 => .int
  | _ => .int
abbrev wsX80 : List Cond := u_ws RX8 TX8 13
theorem nmX8 : ∀ a, a < 13 → ∀ b, b < 13 → a ≠ b → (TX8 a).2.1 ≠ (TX8 b).2.1 := by decide +kernel
theorem tyX8_ok : ∀ k, k < 13 → parseFieldDescriptor (TX8 k).2.2.1 = some (tyX8 k) := by decide +kernel
abbrev cX8_init : ByteArray := prog_10_method_1_code
def yX8_init : MethodName := ⟨RX8, "<init>", "(LGroundProver$Symbols;)V"⟩
abbrev cX8_symbol : ByteArray := prog_10_method_2_code
def yX8_symbol : MethodName := ⟨RX8, "symbol", "(I)I"⟩
abbrev cX8_arity : ByteArray := prog_10_method_3_code
def yX8_arity : MethodName := ⟨RX8, "arity", "(I)I"⟩
abbrev cX8_part : ByteArray := prog_10_method_4_code
def yX8_part : MethodName := ⟨RX8, "part", "(II)I"⟩
abbrev cX8_width : ByteArray := prog_10_method_5_code
def yX8_width : MethodName := ⟨RX8, "width", "(I)I"⟩
abbrev cX8_height : ByteArray := prog_10_method_6_code
def yX8_height : MethodName := ⟨RX8, "height", "(I)I"⟩
abbrev cX8_isGround : ByteArray := prog_10_method_7_code
def yX8_isGround : MethodName := ⟨RX8, "isGround", "(I)Z"⟩
abbrev cX8_variableOrdinal : ByteArray := prog_10_method_8_code
def yX8_variableOrdinal : MethodName := ⟨RX8, "variableOrdinal", "(I)I"⟩
abbrev cX8_isTooLarge : ByteArray := prog_10_method_9_code
def yX8_isTooLarge : MethodName := ⟨RX8, "isTooLarge", "(I)Z"⟩
abbrev cX8_number : ByteArray := prog_10_method_10_code
def yX8_number : MethodName := ⟨RX8, "number", "(I)I"⟩
abbrev cX8_setNumber : ByteArray := prog_10_method_11_code
def yX8_setNumber : MethodName := ⟨RX8, "setNumber", "(II)V"⟩
abbrev cX8_make : ByteArray := prog_10_method_12_code
def yX8_make : MethodName := ⟨RX8, "make", "(IIII)I"⟩
abbrev cX8_bucketOf : ByteArray := prog_10_method_13_code
def yX8_bucketOf : MethodName := ⟨RX8, "bucketOf", "(IIII)I"⟩
abbrev cX8_keep : ByteArray := prog_10_method_14_code
def yX8_keep : MethodName := ⟨RX8, "keep", "(IIIII)I"⟩
abbrev cX8_extentOver : ByteArray := prog_10_method_15_code
def yX8_extentOver : MethodName := ⟨RX8, "extentOver", "(IIII)I"⟩
abbrev cX8_isCrowded : ByteArray := prog_10_method_16_code
def yX8_isCrowded : MethodName := ⟨RX8, "isCrowded", "()Z"⟩
abbrev cX8_mark : ByteArray := prog_10_method_17_code
def yX8_mark : MethodName := ⟨RX8, "mark", "(I)V"⟩
abbrev cX8_markOne : ByteArray := prog_10_method_18_code
def yX8_markOne : MethodName := ⟨RX8, "markOne", "(I)V"⟩
abbrev cX8_dropUnmarked : ByteArray := prog_10_method_19_code
def yX8_dropUnmarked : MethodName := ⟨RX8, "dropUnmarked", "()V"⟩
abbrev cX8_relink : ByteArray := prog_10_method_20_code
def yX8_relink : MethodName := ⟨RX8, "relink", "(I)V"⟩
def RX9 : String := "GroundProver$Theory"
def TX9 : u_T := fun k => match k with
  | 0 => ("GroundProver$Theory", "symbols", "LGroundProver$Symbols;", true)
  | 1 => ("GroundProver$Theory", "store", "LGroundProver$TermStore;", true)
  | 2 => ("GroundProver$Theory", "walk", "LGroundProver$Walk;", true)
  | 3 => ("GroundProver$Theory", "grammar", "LGroundProver$Grammar;", true)
  | 4 => ("GroundProver$Theory", "closure", "LGroundProver$Closure;", true)
  | 5 => ("GroundProver$Theory", "equationLefts", "[I", true)
  | 6 => ("GroundProver$Theory", "equationRights", "[I", true)
  | 7 => ("GroundProver$Theory", "equationCount", "I", false)
  | 8 => ("GroundProver$Theory", "separationLefts", "[I", true)
  | 9 => ("GroundProver$Theory", "separationRights", "[I", true)
  | 10 => ("GroundProver$Theory", "separationCount", "I", false)
  | 11 => ("GroundProver$Theory", "levelEquations", "[I", true)
  | 12 => ("GroundProver$Theory", "levelSeparations", "[I", true)
  | 13 => ("GroundProver$Theory", "levelCount", "I", false)
  | 14 => ("GroundProver$Theory", "ruleLefts", "[I", true)
  | 15 => ("GroundProver$Theory", "ruleRights", "[I", true)
  | 16 => ("GroundProver$Theory", "ruleHints", "LGroundProver$Row;", true)
  | _ => ("GroundProver$Theory", "ruleCount", "I", false)
def tyX9 : Nat → FieldType := fun k => match k with
  | 0 => .object "GroundProver$Symbols"
  | 1 => .object "GroundProver$TermStore"
  | 2 => .object "GroundProver$Walk"
  | 3 => .object "GroundProver$Grammar"
  | 4 => .object "GroundProver$Closure"
  | 5 => .array .int
  | 6 => .array .int
  | 7 => .int
  | 8 => .array .int
  | 9 => .array .int
  | 10 => .int
  | 11 => .array .int
  | 12 => .array .int
  | 13 => .int
  | 14 => .array .int
  | 15 => .array .int
  | 16 => .object "GroundProver$Row"
  | _ => .int
abbrev wsX90 : List Cond := u_ws RX9 TX9 18
theorem nmX9 : ∀ a, a < 18 → ∀ b, b < 18 → a ≠ b → (TX9 a).2.1 ≠ (TX9 b).2.1 := by decide +kernel
theorem tyX9_ok : ∀ k, k < 18 → parseFieldDescriptor (TX9 k).2.2.1 = some (tyX9 k) := by decide +kernel
abbrev cX9_init : ByteArray := prog_11_method_1_code
def yX9_init : MethodName := ⟨RX9, "<init>", "(LGroundProver$Symbols;LGroundProver$TermStore;LGroundProver$Walk;LGroundProver$Grammar;)V"⟩
abbrev cX9_leftSide : ByteArray := prog_11_method_2_code
def yX9_leftSide : MethodName := ⟨RX9, "leftSide", "(I)I"⟩
abbrev cX9_rightSide : ByteArray := prog_11_method_3_code
def yX9_rightSide : MethodName := ⟨RX9, "rightSide", "(I)I"⟩
abbrev cX9_addStatement : ByteArray := prog_11_method_4_code
def yX9_addStatement : MethodName := ⟨RX9, "addStatement", "(ZII)I"⟩
abbrev cX9_addSeparation : ByteArray := prog_11_method_5_code
def yX9_addSeparation : MethodName := ⟨RX9, "addSeparation", "(II)V"⟩
abbrev cX9_addEquation : ByteArray := prog_11_method_6_code
def yX9_addEquation : MethodName := ⟨RX9, "addEquation", "(II)V"⟩
abbrev cX9_goBack : ByteArray := prog_11_method_7_code
def yX9_goBack : MethodName := ⟨RX9, "goBack", "(II)V"⟩
abbrev cX9_openLevel : ByteArray := prog_11_method_8_code
def yX9_openLevel : MethodName := ⟨RX9, "openLevel", "()V"⟩
abbrev cX9_closeLevel : ByteArray := prog_11_method_9_code
def yX9_closeLevel : MethodName := ⟨RX9, "closeLevel", "()V"⟩
abbrev cX9_complete : ByteArray := prog_11_method_10_code
def yX9_complete : MethodName := ⟨RX9, "complete", "()Z"⟩
abbrev cX9_gather : ByteArray := prog_11_method_11_code
def yX9_gather : MethodName := ⟨RX9, "gather", "(III)V"⟩
abbrev cX9_isTooLargeSide : ByteArray := prog_11_method_12_code
def yX9_isTooLargeSide : MethodName := ⟨RX9, "isTooLargeSide", "(I)Z"⟩
abbrev cX9_takeRules : ByteArray := prog_11_method_13_code
def yX9_takeRules : MethodName := ⟨RX9, "takeRules", "()V"⟩
abbrev cX9_addRule : ByteArray := prog_11_method_14_code
def yX9_addRule : MethodName := ⟨RX9, "addRule", "(II)V"⟩
abbrev cX9_ruleFor : ByteArray := prog_11_method_15_code
def yX9_ruleFor : MethodName := ⟨RX9, "ruleFor", "(I)I"⟩
abbrev cX9_normalize : ByteArray := prog_11_method_16_code
def yX9_normalize : MethodName := ⟨RX9, "normalize", "(I)I"⟩
abbrev cX9_makesEqual : ByteArray := prog_11_method_17_code
def yX9_makesEqual : MethodName := ⟨RX9, "makesEqual", "(II)Z"⟩
abbrev cX9_makesEqualWithout : ByteArray := prog_11_method_18_code
def yX9_makesEqualWithout : MethodName := ⟨RX9, "makesEqualWithout", "(III)Z"⟩
abbrev cX9_firstConflict : ByteArray := prog_11_method_19_code
def yX9_firstConflict : MethodName := ⟨RX9, "firstConflict", "()I"⟩
abbrev cX9_countSteps : ByteArray := prog_11_method_20_code
def yX9_countSteps : MethodName := ⟨RX9, "countSteps", "(I)I"⟩
abbrev cX9_makeSteps : ByteArray := prog_11_method_21_code
def yX9_makeSteps : MethodName := ⟨RX9, "makeSteps", "(II)I"⟩
abbrev cX9_stepFrom : ByteArray := prog_11_method_22_code
def yX9_stepFrom : MethodName := ⟨RX9, "stepFrom", "(III)I"⟩
abbrev cX9_markTerms : ByteArray := prog_11_method_23_code
def yX9_markTerms : MethodName := ⟨RX9, "markTerms", "()V"⟩
def RX10 : String := "GroundProver$Walk"
def TX10 : u_T := fun k => match k with
  | 0 => ("GroundProver$Walk", "store", "LGroundProver$TermStore;", true)
  | 1 => ("GroundProver$Walk", "slots", "LGroundProver$Row;", true)
  | 2 => ("GroundProver$Walk", "nodes", "LGroundProver$Row;", true)
  | 3 => ("GroundProver$Walk", "values", "LGroundProver$Row;", true)
  | 4 => ("GroundProver$Walk", "tallies", "LGroundProver$Row;", true)
  | 5 => ("GroundProver$Walk", "open", "[I", true)
  | _ => ("GroundProver$Walk", "count", "I", false)
def tyX10 : Nat → FieldType := fun k => match k with
  | 0 => .object "GroundProver$TermStore"
  | 1 => .object "GroundProver$Row"
  | 2 => .object "GroundProver$Row"
  | 3 => .object "GroundProver$Row"
  | 4 => .object "GroundProver$Row"
  | 5 => .array .int
  | _ => .int
abbrev wsX100 : List Cond := u_ws RX10 TX10 7
theorem nmX10 : ∀ a, a < 7 → ∀ b, b < 7 → a ≠ b → (TX10 a).2.1 ≠ (TX10 b).2.1 := by decide +kernel
theorem tyX10_ok : ∀ k, k < 7 → parseFieldDescriptor (TX10 k).2.2.1 = some (tyX10 k) := by decide +kernel
abbrev cX10_init : ByteArray := prog_12_method_1_code
def yX10_init : MethodName := ⟨RX10, "<init>", "(LGroundProver$TermStore;)V"⟩
abbrev cX10_count : ByteArray := prog_12_method_2_code
def yX10_count : MethodName := ⟨RX10, "count", "()I"⟩
abbrev cX10_node : ByteArray := prog_12_method_3_code
def yX10_node : MethodName := ⟨RX10, "node", "(I)I"⟩
abbrev cX10_value : ByteArray := prog_12_method_4_code
def yX10_value : MethodName := ⟨RX10, "value", "(I)I"⟩
abbrev cX10_setValue : ByteArray := prog_12_method_5_code
def yX10_setValue : MethodName := ⟨RX10, "setValue", "(II)V"⟩
abbrev cX10_tally : ByteArray := prog_12_method_6_code
def yX10_tally : MethodName := ⟨RX10, "tally", "(I)I"⟩
abbrev cX10_setTally : ByteArray := prog_12_method_7_code
def yX10_setTally : MethodName := ⟨RX10, "setTally", "(II)V"⟩
abbrev cX10_clear : ByteArray := prog_12_method_8_code
def yX10_clear : MethodName := ⟨RX10, "clear", "()V"⟩
abbrev cX10_indexOf : ByteArray := prog_12_method_9_code
def yX10_indexOf : MethodName := ⟨RX10, "indexOf", "(I)I"⟩
abbrev cX10_partOf : ByteArray := prog_12_method_10_code
def yX10_partOf : MethodName := ⟨RX10, "partOf", "(II)I"⟩
abbrev cX10_add : ByteArray := prog_12_method_11_code
def yX10_add : MethodName := ⟨RX10, "add", "(I)V"⟩
abbrev cX10_firstUnlisted : ByteArray := prog_12_method_12_code
def yX10_firstUnlisted : MethodName := ⟨RX10, "firstUnlisted", "(I)I"⟩
abbrev cX10_append : ByteArray := prog_12_method_13_code
def yX10_append : MethodName := ⟨RX10, "append", "(I)V"⟩
abbrev cX10_countIn : ByteArray := prog_12_method_14_code
def yX10_countIn : MethodName := ⟨RX10, "countIn", "(II)I"⟩
abbrev cX10_sumOfParts : ByteArray := prog_12_method_15_code
def yX10_sumOfParts : MethodName := ⟨RX10, "sumOfParts", "(I)I"⟩
abbrev cX10_exchangeIn : ByteArray := prog_12_method_16_code
def yX10_exchangeIn : MethodName := ⟨RX10, "exchangeIn", "(III)I"⟩
abbrev cX10_rebuild : ByteArray := prog_12_method_17_code
def yX10_rebuild : MethodName := ⟨RX10, "rebuild", "(I)I"⟩
def RX11 : String := "GroundProver"
def TX11 : u_T := fun k => match k with
  | 0 => ("GroundProver", "symbols", "LGroundProver$Symbols;", true)
  | 1 => ("GroundProver", "store", "LGroundProver$TermStore;", true)
  | 2 => ("GroundProver", "walk", "LGroundProver$Walk;", true)
  | 3 => ("GroundProver", "grammar", "LGroundProver$Grammar;", true)
  | 4 => ("GroundProver", "theory", "LGroundProver$Theory;", true)
  | 5 => ("GroundProver", "reader", "LGroundProver$Reader;", true)
  | 6 => ("GroundProver", "printer", "LGroundProver$Printer;", true)
  | 7 => ("GroundProver", "search", "LGroundProver$ClassSearch;", true)
  | 8 => ("GroundProver", "matcher", "LGroundProver$Matcher;", true)
  | 9 => ("GroundProver", "numbered", "LGroundProver$Row;", true)
  | _ => ("GroundProver", "numberedCount", "I", false)
def tyX11 : Nat → FieldType := fun k => match k with
  | 0 => .object "GroundProver$Symbols"
  | 1 => .object "GroundProver$TermStore"
  | 2 => .object "GroundProver$Walk"
  | 3 => .object "GroundProver$Grammar"
  | 4 => .object "GroundProver$Theory"
  | 5 => .object "GroundProver$Reader"
  | 6 => .object "GroundProver$Printer"
  | 7 => .object "GroundProver$ClassSearch"
  | 8 => .object "GroundProver$Matcher"
  | 9 => .object "GroundProver$Row"
  | _ => .int
abbrev wsX110 : List Cond := u_ws RX11 TX11 11
theorem nmX11 : ∀ a, a < 11 → ∀ b, b < 11 → a ≠ b → (TX11 a).2.1 ≠ (TX11 b).2.1 := by decide +kernel
theorem tyX11_ok : ∀ k, k < 11 → parseFieldDescriptor (TX11 k).2.2.1 = some (tyX11 k) := by decide +kernel
abbrev cX11_init : ByteArray := prog_1_method_1_code
def yX11_init : MethodName := ⟨RX11, "<init>", "()V"⟩
abbrev cX11_feed : ByteArray := prog_1_method_2_code
def yX11_feed : MethodName := ⟨RX11, "feed", "(IIIII)I"⟩
abbrev cX11_trim : ByteArray := prog_1_method_3_code
def yX11_trim : MethodName := ⟨RX11, "trim", "(I)I"⟩
abbrev cX11_declare : ByteArray := prog_1_method_4_code
def yX11_declare : MethodName := ⟨RX11, "declare", "(II)I"⟩
abbrev cX11_declareVariable : ByteArray := prog_1_method_5_code
def yX11_declareVariable : MethodName := ⟨RX11, "declareVariable", "()I"⟩
abbrev cX11_symbolCount : ByteArray := prog_1_method_6_code
def yX11_symbolCount : MethodName := ⟨RX11, "symbolCount", "()I"⟩
abbrev cX11_orderByWeight : ByteArray := prog_1_method_7_code
def yX11_orderByWeight : MethodName := ⟨RX11, "orderByWeight", "(Z)Z"⟩
abbrev cX11_promote : ByteArray := prog_1_method_8_code
def yX11_promote : MethodName := ⟨RX11, "promote", "(II)I"⟩
abbrev cX11_rankOf : ByteArray := prog_1_method_9_code
def yX11_rankOf : MethodName := ⟨RX11, "rankOf", "(I)I"⟩
abbrev cX11_setDirection : ByteArray := prog_1_method_10_code
def yX11_setDirection : MethodName := ⟨RX11, "setDirection", "(IZ)Z"⟩
abbrev cX11_term : ByteArray := prog_1_method_11_code
def yX11_term : MethodName := ⟨RX11, "term", "(IIII)I"⟩
abbrev cX11_read : ByteArray := prog_1_method_12_code
def yX11_read : MethodName := ⟨RX11, "read", "()I"⟩
abbrev cX11_errorKind : ByteArray := prog_1_method_13_code
def yX11_errorKind : MethodName := ⟨RX11, "errorKind", "()I"⟩
abbrev cX11_errorPosition : ByteArray := prog_1_method_14_code
def yX11_errorPosition : MethodName := ⟨RX11, "errorPosition", "()I"⟩
abbrev cX11_termCount : ByteArray := prog_1_method_15_code
def yX11_termCount : MethodName := ⟨RX11, "termCount", "()I"⟩
abbrev cX11_symbolOf : ByteArray := prog_1_method_16_code
def yX11_symbolOf : MethodName := ⟨RX11, "symbolOf", "(I)I"⟩
abbrev cX11_argument : ByteArray := prog_1_method_17_code
def yX11_argument : MethodName := ⟨RX11, "argument", "(II)I"⟩
abbrev cX11_size : ByteArray := prog_1_method_18_code
def yX11_size : MethodName := ⟨RX11, "size", "(I)I"⟩
abbrev cX11_depth : ByteArray := prog_1_method_19_code
def yX11_depth : MethodName := ⟨RX11, "depth", "(I)I"⟩
abbrev cX11_compare : ByteArray := prog_1_method_20_code
def yX11_compare : MethodName := ⟨RX11, "compare", "(II)I"⟩
abbrev cX11_occurrences : ByteArray := prog_1_method_21_code
def yX11_occurrences : MethodName := ⟨RX11, "occurrences", "(II)I"⟩
abbrev cX11_replace : ByteArray := prog_1_method_22_code
def yX11_replace : MethodName := ⟨RX11, "replace", "(III)I"⟩
abbrev cX11_write : ByteArray := prog_1_method_23_code
def yX11_write : MethodName := ⟨RX11, "write", "(I)I"⟩
abbrev cX11_outputByte : ByteArray := prog_1_method_24_code
def yX11_outputByte : MethodName := ⟨RX11, "outputByte", "(I)I"⟩
abbrev cX11_equate : ByteArray := prog_1_method_25_code
def yX11_equate : MethodName := ⟨RX11, "equate", "(II)I"⟩
abbrev cX11_separate : ByteArray := prog_1_method_26_code
def yX11_separate : MethodName := ⟨RX11, "separate", "(II)I"⟩
abbrev cX11_readTheory : ByteArray := prog_1_method_27_code
def yX11_readTheory : MethodName := ⟨RX11, "readTheory", "()I"⟩
abbrev cX11_equationCount : ByteArray := prog_1_method_28_code
def yX11_equationCount : MethodName := ⟨RX11, "equationCount", "()I"⟩
abbrev cX11_separationCount : ByteArray := prog_1_method_29_code
def yX11_separationCount : MethodName := ⟨RX11, "separationCount", "()I"⟩
abbrev cX11_isConsistent : ByteArray := prog_1_method_30_code
def yX11_isConsistent : MethodName := ⟨RX11, "isConsistent", "()Z"⟩
abbrev cX11_conflict : ByteArray := prog_1_method_31_code
def yX11_conflict : MethodName := ⟨RX11, "conflict", "()I"⟩
abbrev cX11_push : ByteArray := prog_1_method_32_code
def yX11_push : MethodName := ⟨RX11, "push", "()I"⟩
abbrev cX11_pop : ByteArray := prog_1_method_33_code
def yX11_pop : MethodName := ⟨RX11, "pop", "()I"⟩
abbrev cX11_ruleCount : ByteArray := prog_1_method_34_code
def yX11_ruleCount : MethodName := ⟨RX11, "ruleCount", "()I"⟩
abbrev cX11_ruleLeft : ByteArray := prog_1_method_35_code
def yX11_ruleLeft : MethodName := ⟨RX11, "ruleLeft", "(I)I"⟩
abbrev cX11_ruleRight : ByteArray := prog_1_method_36_code
def yX11_ruleRight : MethodName := ⟨RX11, "ruleRight", "(I)I"⟩
abbrev cX11_normalForm : ByteArray := prog_1_method_37_code
def yX11_normalForm : MethodName := ⟨RX11, "normalForm", "(I)I"⟩
abbrev cX11_areEqual : ByteArray := prog_1_method_38_code
def yX11_areEqual : MethodName := ⟨RX11, "areEqual", "(II)Z"⟩
abbrev cX11_dependsOn : ByteArray := prog_1_method_39_code
def yX11_dependsOn : MethodName := ⟨RX11, "dependsOn", "(III)Z"⟩
abbrev cX11_stepCount : ByteArray := prog_1_method_40_code
def yX11_stepCount : MethodName := ⟨RX11, "stepCount", "(I)I"⟩
abbrev cX11_afterSteps : ByteArray := prog_1_method_41_code
def yX11_afterSteps : MethodName := ⟨RX11, "afterSteps", "(II)I"⟩
abbrev cX11_countOfSize : ByteArray := prog_1_method_42_code
def yX11_countOfSize : MethodName := ⟨RX11, "countOfSize", "(II)J"⟩
abbrev cX11_isFinite : ByteArray := prog_1_method_43_code
def yX11_isFinite : MethodName := ⟨RX11, "isFinite", "(I)Z"⟩
abbrev cX11_smallest : ByteArray := prog_1_method_44_code
def yX11_smallest : MethodName := ⟨RX11, "smallest", "(I)I"⟩
abbrev cX11_match : ByteArray := prog_1_method_45_code
def yX11_match : MethodName := ⟨RX11, "match", "(II)I"⟩
abbrev cX11_solution : ByteArray := prog_1_method_46_code
def yX11_solution : MethodName := ⟨RX11, "solution", "(II)I"⟩
abbrev cX11_digest : ByteArray := prog_1_method_47_code
def yX11_digest : MethodName := ⟨RX11, "digest", "()J"⟩
abbrev cX11_isTerm : ByteArray := prog_1_method_48_code
def yX11_isTerm : MethodName := ⟨RX11, "isTerm", "(I)Z"⟩
abbrev cX11_giveNumber : ByteArray := prog_1_method_49_code
def yX11_giveNumber : MethodName := ⟨RX11, "giveNumber", "(I)I"⟩
abbrev cX11_tidy : ByteArray := prog_1_method_50_code
def yX11_tidy : MethodName := ⟨RX11, "tidy", "()V"⟩
def RX12 : String := "GroundProverModel"
def TX12 : u_T := fun k => match k with
  | 0 => ("GroundProverModel", "thrown", "I", false)
  | 1 => ("GroundProverModel", "symbols", "I", false)
  | 2 => ("GroundProverModel", "variables", "I", false)
  | 3 => ("GroundProverModel", "names", "[B", true)
  | 4 => ("GroundProverModel", "nameLengths", "[I", true)
  | 5 => ("GroundProverModel", "arities", "[I", true)
  | 6 => ("GroundProverModel", "weights", "[I", true)
  | 7 => ("GroundProverModel", "ranks", "[I", true)
  | 8 => ("GroundProverModel", "isVariable", "[Z", true)
  | 9 => ("GroundProverModel", "isFromRight", "[Z", true)
  | 10 => ("GroundProverModel", "isByWeight", "Z", false)
  | 11 => ("GroundProverModel", "isFixed", "Z", false)
  | 12 => ("GroundProverModel", "input", "[B", true)
  | 13 => ("GroundProverModel", "inputLength", "I", false)
  | 14 => ("GroundProverModel", "output", "[B", true)
  | 15 => ("GroundProverModel", "outputLength", "I", false)
  | 16 => ("GroundProverModel", "errorKind", "I", false)
  | 17 => ("GroundProverModel", "errorPosition", "I", false)
  | 18 => ("GroundProverModel", "terms", "I", false)
  | 19 => ("GroundProverModel", "room", "I", false)
  | 20 => ("GroundProverModel", "symbolAt", "[I", false)
  | 21 => ("GroundProverModel", "arguments", "[I", false)
  | 22 => ("GroundProverModel", "sizeAt", "[I", false)
  | 23 => ("GroundProverModel", "depthAt", "[I", false)
  | 24 => ("GroundProverModel", "weightAt", "[J", false)
  | 25 => ("GroundProverModel", "isGroundAt", "[Z", false)
  | 26 => ("GroundProverModel", "numberAt", "[I", false)
  | 27 => ("GroundProverModel", "numbered", "[I", false)
  | 28 => ("GroundProverModel", "numberedCount", "I", false)
  | 29 => ("GroundProverModel", "table", "[I", false)
  | 30 => ("GroundProverModel", "mark", "[I", false)
  | 31 => ("GroundProverModel", "marks", "I", false)
  | 32 => ("GroundProverModel", "place", "[I", false)
  | 33 => ("GroundProverModel", "work", "[I", false)
  | 34 => ("GroundProverModel", "path", "[I", false)
  | 35 => ("GroundProverModel", "lefts", "[I", false)
  | 36 => ("GroundProverModel", "rights", "[I", false)
  | 37 => ("GroundProverModel", "leftPlace", "[I", false)
  | 38 => ("GroundProverModel", "greater", "[Z", false)
  | 39 => ("GroundProverModel", "width", "I", false)
  | 40 => ("GroundProverModel", "equations", "[I", true)
  | 41 => ("GroundProverModel", "equationMany", "I", false)
  | 42 => ("GroundProverModel", "separations", "[I", true)
  | 43 => ("GroundProverModel", "separationMany", "I", false)
  | 44 => ("GroundProverModel", "levels", "[I", true)
  | 45 => ("GroundProverModel", "levelMany", "I", false)
  | 46 => ("GroundProverModel", "members", "[I", false)
  | 47 => ("GroundProverModel", "memberMany", "I", false)
  | 48 => ("GroundProverModel", "classes", "[I", false)
  | 49 => ("GroundProverModel", "least", "[I", false)
  | 50 => ("GroundProverModel", "memberAt", "[I", false)
  | 51 => ("GroundProverModel", "memberVersion", "[I", false)
  | 52 => ("GroundProverModel", "version", "I", false)
  | 53 => ("GroundProverModel", "ruleLefts", "[I", false)
  | 54 => ("GroundProverModel", "ruleRights", "[I", false)
  | 55 => ("GroundProverModel", "ruleMany", "I", false)
  | 56 => ("GroundProverModel", "ruleAt", "[I", false)
  | 57 => ("GroundProverModel", "normAt", "[I", false)
  | 58 => ("GroundProverModel", "normVersion", "[I", false)
  | 59 => ("GroundProverModel", "stepsAt", "[I", false)
  | 60 => ("GroundProverModel", "heap", "[I", false)
  | 61 => ("GroundProverModel", "heaped", "I", false)
  | 62 => ("GroundProverModel", "candidateAt", "[I", false)
  | 63 => ("GroundProverModel", "row", "[I", false)
  | 64 => ("GroundProverModel", "forms", "[I", false)
  | 65 => ("GroundProverModel", "formMany", "I", false)
  | 66 => ("GroundProverModel", "formAt", "[I", false)
  | 67 => ("GroundProverModel", "formVersion", "[I", false)
  | 68 => ("GroundProverModel", "formsVersion", "I", false)
  | 69 => ("GroundProverModel", "solutions", "[I", false)
  | 70 => ("GroundProverModel", "solutionMany", "I", false)
  | 71 => ("GroundProverModel", "asked", "[I", true)
  | 72 => ("GroundProverModel", "askedMany", "I", false)
  | 73 => ("GroundProverModel", "found", "[I", false)
  | 74 => ("GroundProverModel", "foundMany", "I", false)
  | 75 => ("GroundProverModel", "unknowns", "[I", true)
  | 76 => ("GroundProverModel", "unknownMany", "I", false)
  | 77 => ("GroundProverModel", "values", "[I", true)
  | 78 => ("GroundProverModel", "pattern", "[I", false)
  | 79 => ("GroundProverModel", "patternMany", "I", false)
  | 80 => ("GroundProverModel", "patternValue", "[I", false)
  | 81 => ("GroundProverModel", "candidates", "[I", false)
  | 82 => ("GroundProverModel", "candidateMany", "I", false)
  | 83 => ("GroundProverModel", "at", "I", false)
  | 84 => ("GroundProverModel", "openSymbols", "[I", true)
  | 85 => ("GroundProverModel", "openPlaces", "[I", true)
  | 86 => ("GroundProverModel", "openMany", "[I", true)
  | 87 => ("GroundProverModel", "openArguments", "[I", true)
  | 88 => ("GroundProverModel", "readTerm", "I", false)
  | 89 => ("GroundProverModel", "statements", "[I", true)
  | 90 => ("GroundProverModel", "statementMany", "I", false)
  | _ => ("GroundProverModel", "written", "[B", true)
def tyX12 : Nat → FieldType := fun k => match k with
  | 0 => .int
  | 1 => .int
  | 2 => .int
  | 3 => .array .byte
  | 4 => .array .int
  | 5 => .array .int
  | 6 => .array .int
  | 7 => .array .int
  | 8 => .array .boolean
  | 9 => .array .boolean
  | 10 => .boolean
  | 11 => .boolean
  | 12 => .array .byte
  | 13 => .int
  | 14 => .array .byte
  | 15 => .int
  | 16 => .int
  | 17 => .int
  | 18 => .int
  | 19 => .int
  | 20 => .array .int
  | 21 => .array .int
  | 22 => .array .int
  | 23 => .array .int
  | 24 => .array .long
  | 25 => .array .boolean
  | 26 => .array .int
  | 27 => .array .int
  | 28 => .int
  | 29 => .array .int
  | 30 => .array .int
  | 31 => .int
  | 32 => .array .int
  | 33 => .array .int
  | 34 => .array .int
  | 35 => .array .int
  | 36 => .array .int
  | 37 => .array .int
  | 38 => .array .boolean
  | 39 => .int
  | 40 => .array .int
  | 41 => .int
  | 42 => .array .int
  | 43 => .int
  | 44 => .array .int
  | 45 => .int
  | 46 => .array .int
  | 47 => .int
  | 48 => .array .int
  | 49 => .array .int
  | 50 => .array .int
  | 51 => .array .int
  | 52 => .int
  | 53 => .array .int
  | 54 => .array .int
  | 55 => .int
  | 56 => .array .int
  | 57 => .array .int
  | 58 => .array .int
  | 59 => .array .int
  | 60 => .array .int
  | 61 => .int
  | 62 => .array .int
  | 63 => .array .int
  | 64 => .array .int
  | 65 => .int
  | 66 => .array .int
  | 67 => .array .int
  | 68 => .int
  | 69 => .array .int
  | 70 => .int
  | 71 => .array .int
  | 72 => .int
  | 73 => .array .int
  | 74 => .int
  | 75 => .array .int
  | 76 => .int
  | 77 => .array .int
  | 78 => .array .int
  | 79 => .int
  | 80 => .array .int
  | 81 => .array .int
  | 82 => .int
  | 83 => .int
  | 84 => .array .int
  | 85 => .array .int
  | 86 => .array .int
  | 87 => .array .int
  | 88 => .int
  | 89 => .array .int
  | 90 => .int
  | _ => .array .byte
abbrev wsX120 : List Cond := u_ws RX12 TX12 92
theorem nmX12 : ∀ a, a < 92 → ∀ b, b < 92 → a ≠ b → (TX12 a).2.1 ≠ (TX12 b).2.1 := by decide +kernel
theorem tyX12_ok : ∀ k, k < 92 → parseFieldDescriptor (TX12 k).2.2.1 = some (tyX12 k) := by decide +kernel
abbrev cX12_init : ByteArray := prog_14_method_1_code
def yX12_init : MethodName := ⟨RX12, "<init>", "()V"⟩
abbrev cX12_thrown : ByteArray := prog_14_method_2_code
def yX12_thrown : MethodName := ⟨RX12, "thrown", "()I"⟩
abbrev cX12_fail : ByteArray := prog_14_method_3_code
def yX12_fail : MethodName := ⟨RX12, "fail", "(I)I"⟩
abbrev cX12_longer : ByteArray := prog_14_method_4_code
def yX12_longer : MethodName := ⟨RX12, "longer", "([II)[I"⟩
abbrev cX12_grow : ByteArray := prog_14_method_5_code
def yX12_grow : MethodName := ⟨RX12, "grow", "()V"⟩
abbrev cX12_slotOf : ByteArray := prog_14_method_6_code
def yX12_slotOf : MethodName := ⟨RX12, "slotOf", "(IIII)I"⟩
abbrev cX12_isTerm : ByteArray := prog_14_method_7_code
def yX12_isTerm : MethodName := ⟨RX12, "isTerm", "(IIIII)Z"⟩
abbrev cX12_known : ByteArray := prog_14_method_8_code
def yX12_known : MethodName := ⟨RX12, "known", "(IIII)I"⟩
abbrev cX12_made : ByteArray := prog_14_method_9_code
def yX12_made : MethodName := ⟨RX12, "made", "(IIII)I"⟩
abbrev cX12_argumentOf : ByteArray := prog_14_method_10_code
def yX12_argumentOf : MethodName := ⟨RX12, "argumentOf", "(II)I"⟩
abbrev cX12_arityOf : ByteArray := prog_14_method_11_code
def yX12_arityOf : MethodName := ⟨RX12, "arityOf", "(I)I"⟩
abbrev cX12_isTooLarge : ByteArray := prog_14_method_12_code
def yX12_isTooLarge : MethodName := ⟨RX12, "isTooLarge", "(I)Z"⟩
abbrev cX12_isNumber : ByteArray := prog_14_method_13_code
def yX12_isNumber : MethodName := ⟨RX12, "isNumber", "(I)Z"⟩
abbrev cX12_given : ByteArray := prog_14_method_14_code
def yX12_given : MethodName := ⟨RX12, "given", "(II)I"⟩
abbrev cX12_collect : ByteArray := prog_14_method_15_code
def yX12_collect : MethodName := ⟨RX12, "collect", "(I[II)I"⟩
abbrev cX12_order : ByteArray := prog_14_method_16_code
def yX12_order : MethodName := ⟨RX12, "order", "(II)I"⟩
abbrev cX12_firstUnlike : ByteArray := prog_14_method_17_code
def yX12_firstUnlike : MethodName := ⟨RX12, "firstUnlike", "(II)I"⟩
abbrev cX12_orderByWeights : ByteArray := prog_14_method_18_code
def yX12_orderByWeights : MethodName := ⟨RX12, "orderByWeights", "(II)I"⟩
abbrev cX12_isGreaterByPaths : ByteArray := prog_14_method_19_code
def yX12_isGreaterByPaths : MethodName := ⟨RX12, "isGreaterByPaths", "(II)Z"⟩
abbrev cX12_told : ByteArray := prog_14_method_20_code
def yX12_told : MethodName := ⟨RX12, "told", "(II)Z"⟩
abbrev cX12_isGreaterInTable : ByteArray := prog_14_method_21_code
def yX12_isGreaterInTable : MethodName := ⟨RX12, "isGreaterInTable", "(II)Z"⟩
abbrev cX12_addMembers : ByteArray := prog_14_method_22_code
def yX12_addMembers : MethodName := ⟨RX12, "addMembers", "(I)V"⟩
abbrev cX12_classOf : ByteArray := prog_14_method_23_code
def yX12_classOf : MethodName := ⟨RX12, "classOf", "(I)I"⟩
abbrev cX12_unite : ByteArray := prog_14_method_24_code
def yX12_unite : MethodName := ⟨RX12, "unite", "(II)V"⟩
abbrev cX12_areCongruent : ByteArray := prog_14_method_25_code
def yX12_areCongruent : MethodName := ⟨RX12, "areCongruent", "(II)Z"⟩
abbrev cX12_close : ByteArray := prog_14_method_26_code
def yX12_close : MethodName := ⟨RX12, "close", "(II)V"⟩
abbrev cX12_beginMembers : ByteArray := prog_14_method_27_code
def yX12_beginMembers : MethodName := ⟨RX12, "beginMembers", "()V"⟩
abbrev cX12_candidate : ByteArray := prog_14_method_28_code
def yX12_candidate : MethodName := ⟨RX12, "candidate", "(I)I"⟩
abbrev cX12_swap : ByteArray := prog_14_method_29_code
def yX12_swap : MethodName := ⟨RX12, "swap", "(II)V"⟩
abbrev cX12_isLess : ByteArray := prog_14_method_30_code
def yX12_isLess : MethodName := ⟨RX12, "isLess", "(II)Z"⟩
abbrev cX12_push : ByteArray := prog_14_method_31_code
def yX12_push : MethodName := ⟨RX12, "push", "(I)V"⟩
abbrev cX12_takeFirst : ByteArray := prog_14_method_32_code
def yX12_takeFirst : MethodName := ⟨RX12, "takeFirst", "()I"⟩
abbrev cX12_offer : ByteArray := prog_14_method_33_code
def yX12_offer : MethodName := ⟨RX12, "offer", "()V"⟩
abbrev cX12_findLeast : ByteArray := prog_14_method_34_code
def yX12_findLeast : MethodName := ⟨RX12, "findLeast", "()V"⟩
abbrev cX12_build : ByteArray := prog_14_method_35_code
def yX12_build : MethodName := ⟨RX12, "build", "(I)Z"⟩
abbrev cX12_isSmall : ByteArray := prog_14_method_36_code
def yX12_isSmall : MethodName := ⟨RX12, "isSmall", "(I)Z"⟩
abbrev cX12_addRule : ByteArray := prog_14_method_37_code
def yX12_addRule : MethodName := ⟨RX12, "addRule", "(II)V"⟩
abbrev cX12_collected : ByteArray := prog_14_method_38_code
def yX12_collected : MethodName := ⟨RX12, "collected", "(I)I"⟩
abbrev cX12_norm : ByteArray := prog_14_method_39_code
def yX12_norm : MethodName := ⟨RX12, "norm", "(I)I"⟩
abbrev cX12_addForm : ByteArray := prog_14_method_40_code
def yX12_addForm : MethodName := ⟨RX12, "addForm", "(I)V"⟩
abbrev cX12_findForms : ByteArray := prog_14_method_41_code
def yX12_findForms : MethodName := ⟨RX12, "findForms", "(I)V"⟩
abbrev cX12_termOf : ByteArray := prog_14_method_42_code
def yX12_termOf : MethodName := ⟨RX12, "termOf", "(II)I"⟩
abbrev cX12_counted : ByteArray := prog_14_method_43_code
def yX12_counted : MethodName := ⟨RX12, "counted", "(II)J"⟩
abbrev cX12_ways : ByteArray := prog_14_method_44_code
def yX12_ways : MethodName := ⟨RX12, "ways", "(II[JI)J"⟩
abbrev cX12_isFiniteForm : ByteArray := prog_14_method_45_code
def yX12_isFiniteForm : MethodName := ⟨RX12, "isFiniteForm", "(I)Z"⟩
abbrev cX12_smallestOf : ByteArray := prog_14_method_46_code
def yX12_smallestOf : MethodName := ⟨RX12, "smallestOf", "(I)I"⟩
abbrev cX12_isBetter : ByteArray := prog_14_method_47_code
def yX12_isBetter : MethodName := ⟨RX12, "isBetter", "(II)Z"⟩
abbrev cX12_withBest : ByteArray := prog_14_method_48_code
def yX12_withBest : MethodName := ⟨RX12, "withBest", "(I[I)I"⟩
abbrev cX12_addCandidates : ByteArray := prog_14_method_49_code
def yX12_addCandidates : MethodName := ⟨RX12, "addCandidates", "(I)V"⟩
abbrev cX12_findUnknowns : ByteArray := prog_14_method_50_code
def yX12_findUnknowns : MethodName := ⟨RX12, "findUnknowns", "()V"⟩
abbrev cX12_valueOf : ByteArray := prog_14_method_51_code
def yX12_valueOf : MethodName := ⟨RX12, "valueOf", "(I)I"⟩
abbrev cX12_evaluated : ByteArray := prog_14_method_52_code
def yX12_evaluated : MethodName := ⟨RX12, "evaluated", "()I"⟩
abbrev cX12_solve : ByteArray := prog_14_method_53_code
def yX12_solve : MethodName := ⟨RX12, "solve", "(II)V"⟩
abbrev cX12_sortCandidates : ByteArray := prog_14_method_54_code
def yX12_sortCandidates : MethodName := ⟨RX12, "sortCandidates", "()V"⟩
abbrev cX12_after : ByteArray := prog_14_method_55_code
def yX12_after : MethodName := ⟨RX12, "after", "(II)I"⟩
abbrev cX12_error : ByteArray := prog_14_method_56_code
def yX12_error : MethodName := ⟨RX12, "error", "(II)Z"⟩
abbrev cX12_look : ByteArray := prog_14_method_57_code
def yX12_look : MethodName := ⟨RX12, "look", "()I"⟩
abbrev cX12_isLetter : ByteArray := prog_14_method_58_code
def yX12_isLetter : MethodName := ⟨RX12, "isLetter", "(I)Z"⟩
abbrev cX12_isInName : ByteArray := prog_14_method_59_code
def yX12_isInName : MethodName := ⟨RX12, "isInName", "(I)Z"⟩
abbrev cX12_symbolNamed : ByteArray := prog_14_method_60_code
def yX12_symbolNamed : MethodName := ⟨RX12, "symbolNamed", "(II)I"⟩
abbrev cX12_readsTerm : ByteArray := prog_14_method_61_code
def yX12_readsTerm : MethodName := ⟨RX12, "readsTerm", "(Z)Z"⟩
abbrev cX12_readsTheory : ByteArray := prog_14_method_62_code
def yX12_readsTheory : MethodName := ⟨RX12, "readsTheory", "()Z"⟩
abbrev cX12_beginText : ByteArray := prog_14_method_63_code
def yX12_beginText : MethodName := ⟨RX12, "beginText", "()V"⟩
abbrev cX12_feed : ByteArray := prog_14_method_64_code
def yX12_feed : MethodName := ⟨RX12, "feed", "(IIIII)I"⟩
abbrev cX12_four : ByteArray := prog_14_method_65_code
def yX12_four : MethodName := ⟨RX12, "four", "(I)V"⟩
abbrev cX12_trim : ByteArray := prog_14_method_66_code
def yX12_trim : MethodName := ⟨RX12, "trim", "(I)I"⟩
abbrev cX12_isName : ByteArray := prog_14_method_67_code
def yX12_isName : MethodName := ⟨RX12, "isName", "(I)Z"⟩
abbrev cX12_declared : ByteArray := prog_14_method_68_code
def yX12_declared : MethodName := ⟨RX12, "declared", "(IIIZ)I"⟩
abbrev cX12_declare : ByteArray := prog_14_method_69_code
def yX12_declare : MethodName := ⟨RX12, "declare", "(II)I"⟩
abbrev cX12_declareVariable : ByteArray := prog_14_method_70_code
def yX12_declareVariable : MethodName := ⟨RX12, "declareVariable", "()I"⟩
abbrev cX12_symbolCount : ByteArray := prog_14_method_71_code
def yX12_symbolCount : MethodName := ⟨RX12, "symbolCount", "()I"⟩
abbrev cX12_isSymbol : ByteArray := prog_14_method_72_code
def yX12_isSymbol : MethodName := ⟨RX12, "isSymbol", "(I)Z"⟩
abbrev cX12_orderByWeight : ByteArray := prog_14_method_73_code
def yX12_orderByWeight : MethodName := ⟨RX12, "orderByWeight", "(Z)Z"⟩
abbrev cX12_promote : ByteArray := prog_14_method_74_code
def yX12_promote : MethodName := ⟨RX12, "promote", "(II)I"⟩
abbrev cX12_rankOf : ByteArray := prog_14_method_75_code
def yX12_rankOf : MethodName := ⟨RX12, "rankOf", "(I)I"⟩
abbrev cX12_setDirection : ByteArray := prog_14_method_76_code
def yX12_setDirection : MethodName := ⟨RX12, "setDirection", "(IZ)Z"⟩
abbrev cX12_term : ByteArray := prog_14_method_77_code
def yX12_term : MethodName := ⟨RX12, "term", "(IIII)I"⟩
abbrev cX12_read : ByteArray := prog_14_method_78_code
def yX12_read : MethodName := ⟨RX12, "read", "()I"⟩
abbrev cX12_errorKind : ByteArray := prog_14_method_79_code
def yX12_errorKind : MethodName := ⟨RX12, "errorKind", "()I"⟩
abbrev cX12_errorPosition : ByteArray := prog_14_method_80_code
def yX12_errorPosition : MethodName := ⟨RX12, "errorPosition", "()I"⟩
abbrev cX12_termCount : ByteArray := prog_14_method_81_code
def yX12_termCount : MethodName := ⟨RX12, "termCount", "()I"⟩
abbrev cX12_symbolOf : ByteArray := prog_14_method_82_code
def yX12_symbolOf : MethodName := ⟨RX12, "symbolOf", "(I)I"⟩
abbrev cX12_argument : ByteArray := prog_14_method_83_code
def yX12_argument : MethodName := ⟨RX12, "argument", "(II)I"⟩
abbrev cX12_size : ByteArray := prog_14_method_84_code
def yX12_size : MethodName := ⟨RX12, "size", "(I)I"⟩
abbrev cX12_depth : ByteArray := prog_14_method_85_code
def yX12_depth : MethodName := ⟨RX12, "depth", "(I)I"⟩
abbrev cX12_compare : ByteArray := prog_14_method_86_code
def yX12_compare : MethodName := ⟨RX12, "compare", "(II)I"⟩
abbrev cX12_occurrences : ByteArray := prog_14_method_87_code
def yX12_occurrences : MethodName := ⟨RX12, "occurrences", "(II)I"⟩
abbrev cX12_replace : ByteArray := prog_14_method_88_code
def yX12_replace : MethodName := ⟨RX12, "replace", "(III)I"⟩
abbrev cX12_write : ByteArray := prog_14_method_89_code
def yX12_write : MethodName := ⟨RX12, "write", "(I)I"⟩
abbrev cX12_outputByte : ByteArray := prog_14_method_90_code
def yX12_outputByte : MethodName := ⟨RX12, "outputByte", "(I)I"⟩
abbrev cX12_areGround : ByteArray := prog_14_method_91_code
def yX12_areGround : MethodName := ⟨RX12, "areGround", "(II)Z"⟩
abbrev cX12_addEquation : ByteArray := prog_14_method_92_code
def yX12_addEquation : MethodName := ⟨RX12, "addEquation", "(II)I"⟩
abbrev cX12_addSeparation : ByteArray := prog_14_method_93_code
def yX12_addSeparation : MethodName := ⟨RX12, "addSeparation", "(II)I"⟩
abbrev cX12_equate : ByteArray := prog_14_method_94_code
def yX12_equate : MethodName := ⟨RX12, "equate", "(II)I"⟩
abbrev cX12_separate : ByteArray := prog_14_method_95_code
def yX12_separate : MethodName := ⟨RX12, "separate", "(II)I"⟩
abbrev cX12_readTheory : ByteArray := prog_14_method_96_code
def yX12_readTheory : MethodName := ⟨RX12, "readTheory", "()I"⟩
abbrev cX12_equationCount : ByteArray := prog_14_method_97_code
def yX12_equationCount : MethodName := ⟨RX12, "equationCount", "()I"⟩
abbrev cX12_separationCount : ByteArray := prog_14_method_98_code
def yX12_separationCount : MethodName := ⟨RX12, "separationCount", "()I"⟩
abbrev cX12_firstConflict : ByteArray := prog_14_method_99_code
def yX12_firstConflict : MethodName := ⟨RX12, "firstConflict", "()I"⟩
abbrev cX12_isConsistent : ByteArray := prog_14_method_100_code
def yX12_isConsistent : MethodName := ⟨RX12, "isConsistent", "()Z"⟩
abbrev cX12_conflict : ByteArray := prog_14_method_101_code
def yX12_conflict : MethodName := ⟨RX12, "conflict", "()I"⟩
abbrev cX12_push_ : ByteArray := prog_14_method_102_code
def yX12_push_ : MethodName := ⟨RX12, "push", "()I"⟩
abbrev cX12_pop : ByteArray := prog_14_method_103_code
def yX12_pop : MethodName := ⟨RX12, "pop", "()I"⟩
abbrev cX12_ruleCount : ByteArray := prog_14_method_104_code
def yX12_ruleCount : MethodName := ⟨RX12, "ruleCount", "()I"⟩
abbrev cX12_ruleLeft : ByteArray := prog_14_method_105_code
def yX12_ruleLeft : MethodName := ⟨RX12, "ruleLeft", "(I)I"⟩
abbrev cX12_ruleRight : ByteArray := prog_14_method_106_code
def yX12_ruleRight : MethodName := ⟨RX12, "ruleRight", "(I)I"⟩
abbrev cX12_normalForm : ByteArray := prog_14_method_107_code
def yX12_normalForm : MethodName := ⟨RX12, "normalForm", "(I)I"⟩
abbrev cX12_areEqual : ByteArray := prog_14_method_108_code
def yX12_areEqual : MethodName := ⟨RX12, "areEqual", "(II)Z"⟩
abbrev cX12_areEqualWithout : ByteArray := prog_14_method_109_code
def yX12_areEqualWithout : MethodName := ⟨RX12, "areEqualWithout", "(III)Z"⟩
abbrev cX12_dependsOn : ByteArray := prog_14_method_110_code
def yX12_dependsOn : MethodName := ⟨RX12, "dependsOn", "(III)Z"⟩
abbrev cX12_stepCount : ByteArray := prog_14_method_111_code
def yX12_stepCount : MethodName := ⟨RX12, "stepCount", "(I)I"⟩
abbrev cX12_afterSteps : ByteArray := prog_14_method_112_code
def yX12_afterSteps : MethodName := ⟨RX12, "afterSteps", "(II)I"⟩
abbrev cX12_countOfSize : ByteArray := prog_14_method_113_code
def yX12_countOfSize : MethodName := ⟨RX12, "countOfSize", "(II)J"⟩
abbrev cX12_isFinite : ByteArray := prog_14_method_114_code
def yX12_isFinite : MethodName := ⟨RX12, "isFinite", "(I)Z"⟩
abbrev cX12_smallest : ByteArray := prog_14_method_115_code
def yX12_smallest : MethodName := ⟨RX12, "smallest", "(I)I"⟩
abbrev cX12_match : ByteArray := prog_14_method_116_code
def yX12_match : MethodName := ⟨RX12, "match", "(II)I"⟩
abbrev cX12_solution : ByteArray := prog_14_method_117_code
def yX12_solution : MethodName := ⟨RX12, "solution", "(II)I"⟩
abbrev cX12_digest : ByteArray := prog_14_method_118_code
def yX12_digest : MethodName := ⟨RX12, "digest", "()J"⟩
def RJx145de : String := "java/io/Serializable"
def TJx145de : u_T := fun k => match k with
  | _ => ("", "", "", false)
def tyJx145de : Nat → FieldType := fun k => match k with
  | _ => .int
abbrev wsJx145de0 : List Cond := u_ws RJx145de TJx145de 0
theorem nmJx145de : ∀ a, a < 0 → ∀ b, b < 0 → a ≠ b → (TJx145de a).2.1 ≠ (TJx145de b).2.1 := by decide +kernel
theorem tyJx145de_ok : ∀ k, k < 0 → parseFieldDescriptor (TJx145de k).2.2.1 = some (tyJx145de k) := by decide +kernel
def RJx00060 : String := "java/lang/ArrayIndexOutOfBoundsException"
def TJx00060 : u_T := fun k => match k with
  | 0 => ("java/lang/Throwable", "backtrace", "Ljava/lang/Object;", false)
  | 1 => ("java/lang/Throwable", "detailMessage", "Ljava/lang/String;", false)
  | 2 => ("java/lang/Throwable", "cause", "Ljava/lang/Throwable;", false)
  | 3 => ("java/lang/Throwable", "stackTrace", "[Ljava/lang/StackTraceElement;", false)
  | 4 => ("java/lang/Throwable", "depth", "I", false)
  | _ => ("java/lang/Throwable", "suppressedExceptions", "Ljava/util/List;", false)
def tyJx00060 : Nat → FieldType := fun k => match k with
  | 0 => .object "java/lang/Object"
  | 1 => .object "java/lang/String"
  | 2 => .object "java/lang/Throwable"
  | 3 => .array (.object "java/lang/StackTraceElement")
  | 4 => .int
  | _ => .object "java/util/List"
abbrev wsJx000600 : List Cond := u_ws RJx00060 TJx00060 6
theorem nmJx00060 : ∀ a, a < 6 → ∀ b, b < 6 → a ≠ b → (TJx00060 a).2.1 ≠ (TJx00060 b).2.1 := by decide +kernel
theorem tyJx00060_ok : ∀ k, k < 6 → parseFieldDescriptor (TJx00060 k).2.2.1 = some (tyJx00060 k) := by decide +kernel
abbrev cJx00060_init_a7421 : ByteArray := prog_17_method_2_code
def yJx00060_init_a7421 : MethodName := ⟨RJx00060, "<init>", "(Ljava/lang/String;)V"⟩
def RJ9 : String := "java/lang/Math"
def TJ9 : u_T := fun k => match k with
  | _ => ("", "", "", false)
def tyJ9 : Nat → FieldType := fun k => match k with
  | _ => .int
abbrev wsJ90 : List Cond := u_ws RJ9 TJ9 0
theorem nmJ9 : ∀ a, a < 0 → ∀ b, b < 0 → a ≠ b → (TJ9 a).2.1 ≠ (TJ9 b).2.1 := by decide +kernel
theorem tyJ9_ok : ∀ k, k < 0 → parseFieldDescriptor (TJ9 k).2.2.1 = some (tyJ9 k) := by decide +kernel
abbrev cJ9_max_7cf53 : ByteArray := prog_22_method_65_code
def yJ9_max_7cf53 : MethodName := ⟨RJ9, "max", "(II)I"⟩
abbrev cJ9_min_7cf53 : ByteArray := prog_22_method_69_code
def yJ9_min_7cf53 : MethodName := ⟨RJ9, "min", "(II)I"⟩
abbrev cJ9_min_f86c9 : ByteArray := prog_22_method_70_code
def yJ9_min_f86c9 : MethodName := ⟨RJ9, "min", "(JJ)J"⟩
def RJ0 : String := "java/lang/String"
def TJ0 : u_T := fun k => match k with
  | 0 => ("java/lang/String", "value", "[B", true)
  | _ => ("java/lang/String", "coder", "B", true)
def tyJ0 : Nat → FieldType := fun k => match k with
  | 0 => .array .byte
  | _ => .byte
abbrev wsJ00 : List Cond := u_ws RJ0 TJ0 2
theorem nmJ0 : ∀ a, a < 2 → ∀ b, b < 2 → a ≠ b → (TJ0 a).2.1 ≠ (TJ0 b).2.1 := by decide +kernel
theorem tyJ0_ok : ∀ k, k < 2 → parseFieldDescriptor (TJ0 k).2.2.1 = some (tyJ0 k) := by decide +kernel
def RJ10 : String := "java/lang/System"
def TJ10 : u_T := fun k => match k with
  | _ => ("", "", "", false)
def tyJ10 : Nat → FieldType := fun k => match k with
  | _ => .int
abbrev wsJ100 : List Cond := u_ws RJ10 TJ10 0
theorem nmJ10 : ∀ a, a < 0 → ∀ b, b < 0 → a ≠ b → (TJ10 a).2.1 ≠ (TJ10 b).2.1 := by decide +kernel
theorem tyJ10_ok : ∀ k, k < 0 → parseFieldDescriptor (TJ10 k).2.2.1 = some (tyJ10 k) := by decide +kernel
def RL : String := "GroundProverLaw"
abbrev cL_feed : ByteArray := method_3_code
def yL_feed : MethodName := ⟨RL, "feed", "(LGroundProver;IIIII[J)I"⟩
abbrev cL_trim : ByteArray := method_4_code
def yL_trim : MethodName := ⟨RL, "trim", "(LGroundProver;I[J)I"⟩
abbrev cL_declare : ByteArray := method_5_code
def yL_declare : MethodName := ⟨RL, "declare", "(LGroundProver;II[J)I"⟩
abbrev cL_declareVariable : ByteArray := method_6_code
def yL_declareVariable : MethodName := ⟨RL, "declareVariable", "(LGroundProver;[J)I"⟩
abbrev cL_orderByWeight : ByteArray := method_7_code
def yL_orderByWeight : MethodName := ⟨RL, "orderByWeight", "(LGroundProver;Z[J)I"⟩
abbrev cL_promote : ByteArray := method_8_code
def yL_promote : MethodName := ⟨RL, "promote", "(LGroundProver;II[J)I"⟩
abbrev cL_rankOf : ByteArray := method_9_code
def yL_rankOf : MethodName := ⟨RL, "rankOf", "(LGroundProver;I[J)I"⟩
abbrev cL_setDirection : ByteArray := method_10_code
def yL_setDirection : MethodName := ⟨RL, "setDirection", "(LGroundProver;IZ[J)I"⟩
abbrev cL_term : ByteArray := method_11_code
def yL_term : MethodName := ⟨RL, "term", "(LGroundProver;IIII[J)I"⟩
abbrev cL_read : ByteArray := method_12_code
def yL_read : MethodName := ⟨RL, "read", "(LGroundProver;[J)I"⟩
abbrev cL_symbolOf : ByteArray := method_13_code
def yL_symbolOf : MethodName := ⟨RL, "symbolOf", "(LGroundProver;I[J)I"⟩
abbrev cL_argument : ByteArray := method_14_code
def yL_argument : MethodName := ⟨RL, "argument", "(LGroundProver;II[J)I"⟩
abbrev cL_size : ByteArray := method_15_code
def yL_size : MethodName := ⟨RL, "size", "(LGroundProver;I[J)I"⟩
abbrev cL_depth : ByteArray := method_16_code
def yL_depth : MethodName := ⟨RL, "depth", "(LGroundProver;I[J)I"⟩
abbrev cL_compare : ByteArray := method_17_code
def yL_compare : MethodName := ⟨RL, "compare", "(LGroundProver;II[J)I"⟩
abbrev cL_occurrences : ByteArray := method_18_code
def yL_occurrences : MethodName := ⟨RL, "occurrences", "(LGroundProver;II[J)I"⟩
abbrev cL_replace : ByteArray := method_19_code
def yL_replace : MethodName := ⟨RL, "replace", "(LGroundProver;III[J)I"⟩
abbrev cL_write : ByteArray := method_20_code
def yL_write : MethodName := ⟨RL, "write", "(LGroundProver;I[J)I"⟩
abbrev cL_outputByte : ByteArray := method_21_code
def yL_outputByte : MethodName := ⟨RL, "outputByte", "(LGroundProver;I[J)I"⟩
abbrev cL_equate : ByteArray := method_22_code
def yL_equate : MethodName := ⟨RL, "equate", "(LGroundProver;II[J)I"⟩
abbrev cL_separate : ByteArray := method_23_code
def yL_separate : MethodName := ⟨RL, "separate", "(LGroundProver;II[J)I"⟩
abbrev cL_readTheory : ByteArray := method_24_code
def yL_readTheory : MethodName := ⟨RL, "readTheory", "(LGroundProver;[J)I"⟩
abbrev cL_conflict : ByteArray := method_25_code
def yL_conflict : MethodName := ⟨RL, "conflict", "(LGroundProver;[J)I"⟩
abbrev cL_push : ByteArray := method_26_code
def yL_push : MethodName := ⟨RL, "push", "(LGroundProver;[J)I"⟩
abbrev cL_pop : ByteArray := method_27_code
def yL_pop : MethodName := ⟨RL, "pop", "(LGroundProver;[J)I"⟩
abbrev cL_ruleLeft : ByteArray := method_28_code
def yL_ruleLeft : MethodName := ⟨RL, "ruleLeft", "(LGroundProver;I[J)I"⟩
abbrev cL_ruleRight : ByteArray := method_29_code
def yL_ruleRight : MethodName := ⟨RL, "ruleRight", "(LGroundProver;I[J)I"⟩
abbrev cL_normalForm : ByteArray := method_30_code
def yL_normalForm : MethodName := ⟨RL, "normalForm", "(LGroundProver;I[J)I"⟩
abbrev cL_areEqual : ByteArray := method_31_code
def yL_areEqual : MethodName := ⟨RL, "areEqual", "(LGroundProver;II[J)I"⟩
abbrev cL_dependsOn : ByteArray := method_32_code
def yL_dependsOn : MethodName := ⟨RL, "dependsOn", "(LGroundProver;III[J)I"⟩
abbrev cL_stepCount : ByteArray := method_33_code
def yL_stepCount : MethodName := ⟨RL, "stepCount", "(LGroundProver;I[J)I"⟩
abbrev cL_afterSteps : ByteArray := method_34_code
def yL_afterSteps : MethodName := ⟨RL, "afterSteps", "(LGroundProver;II[J)I"⟩
abbrev cL_countOfSize : ByteArray := method_35_code
def yL_countOfSize : MethodName := ⟨RL, "countOfSize", "(LGroundProver;II[J)I"⟩
abbrev cL_isFinite : ByteArray := method_36_code
def yL_isFinite : MethodName := ⟨RL, "isFinite", "(LGroundProver;I[J)I"⟩
abbrev cL_smallest : ByteArray := method_37_code
def yL_smallest : MethodName := ⟨RL, "smallest", "(LGroundProver;I[J)I"⟩
abbrev cL_match : ByteArray := method_38_code
def yL_match : MethodName := ⟨RL, "match", "(LGroundProver;II[J)I"⟩
abbrev cL_solution : ByteArray := method_39_code
def yL_solution : MethodName := ⟨RL, "solution", "(LGroundProver;II[J)I"⟩
abbrev cL_law : ByteArray := code
def yL_law : MethodName := ⟨RL, "law", "([I)Z"⟩
end
section
section VWd
abbrev g_nm : List String := ["java/lang/RuntimeException", "java/lang/Exception"]
abbrev g_ISE : String := "java/lang/IllegalStateException"
abbrev g_IAE : String := "java/lang/IllegalArgumentException"
abbrev g_IOB : String := "java/lang/IndexOutOfBoundsException"
abbrev g_NSE : String := "java/util/NoSuchElementException"
def gW_0 : List Cond := [Cond.selects RX11 yX11_tidy yX11_tidy, Cond.selects RX5 yX5_isLetter yX5_isLetter, Cond.selects RX11 yX11_isTerm yX11_isTerm, Cond.selects RX5 yX5_start yX5_start, Cond.selects RX5 yX5_readOne yX5_readOne, Cond.selects RX5 yX5_readName yX5_readName, Cond.selects RX5 yX5_skipBlanks yX5_skipBlanks, Cond.selects RX5 yX5_peek yX5_peek, Cond.selects RX5 yX5_fail yX5_fail, Cond.selects RX12 yX12_fail yX12_fail, Cond.selects RX12 yX12_four yX12_four, Cond.selects RX12 yX12_isName yX12_isName, Cond.selects RX12 yX12_isSymbol yX12_isSymbol, Cond.selects RX12 yX12_isNumber yX12_isNumber, Cond.selects RX12 yX12_beginText yX12_beginText, Cond.selects RX12 yX12_readsTerm yX12_readsTerm, Cond.selects RX12 yX12_look yX12_look, Cond.selects RX12 yX12_error yX12_error, Cond.selects RX12 yX12_readsTheory yX12_readsTheory, Cond.selects RX12 yX12_firstConflict yX12_firstConflict, Cond.initialized RL, Cond.initialized RX11, Cond.initialized RX7, Cond.initialized RX8, Cond.initialized RX6]
def gW_1 : List Cond := [Cond.initialized "java/lang/Math", Cond.initialized RX10, Cond.initialized RX2, Cond.initialized RX9, Cond.initialized RX1, Cond.initialized RX5, Cond.initialized RX4, Cond.initialized RX0, Cond.initialized RX3, Cond.initialized RX12, Cond.initialized g_ISE, Cond.initialized g_IAE, Cond.initialized g_IOB, Cond.initialized g_NSE, Cond.classLink RL 8 RX11, Cond.instantiable RX11 11, Cond.methodLink RL 142 yX11_init, Cond.instanceMethod yX11_init, Cond.code yX11_init cX11_init 1 none, Cond.methodLink RX11 1 Lib.objectInit, Cond.instanceMethod Lib.objectInit, Cond.code Lib.objectInit ⟨#[0xb1]⟩ 1 none, Cond.classLink RX11 7 RX7, Cond.instantiable RX7 11, Cond.instanceMethod yX7_init]
def gW_2 : List Cond := [Cond.code yX7_init cX7_init 1 none, Cond.methodLink RX7 3 Lib.objectInit, Cond.fieldLink RX7 9 "GroundProver$Symbols" "names" "[B", Cond.fieldLink RX7 15 "GroundProver$Symbols" "lengths" "[I", Cond.fieldLink RX7 19 "GroundProver$Symbols" "arities" "[I", Cond.fieldLink RX7 22 "GroundProver$Symbols" "weights" "[I", Cond.fieldLink RX7 25 "GroundProver$Symbols" "ranks" "[I", Cond.fieldLink RX7 28 "GroundProver$Symbols" "ordinals" "[I", Cond.fieldLink RX7 31 "GroundProver$Symbols" "directions" "[Z", Cond.fieldLink RX7 35 "GroundProver$Symbols" "count" "I", Cond.fieldLink RX7 58 "GroundProver$Symbols" "isByWeight" "Z", Cond.fieldLink RX7 62 "GroundProver$Symbols" "isOrderFixed" "Z", Cond.arrayClass .byte, Cond.arrayClass .int, Cond.arrayClass .boolean, Cond.classLink RX11 16 RX8, Cond.instantiable RX8 13, Cond.methodLink RX11 18 yX8_init, Cond.instanceMethod yX8_init, Cond.code yX8_init cX8_init 2 none, Cond.methodLink RX8 3 Lib.objectInit, Cond.classLink RX8 9 RX6, Cond.instantiable RX6 1, Cond.constant RX8 11 524288, Cond.methodLink RX8 12 yX6_init]
def gW_3 : List Cond := [Cond.instanceMethod yX6_init, Cond.code yX6_init cX6_init 2 none, Cond.methodLink RX6 3 Lib.objectInit, Cond.methodLink RX6 9 Lib.Math.max.name, Cond.static Lib.Math.max.name, Cond.code Lib.Math.max.name Lib.Math.max.code 2 (some .int), Cond.classLink RX6 15 "[I", Cond.fieldLink RX6 17 "GroundProver$Row" "blocks" "[[I", Cond.constant RX8 21 1572864, Cond.constant RX8 34 32768, Cond.fieldLink RX8 46 "GroundProver$TermStore" "symbols" "LGroundProver$Symbols;", Cond.fieldLink RX8 15 "GroundProver$TermStore" "signs" "LGroundProver$Row;", Cond.fieldLink RX8 22 "GroundProver$TermStore" "parts" "LGroundProver$Row;", Cond.fieldLink RX8 25 "GroundProver$TermStore" "extents" "LGroundProver$Row;", Cond.fieldLink RX8 28 "GroundProver$TermStore" "numbers" "LGroundProver$Row;", Cond.fieldLink RX8 31 "GroundProver$TermStore" "links" "LGroundProver$Row;", Cond.fieldLink RX8 35 "GroundProver$TermStore" "buckets" "LGroundProver$Row;", Cond.fieldLink RX8 38 "GroundProver$TermStore" "pending" "[I", Cond.fieldLink RX8 88 "GroundProver$TermStore" "used" "I", Cond.fieldLink RX8 42 "GroundProver$TermStore" "crowd" "I", Cond.classLink RX11 25 RX10, Cond.instantiable RX10 7, Cond.methodLink RX11 27 yX10_init, Cond.instanceMethod yX10_init, Cond.code yX10_init cX10_init 2 none]
def gW_4 : List Cond := [Cond.methodLink RX10 3 Lib.objectInit, Cond.classLink RX10 9 RX6, Cond.constant RX10 11 524288, Cond.methodLink RX10 12 yX6_init, Cond.constant RX10 21 131072, Cond.fieldLink RX10 35 "GroundProver$Walk" "store" "LGroundProver$TermStore;", Cond.fieldLink RX10 15 "GroundProver$Walk" "slots" "LGroundProver$Row;", Cond.fieldLink RX10 22 "GroundProver$Walk" "nodes" "LGroundProver$Row;", Cond.fieldLink RX10 25 "GroundProver$Walk" "values" "LGroundProver$Row;", Cond.fieldLink RX10 28 "GroundProver$Walk" "tallies" "LGroundProver$Row;", Cond.fieldLink RX10 31 "GroundProver$Walk" "open" "[I", Cond.classLink RX11 34 RX2, Cond.instantiable RX2 20, Cond.methodLink RX11 36 yX2_init, Cond.instanceMethod yX2_init, Cond.code yX2_init cX2_init 2 none, Cond.methodLink RX2 3 Lib.objectInit, Cond.classLink RX2 9 RX6, Cond.constant RX2 11 131072, Cond.methodLink RX2 12 yX6_init, Cond.constant RX2 24 393216, Cond.fieldLink RX2 61 "GroundProver$Grammar" "symbols" "LGroundProver$Symbols;", Cond.fieldLink RX2 15 "GroundProver$Grammar" "owners" "LGroundProver$Row;", Cond.fieldLink RX2 21 "GroundProver$Grammar" "signs" "LGroundProver$Row;", Cond.fieldLink RX2 25 "GroundProver$Grammar" "parts" "LGroundProver$Row;"]
def gW_5 : List Cond := [Cond.fieldLink RX2 28 "GroundProver$Grammar" "waits" "LGroundProver$Row;", Cond.fieldLink RX2 31 "GroundProver$Grammar" "users" "LGroundProver$Row;", Cond.fieldLink RX2 34 "GroundProver$Grammar" "nextUsers" "LGroundProver$Row;", Cond.fieldLink RX2 37 "GroundProver$Grammar" "weights" "LGroundProver$Row;", Cond.fieldLink RX2 40 "GroundProver$Grammar" "sizes" "LGroundProver$Row;", Cond.fieldLink RX2 43 "GroundProver$Grammar" "depths" "LGroundProver$Row;", Cond.fieldLink RX2 46 "GroundProver$Grammar" "heap" "LGroundProver$Row;", Cond.fieldLink RX2 49 "GroundProver$Grammar" "chosen" "LGroundProver$Row;", Cond.fieldLink RX2 52 "GroundProver$Grammar" "positions" "LGroundProver$Row;", Cond.fieldLink RX2 55 "GroundProver$Grammar" "sequence" "LGroundProver$Row;", Cond.fieldLink RX2 58 "GroundProver$Grammar" "nodes" "LGroundProver$Row;", Cond.classLink RX11 41 RX9, Cond.instantiable RX9 18, Cond.methodLink RX11 43 yX9_init, Cond.instanceMethod yX9_init, Cond.code yX9_init cX9_init 5 none, Cond.methodLink RX9 3 Lib.objectInit, Cond.classLink RX9 36 RX6, Cond.constant RX9 38 524288, Cond.methodLink RX9 39 yX6_init, Cond.classLink RX9 62 RX1, Cond.instantiable RX1 11, Cond.methodLink RX9 64 yX1_init, Cond.instanceMethod yX1_init, Cond.code yX1_init cX1_init 3 none]
def gW_6 : List Cond := [Cond.methodLink RX1 3 Lib.objectInit, Cond.classLink RX1 9 RX6, Cond.constant RX1 11 131072, Cond.methodLink RX1 12 yX6_init, Cond.constant RX1 33 393216, Cond.fieldLink RX1 43 "GroundProver$Closure" "store" "LGroundProver$TermStore;", Cond.fieldLink RX1 47 "GroundProver$Closure" "walk" "LGroundProver$Walk;", Cond.fieldLink RX1 15 "GroundProver$Closure" "leaders" "LGroundProver$Row;", Cond.fieldLink RX1 21 "GroundProver$Closure" "nextMembers" "LGroundProver$Row;", Cond.fieldLink RX1 24 "GroundProver$Closure" "memberCounts" "LGroundProver$Row;", Cond.fieldLink RX1 27 "GroundProver$Closure" "twins" "LGroundProver$Row;", Cond.fieldLink RX1 30 "GroundProver$Closure" "signs" "LGroundProver$Row;", Cond.fieldLink RX1 34 "GroundProver$Closure" "parts" "LGroundProver$Row;", Cond.fieldLink RX1 37 "GroundProver$Closure" "buckets" "LGroundProver$Row;", Cond.fieldLink RX1 40 "GroundProver$Closure" "links" "LGroundProver$Row;", Cond.fieldLink RX9 46 "GroundProver$Theory" "symbols" "LGroundProver$Symbols;", Cond.fieldLink RX9 50 "GroundProver$Theory" "store" "LGroundProver$TermStore;", Cond.fieldLink RX9 54 "GroundProver$Theory" "walk" "LGroundProver$Walk;", Cond.fieldLink RX9 58 "GroundProver$Theory" "grammar" "LGroundProver$Grammar;", Cond.fieldLink RX9 67 "GroundProver$Theory" "closure" "LGroundProver$Closure;", Cond.fieldLink RX9 9 "GroundProver$Theory" "equationLefts" "[I", Cond.fieldLink RX9 15 "GroundProver$Theory" "equationRights" "[I", Cond.fieldLink RX9 71 "GroundProver$Theory" "equationCount" "I", Cond.fieldLink RX11 298 "GroundProver$Theory" "equationCount" "I", Cond.fieldLink RX9 18 "GroundProver$Theory" "separationLefts" "[I"]
def gW_7 : List Cond := [Cond.fieldLink RX9 21 "GroundProver$Theory" "separationRights" "[I", Cond.fieldLink RX9 75 "GroundProver$Theory" "separationCount" "I", Cond.fieldLink RX11 309 "GroundProver$Theory" "separationCount" "I", Cond.fieldLink RX9 24 "GroundProver$Theory" "levelEquations" "[I", Cond.fieldLink RX9 27 "GroundProver$Theory" "levelSeparations" "[I", Cond.fieldLink RX9 85 "GroundProver$Theory" "levelCount" "I", Cond.fieldLink RX11 354 "GroundProver$Theory" "levelCount" "I", Cond.fieldLink RX9 30 "GroundProver$Theory" "ruleLefts" "[I", Cond.fieldLink RX9 33 "GroundProver$Theory" "ruleRights" "[I", Cond.fieldLink RX9 42 "GroundProver$Theory" "ruleHints" "LGroundProver$Row;", Cond.fieldLink RX11 367 "GroundProver$Theory" "ruleCount" "I", Cond.classLink RX11 50 RX5, Cond.instantiable RX5 19, Cond.methodLink RX11 52 yX5_init, Cond.instanceMethod yX5_init, Cond.code yX5_init cX5_init 3 none, Cond.methodLink RX5 3 Lib.objectInit, Cond.fieldLink RX5 42 "GroundProver$Reader" "symbols" "LGroundProver$Symbols;", Cond.fieldLink RX5 46 "GroundProver$Reader" "store" "LGroundProver$TermStore;", Cond.fieldLink RX5 9 "GroundProver$Reader" "input" "[B", Cond.fieldLink RX5 50 "GroundProver$Reader" "length" "I", Cond.fieldLink RX5 86 "GroundProver$Reader" "end" "I", Cond.fieldLink RX5 83 "GroundProver$Reader" "at" "I", Cond.fieldLink RX5 104 "GroundProver$Reader" "isTheory" "Z", Cond.fieldLink RX5 53 "GroundProver$Reader" "kind" "I"]
def gW_8 : List Cond := [Cond.fieldLink RX5 15 "GroundProver$Reader" "position" "I", Cond.fieldLink RX5 19 "GroundProver$Reader" "openSymbols" "[I", Cond.fieldLink RX5 23 "GroundProver$Reader" "openStarts" "[I", Cond.fieldLink RX5 26 "GroundProver$Reader" "openCounts" "[I", Cond.fieldLink RX5 29 "GroundProver$Reader" "openParts" "[I", Cond.fieldLink RX5 114 "GroundProver$Reader" "openCount" "I", Cond.fieldLink RX5 32 "GroundProver$Reader" "lefts" "[I", Cond.fieldLink RX5 35 "GroundProver$Reader" "rights" "[I", Cond.fieldLink RX5 38 "GroundProver$Reader" "areEquations" "[Z", Cond.fieldLink RX5 56 "GroundProver$Reader" "statementCount" "I", Cond.classLink RX11 59 RX4, Cond.instantiable RX4 5, Cond.methodLink RX11 61 yX4_init, Cond.instanceMethod yX4_init, Cond.code yX4_init cX4_init 4 none, Cond.methodLink RX4 3 Lib.objectInit, Cond.fieldLink RX4 15 "GroundProver$Printer" "symbols" "LGroundProver$Symbols;", Cond.fieldLink RX4 19 "GroundProver$Printer" "store" "LGroundProver$TermStore;", Cond.fieldLink RX4 23 "GroundProver$Printer" "walk" "LGroundProver$Walk;", Cond.fieldLink RX4 9 "GroundProver$Printer" "output" "[B", Cond.fieldLink RX4 27 "GroundProver$Printer" "length" "I", Cond.classLink RX11 68 RX0, Cond.instantiable RX0 5, Cond.methodLink RX11 70 yX0_init, Cond.instanceMethod yX0_init]
def gW_9 : List Cond := [Cond.code yX0_init cX0_init 5 none, Cond.methodLink RX0 3 Lib.objectInit, Cond.fieldLink RX0 15 "GroundProver$ClassSearch" "theory" "LGroundProver$Theory;", Cond.fieldLink RX0 19 "GroundProver$ClassSearch" "store" "LGroundProver$TermStore;", Cond.fieldLink RX0 23 "GroundProver$ClassSearch" "walk" "LGroundProver$Walk;", Cond.fieldLink RX0 27 "GroundProver$ClassSearch" "grammar" "LGroundProver$Grammar;", Cond.fieldLink RX0 9 "GroundProver$ClassSearch" "counts" "[J", Cond.arrayClass .long, Cond.classLink RX11 77 RX3, Cond.instantiable RX3 15, Cond.methodLink RX11 79 yX3_init, Cond.instanceMethod yX3_init, Cond.code yX3_init cX3_init 5 none, Cond.methodLink RX3 5 Lib.objectInit, Cond.classLink RX3 11 RX6, Cond.methodLink RX3 13 yX6_init, Cond.fieldLink RX3 37 "GroundProver$Matcher" "theory" "LGroundProver$Theory;", Cond.fieldLink RX3 41 "GroundProver$Matcher" "store" "LGroundProver$TermStore;", Cond.fieldLink RX3 45 "GroundProver$Matcher" "walk" "LGroundProver$Walk;", Cond.fieldLink RX3 49 "GroundProver$Matcher" "grammar" "LGroundProver$Grammar;", Cond.fieldLink RX3 16 "GroundProver$Matcher" "found" "LGroundProver$Row;", Cond.fieldLink RX3 20 "GroundProver$Matcher" "kept" "LGroundProver$Row;", Cond.fieldLink RX11 425 "GroundProver$Matcher" "keptCount" "I", Cond.fieldLink RX3 23 "GroundProver$Matcher" "bindings" "[I", Cond.fieldLink RX3 27 "GroundProver$Matcher" "goalPatterns" "[I"]
def gW_10 : List Cond := [Cond.fieldLink RX3 30 "GroundProver$Matcher" "goalNodes" "[I", Cond.fieldLink RX3 33 "GroundProver$Matcher" "keys" "[J", Cond.classLink RX11 84 RX6, Cond.constant RX11 86 131072, Cond.methodLink RX11 87 yX6_init, Cond.fieldLink RX11 10 "GroundProver" "symbols" "LGroundProver$Symbols;", Cond.fieldLink RX11 21 "GroundProver" "store" "LGroundProver$TermStore;", Cond.fieldLink RX11 30 "GroundProver" "walk" "LGroundProver$Walk;", Cond.fieldLink RX11 37 "GroundProver" "grammar" "LGroundProver$Grammar;", Cond.fieldLink RX11 46 "GroundProver" "theory" "LGroundProver$Theory;", Cond.fieldLink RX11 55 "GroundProver" "reader" "LGroundProver$Reader;", Cond.fieldLink RX11 64 "GroundProver" "printer" "LGroundProver$Printer;", Cond.fieldLink RX11 73 "GroundProver" "search" "LGroundProver$ClassSearch;", Cond.fieldLink RX11 80 "GroundProver" "matcher" "LGroundProver$Matcher;", Cond.fieldLink RX11 90 "GroundProver" "numbered" "LGroundProver$Row;", Cond.fieldLink RX11 231 "GroundProver" "numberedCount" "I", Cond.methodLink RL 167 yX11_symbolCount, Cond.instanceMethod yX11_symbolCount, Cond.selects RX11 yX11_symbolCount yX11_symbolCount, Cond.code yX11_symbolCount cX11_symbolCount 1 (some .int), Cond.methodLink RX11 150 yX7_count, Cond.instanceMethod yX7_count, Cond.selects RX7 yX7_count yX7_count, Cond.code yX7_count cX7_count 1 (some .int), Cond.methodLink RL 192 yX11_errorKind]
def gW_11 : List Cond := [Cond.instanceMethod yX11_errorKind, Cond.selects RX11 yX11_errorKind yX11_errorKind, Cond.code yX11_errorKind cX11_errorKind 1 (some .int), Cond.methodLink RX11 225 yX5_kind, Cond.instanceMethod yX5_kind, Cond.selects RX5 yX5_kind yX5_kind, Cond.code yX5_kind cX5_kind 1 (some .int), Cond.methodLink RL 196 yX11_errorPosition, Cond.instanceMethod yX11_errorPosition, Cond.selects RX11 yX11_errorPosition yX11_errorPosition, Cond.code yX11_errorPosition cX11_errorPosition 1 (some .int), Cond.methodLink RX11 228 yX5_position, Cond.instanceMethod yX5_position, Cond.selects RX5 yX5_position yX5_position, Cond.code yX5_position cX5_position 1 (some .int), Cond.methodLink RL 200 yX11_termCount, Cond.instanceMethod yX11_termCount, Cond.selects RX11 yX11_termCount yX11_termCount, Cond.code yX11_termCount cX11_termCount 1 (some .int), Cond.methodLink RL 241 yX11_equationCount, Cond.instanceMethod yX11_equationCount, Cond.selects RX11 yX11_equationCount yX11_equationCount, Cond.code yX11_equationCount cX11_equationCount 1 (some .int), Cond.methodLink RL 245 yX11_separationCount, Cond.instanceMethod yX11_separationCount]
def gW_12 : List Cond := [Cond.selects RX11 yX11_separationCount yX11_separationCount, Cond.code yX11_separationCount cX11_separationCount 1 (some .int), Cond.methodLink RL 249 yX11_isConsistent, Cond.instanceMethod yX11_isConsistent, Cond.selects RX11 yX11_isConsistent yX11_isConsistent, Cond.code yX11_isConsistent cX11_isConsistent 1 (some .boolean), Cond.methodLink RX11 199 yX11_tidy, Cond.instanceMethod yX11_tidy, Cond.code yX11_tidy cX11_tidy 2 none, Cond.methodLink RX11 454 yX8_isCrowded, Cond.instanceMethod yX8_isCrowded, Cond.selects RX8 yX8_isCrowded yX8_isCrowded, Cond.code yX8_isCrowded cX8_isCrowded 1 (some .boolean), Cond.instanceMethod yX7_arity, Cond.selects RX7 yX7_arity yX7_arity, Cond.code yX7_arity cX7_arity 2 (some .int), Cond.methodLink RX11 346 yX9_firstConflict, Cond.instanceMethod yX9_firstConflict, Cond.selects RX9 yX9_firstConflict yX9_firstConflict, Cond.code yX9_firstConflict cX9_firstConflict 2 (some .int), Cond.methodLink RL 263 yX11_ruleCount, Cond.instanceMethod yX11_ruleCount, Cond.selects RX11 yX11_ruleCount yX11_ruleCount, Cond.code yX11_ruleCount cX11_ruleCount 1 (some .int), Cond.methodLink RL 303 yX11_digest]
def gW_13 : List Cond := [Cond.instanceMethod yX11_digest, Cond.selects RX11 yX11_digest yX11_digest, Cond.code yX11_digest cX11_digest 4 (some .long), Cond.constantLong RX11 441 527, Cond.constantLong RX11 443 31, Cond.methodLink RL 146 yL_feed, Cond.static yL_feed, Cond.codeWith yL_feed cL_feed 8 (some .int) [(0, 16, 19, 13)], Cond.classLink RL 13 g_ISE, Cond.methodLink RL 7 yX11_feed, Cond.instanceMethod yX11_feed, Cond.selects RX11 yX11_feed yX11_feed, Cond.code yX11_feed cX11_feed 6 (some .int), Cond.methodLink RX11 94 yX5_length, Cond.instanceMethod yX5_length, Cond.selects RX5 yX5_length yX5_length, Cond.code yX5_length cX5_length 1 (some .int), Cond.classLink RX11 98 g_ISE, Cond.methodLink RX11 105 yX5_append, Cond.instanceMethod yX5_append, Cond.selects RX5 yX5_append yX5_append, Cond.code yX5_append cX5_append 3 none, Cond.methodLink RL 155 yL_trim, Cond.static yL_trim, Cond.codeWith yL_trim cL_trim 4 (some .int) [(0, 9, 12, 19)]]
def gW_14 : List Cond := [Cond.classLink RL 19 g_IAE, Cond.methodLink RL 15 yX11_trim, Cond.instanceMethod yX11_trim, Cond.selects RX11 yX11_trim yX11_trim, Cond.code yX11_trim cX11_trim 2 (some .int), Cond.classLink RX11 108 g_IAE, Cond.methodLink RX11 113 yX5_shorten, Cond.instanceMethod yX5_shorten, Cond.selects RX5 yX5_shorten yX5_shorten, Cond.code yX5_shorten cX5_shorten 2 none, Cond.methodLink RL 159 yL_declare, Cond.static yL_declare, Cond.codeWith yL_declare cL_declare 5 (some .int) [(0, 10, 13, 19), (0, 10, 17, 13)], Cond.methodLink RL 21 yX11_declare, Cond.instanceMethod yX11_declare, Cond.selects RX11 yX11_declare yX11_declare, Cond.code yX11_declare cX11_declare 6 (some .int), Cond.methodLink RX11 116 yX5_holdsName, Cond.instanceMethod yX5_holdsName, Cond.selects RX5 yX5_holdsName yX5_holdsName, Cond.code yX5_holdsName cX5_holdsName 2 (some .boolean), Cond.methodLink RX5 59 yX5_isLetter, Cond.instanceMethod yX5_isLetter, Cond.code yX5_isLetter cX5_isLetter 2 (some .boolean), Cond.methodLink RX11 120 yX5_heldSymbol]
def gW_15 : List Cond := [Cond.instanceMethod yX5_heldSymbol, Cond.selects RX5 yX5_heldSymbol yX5_heldSymbol, Cond.code yX5_heldSymbol cX5_heldSymbol 1 (some .int), Cond.methodLink RX5 66 yX7_find, Cond.instanceMethod yX7_find, Cond.selects RX7 yX7_find yX7_find, Cond.code yX7_find cX7_find 5 (some .int), Cond.methodLink RX11 123 yX5_drain, Cond.instanceMethod yX5_drain, Cond.selects RX5 yX5_drain yX5_drain, Cond.code yX5_drain cX5_drain 2 (some .int), Cond.methodLink RL 163 yL_declareVariable, Cond.static yL_declareVariable, Cond.codeWith yL_declareVariable cL_declareVariable 3 (some .int) [(0, 8, 11, 19), (0, 8, 14, 13)], Cond.methodLink RL 25 yX11_declareVariable, Cond.instanceMethod yX11_declareVariable, Cond.selects RX11 yX11_declareVariable yX11_declareVariable, Cond.code yX11_declareVariable cX11_declareVariable 4 (some .int), Cond.methodLink RL 171 yL_orderByWeight, Cond.static yL_orderByWeight, Cond.codeWith yL_orderByWeight cL_orderByWeight 4 (some .int) [(0, 16, 19, 13)], Cond.methodLink RL 29 yX11_orderByWeight, Cond.instanceMethod yX11_orderByWeight, Cond.selects RX11 yX11_orderByWeight yX11_orderByWeight, Cond.code yX11_orderByWeight cX11_orderByWeight 3 (some .boolean)]
def gW_16 : List Cond := [Cond.methodLink RX11 153 yX7_isOrderFixed, Cond.instanceMethod yX7_isOrderFixed, Cond.selects RX7 yX7_isOrderFixed yX7_isOrderFixed, Cond.code yX7_isOrderFixed cX7_isOrderFixed 1 (some .boolean), Cond.methodLink RX11 158 yX7_isByWeight, Cond.instanceMethod yX7_isByWeight, Cond.selects RX7 yX7_isByWeight yX7_isByWeight, Cond.code yX7_isByWeight cX7_isByWeight 1 (some .boolean), Cond.methodLink RX11 161 yX7_chooseOrder, Cond.instanceMethod yX7_chooseOrder, Cond.selects RX7 yX7_chooseOrder yX7_chooseOrder, Cond.code yX7_chooseOrder cX7_chooseOrder 2 none, Cond.methodLink RL 175 yL_promote, Cond.static yL_promote, Cond.codeWith yL_promote cL_promote 5 (some .int) [(0, 10, 13, 36), (0, 10, 17, 13)], Cond.classLink RL 36 g_IOB, Cond.methodLink RL 33 yX11_promote, Cond.instanceMethod yX11_promote, Cond.selects RX11 yX11_promote yX11_promote, Cond.code yX11_promote cX11_promote 4 (some .int), Cond.methodLink RX11 165 yX7_has, Cond.instanceMethod yX7_has, Cond.selects RX7 yX7_has yX7_has, Cond.code yX7_has cX7_has 2 (some .boolean), Cond.classLink RX11 169 g_IOB]
def gW_17 : List Cond := [Cond.methodLink RL 178 yL_rankOf, Cond.static yL_rankOf, Cond.codeWith yL_rankOf cL_rankOf 4 (some .int) [(0, 9, 12, 36)], Cond.methodLink RL 38 yX11_rankOf, Cond.instanceMethod yX11_rankOf, Cond.selects RX11 yX11_rankOf yX11_rankOf, Cond.code yX11_rankOf cX11_rankOf 2 (some .int), Cond.methodLink RL 181 yL_setDirection, Cond.static yL_setDirection, Cond.codeWith yL_setDirection cL_setDirection 5 (some .int) [(0, 17, 20, 36), (0, 17, 24, 13)], Cond.methodLink RL 41 yX11_setDirection, Cond.instanceMethod yX11_setDirection, Cond.selects RX11 yX11_setDirection yX11_setDirection, Cond.code yX11_setDirection cX11_setDirection 4 (some .boolean), Cond.methodLink RL 185 yL_term, Cond.static yL_term, Cond.codeWith yL_term cL_term 7 (some .int) [(0, 14, 17, 36), (0, 14, 21, 49)], Cond.methodLink RL 45 yX11_term, Cond.instanceMethod yX11_term, Cond.selects RX11 yX11_term yX11_term, Cond.code yX11_term cX11_term 7 (some .int), Cond.methodLink RX11 191 yX7_arity, Cond.methodLink RX11 194 yX11_isTerm, Cond.instanceMethod yX11_isTerm, Cond.code yX11_isTerm cX11_isTerm 2 (some .boolean)]
def gW_18 : List Cond := [Cond.methodLink RL 189 yL_read, Cond.static yL_read, Cond.codeWith yL_read cL_read 3 (some .int) [(0, 8, 11, 19)], Cond.methodLink RL 51 yX11_read, Cond.instanceMethod yX11_read, Cond.selects RX11 yX11_read yX11_read, Cond.code yX11_read cX11_read 2 (some .int), Cond.methodLink RX11 220 yX5_readTerm, Cond.instanceMethod yX5_readTerm, Cond.selects RX5 yX5_readTerm yX5_readTerm, Cond.code yX5_readTerm cX5_readTerm 2 (some .int), Cond.methodLink RX5 72 yX5_start, Cond.instanceMethod yX5_start, Cond.code yX5_start cX5_start 2 none, Cond.methodLink RX5 108 yX5_drain, Cond.methodLink RX5 76 yX5_readOne, Cond.instanceMethod yX5_readOne, Cond.code yX5_readOne cX5_readOne 4 (some .int), Cond.methodLink RX5 117 yX5_readName, Cond.instanceMethod yX5_readName, Cond.code yX5_readName cX5_readName 2 (some .int), Cond.methodLink RX5 80 yX5_skipBlanks, Cond.instanceMethod yX5_skipBlanks, Cond.code yX5_skipBlanks cX5_skipBlanks 2 none, Cond.methodLink RX5 111 yX5_peek]
def gW_19 : List Cond := [Cond.instanceMethod yX5_peek, Cond.code yX5_peek cX5_peek 1 (some .int), Cond.methodLink RX5 89 yX5_fail, Cond.instanceMethod yX5_fail, Cond.code yX5_fail cX5_fail 3 (some .int), Cond.methodLink RL 204 yL_symbolOf, Cond.static yL_symbolOf, Cond.codeWith yL_symbolOf cL_symbolOf 4 (some .int) [(0, 9, 12, 36)], Cond.methodLink RL 54 yX11_symbolOf, Cond.instanceMethod yX11_symbolOf, Cond.selects RX11 yX11_symbolOf yX11_symbolOf, Cond.code yX11_symbolOf cX11_symbolOf 2 (some .int), Cond.methodLink RL 207 yL_argument, Cond.static yL_argument, Cond.codeWith yL_argument cL_argument 5 (some .int) [(0, 10, 13, 36)], Cond.methodLink RL 57 yX11_argument, Cond.instanceMethod yX11_argument, Cond.selects RX11 yX11_argument yX11_argument, Cond.code yX11_argument cX11_argument 3 (some .int), Cond.methodLink RL 210 yL_size, Cond.static yL_size, Cond.codeWith yL_size cL_size 4 (some .int) [(0, 9, 12, 36)], Cond.methodLink RL 60 yX11_size, Cond.instanceMethod yX11_size, Cond.selects RX11 yX11_size yX11_size]
def gW_20 : List Cond := [Cond.code yX11_size cX11_size 2 (some .int), Cond.methodLink RL 213 yL_depth, Cond.static yL_depth, Cond.codeWith yL_depth cL_depth 4 (some .int) [(0, 9, 12, 36)], Cond.methodLink RL 63 yX11_depth, Cond.instanceMethod yX11_depth, Cond.selects RX11 yX11_depth yX11_depth, Cond.code yX11_depth cX11_depth 2 (some .int), Cond.methodLink RL 216 yL_compare, Cond.static yL_compare, Cond.codeWith yL_compare cL_compare 5 (some .int) [(0, 10, 13, 36)], Cond.methodLink RL 66 yX11_compare, Cond.instanceMethod yX11_compare, Cond.selects RX11 yX11_compare yX11_compare, Cond.code yX11_compare cX11_compare 5 (some .int), Cond.methodLink RL 219 yL_occurrences, Cond.static yL_occurrences, Cond.codeWith yL_occurrences cL_occurrences 5 (some .int) [(0, 10, 13, 36)], Cond.methodLink RL 69 yX11_occurrences, Cond.instanceMethod yX11_occurrences, Cond.selects RX11 yX11_occurrences yX11_occurrences, Cond.code yX11_occurrences cX11_occurrences 3 (some .int), Cond.methodLink RL 222 yL_replace, Cond.static yL_replace, Cond.codeWith yL_replace cL_replace 6 (some .int) [(0, 12, 15, 36), (0, 12, 19, 49)]]
def gW_21 : List Cond := [Cond.methodLink RL 72 yX11_replace, Cond.instanceMethod yX11_replace, Cond.selects RX11 yX11_replace yX11_replace, Cond.code yX11_replace cX11_replace 5 (some .int), Cond.methodLink RL 226 yL_write, Cond.static yL_write, Cond.codeWith yL_write cL_write 4 (some .int) [(0, 9, 12, 36), (0, 9, 15, 49)], Cond.methodLink RL 76 yX11_write, Cond.instanceMethod yX11_write, Cond.selects RX11 yX11_write yX11_write, Cond.code yX11_write cX11_write 3 (some .int), Cond.methodLink RL 229 yL_outputByte, Cond.static yL_outputByte, Cond.codeWith yL_outputByte cL_outputByte 4 (some .int) [(0, 9, 12, 36)], Cond.methodLink RL 79 yX11_outputByte, Cond.instanceMethod yX11_outputByte, Cond.selects RX11 yX11_outputByte yX11_outputByte, Cond.code yX11_outputByte cX11_outputByte 2 (some .int), Cond.methodLink RX11 287 yX4_length, Cond.instanceMethod yX4_length, Cond.selects RX4 yX4_length yX4_length, Cond.code yX4_length cX4_length 1 (some .int), Cond.methodLink RL 232 yL_equate, Cond.static yL_equate, Cond.codeWith yL_equate cL_equate 5 (some .int) [(0, 10, 13, 36), (0, 10, 17, 19), (0, 10, 21, 13), (0, 10, 25, 49)]]
def gW_22 : List Cond := [Cond.methodLink RL 82 yX11_equate, Cond.instanceMethod yX11_equate, Cond.selects RX11 yX11_equate yX11_equate, Cond.code yX11_equate cX11_equate 3 (some .int), Cond.methodLink RL 235 yL_separate, Cond.static yL_separate, Cond.codeWith yL_separate cL_separate 5 (some .int) [(0, 10, 13, 36), (0, 10, 17, 19), (0, 10, 21, 13)], Cond.methodLink RL 85 yX11_separate, Cond.instanceMethod yX11_separate, Cond.selects RX11 yX11_separate yX11_separate, Cond.code yX11_separate cX11_separate 3 (some .int), Cond.methodLink RL 238 yL_readTheory, Cond.static yL_readTheory, Cond.codeWith yL_readTheory cL_readTheory 3 (some .int) [(0, 8, 11, 19), (0, 8, 14, 13), (0, 8, 17, 49)], Cond.methodLink RL 88 yX11_readTheory, Cond.instanceMethod yX11_readTheory, Cond.selects RX11 yX11_readTheory yX11_readTheory, Cond.code yX11_readTheory cX11_readTheory 5 (some .int), Cond.methodLink RX11 322 yX5_readTheoryText, Cond.instanceMethod yX5_readTheoryText, Cond.selects RX5 yX5_readTheoryText yX5_readTheoryText, Cond.code yX5_readTheoryText cX5_readTheoryText 5 (some .boolean), Cond.methodLink RX11 325 yX5_statementCount, Cond.instanceMethod yX5_statementCount, Cond.selects RX5 yX5_statementCount yX5_statementCount]
def gW_23 : List Cond := [Cond.code yX5_statementCount cX5_statementCount 1 (some .int), Cond.methodLink RL 254 yL_conflict, Cond.static yL_conflict, Cond.codeWith yL_conflict cL_conflict 3 (some .int) [(0, 8, 11, 94)], Cond.classLink RL 94 g_NSE, Cond.methodLink RL 91 yX11_conflict, Cond.instanceMethod yX11_conflict, Cond.selects RX11 yX11_conflict yX11_conflict, Cond.code yX11_conflict cX11_conflict 2 (some .int), Cond.classLink RX11 349 g_NSE, Cond.methodLink RL 257 yL_push, Cond.static yL_push, Cond.codeWith yL_push cL_push 3 (some .int) [(0, 8, 11, 13)], Cond.methodLink RL 96 yX11_push, Cond.instanceMethod yX11_push, Cond.selects RX11 yX11_push yX11_push, Cond.code yX11_push cX11_push 1 (some .int), Cond.methodLink RX11 359 yX9_openLevel, Cond.instanceMethod yX9_openLevel, Cond.selects RX9 yX9_openLevel yX9_openLevel, Cond.code yX9_openLevel cX9_openLevel 1 none, Cond.methodLink RL 260 yL_pop, Cond.static yL_pop, Cond.codeWith yL_pop cL_pop 3 (some .int) [(0, 8, 11, 13)], Cond.methodLink RL 99 yX11_pop]
def gW_24 : List Cond := [Cond.instanceMethod yX11_pop, Cond.selects RX11 yX11_pop yX11_pop, Cond.code yX11_pop cX11_pop 1 (some .int), Cond.methodLink RL 267 yL_ruleLeft, Cond.static yL_ruleLeft, Cond.codeWith yL_ruleLeft cL_ruleLeft 4 (some .int) [(0, 9, 12, 36)], Cond.methodLink RL 102 yX11_ruleLeft, Cond.instanceMethod yX11_ruleLeft, Cond.selects RX11 yX11_ruleLeft yX11_ruleLeft, Cond.code yX11_ruleLeft cX11_ruleLeft 2 (some .int), Cond.methodLink RL 270 yL_ruleRight, Cond.static yL_ruleRight, Cond.codeWith yL_ruleRight cL_ruleRight 4 (some .int) [(0, 9, 12, 36)], Cond.methodLink RL 105 yX11_ruleRight, Cond.instanceMethod yX11_ruleRight, Cond.selects RX11 yX11_ruleRight yX11_ruleRight, Cond.code yX11_ruleRight cX11_ruleRight 2 (some .int), Cond.methodLink RL 273 yL_normalForm, Cond.static yL_normalForm, Cond.codeWith yL_normalForm cL_normalForm 4 (some .int) [(0, 9, 12, 36), (0, 9, 15, 49)], Cond.methodLink RL 108 yX11_normalForm, Cond.instanceMethod yX11_normalForm, Cond.selects RX11 yX11_normalForm yX11_normalForm, Cond.code yX11_normalForm cX11_normalForm 3 (some .int), Cond.methodLink RL 276 yL_areEqual]
def gW_25 : List Cond := [Cond.static yL_areEqual, Cond.codeWith yL_areEqual cL_areEqual 5 (some .int) [(0, 17, 20, 36)], Cond.methodLink RL 111 yX11_areEqual, Cond.instanceMethod yX11_areEqual, Cond.selects RX11 yX11_areEqual yX11_areEqual, Cond.code yX11_areEqual cX11_areEqual 3 (some .boolean), Cond.methodLink RL 279 yL_dependsOn, Cond.static yL_dependsOn, Cond.codeWith yL_dependsOn cL_dependsOn 6 (some .int) [(0, 19, 22, 36)], Cond.methodLink RL 115 yX11_dependsOn, Cond.instanceMethod yX11_dependsOn, Cond.selects RX11 yX11_dependsOn yX11_dependsOn, Cond.code yX11_dependsOn cX11_dependsOn 4 (some .boolean), Cond.methodLink RL 282 yL_stepCount, Cond.static yL_stepCount, Cond.codeWith yL_stepCount cL_stepCount 4 (some .int) [(0, 9, 12, 36)], Cond.methodLink RL 119 yX11_stepCount, Cond.instanceMethod yX11_stepCount, Cond.selects RX11 yX11_stepCount yX11_stepCount, Cond.code yX11_stepCount cX11_stepCount 2 (some .int), Cond.methodLink RL 285 yL_afterSteps, Cond.static yL_afterSteps, Cond.codeWith yL_afterSteps cL_afterSteps 5 (some .int) [(0, 10, 13, 36), (0, 10, 17, 49)], Cond.methodLink RL 122 yX11_afterSteps, Cond.instanceMethod yX11_afterSteps]
def gW_26 : List Cond := [Cond.selects RX11 yX11_afterSteps yX11_afterSteps, Cond.code yX11_afterSteps cX11_afterSteps 4 (some .int), Cond.methodLink RL 288 yL_countOfSize, Cond.static yL_countOfSize, Cond.codeWith yL_countOfSize cL_countOfSize 5 (some .int) [(0, 9, 12, 36), (0, 9, 16, 19)], Cond.methodLink RL 125 yX11_countOfSize, Cond.instanceMethod yX11_countOfSize, Cond.selects RX11 yX11_countOfSize yX11_countOfSize, Cond.code yX11_countOfSize cX11_countOfSize 3 (some .long), Cond.methodLink RL 291 yL_isFinite, Cond.static yL_isFinite, Cond.codeWith yL_isFinite cL_isFinite 4 (some .int) [(0, 16, 19, 36)], Cond.methodLink RL 129 yX11_isFinite, Cond.instanceMethod yX11_isFinite, Cond.selects RX11 yX11_isFinite yX11_isFinite, Cond.code yX11_isFinite cX11_isFinite 2 (some .boolean), Cond.methodLink RL 294 yL_smallest, Cond.static yL_smallest, Cond.codeWith yL_smallest cL_smallest 4 (some .int) [(0, 9, 12, 36), (0, 9, 15, 49)], Cond.methodLink RL 133 yX11_smallest, Cond.instanceMethod yX11_smallest, Cond.selects RX11 yX11_smallest yX11_smallest, Cond.code yX11_smallest cX11_smallest 3 (some .int), Cond.methodLink RL 297 yL_match, Cond.static yL_match]
def gW_27 : List Cond := [Cond.codeWith yL_match cL_match 5 (some .int) [(0, 10, 13, 36), (0, 10, 17, 19), (0, 10, 21, 49)], Cond.methodLink RL 136 yX11_match, Cond.instanceMethod yX11_match, Cond.selects RX11 yX11_match yX11_match, Cond.code yX11_match cX11_match 4 (some .int), Cond.methodLink RL 300 yL_solution, Cond.static yL_solution, Cond.codeWith yL_solution cL_solution 5 (some .int) [(0, 10, 13, 36), (0, 10, 17, 94), (0, 10, 21, 49)], Cond.methodLink RL 139 yX11_solution, Cond.instanceMethod yX11_solution, Cond.selects RX11 yX11_solution yX11_solution, Cond.code yX11_solution cX11_solution 5 (some .int), Cond.classLink RL 143 RX12, Cond.instantiable RX12 92, Cond.methodLink RL 145 yX12_init, Cond.instanceMethod yX12_init, Cond.code yX12_init cX12_init 2 none, Cond.methodLink RX12 1 Lib.objectInit, Cond.fieldLink RX12 203 "GroundProverModel" "thrown" "I", Cond.fieldLink RX12 392 "GroundProverModel" "symbols" "I", Cond.fieldLink RX12 9 "GroundProverModel" "names" "[B", Cond.fieldLink RX12 13 "GroundProverModel" "nameLengths" "[I", Cond.fieldLink RX12 17 "GroundProverModel" "arities" "[I", Cond.fieldLink RX12 20 "GroundProverModel" "weights" "[I", Cond.fieldLink RX12 23 "GroundProverModel" "ranks" "[I"]
def gW_28 : List Cond := [Cond.fieldLink RX12 26 "GroundProverModel" "isVariable" "[Z", Cond.fieldLink RX12 30 "GroundProverModel" "isFromRight" "[Z", Cond.fieldLink RX12 265 "GroundProverModel" "isByWeight" "Z", Cond.fieldLink RX12 252 "GroundProverModel" "isFixed" "Z", Cond.fieldLink RX12 33 "GroundProverModel" "input" "[B", Cond.fieldLink RX12 430 "GroundProverModel" "inputLength" "I", Cond.fieldLink RX12 36 "GroundProverModel" "output" "[B", Cond.fieldLink RX12 483 "GroundProverModel" "outputLength" "I", Cond.fieldLink RX12 424 "GroundProverModel" "errorKind" "I", Cond.fieldLink RX12 39 "GroundProverModel" "errorPosition" "I", Cond.fieldLink RX12 43 "GroundProverModel" "room" "I", Cond.fieldLink RX12 46 "GroundProverModel" "symbolAt" "[I", Cond.fieldLink RX12 49 "GroundProverModel" "arguments" "[I", Cond.fieldLink RX12 52 "GroundProverModel" "sizeAt" "[I", Cond.fieldLink RX12 55 "GroundProverModel" "depthAt" "[I", Cond.fieldLink RX12 58 "GroundProverModel" "weightAt" "[J", Cond.fieldLink RX12 62 "GroundProverModel" "isGroundAt" "[Z", Cond.fieldLink RX12 65 "GroundProverModel" "numberAt" "[I", Cond.fieldLink RX12 68 "GroundProverModel" "numbered" "[I", Cond.fieldLink RX12 241 "GroundProverModel" "numberedCount" "I", Cond.fieldLink RX12 71 "GroundProverModel" "table" "[I", Cond.fieldLink RX12 74 "GroundProverModel" "mark" "[I", Cond.fieldLink RX12 77 "GroundProverModel" "place" "[I", Cond.fieldLink RX12 80 "GroundProverModel" "work" "[I", Cond.fieldLink RX12 83 "GroundProverModel" "path" "[I"]
def gW_29 : List Cond := [Cond.fieldLink RX12 86 "GroundProverModel" "lefts" "[I", Cond.fieldLink RX12 89 "GroundProverModel" "rights" "[I", Cond.fieldLink RX12 92 "GroundProverModel" "leftPlace" "[I", Cond.fieldLink RX12 95 "GroundProverModel" "greater" "[Z", Cond.fieldLink RX12 98 "GroundProverModel" "equations" "[I", Cond.fieldLink RX12 404 "GroundProverModel" "equationMany" "I", Cond.fieldLink RX12 101 "GroundProverModel" "separations" "[I", Cond.fieldLink RX12 489 "GroundProverModel" "separationMany" "I", Cond.fieldLink RX12 104 "GroundProverModel" "levels" "[I", Cond.fieldLink RX12 508 "GroundProverModel" "levelMany" "I", Cond.fieldLink RX12 107 "GroundProverModel" "members" "[I", Cond.fieldLink RX12 110 "GroundProverModel" "classes" "[I", Cond.fieldLink RX12 113 "GroundProverModel" "least" "[I", Cond.fieldLink RX12 116 "GroundProverModel" "memberAt" "[I", Cond.fieldLink RX12 119 "GroundProverModel" "memberVersion" "[I", Cond.fieldLink RX12 122 "GroundProverModel" "version" "I", Cond.fieldLink RX12 125 "GroundProverModel" "ruleLefts" "[I", Cond.fieldLink RX12 128 "GroundProverModel" "ruleRights" "[I", Cond.fieldLink RX12 333 "GroundProverModel" "ruleMany" "I", Cond.fieldLink RX12 131 "GroundProverModel" "ruleAt" "[I", Cond.fieldLink RX12 134 "GroundProverModel" "normAt" "[I", Cond.fieldLink RX12 137 "GroundProverModel" "normVersion" "[I", Cond.fieldLink RX12 140 "GroundProverModel" "stepsAt" "[I", Cond.fieldLink RX12 143 "GroundProverModel" "heap" "[I", Cond.fieldLink RX12 146 "GroundProverModel" "candidateAt" "[I"]
def gW_30 : List Cond := [Cond.fieldLink RX12 149 "GroundProverModel" "row" "[I", Cond.fieldLink RX12 152 "GroundProverModel" "forms" "[I", Cond.fieldLink RX12 155 "GroundProverModel" "formAt" "[I", Cond.fieldLink RX12 158 "GroundProverModel" "formVersion" "[I", Cond.fieldLink RX12 161 "GroundProverModel" "solutions" "[I", Cond.fieldLink RX12 528 "GroundProverModel" "solutionMany" "I", Cond.fieldLink RX12 164 "GroundProverModel" "asked" "[I", Cond.fieldLink RX12 167 "GroundProverModel" "found" "[I", Cond.fieldLink RX12 170 "GroundProverModel" "unknowns" "[I", Cond.fieldLink RX12 173 "GroundProverModel" "values" "[I", Cond.fieldLink RX12 176 "GroundProverModel" "pattern" "[I", Cond.fieldLink RX12 179 "GroundProverModel" "patternValue" "[I", Cond.fieldLink RX12 182 "GroundProverModel" "candidates" "[I", Cond.fieldLink RX12 427 "GroundProverModel" "at" "I", Cond.fieldLink RX12 185 "GroundProverModel" "openSymbols" "[I", Cond.fieldLink RX12 188 "GroundProverModel" "openPlaces" "[I", Cond.fieldLink RX12 191 "GroundProverModel" "openMany" "[I", Cond.fieldLink RX12 194 "GroundProverModel" "openArguments" "[I", Cond.fieldLink RX12 197 "GroundProverModel" "statements" "[I", Cond.fieldLink RX12 451 "GroundProverModel" "statementMany" "I", Cond.fieldLink RX12 200 "GroundProverModel" "written" "[B", Cond.methodLink RL 152 yX12_thrown, Cond.instanceMethod yX12_thrown, Cond.selects RX12 yX12_thrown yX12_thrown, Cond.code yX12_thrown cX12_thrown 1 (some .int)]
def gW_31 : List Cond := [Cond.methodLink RL 151 yX12_feed, Cond.instanceMethod yX12_feed, Cond.selects RX12 yX12_feed yX12_feed, Cond.code yX12_feed cX12_feed 6 (some .int), Cond.methodLink RX12 248 yX12_fail, Cond.instanceMethod yX12_fail, Cond.code yX12_fail cX12_fail 2 (some .int), Cond.methodLink RX12 458 yX12_four, Cond.instanceMethod yX12_four, Cond.code yX12_four cX12_four 3 none, Cond.methodLink RL 158 yX12_trim, Cond.instanceMethod yX12_trim, Cond.selects RX12 yX12_trim yX12_trim, Cond.code yX12_trim cX12_trim 2 (some .int), Cond.methodLink RL 162 yX12_declare, Cond.instanceMethod yX12_declare, Cond.selects RX12 yX12_declare yX12_declare, Cond.code yX12_declare cX12_declare 4 (some .int), Cond.methodLink RX12 461 yX12_isName, Cond.instanceMethod yX12_isName, Cond.code yX12_isName cX12_isName 4 (some .boolean), Cond.methodLink RX12 433 yX12_isLetter, Cond.static yX12_isLetter, Cond.code yX12_isLetter cX12_isLetter 1 (some .boolean), Cond.methodLink RL 166 yX12_declareVariable]
def gW_32 : List Cond := [Cond.instanceMethod yX12_declareVariable, Cond.selects RX12 yX12_declareVariable yX12_declareVariable, Cond.code yX12_declareVariable cX12_declareVariable 2 (some .int), Cond.methodLink RL 170 yX12_symbolCount, Cond.instanceMethod yX12_symbolCount, Cond.selects RX12 yX12_symbolCount yX12_symbolCount, Cond.code yX12_symbolCount cX12_symbolCount 1 (some .int), Cond.methodLink RL 174 yX12_orderByWeight, Cond.instanceMethod yX12_orderByWeight, Cond.selects RX12 yX12_orderByWeight yX12_orderByWeight, Cond.code yX12_orderByWeight cX12_orderByWeight 3 (some .boolean), Cond.methodLink RL 177 yX12_promote, Cond.instanceMethod yX12_promote, Cond.selects RX12 yX12_promote yX12_promote, Cond.code yX12_promote cX12_promote 6 (some .int), Cond.methodLink RX12 471 yX12_isSymbol, Cond.instanceMethod yX12_isSymbol, Cond.code yX12_isSymbol cX12_isSymbol 2 (some .boolean), Cond.methodLink RL 180 yX12_rankOf, Cond.instanceMethod yX12_rankOf, Cond.selects RX12 yX12_rankOf yX12_rankOf, Cond.code yX12_rankOf cX12_rankOf 2 (some .int), Cond.methodLink RL 184 yX12_setDirection, Cond.instanceMethod yX12_setDirection, Cond.selects RX12 yX12_setDirection yX12_setDirection]
def gW_33 : List Cond := [Cond.code yX12_setDirection cX12_setDirection 4 (some .boolean), Cond.methodLink RL 188 yX12_term, Cond.instanceMethod yX12_term, Cond.selects RX12 yX12_term yX12_term, Cond.code yX12_term cX12_term 7 (some .int), Cond.methodLink RX12 474 yX12_isNumber, Cond.instanceMethod yX12_isNumber, Cond.code yX12_isNumber cX12_isNumber 2 (some .boolean), Cond.methodLink RL 191 yX12_read, Cond.instanceMethod yX12_read, Cond.selects RX12 yX12_read yX12_read, Cond.code yX12_read cX12_read 2 (some .int), Cond.methodLink RX12 480 yX12_beginText, Cond.instanceMethod yX12_beginText, Cond.code yX12_beginText cX12_beginText 1 none, Cond.methodLink RX12 454 yX12_readsTerm, Cond.instanceMethod yX12_readsTerm, Cond.code yX12_readsTerm cX12_readsTerm 10 (some .boolean), Cond.methodLink RX12 436 yX12_look, Cond.instanceMethod yX12_look, Cond.code yX12_look cX12_look 1 (some .int), Cond.methodLink RX12 439 yX12_error, Cond.instanceMethod yX12_error, Cond.code yX12_error cX12_error 3 (some .boolean), Cond.methodLink RL 195 yX12_errorKind]
def gW_34 : List Cond := [Cond.instanceMethod yX12_errorKind, Cond.selects RX12 yX12_errorKind yX12_errorKind, Cond.code yX12_errorKind cX12_errorKind 1 (some .int), Cond.methodLink RL 199 yX12_errorPosition, Cond.instanceMethod yX12_errorPosition, Cond.selects RX12 yX12_errorPosition yX12_errorPosition, Cond.code yX12_errorPosition cX12_errorPosition 1 (some .int), Cond.methodLink RL 203 yX12_termCount, Cond.instanceMethod yX12_termCount, Cond.selects RX12 yX12_termCount yX12_termCount, Cond.code yX12_termCount cX12_termCount 1 (some .int), Cond.methodLink RL 206 yX12_symbolOf, Cond.instanceMethod yX12_symbolOf, Cond.selects RX12 yX12_symbolOf yX12_symbolOf, Cond.code yX12_symbolOf cX12_symbolOf 2 (some .int), Cond.methodLink RL 209 yX12_argument, Cond.instanceMethod yX12_argument, Cond.selects RX12 yX12_argument yX12_argument, Cond.code yX12_argument cX12_argument 3 (some .int), Cond.methodLink RL 212 yX12_size, Cond.instanceMethod yX12_size, Cond.selects RX12 yX12_size yX12_size, Cond.code yX12_size cX12_size 2 (some .int), Cond.methodLink RL 215 yX12_depth, Cond.instanceMethod yX12_depth]
def gW_35 : List Cond := [Cond.selects RX12 yX12_depth yX12_depth, Cond.code yX12_depth cX12_depth 2 (some .int), Cond.methodLink RL 218 yX12_compare, Cond.instanceMethod yX12_compare, Cond.selects RX12 yX12_compare yX12_compare, Cond.code yX12_compare cX12_compare 3 (some .int), Cond.methodLink RL 221 yX12_occurrences, Cond.instanceMethod yX12_occurrences, Cond.selects RX12 yX12_occurrences yX12_occurrences, Cond.code yX12_occurrences cX12_occurrences 8 (some .int), Cond.methodLink RL 225 yX12_replace, Cond.instanceMethod yX12_replace, Cond.selects RX12 yX12_replace yX12_replace, Cond.code yX12_replace cX12_replace 10 (some .int), Cond.methodLink RL 228 yX12_write, Cond.instanceMethod yX12_write, Cond.selects RX12 yX12_write yX12_write, Cond.code yX12_write cX12_write 9 (some .int), Cond.methodLink RL 231 yX12_outputByte, Cond.instanceMethod yX12_outputByte, Cond.selects RX12 yX12_outputByte yX12_outputByte, Cond.code yX12_outputByte cX12_outputByte 2 (some .int), Cond.methodLink RL 234 yX12_equate, Cond.instanceMethod yX12_equate, Cond.selects RX12 yX12_equate yX12_equate]
def gW_36 : List Cond := [Cond.code yX12_equate cX12_equate 4 (some .int), Cond.methodLink RL 237 yX12_separate, Cond.instanceMethod yX12_separate, Cond.selects RX12 yX12_separate yX12_separate, Cond.code yX12_separate cX12_separate 4 (some .int), Cond.methodLink RL 240 yX12_readTheory, Cond.instanceMethod yX12_readTheory, Cond.selects RX12 yX12_readTheory yX12_readTheory, Cond.code yX12_readTheory cX12_readTheory 9 (some .int), Cond.methodLink RX12 501 yX12_readsTheory, Cond.instanceMethod yX12_readsTheory, Cond.code yX12_readsTheory cX12_readsTheory 3 (some .boolean), Cond.methodLink RL 244 yX12_equationCount, Cond.instanceMethod yX12_equationCount, Cond.selects RX12 yX12_equationCount yX12_equationCount, Cond.code yX12_equationCount cX12_equationCount 1 (some .int), Cond.methodLink RL 248 yX12_separationCount, Cond.instanceMethod yX12_separationCount, Cond.selects RX12 yX12_separationCount yX12_separationCount, Cond.code yX12_separationCount cX12_separationCount 1 (some .int), Cond.methodLink RL 253 yX12_isConsistent, Cond.instanceMethod yX12_isConsistent, Cond.selects RX12 yX12_isConsistent yX12_isConsistent, Cond.code yX12_isConsistent cX12_isConsistent 1 (some .boolean), Cond.methodLink RX12 505 yX12_firstConflict]
def gW_37 : List Cond := [Cond.instanceMethod yX12_firstConflict, Cond.code yX12_firstConflict cX12_firstConflict 2 (some .int), Cond.methodLink RL 256 yX12_conflict, Cond.instanceMethod yX12_conflict, Cond.selects RX12 yX12_conflict yX12_conflict, Cond.code yX12_conflict cX12_conflict 2 (some .int), Cond.methodLink RL 259 yX12_push_, Cond.instanceMethod yX12_push_, Cond.selects RX12 yX12_push_ yX12_push_, Cond.code yX12_push_ cX12_push_ 1 (some .int), Cond.methodLink RL 262 yX12_pop, Cond.instanceMethod yX12_pop, Cond.selects RX12 yX12_pop yX12_pop, Cond.code yX12_pop cX12_pop 2 (some .int), Cond.methodLink RL 266 yX12_ruleCount, Cond.instanceMethod yX12_ruleCount, Cond.selects RX12 yX12_ruleCount yX12_ruleCount, Cond.code yX12_ruleCount cX12_ruleCount 1 (some .int), Cond.methodLink RL 269 yX12_ruleLeft, Cond.instanceMethod yX12_ruleLeft, Cond.selects RX12 yX12_ruleLeft yX12_ruleLeft, Cond.code yX12_ruleLeft cX12_ruleLeft 2 (some .int), Cond.methodLink RL 272 yX12_ruleRight, Cond.instanceMethod yX12_ruleRight, Cond.selects RX12 yX12_ruleRight yX12_ruleRight]
def gW_38 : List Cond := [Cond.code yX12_ruleRight cX12_ruleRight 2 (some .int), Cond.methodLink RL 275 yX12_normalForm, Cond.instanceMethod yX12_normalForm, Cond.selects RX12 yX12_normalForm yX12_normalForm, Cond.code yX12_normalForm cX12_normalForm 2 (some .int), Cond.methodLink RL 278 yX12_areEqual, Cond.instanceMethod yX12_areEqual, Cond.selects RX12 yX12_areEqual yX12_areEqual, Cond.code yX12_areEqual cX12_areEqual 3 (some .boolean), Cond.methodLink RL 281 yX12_dependsOn, Cond.instanceMethod yX12_dependsOn, Cond.selects RX12 yX12_dependsOn yX12_dependsOn, Cond.code yX12_dependsOn cX12_dependsOn 4 (some .boolean), Cond.methodLink RL 284 yX12_stepCount, Cond.instanceMethod yX12_stepCount, Cond.selects RX12 yX12_stepCount yX12_stepCount, Cond.code yX12_stepCount cX12_stepCount 3 (some .int), Cond.methodLink RL 287 yX12_afterSteps, Cond.instanceMethod yX12_afterSteps, Cond.selects RX12 yX12_afterSteps yX12_afterSteps, Cond.code yX12_afterSteps cX12_afterSteps 4 (some .int), Cond.methodLink RL 290 yX12_countOfSize, Cond.instanceMethod yX12_countOfSize, Cond.selects RX12 yX12_countOfSize yX12_countOfSize, Cond.code yX12_countOfSize cX12_countOfSize 3 (some .long)]
def gW_39 : List Cond := [Cond.methodLink RL 293 yX12_isFinite, Cond.instanceMethod yX12_isFinite, Cond.selects RX12 yX12_isFinite yX12_isFinite, Cond.code yX12_isFinite cX12_isFinite 2 (some .boolean), Cond.methodLink RL 296 yX12_smallest, Cond.instanceMethod yX12_smallest, Cond.selects RX12 yX12_smallest yX12_smallest, Cond.code yX12_smallest cX12_smallest 2 (some .int), Cond.methodLink RL 299 yX12_match, Cond.instanceMethod yX12_match, Cond.selects RX12 yX12_match yX12_match, Cond.code yX12_match cX12_match 5 (some .int), Cond.methodLink RL 302 yX12_solution, Cond.instanceMethod yX12_solution, Cond.selects RX12 yX12_solution yX12_solution, Cond.code yX12_solution cX12_solution 4 (some .int), Cond.methodLink RL 307 yX12_digest, Cond.instanceMethod yX12_digest, Cond.selects RX12 yX12_digest yX12_digest, Cond.code yX12_digest cX12_digest 4 (some .long), Cond.constantLong RX12 534 527, Cond.constantLong RX12 536 31]
def gW : List Cond := gW_0 ++ (gW_1 ++ (gW_2 ++ (gW_3 ++ (gW_4 ++ (gW_5 ++ (gW_6 ++ (gW_7 ++ (gW_8 ++ (gW_9 ++ (gW_10 ++ (gW_11 ++ (gW_12 ++ (gW_13 ++ (gW_14 ++ (gW_15 ++ (gW_16 ++ (gW_17 ++ (gW_18 ++ (gW_19 ++ (gW_20 ++ (gW_21 ++ (gW_22 ++ (gW_23 ++ (gW_24 ++ (gW_25 ++ (gW_26 ++ (gW_27 ++ (gW_28 ++ (gW_29 ++ (gW_30 ++ (gW_31 ++ (gW_32 ++ (gW_33 ++ (gW_34 ++ (gW_35 ++ (gW_36 ++ (gW_37 ++ (gW_38 ++ (gW_39 ++ (wsX00 ++ (wsX10 ++ (wsX20 ++ (wsX30 ++ (wsX40 ++ (wsX50 ++ (wsX60 ++ (wsX70 ++ (wsX80 ++ (wsX90 ++ (wsX100 ++ (wsX110 ++ (wsX120 ++ ((vx_atS RX11 102 g_ISE g_nm).filter goodWord ++ ((vx_atS RX11 112 g_IAE g_nm).filter goodWord ++ ((vx_atS RX11 173 g_IOB g_nm).filter goodWord)))))))))))))))))))))))))))))))))))))))))))))))))))))))
theorem mc_0 : ∀ w ∈ gW_0, w ∈ gW := fun _ h => List.mem_append_left _ h
theorem mc_1 : ∀ w ∈ gW_1, w ∈ gW := fun _ h => List.mem_append_right _ (List.mem_append_left _ h)
theorem mc_2 : ∀ w ∈ gW_2, w ∈ gW := fun _ h => List.mem_append_right _ (List.mem_append_right _ (List.mem_append_left _ h))
theorem mc_3 : ∀ w ∈ gW_3, w ∈ gW := fun _ h => List.mem_append_right _ (List.mem_append_right _ (List.mem_append_right _ (List.mem_append_left _ h)))
theorem mc_4 : ∀ w ∈ gW_4, w ∈ gW := fun _ h => List.mem_append_right _ (List.mem_append_right _ (List.mem_append_right _ (List.mem_append_right _ (List.mem_append_left _ h))))
theorem mc_5 : ∀ w ∈ gW_5, w ∈ gW := fun _ h => List.mem_append_right _ (List.mem_append_right _ (List.mem_append_right _ (List.mem_append_right _ (List.mem_append_right _ (List.mem_append_left _ h)))))
theorem mc_6 : ∀ w ∈ gW_6, w ∈ gW := fun _ h => List.mem_append_right _ (List.mem_append_right _ (List.mem_append_right _ (List.mem_append_right _ (List.mem_append_right _ (List.mem_append_right _ (List.mem_append_left _ h))))))
theorem mc_7 : ∀ w ∈ gW_7, w ∈ gW := fun _ h => List.mem_append_right _ (List.mem_append_right _ (List.mem_append_right _ (List.mem_append_right _ (List.mem_append_right _ (List.mem_append_right _ (List.mem_append_right _ (List.mem_append_left _ h)))))))
theorem mc_8 : ∀ w ∈ gW_8, w ∈ gW := fun _ h => List.mem_append_right _ (List.mem_append_right _ (List.mem_append_right _ (List.mem_append_right _ (List.mem_append_right _ (List.mem_append_right _ (List.mem_append_right _ (List.mem_append_right _ (List.mem_append_left _ h))))))))
theorem mc_9 : ∀ w ∈ gW_9, w ∈ gW := fun _ h => List.mem_append_right _ (List.mem_append_right _ (List.mem_append_right _ (List.mem_append_right _ (List.mem_append_right _ (List.mem_append_right _ (List.mem_append_right _ (List.mem_append_right _ (List.mem_append_right _ (List.mem_append_left _ h)))))))))
theorem mc_10 : ∀ w ∈ gW_10, w ∈ gW := fun _ h => List.mem_append_right _ (List.mem_append_right _ (List.mem_append_right _ (List.mem_append_right _ (List.mem_append_right _ (List.mem_append_right _ (List.mem_append_right _ (List.mem_append_right _ (List.mem_append_right _ (List.mem_append_right _ (List.mem_append_left _ h))))))))))
theorem mc_11 : ∀ w ∈ gW_11, w ∈ gW := fun _ h => List.mem_append_right _ (List.mem_append_right _ (List.mem_append_right _ (List.mem_append_right _ (List.mem_append_right _ (List.mem_append_right _ (List.mem_append_right _ (List.mem_append_right _ (List.mem_append_right _ (List.mem_append_right _ (List.mem_append_right _ (List.mem_append_left _ h)))))))))))
theorem mc_12 : ∀ w ∈ gW_12, w ∈ gW := fun _ h => List.mem_append_right _ (List.mem_append_right _ (List.mem_append_right _ (List.mem_append_right _ (List.mem_append_right _ (List.mem_append_right _ (List.mem_append_right _ (List.mem_append_right _ (List.mem_append_right _ (List.mem_append_right _ (List.mem_append_right _ (List.mem_append_right _ (List.mem_append_left _ h))))))))))))
theorem mc_13 : ∀ w ∈ gW_13, w ∈ gW := fun _ h => List.mem_append_right _ (List.mem_append_right _ (List.mem_append_right _ (List.mem_append_right _ (List.mem_append_right _ (List.mem_append_right _ (List.mem_append_right _ (List.mem_append_right _ (List.mem_append_right _ (List.mem_append_right _ (List.mem_append_right _ (List.mem_append_right _ (List.mem_append_right _ (List.mem_append_left _ h)))))))))))))
theorem mc_14 : ∀ w ∈ gW_14, w ∈ gW := fun _ h => List.mem_append_right _ (List.mem_append_right _ (List.mem_append_right _ (List.mem_append_right _ (List.mem_append_right _ (List.mem_append_right _ (List.mem_append_right _ (List.mem_append_right _ (List.mem_append_right _ (List.mem_append_right _ (List.mem_append_right _ (List.mem_append_right _ (List.mem_append_right _ (List.mem_append_right _ (List.mem_append_left _ h))))))))))))))
theorem mc_15 : ∀ w ∈ gW_15, w ∈ gW := fun _ h => List.mem_append_right _ (List.mem_append_right _ (List.mem_append_right _ (List.mem_append_right _ (List.mem_append_right _ (List.mem_append_right _ (List.mem_append_right _ (List.mem_append_right _ (List.mem_append_right _ (List.mem_append_right _ (List.mem_append_right _ (List.mem_append_right _ (List.mem_append_right _ (List.mem_append_right _ (List.mem_append_right _ (List.mem_append_left _ h)))))))))))))))
theorem mc_16 : ∀ w ∈ gW_16, w ∈ gW := fun _ h => List.mem_append_right _ (List.mem_append_right _ (List.mem_append_right _ (List.mem_append_right _ (List.mem_append_right _ (List.mem_append_right _ (List.mem_append_right _ (List.mem_append_right _ (List.mem_append_right _ (List.mem_append_right _ (List.mem_append_right _ (List.mem_append_right _ (List.mem_append_right _ (List.mem_append_right _ (List.mem_append_right _ (List.mem_append_right _ (List.mem_append_left _ h))))))))))))))))
theorem mc_17 : ∀ w ∈ gW_17, w ∈ gW := fun _ h => List.mem_append_right _ (List.mem_append_right _ (List.mem_append_right _ (List.mem_append_right _ (List.mem_append_right _ (List.mem_append_right _ (List.mem_append_right _ (List.mem_append_right _ (List.mem_append_right _ (List.mem_append_right _ (List.mem_append_right _ (List.mem_append_right _ (List.mem_append_right _ (List.mem_append_right _ (List.mem_append_right _ (List.mem_append_right _ (List.mem_append_right _ (List.mem_append_left _ h)))))))))))))))))
theorem mc_18 : ∀ w ∈ gW_18, w ∈ gW := fun _ h => List.mem_append_right _ (List.mem_append_right _ (List.mem_append_right _ (List.mem_append_right _ (List.mem_append_right _ (List.mem_append_right _ (List.mem_append_right _ (List.mem_append_right _ (List.mem_append_right _ (List.mem_append_right _ (List.mem_append_right _ (List.mem_append_right _ (List.mem_append_right _ (List.mem_append_right _ (List.mem_append_right _ (List.mem_append_right _ (List.mem_append_right _ (List.mem_append_right _ (List.mem_append_left _ h))))))))))))))))))
theorem mc_19 : ∀ w ∈ gW_19, w ∈ gW := fun _ h => List.mem_append_right _ (List.mem_append_right _ (List.mem_append_right _ (List.mem_append_right _ (List.mem_append_right _ (List.mem_append_right _ (List.mem_append_right _ (List.mem_append_right _ (List.mem_append_right _ (List.mem_append_right _ (List.mem_append_right _ (List.mem_append_right _ (List.mem_append_right _ (List.mem_append_right _ (List.mem_append_right _ (List.mem_append_right _ (List.mem_append_right _ (List.mem_append_right _ (List.mem_append_right _ (List.mem_append_left _ h)))))))))))))))))))
theorem mc_20 : ∀ w ∈ gW_20, w ∈ gW := fun _ h => List.mem_append_right _ (List.mem_append_right _ (List.mem_append_right _ (List.mem_append_right _ (List.mem_append_right _ (List.mem_append_right _ (List.mem_append_right _ (List.mem_append_right _ (List.mem_append_right _ (List.mem_append_right _ (List.mem_append_right _ (List.mem_append_right _ (List.mem_append_right _ (List.mem_append_right _ (List.mem_append_right _ (List.mem_append_right _ (List.mem_append_right _ (List.mem_append_right _ (List.mem_append_right _ (List.mem_append_right _ (List.mem_append_left _ h))))))))))))))))))))
theorem mc_21 : ∀ w ∈ gW_21, w ∈ gW := fun _ h => List.mem_append_right _ (List.mem_append_right _ (List.mem_append_right _ (List.mem_append_right _ (List.mem_append_right _ (List.mem_append_right _ (List.mem_append_right _ (List.mem_append_right _ (List.mem_append_right _ (List.mem_append_right _ (List.mem_append_right _ (List.mem_append_right _ (List.mem_append_right _ (List.mem_append_right _ (List.mem_append_right _ (List.mem_append_right _ (List.mem_append_right _ (List.mem_append_right _ (List.mem_append_right _ (List.mem_append_right _ (List.mem_append_right _ (List.mem_append_left _ h)))))))))))))))))))))
theorem mc_22 : ∀ w ∈ gW_22, w ∈ gW := fun _ h => List.mem_append_right _ (List.mem_append_right _ (List.mem_append_right _ (List.mem_append_right _ (List.mem_append_right _ (List.mem_append_right _ (List.mem_append_right _ (List.mem_append_right _ (List.mem_append_right _ (List.mem_append_right _ (List.mem_append_right _ (List.mem_append_right _ (List.mem_append_right _ (List.mem_append_right _ (List.mem_append_right _ (List.mem_append_right _ (List.mem_append_right _ (List.mem_append_right _ (List.mem_append_right _ (List.mem_append_right _ (List.mem_append_right _ (List.mem_append_right _ (List.mem_append_left _ h))))))))))))))))))))))
theorem mc_23 : ∀ w ∈ gW_23, w ∈ gW := fun _ h => List.mem_append_right _ (List.mem_append_right _ (List.mem_append_right _ (List.mem_append_right _ (List.mem_append_right _ (List.mem_append_right _ (List.mem_append_right _ (List.mem_append_right _ (List.mem_append_right _ (List.mem_append_right _ (List.mem_append_right _ (List.mem_append_right _ (List.mem_append_right _ (List.mem_append_right _ (List.mem_append_right _ (List.mem_append_right _ (List.mem_append_right _ (List.mem_append_right _ (List.mem_append_right _ (List.mem_append_right _ (List.mem_append_right _ (List.mem_append_right _ (List.mem_append_right _ (List.mem_append_left _ h)))))))))))))))))))))))
theorem mc_24 : ∀ w ∈ gW_24, w ∈ gW := fun _ h => List.mem_append_right _ (List.mem_append_right _ (List.mem_append_right _ (List.mem_append_right _ (List.mem_append_right _ (List.mem_append_right _ (List.mem_append_right _ (List.mem_append_right _ (List.mem_append_right _ (List.mem_append_right _ (List.mem_append_right _ (List.mem_append_right _ (List.mem_append_right _ (List.mem_append_right _ (List.mem_append_right _ (List.mem_append_right _ (List.mem_append_right _ (List.mem_append_right _ (List.mem_append_right _ (List.mem_append_right _ (List.mem_append_right _ (List.mem_append_right _ (List.mem_append_right _ (List.mem_append_right _ (List.mem_append_left _ h))))))))))))))))))))))))
theorem mc_25 : ∀ w ∈ gW_25, w ∈ gW := fun _ h => List.mem_append_right _ (List.mem_append_right _ (List.mem_append_right _ (List.mem_append_right _ (List.mem_append_right _ (List.mem_append_right _ (List.mem_append_right _ (List.mem_append_right _ (List.mem_append_right _ (List.mem_append_right _ (List.mem_append_right _ (List.mem_append_right _ (List.mem_append_right _ (List.mem_append_right _ (List.mem_append_right _ (List.mem_append_right _ (List.mem_append_right _ (List.mem_append_right _ (List.mem_append_right _ (List.mem_append_right _ (List.mem_append_right _ (List.mem_append_right _ (List.mem_append_right _ (List.mem_append_right _ (List.mem_append_right _ (List.mem_append_left _ h)))))))))))))))))))))))))
theorem mc_26 : ∀ w ∈ gW_26, w ∈ gW := fun _ h => List.mem_append_right _ (List.mem_append_right _ (List.mem_append_right _ (List.mem_append_right _ (List.mem_append_right _ (List.mem_append_right _ (List.mem_append_right _ (List.mem_append_right _ (List.mem_append_right _ (List.mem_append_right _ (List.mem_append_right _ (List.mem_append_right _ (List.mem_append_right _ (List.mem_append_right _ (List.mem_append_right _ (List.mem_append_right _ (List.mem_append_right _ (List.mem_append_right _ (List.mem_append_right _ (List.mem_append_right _ (List.mem_append_right _ (List.mem_append_right _ (List.mem_append_right _ (List.mem_append_right _ (List.mem_append_right _ (List.mem_append_right _ (List.mem_append_left _ h))))))))))))))))))))))))))
theorem mc_27 : ∀ w ∈ gW_27, w ∈ gW := fun _ h => List.mem_append_right _ (List.mem_append_right _ (List.mem_append_right _ (List.mem_append_right _ (List.mem_append_right _ (List.mem_append_right _ (List.mem_append_right _ (List.mem_append_right _ (List.mem_append_right _ (List.mem_append_right _ (List.mem_append_right _ (List.mem_append_right _ (List.mem_append_right _ (List.mem_append_right _ (List.mem_append_right _ (List.mem_append_right _ (List.mem_append_right _ (List.mem_append_right _ (List.mem_append_right _ (List.mem_append_right _ (List.mem_append_right _ (List.mem_append_right _ (List.mem_append_right _ (List.mem_append_right _ (List.mem_append_right _ (List.mem_append_right _ (List.mem_append_right _ (List.mem_append_left _ h)))))))))))))))))))))))))))
theorem mc_28 : ∀ w ∈ gW_28, w ∈ gW := fun _ h => List.mem_append_right _ (List.mem_append_right _ (List.mem_append_right _ (List.mem_append_right _ (List.mem_append_right _ (List.mem_append_right _ (List.mem_append_right _ (List.mem_append_right _ (List.mem_append_right _ (List.mem_append_right _ (List.mem_append_right _ (List.mem_append_right _ (List.mem_append_right _ (List.mem_append_right _ (List.mem_append_right _ (List.mem_append_right _ (List.mem_append_right _ (List.mem_append_right _ (List.mem_append_right _ (List.mem_append_right _ (List.mem_append_right _ (List.mem_append_right _ (List.mem_append_right _ (List.mem_append_right _ (List.mem_append_right _ (List.mem_append_right _ (List.mem_append_right _ (List.mem_append_right _ (List.mem_append_left _ h))))))))))))))))))))))))))))
theorem mc_29 : ∀ w ∈ gW_29, w ∈ gW := fun _ h => List.mem_append_right _ (List.mem_append_right _ (List.mem_append_right _ (List.mem_append_right _ (List.mem_append_right _ (List.mem_append_right _ (List.mem_append_right _ (List.mem_append_right _ (List.mem_append_right _ (List.mem_append_right _ (List.mem_append_right _ (List.mem_append_right _ (List.mem_append_right _ (List.mem_append_right _ (List.mem_append_right _ (List.mem_append_right _ (List.mem_append_right _ (List.mem_append_right _ (List.mem_append_right _ (List.mem_append_right _ (List.mem_append_right _ (List.mem_append_right _ (List.mem_append_right _ (List.mem_append_right _ (List.mem_append_right _ (List.mem_append_right _ (List.mem_append_right _ (List.mem_append_right _ (List.mem_append_right _ (List.mem_append_left _ h)))))))))))))))))))))))))))))
theorem mc_30 : ∀ w ∈ gW_30, w ∈ gW := fun _ h => List.mem_append_right _ (List.mem_append_right _ (List.mem_append_right _ (List.mem_append_right _ (List.mem_append_right _ (List.mem_append_right _ (List.mem_append_right _ (List.mem_append_right _ (List.mem_append_right _ (List.mem_append_right _ (List.mem_append_right _ (List.mem_append_right _ (List.mem_append_right _ (List.mem_append_right _ (List.mem_append_right _ (List.mem_append_right _ (List.mem_append_right _ (List.mem_append_right _ (List.mem_append_right _ (List.mem_append_right _ (List.mem_append_right _ (List.mem_append_right _ (List.mem_append_right _ (List.mem_append_right _ (List.mem_append_right _ (List.mem_append_right _ (List.mem_append_right _ (List.mem_append_right _ (List.mem_append_right _ (List.mem_append_right _ (List.mem_append_left _ h))))))))))))))))))))))))))))))
theorem mc_31 : ∀ w ∈ gW_31, w ∈ gW := fun _ h => List.mem_append_right _ (List.mem_append_right _ (List.mem_append_right _ (List.mem_append_right _ (List.mem_append_right _ (List.mem_append_right _ (List.mem_append_right _ (List.mem_append_right _ (List.mem_append_right _ (List.mem_append_right _ (List.mem_append_right _ (List.mem_append_right _ (List.mem_append_right _ (List.mem_append_right _ (List.mem_append_right _ (List.mem_append_right _ (List.mem_append_right _ (List.mem_append_right _ (List.mem_append_right _ (List.mem_append_right _ (List.mem_append_right _ (List.mem_append_right _ (List.mem_append_right _ (List.mem_append_right _ (List.mem_append_right _ (List.mem_append_right _ (List.mem_append_right _ (List.mem_append_right _ (List.mem_append_right _ (List.mem_append_right _ (List.mem_append_right _ (List.mem_append_left _ h)))))))))))))))))))))))))))))))
theorem mc_32 : ∀ w ∈ gW_32, w ∈ gW := fun _ h => List.mem_append_right _ (List.mem_append_right _ (List.mem_append_right _ (List.mem_append_right _ (List.mem_append_right _ (List.mem_append_right _ (List.mem_append_right _ (List.mem_append_right _ (List.mem_append_right _ (List.mem_append_right _ (List.mem_append_right _ (List.mem_append_right _ (List.mem_append_right _ (List.mem_append_right _ (List.mem_append_right _ (List.mem_append_right _ (List.mem_append_right _ (List.mem_append_right _ (List.mem_append_right _ (List.mem_append_right _ (List.mem_append_right _ (List.mem_append_right _ (List.mem_append_right _ (List.mem_append_right _ (List.mem_append_right _ (List.mem_append_right _ (List.mem_append_right _ (List.mem_append_right _ (List.mem_append_right _ (List.mem_append_right _ (List.mem_append_right _ (List.mem_append_right _ (List.mem_append_left _ h))))))))))))))))))))))))))))))))
theorem mc_33 : ∀ w ∈ gW_33, w ∈ gW := fun _ h => List.mem_append_right _ (List.mem_append_right _ (List.mem_append_right _ (List.mem_append_right _ (List.mem_append_right _ (List.mem_append_right _ (List.mem_append_right _ (List.mem_append_right _ (List.mem_append_right _ (List.mem_append_right _ (List.mem_append_right _ (List.mem_append_right _ (List.mem_append_right _ (List.mem_append_right _ (List.mem_append_right _ (List.mem_append_right _ (List.mem_append_right _ (List.mem_append_right _ (List.mem_append_right _ (List.mem_append_right _ (List.mem_append_right _ (List.mem_append_right _ (List.mem_append_right _ (List.mem_append_right _ (List.mem_append_right _ (List.mem_append_right _ (List.mem_append_right _ (List.mem_append_right _ (List.mem_append_right _ (List.mem_append_right _ (List.mem_append_right _ (List.mem_append_right _ (List.mem_append_right _ (List.mem_append_left _ h)))))))))))))))))))))))))))))))))
theorem mc_34 : ∀ w ∈ gW_34, w ∈ gW := fun _ h => List.mem_append_right _ (List.mem_append_right _ (List.mem_append_right _ (List.mem_append_right _ (List.mem_append_right _ (List.mem_append_right _ (List.mem_append_right _ (List.mem_append_right _ (List.mem_append_right _ (List.mem_append_right _ (List.mem_append_right _ (List.mem_append_right _ (List.mem_append_right _ (List.mem_append_right _ (List.mem_append_right _ (List.mem_append_right _ (List.mem_append_right _ (List.mem_append_right _ (List.mem_append_right _ (List.mem_append_right _ (List.mem_append_right _ (List.mem_append_right _ (List.mem_append_right _ (List.mem_append_right _ (List.mem_append_right _ (List.mem_append_right _ (List.mem_append_right _ (List.mem_append_right _ (List.mem_append_right _ (List.mem_append_right _ (List.mem_append_right _ (List.mem_append_right _ (List.mem_append_right _ (List.mem_append_right _ (List.mem_append_left _ h))))))))))))))))))))))))))))))))))
theorem mc_35 : ∀ w ∈ gW_35, w ∈ gW := fun _ h => List.mem_append_right _ (List.mem_append_right _ (List.mem_append_right _ (List.mem_append_right _ (List.mem_append_right _ (List.mem_append_right _ (List.mem_append_right _ (List.mem_append_right _ (List.mem_append_right _ (List.mem_append_right _ (List.mem_append_right _ (List.mem_append_right _ (List.mem_append_right _ (List.mem_append_right _ (List.mem_append_right _ (List.mem_append_right _ (List.mem_append_right _ (List.mem_append_right _ (List.mem_append_right _ (List.mem_append_right _ (List.mem_append_right _ (List.mem_append_right _ (List.mem_append_right _ (List.mem_append_right _ (List.mem_append_right _ (List.mem_append_right _ (List.mem_append_right _ (List.mem_append_right _ (List.mem_append_right _ (List.mem_append_right _ (List.mem_append_right _ (List.mem_append_right _ (List.mem_append_right _ (List.mem_append_right _ (List.mem_append_right _ (List.mem_append_left _ h)))))))))))))))))))))))))))))))))))
theorem mc_36 : ∀ w ∈ gW_36, w ∈ gW := fun _ h => List.mem_append_right _ (List.mem_append_right _ (List.mem_append_right _ (List.mem_append_right _ (List.mem_append_right _ (List.mem_append_right _ (List.mem_append_right _ (List.mem_append_right _ (List.mem_append_right _ (List.mem_append_right _ (List.mem_append_right _ (List.mem_append_right _ (List.mem_append_right _ (List.mem_append_right _ (List.mem_append_right _ (List.mem_append_right _ (List.mem_append_right _ (List.mem_append_right _ (List.mem_append_right _ (List.mem_append_right _ (List.mem_append_right _ (List.mem_append_right _ (List.mem_append_right _ (List.mem_append_right _ (List.mem_append_right _ (List.mem_append_right _ (List.mem_append_right _ (List.mem_append_right _ (List.mem_append_right _ (List.mem_append_right _ (List.mem_append_right _ (List.mem_append_right _ (List.mem_append_right _ (List.mem_append_right _ (List.mem_append_right _ (List.mem_append_right _ (List.mem_append_left _ h))))))))))))))))))))))))))))))))))))
theorem mc_37 : ∀ w ∈ gW_37, w ∈ gW := fun _ h => List.mem_append_right _ (List.mem_append_right _ (List.mem_append_right _ (List.mem_append_right _ (List.mem_append_right _ (List.mem_append_right _ (List.mem_append_right _ (List.mem_append_right _ (List.mem_append_right _ (List.mem_append_right _ (List.mem_append_right _ (List.mem_append_right _ (List.mem_append_right _ (List.mem_append_right _ (List.mem_append_right _ (List.mem_append_right _ (List.mem_append_right _ (List.mem_append_right _ (List.mem_append_right _ (List.mem_append_right _ (List.mem_append_right _ (List.mem_append_right _ (List.mem_append_right _ (List.mem_append_right _ (List.mem_append_right _ (List.mem_append_right _ (List.mem_append_right _ (List.mem_append_right _ (List.mem_append_right _ (List.mem_append_right _ (List.mem_append_right _ (List.mem_append_right _ (List.mem_append_right _ (List.mem_append_right _ (List.mem_append_right _ (List.mem_append_right _ (List.mem_append_right _ (List.mem_append_left _ h)))))))))))))))))))))))))))))))))))))
theorem mc_38 : ∀ w ∈ gW_38, w ∈ gW := fun _ h => List.mem_append_right _ (List.mem_append_right _ (List.mem_append_right _ (List.mem_append_right _ (List.mem_append_right _ (List.mem_append_right _ (List.mem_append_right _ (List.mem_append_right _ (List.mem_append_right _ (List.mem_append_right _ (List.mem_append_right _ (List.mem_append_right _ (List.mem_append_right _ (List.mem_append_right _ (List.mem_append_right _ (List.mem_append_right _ (List.mem_append_right _ (List.mem_append_right _ (List.mem_append_right _ (List.mem_append_right _ (List.mem_append_right _ (List.mem_append_right _ (List.mem_append_right _ (List.mem_append_right _ (List.mem_append_right _ (List.mem_append_right _ (List.mem_append_right _ (List.mem_append_right _ (List.mem_append_right _ (List.mem_append_right _ (List.mem_append_right _ (List.mem_append_right _ (List.mem_append_right _ (List.mem_append_right _ (List.mem_append_right _ (List.mem_append_right _ (List.mem_append_right _ (List.mem_append_right _ (List.mem_append_left _ h))))))))))))))))))))))))))))))))))))))
theorem mc_39 : ∀ w ∈ gW_39, w ∈ gW := fun _ h => List.mem_append_right _ (List.mem_append_right _ (List.mem_append_right _ (List.mem_append_right _ (List.mem_append_right _ (List.mem_append_right _ (List.mem_append_right _ (List.mem_append_right _ (List.mem_append_right _ (List.mem_append_right _ (List.mem_append_right _ (List.mem_append_right _ (List.mem_append_right _ (List.mem_append_right _ (List.mem_append_right _ (List.mem_append_right _ (List.mem_append_right _ (List.mem_append_right _ (List.mem_append_right _ (List.mem_append_right _ (List.mem_append_right _ (List.mem_append_right _ (List.mem_append_right _ (List.mem_append_right _ (List.mem_append_right _ (List.mem_append_right _ (List.mem_append_right _ (List.mem_append_right _ (List.mem_append_right _ (List.mem_append_right _ (List.mem_append_right _ (List.mem_append_right _ (List.mem_append_right _ (List.mem_append_right _ (List.mem_append_right _ (List.mem_append_right _ (List.mem_append_right _ (List.mem_append_right _ (List.mem_append_right _ (List.mem_append_left _ h)))))))))))))))))))))))))))))))))))))))
theorem inW0 : ∀ w ∈ wsX00, w ∈ gW := fun _ h => List.mem_append_right _ (List.mem_append_right _ (List.mem_append_right _ (List.mem_append_right _ (List.mem_append_right _ (List.mem_append_right _ (List.mem_append_right _ (List.mem_append_right _ (List.mem_append_right _ (List.mem_append_right _ (List.mem_append_right _ (List.mem_append_right _ (List.mem_append_right _ (List.mem_append_right _ (List.mem_append_right _ (List.mem_append_right _ (List.mem_append_right _ (List.mem_append_right _ (List.mem_append_right _ (List.mem_append_right _ (List.mem_append_right _ (List.mem_append_right _ (List.mem_append_right _ (List.mem_append_right _ (List.mem_append_right _ (List.mem_append_right _ (List.mem_append_right _ (List.mem_append_right _ (List.mem_append_right _ (List.mem_append_right _ (List.mem_append_right _ (List.mem_append_right _ (List.mem_append_right _ (List.mem_append_right _ (List.mem_append_right _ (List.mem_append_right _ (List.mem_append_right _ (List.mem_append_right _ (List.mem_append_right _ (List.mem_append_right _ (List.mem_append_left _ h))))))))))))))))))))))))))))))))))))))))
theorem inW1 : ∀ w ∈ wsX10, w ∈ gW := fun _ h => List.mem_append_right _ (List.mem_append_right _ (List.mem_append_right _ (List.mem_append_right _ (List.mem_append_right _ (List.mem_append_right _ (List.mem_append_right _ (List.mem_append_right _ (List.mem_append_right _ (List.mem_append_right _ (List.mem_append_right _ (List.mem_append_right _ (List.mem_append_right _ (List.mem_append_right _ (List.mem_append_right _ (List.mem_append_right _ (List.mem_append_right _ (List.mem_append_right _ (List.mem_append_right _ (List.mem_append_right _ (List.mem_append_right _ (List.mem_append_right _ (List.mem_append_right _ (List.mem_append_right _ (List.mem_append_right _ (List.mem_append_right _ (List.mem_append_right _ (List.mem_append_right _ (List.mem_append_right _ (List.mem_append_right _ (List.mem_append_right _ (List.mem_append_right _ (List.mem_append_right _ (List.mem_append_right _ (List.mem_append_right _ (List.mem_append_right _ (List.mem_append_right _ (List.mem_append_right _ (List.mem_append_right _ (List.mem_append_right _ (List.mem_append_right _ (List.mem_append_left _ h)))))))))))))))))))))))))))))))))))))))))
theorem inW2 : ∀ w ∈ wsX20, w ∈ gW := fun _ h => List.mem_append_right _ (List.mem_append_right _ (List.mem_append_right _ (List.mem_append_right _ (List.mem_append_right _ (List.mem_append_right _ (List.mem_append_right _ (List.mem_append_right _ (List.mem_append_right _ (List.mem_append_right _ (List.mem_append_right _ (List.mem_append_right _ (List.mem_append_right _ (List.mem_append_right _ (List.mem_append_right _ (List.mem_append_right _ (List.mem_append_right _ (List.mem_append_right _ (List.mem_append_right _ (List.mem_append_right _ (List.mem_append_right _ (List.mem_append_right _ (List.mem_append_right _ (List.mem_append_right _ (List.mem_append_right _ (List.mem_append_right _ (List.mem_append_right _ (List.mem_append_right _ (List.mem_append_right _ (List.mem_append_right _ (List.mem_append_right _ (List.mem_append_right _ (List.mem_append_right _ (List.mem_append_right _ (List.mem_append_right _ (List.mem_append_right _ (List.mem_append_right _ (List.mem_append_right _ (List.mem_append_right _ (List.mem_append_right _ (List.mem_append_right _ (List.mem_append_right _ (List.mem_append_left _ h))))))))))))))))))))))))))))))))))))))))))
theorem inW3 : ∀ w ∈ wsX30, w ∈ gW := fun _ h => List.mem_append_right _ (List.mem_append_right _ (List.mem_append_right _ (List.mem_append_right _ (List.mem_append_right _ (List.mem_append_right _ (List.mem_append_right _ (List.mem_append_right _ (List.mem_append_right _ (List.mem_append_right _ (List.mem_append_right _ (List.mem_append_right _ (List.mem_append_right _ (List.mem_append_right _ (List.mem_append_right _ (List.mem_append_right _ (List.mem_append_right _ (List.mem_append_right _ (List.mem_append_right _ (List.mem_append_right _ (List.mem_append_right _ (List.mem_append_right _ (List.mem_append_right _ (List.mem_append_right _ (List.mem_append_right _ (List.mem_append_right _ (List.mem_append_right _ (List.mem_append_right _ (List.mem_append_right _ (List.mem_append_right _ (List.mem_append_right _ (List.mem_append_right _ (List.mem_append_right _ (List.mem_append_right _ (List.mem_append_right _ (List.mem_append_right _ (List.mem_append_right _ (List.mem_append_right _ (List.mem_append_right _ (List.mem_append_right _ (List.mem_append_right _ (List.mem_append_right _ (List.mem_append_right _ (List.mem_append_left _ h)))))))))))))))))))))))))))))))))))))))))))
theorem inW4 : ∀ w ∈ wsX40, w ∈ gW := fun _ h => List.mem_append_right _ (List.mem_append_right _ (List.mem_append_right _ (List.mem_append_right _ (List.mem_append_right _ (List.mem_append_right _ (List.mem_append_right _ (List.mem_append_right _ (List.mem_append_right _ (List.mem_append_right _ (List.mem_append_right _ (List.mem_append_right _ (List.mem_append_right _ (List.mem_append_right _ (List.mem_append_right _ (List.mem_append_right _ (List.mem_append_right _ (List.mem_append_right _ (List.mem_append_right _ (List.mem_append_right _ (List.mem_append_right _ (List.mem_append_right _ (List.mem_append_right _ (List.mem_append_right _ (List.mem_append_right _ (List.mem_append_right _ (List.mem_append_right _ (List.mem_append_right _ (List.mem_append_right _ (List.mem_append_right _ (List.mem_append_right _ (List.mem_append_right _ (List.mem_append_right _ (List.mem_append_right _ (List.mem_append_right _ (List.mem_append_right _ (List.mem_append_right _ (List.mem_append_right _ (List.mem_append_right _ (List.mem_append_right _ (List.mem_append_right _ (List.mem_append_right _ (List.mem_append_right _ (List.mem_append_right _ (List.mem_append_left _ h))))))))))))))))))))))))))))))))))))))))))))
theorem inW5 : ∀ w ∈ wsX50, w ∈ gW := fun _ h => List.mem_append_right _ (List.mem_append_right _ (List.mem_append_right _ (List.mem_append_right _ (List.mem_append_right _ (List.mem_append_right _ (List.mem_append_right _ (List.mem_append_right _ (List.mem_append_right _ (List.mem_append_right _ (List.mem_append_right _ (List.mem_append_right _ (List.mem_append_right _ (List.mem_append_right _ (List.mem_append_right _ (List.mem_append_right _ (List.mem_append_right _ (List.mem_append_right _ (List.mem_append_right _ (List.mem_append_right _ (List.mem_append_right _ (List.mem_append_right _ (List.mem_append_right _ (List.mem_append_right _ (List.mem_append_right _ (List.mem_append_right _ (List.mem_append_right _ (List.mem_append_right _ (List.mem_append_right _ (List.mem_append_right _ (List.mem_append_right _ (List.mem_append_right _ (List.mem_append_right _ (List.mem_append_right _ (List.mem_append_right _ (List.mem_append_right _ (List.mem_append_right _ (List.mem_append_right _ (List.mem_append_right _ (List.mem_append_right _ (List.mem_append_right _ (List.mem_append_right _ (List.mem_append_right _ (List.mem_append_right _ (List.mem_append_right _ (List.mem_append_left _ h)))))))))))))))))))))))))))))))))))))))))))))
theorem inW6 : ∀ w ∈ wsX60, w ∈ gW := fun _ h => List.mem_append_right _ (List.mem_append_right _ (List.mem_append_right _ (List.mem_append_right _ (List.mem_append_right _ (List.mem_append_right _ (List.mem_append_right _ (List.mem_append_right _ (List.mem_append_right _ (List.mem_append_right _ (List.mem_append_right _ (List.mem_append_right _ (List.mem_append_right _ (List.mem_append_right _ (List.mem_append_right _ (List.mem_append_right _ (List.mem_append_right _ (List.mem_append_right _ (List.mem_append_right _ (List.mem_append_right _ (List.mem_append_right _ (List.mem_append_right _ (List.mem_append_right _ (List.mem_append_right _ (List.mem_append_right _ (List.mem_append_right _ (List.mem_append_right _ (List.mem_append_right _ (List.mem_append_right _ (List.mem_append_right _ (List.mem_append_right _ (List.mem_append_right _ (List.mem_append_right _ (List.mem_append_right _ (List.mem_append_right _ (List.mem_append_right _ (List.mem_append_right _ (List.mem_append_right _ (List.mem_append_right _ (List.mem_append_right _ (List.mem_append_right _ (List.mem_append_right _ (List.mem_append_right _ (List.mem_append_right _ (List.mem_append_right _ (List.mem_append_right _ (List.mem_append_left _ h))))))))))))))))))))))))))))))))))))))))))))))
theorem inW7 : ∀ w ∈ wsX70, w ∈ gW := fun _ h => List.mem_append_right _ (List.mem_append_right _ (List.mem_append_right _ (List.mem_append_right _ (List.mem_append_right _ (List.mem_append_right _ (List.mem_append_right _ (List.mem_append_right _ (List.mem_append_right _ (List.mem_append_right _ (List.mem_append_right _ (List.mem_append_right _ (List.mem_append_right _ (List.mem_append_right _ (List.mem_append_right _ (List.mem_append_right _ (List.mem_append_right _ (List.mem_append_right _ (List.mem_append_right _ (List.mem_append_right _ (List.mem_append_right _ (List.mem_append_right _ (List.mem_append_right _ (List.mem_append_right _ (List.mem_append_right _ (List.mem_append_right _ (List.mem_append_right _ (List.mem_append_right _ (List.mem_append_right _ (List.mem_append_right _ (List.mem_append_right _ (List.mem_append_right _ (List.mem_append_right _ (List.mem_append_right _ (List.mem_append_right _ (List.mem_append_right _ (List.mem_append_right _ (List.mem_append_right _ (List.mem_append_right _ (List.mem_append_right _ (List.mem_append_right _ (List.mem_append_right _ (List.mem_append_right _ (List.mem_append_right _ (List.mem_append_right _ (List.mem_append_right _ (List.mem_append_right _ (List.mem_append_left _ h)))))))))))))))))))))))))))))))))))))))))))))))
theorem inW8 : ∀ w ∈ wsX80, w ∈ gW := fun _ h => List.mem_append_right _ (List.mem_append_right _ (List.mem_append_right _ (List.mem_append_right _ (List.mem_append_right _ (List.mem_append_right _ (List.mem_append_right _ (List.mem_append_right _ (List.mem_append_right _ (List.mem_append_right _ (List.mem_append_right _ (List.mem_append_right _ (List.mem_append_right _ (List.mem_append_right _ (List.mem_append_right _ (List.mem_append_right _ (List.mem_append_right _ (List.mem_append_right _ (List.mem_append_right _ (List.mem_append_right _ (List.mem_append_right _ (List.mem_append_right _ (List.mem_append_right _ (List.mem_append_right _ (List.mem_append_right _ (List.mem_append_right _ (List.mem_append_right _ (List.mem_append_right _ (List.mem_append_right _ (List.mem_append_right _ (List.mem_append_right _ (List.mem_append_right _ (List.mem_append_right _ (List.mem_append_right _ (List.mem_append_right _ (List.mem_append_right _ (List.mem_append_right _ (List.mem_append_right _ (List.mem_append_right _ (List.mem_append_right _ (List.mem_append_right _ (List.mem_append_right _ (List.mem_append_right _ (List.mem_append_right _ (List.mem_append_right _ (List.mem_append_right _ (List.mem_append_right _ (List.mem_append_right _ (List.mem_append_left _ h))))))))))))))))))))))))))))))))))))))))))))))))
theorem inW9 : ∀ w ∈ wsX90, w ∈ gW := fun _ h => List.mem_append_right _ (List.mem_append_right _ (List.mem_append_right _ (List.mem_append_right _ (List.mem_append_right _ (List.mem_append_right _ (List.mem_append_right _ (List.mem_append_right _ (List.mem_append_right _ (List.mem_append_right _ (List.mem_append_right _ (List.mem_append_right _ (List.mem_append_right _ (List.mem_append_right _ (List.mem_append_right _ (List.mem_append_right _ (List.mem_append_right _ (List.mem_append_right _ (List.mem_append_right _ (List.mem_append_right _ (List.mem_append_right _ (List.mem_append_right _ (List.mem_append_right _ (List.mem_append_right _ (List.mem_append_right _ (List.mem_append_right _ (List.mem_append_right _ (List.mem_append_right _ (List.mem_append_right _ (List.mem_append_right _ (List.mem_append_right _ (List.mem_append_right _ (List.mem_append_right _ (List.mem_append_right _ (List.mem_append_right _ (List.mem_append_right _ (List.mem_append_right _ (List.mem_append_right _ (List.mem_append_right _ (List.mem_append_right _ (List.mem_append_right _ (List.mem_append_right _ (List.mem_append_right _ (List.mem_append_right _ (List.mem_append_right _ (List.mem_append_right _ (List.mem_append_right _ (List.mem_append_right _ (List.mem_append_right _ (List.mem_append_left _ h)))))))))))))))))))))))))))))))))))))))))))))))))
theorem inW10 : ∀ w ∈ wsX100, w ∈ gW := fun _ h => List.mem_append_right _ (List.mem_append_right _ (List.mem_append_right _ (List.mem_append_right _ (List.mem_append_right _ (List.mem_append_right _ (List.mem_append_right _ (List.mem_append_right _ (List.mem_append_right _ (List.mem_append_right _ (List.mem_append_right _ (List.mem_append_right _ (List.mem_append_right _ (List.mem_append_right _ (List.mem_append_right _ (List.mem_append_right _ (List.mem_append_right _ (List.mem_append_right _ (List.mem_append_right _ (List.mem_append_right _ (List.mem_append_right _ (List.mem_append_right _ (List.mem_append_right _ (List.mem_append_right _ (List.mem_append_right _ (List.mem_append_right _ (List.mem_append_right _ (List.mem_append_right _ (List.mem_append_right _ (List.mem_append_right _ (List.mem_append_right _ (List.mem_append_right _ (List.mem_append_right _ (List.mem_append_right _ (List.mem_append_right _ (List.mem_append_right _ (List.mem_append_right _ (List.mem_append_right _ (List.mem_append_right _ (List.mem_append_right _ (List.mem_append_right _ (List.mem_append_right _ (List.mem_append_right _ (List.mem_append_right _ (List.mem_append_right _ (List.mem_append_right _ (List.mem_append_right _ (List.mem_append_right _ (List.mem_append_right _ (List.mem_append_right _ (List.mem_append_left _ h))))))))))))))))))))))))))))))))))))))))))))))))))
theorem inW11 : ∀ w ∈ wsX110, w ∈ gW := fun _ h => List.mem_append_right _ (List.mem_append_right _ (List.mem_append_right _ (List.mem_append_right _ (List.mem_append_right _ (List.mem_append_right _ (List.mem_append_right _ (List.mem_append_right _ (List.mem_append_right _ (List.mem_append_right _ (List.mem_append_right _ (List.mem_append_right _ (List.mem_append_right _ (List.mem_append_right _ (List.mem_append_right _ (List.mem_append_right _ (List.mem_append_right _ (List.mem_append_right _ (List.mem_append_right _ (List.mem_append_right _ (List.mem_append_right _ (List.mem_append_right _ (List.mem_append_right _ (List.mem_append_right _ (List.mem_append_right _ (List.mem_append_right _ (List.mem_append_right _ (List.mem_append_right _ (List.mem_append_right _ (List.mem_append_right _ (List.mem_append_right _ (List.mem_append_right _ (List.mem_append_right _ (List.mem_append_right _ (List.mem_append_right _ (List.mem_append_right _ (List.mem_append_right _ (List.mem_append_right _ (List.mem_append_right _ (List.mem_append_right _ (List.mem_append_right _ (List.mem_append_right _ (List.mem_append_right _ (List.mem_append_right _ (List.mem_append_right _ (List.mem_append_right _ (List.mem_append_right _ (List.mem_append_right _ (List.mem_append_right _ (List.mem_append_right _ (List.mem_append_right _ (List.mem_append_left _ h)))))))))))))))))))))))))))))))))))))))))))))))))))
theorem inW12 : ∀ w ∈ wsX120, w ∈ gW := fun _ h => List.mem_append_right _ (List.mem_append_right _ (List.mem_append_right _ (List.mem_append_right _ (List.mem_append_right _ (List.mem_append_right _ (List.mem_append_right _ (List.mem_append_right _ (List.mem_append_right _ (List.mem_append_right _ (List.mem_append_right _ (List.mem_append_right _ (List.mem_append_right _ (List.mem_append_right _ (List.mem_append_right _ (List.mem_append_right _ (List.mem_append_right _ (List.mem_append_right _ (List.mem_append_right _ (List.mem_append_right _ (List.mem_append_right _ (List.mem_append_right _ (List.mem_append_right _ (List.mem_append_right _ (List.mem_append_right _ (List.mem_append_right _ (List.mem_append_right _ (List.mem_append_right _ (List.mem_append_right _ (List.mem_append_right _ (List.mem_append_right _ (List.mem_append_right _ (List.mem_append_right _ (List.mem_append_right _ (List.mem_append_right _ (List.mem_append_right _ (List.mem_append_right _ (List.mem_append_right _ (List.mem_append_right _ (List.mem_append_right _ (List.mem_append_right _ (List.mem_append_right _ (List.mem_append_right _ (List.mem_append_right _ (List.mem_append_right _ (List.mem_append_right _ (List.mem_append_right _ (List.mem_append_right _ (List.mem_append_right _ (List.mem_append_right _ (List.mem_append_right _ (List.mem_append_right _ (List.mem_append_left _ h))))))))))))))))))))))))))))))))))))))))))))))))))))
theorem inE0 : ∀ w ∈ (vx_atS RX11 102 g_ISE g_nm).filter goodWord, w ∈ gW := fun _ h => List.mem_append_right _ (List.mem_append_right _ (List.mem_append_right _ (List.mem_append_right _ (List.mem_append_right _ (List.mem_append_right _ (List.mem_append_right _ (List.mem_append_right _ (List.mem_append_right _ (List.mem_append_right _ (List.mem_append_right _ (List.mem_append_right _ (List.mem_append_right _ (List.mem_append_right _ (List.mem_append_right _ (List.mem_append_right _ (List.mem_append_right _ (List.mem_append_right _ (List.mem_append_right _ (List.mem_append_right _ (List.mem_append_right _ (List.mem_append_right _ (List.mem_append_right _ (List.mem_append_right _ (List.mem_append_right _ (List.mem_append_right _ (List.mem_append_right _ (List.mem_append_right _ (List.mem_append_right _ (List.mem_append_right _ (List.mem_append_right _ (List.mem_append_right _ (List.mem_append_right _ (List.mem_append_right _ (List.mem_append_right _ (List.mem_append_right _ (List.mem_append_right _ (List.mem_append_right _ (List.mem_append_right _ (List.mem_append_right _ (List.mem_append_right _ (List.mem_append_right _ (List.mem_append_right _ (List.mem_append_right _ (List.mem_append_right _ (List.mem_append_right _ (List.mem_append_right _ (List.mem_append_right _ (List.mem_append_right _ (List.mem_append_right _ (List.mem_append_right _ (List.mem_append_right _ (List.mem_append_right _ (List.mem_append_left _ h)))))))))))))))))))))))))))))))))))))))))))))))))))))
theorem inE1 : ∀ w ∈ (vx_atS RX11 112 g_IAE g_nm).filter goodWord, w ∈ gW := fun _ h => List.mem_append_right _ (List.mem_append_right _ (List.mem_append_right _ (List.mem_append_right _ (List.mem_append_right _ (List.mem_append_right _ (List.mem_append_right _ (List.mem_append_right _ (List.mem_append_right _ (List.mem_append_right _ (List.mem_append_right _ (List.mem_append_right _ (List.mem_append_right _ (List.mem_append_right _ (List.mem_append_right _ (List.mem_append_right _ (List.mem_append_right _ (List.mem_append_right _ (List.mem_append_right _ (List.mem_append_right _ (List.mem_append_right _ (List.mem_append_right _ (List.mem_append_right _ (List.mem_append_right _ (List.mem_append_right _ (List.mem_append_right _ (List.mem_append_right _ (List.mem_append_right _ (List.mem_append_right _ (List.mem_append_right _ (List.mem_append_right _ (List.mem_append_right _ (List.mem_append_right _ (List.mem_append_right _ (List.mem_append_right _ (List.mem_append_right _ (List.mem_append_right _ (List.mem_append_right _ (List.mem_append_right _ (List.mem_append_right _ (List.mem_append_right _ (List.mem_append_right _ (List.mem_append_right _ (List.mem_append_right _ (List.mem_append_right _ (List.mem_append_right _ (List.mem_append_right _ (List.mem_append_right _ (List.mem_append_right _ (List.mem_append_right _ (List.mem_append_right _ (List.mem_append_right _ (List.mem_append_right _ (List.mem_append_right _ (List.mem_append_left _ h))))))))))))))))))))))))))))))))))))))))))))))))))))))
theorem inE2 : ∀ w ∈ (vx_atS RX11 173 g_IOB g_nm).filter goodWord, w ∈ gW := fun _ h => List.mem_append_right _ (List.mem_append_right _ (List.mem_append_right _ (List.mem_append_right _ (List.mem_append_right _ (List.mem_append_right _ (List.mem_append_right _ (List.mem_append_right _ (List.mem_append_right _ (List.mem_append_right _ (List.mem_append_right _ (List.mem_append_right _ (List.mem_append_right _ (List.mem_append_right _ (List.mem_append_right _ (List.mem_append_right _ (List.mem_append_right _ (List.mem_append_right _ (List.mem_append_right _ (List.mem_append_right _ (List.mem_append_right _ (List.mem_append_right _ (List.mem_append_right _ (List.mem_append_right _ (List.mem_append_right _ (List.mem_append_right _ (List.mem_append_right _ (List.mem_append_right _ (List.mem_append_right _ (List.mem_append_right _ (List.mem_append_right _ (List.mem_append_right _ (List.mem_append_right _ (List.mem_append_right _ (List.mem_append_right _ (List.mem_append_right _ (List.mem_append_right _ (List.mem_append_right _ (List.mem_append_right _ (List.mem_append_right _ (List.mem_append_right _ (List.mem_append_right _ (List.mem_append_right _ (List.mem_append_right _ (List.mem_append_right _ (List.mem_append_right _ (List.mem_append_right _ (List.mem_append_right _ (List.mem_append_right _ (List.mem_append_right _ (List.mem_append_right _ (List.mem_append_right _ (List.mem_append_right _ (List.mem_append_right _ (List.mem_append_right _ (h)))))))))))))))))))))))))))))))))))))))))))))))))))))))
theorem k488 : Cond.selects RX11 yX11_tidy yX11_tidy ∈ gW := mc_0 _ (List.mem_of_getElem? (i := 0) rfl)
theorem k510 : Cond.selects RX5 yX5_isLetter yX5_isLetter ∈ gW := mc_0 _ (List.mem_of_getElem? (i := 1) rfl)
theorem k596 : Cond.selects RX11 yX11_isTerm yX11_isTerm ∈ gW := mc_0 _ (List.mem_of_getElem? (i := 2) rfl)
theorem k497 : Cond.selects RX5 yX5_start yX5_start ∈ gW := mc_0 _ (List.mem_of_getElem? (i := 3) rfl)
theorem k522 : Cond.selects RX5 yX5_readOne yX5_readOne ∈ gW := mc_0 _ (List.mem_of_getElem? (i := 4) rfl)
theorem k518 : Cond.selects RX5 yX5_readName yX5_readName ∈ gW := mc_0 _ (List.mem_of_getElem? (i := 5) rfl)
theorem k502 : Cond.selects RX5 yX5_skipBlanks yX5_skipBlanks ∈ gW := mc_0 _ (List.mem_of_getElem? (i := 6) rfl)
theorem k506 : Cond.selects RX5 yX5_peek yX5_peek ∈ gW := mc_0 _ (List.mem_of_getElem? (i := 7) rfl)
theorem k514 : Cond.selects RX5 yX5_fail yX5_fail ∈ gW := mc_0 _ (List.mem_of_getElem? (i := 8) rfl)
theorem k337 : Cond.selects RX12 yX12_fail yX12_fail ∈ gW := mc_0 _ (List.mem_of_getElem? (i := 9) rfl)
theorem k307 : Cond.selects RX12 yX12_four yX12_four ∈ gW := mc_0 _ (List.mem_of_getElem? (i := 10) rfl)
theorem k364 : Cond.selects RX12 yX12_isName yX12_isName ∈ gW := mc_0 _ (List.mem_of_getElem? (i := 11) rfl)
theorem k438 : Cond.selects RX12 yX12_isSymbol yX12_isSymbol ∈ gW := mc_0 _ (List.mem_of_getElem? (i := 12) rfl)
theorem k607 : Cond.selects RX12 yX12_isNumber yX12_isNumber ∈ gW := mc_0 _ (List.mem_of_getElem? (i := 13) rfl)
theorem k539 : Cond.selects RX12 yX12_beginText yX12_beginText ∈ gW := mc_0 _ (List.mem_of_getElem? (i := 14) rfl)
theorem k554 : Cond.selects RX12 yX12_readsTerm yX12_readsTerm ∈ gW := mc_0 _ (List.mem_of_getElem? (i := 15) rfl)
theorem k543 : Cond.selects RX12 yX12_look yX12_look ∈ gW := mc_0 _ (List.mem_of_getElem? (i := 16) rfl)
theorem k550 : Cond.selects RX12 yX12_error yX12_error ∈ gW := mc_0 _ (List.mem_of_getElem? (i := 17) rfl)
theorem k750 : Cond.selects RX12 yX12_readsTheory yX12_readsTheory ∈ gW := mc_0 _ (List.mem_of_getElem? (i := 18) rfl)
theorem k785 : Cond.selects RX12 yX12_firstConflict yX12_firstConflict ∈ gW := mc_0 _ (List.mem_of_getElem? (i := 19) rfl)
theorem k300 : Cond.initialized RL ∈ gW := mc_0 _ (List.mem_of_getElem? (i := 20) rfl)
theorem k2 : Cond.initialized RX11 ∈ gW := mc_0 _ (List.mem_of_getElem? (i := 21) rfl)
theorem k8 : Cond.initialized RX7 ∈ gW := mc_0 _ (List.mem_of_getElem? (i := 22) rfl)
theorem k22 : Cond.initialized RX8 ∈ gW := mc_0 _ (List.mem_of_getElem? (i := 23) rfl)
theorem k26 : Cond.initialized RX6 ∈ gW := mc_0 _ (List.mem_of_getElem? (i := 24) rfl)
theorem k31 : Cond.initialized "java/lang/Math" ∈ gW := mc_1 _ (List.mem_of_getElem? (i := 0) rfl)
theorem k55 : Cond.initialized RX10 ∈ gW := mc_1 _ (List.mem_of_getElem? (i := 1) rfl)
theorem k73 : Cond.initialized RX2 ∈ gW := mc_1 _ (List.mem_of_getElem? (i := 2) rfl)
theorem k100 : Cond.initialized RX9 ∈ gW := mc_1 _ (List.mem_of_getElem? (i := 3) rfl)
theorem k120 : Cond.initialized RX1 ∈ gW := mc_1 _ (List.mem_of_getElem? (i := 4) rfl)
theorem k146 : Cond.initialized RX5 ∈ gW := mc_1 _ (List.mem_of_getElem? (i := 5) rfl)
theorem k165 : Cond.initialized RX4 ∈ gW := mc_1 _ (List.mem_of_getElem? (i := 6) rfl)
theorem k177 : Cond.initialized RX0 ∈ gW := mc_1 _ (List.mem_of_getElem? (i := 7) rfl)
theorem k190 : Cond.initialized RX3 ∈ gW := mc_1 _ (List.mem_of_getElem? (i := 8) rfl)
theorem k217 : Cond.initialized RX12 ∈ gW := mc_1 _ (List.mem_of_getElem? (i := 9) rfl)
theorem k824 : Cond.initialized g_ISE ∈ gW := mc_1 _ (List.mem_of_getElem? (i := 10) rfl)
theorem k332 : Cond.initialized g_IAE ∈ gW := mc_1 _ (List.mem_of_getElem? (i := 11) rfl)
theorem k426 : Cond.initialized g_IOB ∈ gW := mc_1 _ (List.mem_of_getElem? (i := 12) rfl)
theorem k791 : Cond.initialized g_NSE ∈ gW := mc_1 _ (List.mem_of_getElem? (i := 13) rfl)
theorem k0 : Cond.classLink RL 8 RX11 ∈ gW := mc_1 _ (List.mem_of_getElem? (i := 14) rfl)
theorem k1 : Cond.instantiable RX11 11 ∈ gW := mc_1 _ (List.mem_of_getElem? (i := 15) rfl)
theorem k212 : Cond.methodLink RL 142 yX11_init ∈ gW := mc_1 _ (List.mem_of_getElem? (i := 16) rfl)
theorem k214 : Cond.instanceMethod yX11_init ∈ gW := mc_1 _ (List.mem_of_getElem? (i := 17) rfl)
theorem k213 : Cond.code yX11_init cX11_init 1 none ∈ gW := mc_1 _ (List.mem_of_getElem? (i := 18) rfl)
theorem k3 : Cond.methodLink RX11 1 Lib.objectInit ∈ gW := mc_1 _ (List.mem_of_getElem? (i := 19) rfl)
theorem k4 : Cond.instanceMethod Lib.objectInit ∈ gW := mc_1 _ (List.mem_of_getElem? (i := 20) rfl)
theorem k5 : Cond.code Lib.objectInit ⟨#[0xb1]⟩ 1 none ∈ gW := mc_1 _ (List.mem_of_getElem? (i := 21) rfl)
theorem k6 : Cond.classLink RX11 7 RX7 ∈ gW := mc_1 _ (List.mem_of_getElem? (i := 22) rfl)
theorem k7 : Cond.instantiable RX7 11 ∈ gW := mc_1 _ (List.mem_of_getElem? (i := 23) rfl)
theorem k18 : Cond.instanceMethod yX7_init ∈ gW := mc_1 _ (List.mem_of_getElem? (i := 24) rfl)
theorem k17 : Cond.code yX7_init cX7_init 1 none ∈ gW := mc_2 _ (List.mem_of_getElem? (i := 0) rfl)
theorem k9 : Cond.methodLink RX7 3 Lib.objectInit ∈ gW := mc_2 _ (List.mem_of_getElem? (i := 1) rfl)
theorem k10 : Cond.fieldLink RX7 9 "GroundProver$Symbols" "names" "[B" ∈ gW := mc_2 _ (List.mem_of_getElem? (i := 2) rfl)
theorem k11 : Cond.fieldLink RX7 15 "GroundProver$Symbols" "lengths" "[I" ∈ gW := mc_2 _ (List.mem_of_getElem? (i := 3) rfl)
theorem k12 : Cond.fieldLink RX7 19 "GroundProver$Symbols" "arities" "[I" ∈ gW := mc_2 _ (List.mem_of_getElem? (i := 4) rfl)
theorem k13 : Cond.fieldLink RX7 22 "GroundProver$Symbols" "weights" "[I" ∈ gW := mc_2 _ (List.mem_of_getElem? (i := 5) rfl)
theorem k14 : Cond.fieldLink RX7 25 "GroundProver$Symbols" "ranks" "[I" ∈ gW := mc_2 _ (List.mem_of_getElem? (i := 6) rfl)
theorem k15 : Cond.fieldLink RX7 28 "GroundProver$Symbols" "ordinals" "[I" ∈ gW := mc_2 _ (List.mem_of_getElem? (i := 7) rfl)
theorem k16 : Cond.fieldLink RX7 31 "GroundProver$Symbols" "directions" "[Z" ∈ gW := mc_2 _ (List.mem_of_getElem? (i := 8) rfl)
theorem k380 : Cond.fieldLink RX7 35 "GroundProver$Symbols" "count" "I" ∈ gW := mc_2 _ (List.mem_of_getElem? (i := 9) rfl)
theorem k399 : Cond.fieldLink RX7 58 "GroundProver$Symbols" "isByWeight" "Z" ∈ gW := mc_2 _ (List.mem_of_getElem? (i := 10) rfl)
theorem k394 : Cond.fieldLink RX7 62 "GroundProver$Symbols" "isOrderFixed" "Z" ∈ gW := mc_2 _ (List.mem_of_getElem? (i := 11) rfl)
theorem k994 : Cond.arrayClass .byte ∈ gW := mc_2 _ (List.mem_of_getElem? (i := 12) rfl)
theorem k993 : Cond.arrayClass .int ∈ gW := mc_2 _ (List.mem_of_getElem? (i := 13) rfl)
theorem k995 : Cond.arrayClass .boolean ∈ gW := mc_2 _ (List.mem_of_getElem? (i := 14) rfl)
theorem k20 : Cond.classLink RX11 16 RX8 ∈ gW := mc_2 _ (List.mem_of_getElem? (i := 15) rfl)
theorem k21 : Cond.instantiable RX8 13 ∈ gW := mc_2 _ (List.mem_of_getElem? (i := 16) rfl)
theorem k49 : Cond.methodLink RX11 18 yX8_init ∈ gW := mc_2 _ (List.mem_of_getElem? (i := 17) rfl)
theorem k51 : Cond.instanceMethod yX8_init ∈ gW := mc_2 _ (List.mem_of_getElem? (i := 18) rfl)
theorem k50 : Cond.code yX8_init cX8_init 2 none ∈ gW := mc_2 _ (List.mem_of_getElem? (i := 19) rfl)
theorem k23 : Cond.methodLink RX8 3 Lib.objectInit ∈ gW := mc_2 _ (List.mem_of_getElem? (i := 20) rfl)
theorem k24 : Cond.classLink RX8 9 RX6 ∈ gW := mc_2 _ (List.mem_of_getElem? (i := 21) rfl)
theorem k25 : Cond.instantiable RX6 1 ∈ gW := mc_2 _ (List.mem_of_getElem? (i := 22) rfl)
theorem k27 : Cond.constant RX8 11 524288 ∈ gW := mc_2 _ (List.mem_of_getElem? (i := 23) rfl)
theorem k35 : Cond.methodLink RX8 12 yX6_init ∈ gW := mc_2 _ (List.mem_of_getElem? (i := 24) rfl)
theorem k37 : Cond.instanceMethod yX6_init ∈ gW := mc_3 _ (List.mem_of_getElem? (i := 0) rfl)
theorem k36 : Cond.code yX6_init cX6_init 2 none ∈ gW := mc_3 _ (List.mem_of_getElem? (i := 1) rfl)
theorem k28 : Cond.methodLink RX6 3 Lib.objectInit ∈ gW := mc_3 _ (List.mem_of_getElem? (i := 2) rfl)
theorem k29 : Cond.methodLink RX6 9 Lib.Math.max.name ∈ gW := mc_3 _ (List.mem_of_getElem? (i := 3) rfl)
theorem k30 : Cond.static Lib.Math.max.name ∈ gW := mc_3 _ (List.mem_of_getElem? (i := 4) rfl)
theorem k32 : Cond.code Lib.Math.max.name Lib.Math.max.code 2 (some .int) ∈ gW := mc_3 _ (List.mem_of_getElem? (i := 5) rfl)
theorem k33 : Cond.classLink RX6 15 "[I" ∈ gW := mc_3 _ (List.mem_of_getElem? (i := 6) rfl)
theorem k34 : Cond.fieldLink RX6 17 "GroundProver$Row" "blocks" "[[I" ∈ gW := mc_3 _ (List.mem_of_getElem? (i := 7) rfl)
theorem k39 : Cond.constant RX8 21 1572864 ∈ gW := mc_3 _ (List.mem_of_getElem? (i := 8) rfl)
theorem k44 : Cond.constant RX8 34 32768 ∈ gW := mc_3 _ (List.mem_of_getElem? (i := 9) rfl)
theorem k48 : Cond.fieldLink RX8 46 "GroundProver$TermStore" "symbols" "LGroundProver$Symbols;" ∈ gW := mc_3 _ (List.mem_of_getElem? (i := 10) rfl)
theorem k38 : Cond.fieldLink RX8 15 "GroundProver$TermStore" "signs" "LGroundProver$Row;" ∈ gW := mc_3 _ (List.mem_of_getElem? (i := 11) rfl)
theorem k40 : Cond.fieldLink RX8 22 "GroundProver$TermStore" "parts" "LGroundProver$Row;" ∈ gW := mc_3 _ (List.mem_of_getElem? (i := 12) rfl)
theorem k41 : Cond.fieldLink RX8 25 "GroundProver$TermStore" "extents" "LGroundProver$Row;" ∈ gW := mc_3 _ (List.mem_of_getElem? (i := 13) rfl)
theorem k42 : Cond.fieldLink RX8 28 "GroundProver$TermStore" "numbers" "LGroundProver$Row;" ∈ gW := mc_3 _ (List.mem_of_getElem? (i := 14) rfl)
theorem k43 : Cond.fieldLink RX8 31 "GroundProver$TermStore" "links" "LGroundProver$Row;" ∈ gW := mc_3 _ (List.mem_of_getElem? (i := 15) rfl)
theorem k45 : Cond.fieldLink RX8 35 "GroundProver$TermStore" "buckets" "LGroundProver$Row;" ∈ gW := mc_3 _ (List.mem_of_getElem? (i := 16) rfl)
theorem k46 : Cond.fieldLink RX8 38 "GroundProver$TermStore" "pending" "[I" ∈ gW := mc_3 _ (List.mem_of_getElem? (i := 17) rfl)
theorem k480 : Cond.fieldLink RX8 88 "GroundProver$TermStore" "used" "I" ∈ gW := mc_3 _ (List.mem_of_getElem? (i := 18) rfl)
theorem k47 : Cond.fieldLink RX8 42 "GroundProver$TermStore" "crowd" "I" ∈ gW := mc_3 _ (List.mem_of_getElem? (i := 19) rfl)
theorem k53 : Cond.classLink RX11 25 RX10 ∈ gW := mc_3 _ (List.mem_of_getElem? (i := 20) rfl)
theorem k54 : Cond.instantiable RX10 7 ∈ gW := mc_3 _ (List.mem_of_getElem? (i := 21) rfl)
theorem k67 : Cond.methodLink RX11 27 yX10_init ∈ gW := mc_3 _ (List.mem_of_getElem? (i := 22) rfl)
theorem k69 : Cond.instanceMethod yX10_init ∈ gW := mc_3 _ (List.mem_of_getElem? (i := 23) rfl)
theorem k68 : Cond.code yX10_init cX10_init 2 none ∈ gW := mc_3 _ (List.mem_of_getElem? (i := 24) rfl)
theorem k56 : Cond.methodLink RX10 3 Lib.objectInit ∈ gW := mc_4 _ (List.mem_of_getElem? (i := 0) rfl)
theorem k57 : Cond.classLink RX10 9 RX6 ∈ gW := mc_4 _ (List.mem_of_getElem? (i := 1) rfl)
theorem k58 : Cond.constant RX10 11 524288 ∈ gW := mc_4 _ (List.mem_of_getElem? (i := 2) rfl)
theorem k59 : Cond.methodLink RX10 12 yX6_init ∈ gW := mc_4 _ (List.mem_of_getElem? (i := 3) rfl)
theorem k61 : Cond.constant RX10 21 131072 ∈ gW := mc_4 _ (List.mem_of_getElem? (i := 4) rfl)
theorem k66 : Cond.fieldLink RX10 35 "GroundProver$Walk" "store" "LGroundProver$TermStore;" ∈ gW := mc_4 _ (List.mem_of_getElem? (i := 5) rfl)
theorem k60 : Cond.fieldLink RX10 15 "GroundProver$Walk" "slots" "LGroundProver$Row;" ∈ gW := mc_4 _ (List.mem_of_getElem? (i := 6) rfl)
theorem k62 : Cond.fieldLink RX10 22 "GroundProver$Walk" "nodes" "LGroundProver$Row;" ∈ gW := mc_4 _ (List.mem_of_getElem? (i := 7) rfl)
theorem k63 : Cond.fieldLink RX10 25 "GroundProver$Walk" "values" "LGroundProver$Row;" ∈ gW := mc_4 _ (List.mem_of_getElem? (i := 8) rfl)
theorem k64 : Cond.fieldLink RX10 28 "GroundProver$Walk" "tallies" "LGroundProver$Row;" ∈ gW := mc_4 _ (List.mem_of_getElem? (i := 9) rfl)
theorem k65 : Cond.fieldLink RX10 31 "GroundProver$Walk" "open" "[I" ∈ gW := mc_4 _ (List.mem_of_getElem? (i := 10) rfl)
theorem k71 : Cond.classLink RX11 34 RX2 ∈ gW := mc_4 _ (List.mem_of_getElem? (i := 11) rfl)
theorem k72 : Cond.instantiable RX2 20 ∈ gW := mc_4 _ (List.mem_of_getElem? (i := 12) rfl)
theorem k94 : Cond.methodLink RX11 36 yX2_init ∈ gW := mc_4 _ (List.mem_of_getElem? (i := 13) rfl)
theorem k96 : Cond.instanceMethod yX2_init ∈ gW := mc_4 _ (List.mem_of_getElem? (i := 14) rfl)
theorem k95 : Cond.code yX2_init cX2_init 2 none ∈ gW := mc_4 _ (List.mem_of_getElem? (i := 15) rfl)
theorem k74 : Cond.methodLink RX2 3 Lib.objectInit ∈ gW := mc_4 _ (List.mem_of_getElem? (i := 16) rfl)
theorem k75 : Cond.classLink RX2 9 RX6 ∈ gW := mc_4 _ (List.mem_of_getElem? (i := 17) rfl)
theorem k76 : Cond.constant RX2 11 131072 ∈ gW := mc_4 _ (List.mem_of_getElem? (i := 18) rfl)
theorem k77 : Cond.methodLink RX2 12 yX6_init ∈ gW := mc_4 _ (List.mem_of_getElem? (i := 19) rfl)
theorem k80 : Cond.constant RX2 24 393216 ∈ gW := mc_4 _ (List.mem_of_getElem? (i := 20) rfl)
theorem k93 : Cond.fieldLink RX2 61 "GroundProver$Grammar" "symbols" "LGroundProver$Symbols;" ∈ gW := mc_4 _ (List.mem_of_getElem? (i := 21) rfl)
theorem k78 : Cond.fieldLink RX2 15 "GroundProver$Grammar" "owners" "LGroundProver$Row;" ∈ gW := mc_4 _ (List.mem_of_getElem? (i := 22) rfl)
theorem k79 : Cond.fieldLink RX2 21 "GroundProver$Grammar" "signs" "LGroundProver$Row;" ∈ gW := mc_4 _ (List.mem_of_getElem? (i := 23) rfl)
theorem k81 : Cond.fieldLink RX2 25 "GroundProver$Grammar" "parts" "LGroundProver$Row;" ∈ gW := mc_4 _ (List.mem_of_getElem? (i := 24) rfl)
theorem k82 : Cond.fieldLink RX2 28 "GroundProver$Grammar" "waits" "LGroundProver$Row;" ∈ gW := mc_5 _ (List.mem_of_getElem? (i := 0) rfl)
theorem k83 : Cond.fieldLink RX2 31 "GroundProver$Grammar" "users" "LGroundProver$Row;" ∈ gW := mc_5 _ (List.mem_of_getElem? (i := 1) rfl)
theorem k84 : Cond.fieldLink RX2 34 "GroundProver$Grammar" "nextUsers" "LGroundProver$Row;" ∈ gW := mc_5 _ (List.mem_of_getElem? (i := 2) rfl)
theorem k85 : Cond.fieldLink RX2 37 "GroundProver$Grammar" "weights" "LGroundProver$Row;" ∈ gW := mc_5 _ (List.mem_of_getElem? (i := 3) rfl)
theorem k86 : Cond.fieldLink RX2 40 "GroundProver$Grammar" "sizes" "LGroundProver$Row;" ∈ gW := mc_5 _ (List.mem_of_getElem? (i := 4) rfl)
theorem k87 : Cond.fieldLink RX2 43 "GroundProver$Grammar" "depths" "LGroundProver$Row;" ∈ gW := mc_5 _ (List.mem_of_getElem? (i := 5) rfl)
theorem k88 : Cond.fieldLink RX2 46 "GroundProver$Grammar" "heap" "LGroundProver$Row;" ∈ gW := mc_5 _ (List.mem_of_getElem? (i := 6) rfl)
theorem k89 : Cond.fieldLink RX2 49 "GroundProver$Grammar" "chosen" "LGroundProver$Row;" ∈ gW := mc_5 _ (List.mem_of_getElem? (i := 7) rfl)
theorem k90 : Cond.fieldLink RX2 52 "GroundProver$Grammar" "positions" "LGroundProver$Row;" ∈ gW := mc_5 _ (List.mem_of_getElem? (i := 8) rfl)
theorem k91 : Cond.fieldLink RX2 55 "GroundProver$Grammar" "sequence" "LGroundProver$Row;" ∈ gW := mc_5 _ (List.mem_of_getElem? (i := 9) rfl)
theorem k92 : Cond.fieldLink RX2 58 "GroundProver$Grammar" "nodes" "LGroundProver$Row;" ∈ gW := mc_5 _ (List.mem_of_getElem? (i := 10) rfl)
theorem k98 : Cond.classLink RX11 41 RX9 ∈ gW := mc_5 _ (List.mem_of_getElem? (i := 11) rfl)
theorem k99 : Cond.instantiable RX9 18 ∈ gW := mc_5 _ (List.mem_of_getElem? (i := 12) rfl)
theorem k140 : Cond.methodLink RX11 43 yX9_init ∈ gW := mc_5 _ (List.mem_of_getElem? (i := 13) rfl)
theorem k142 : Cond.instanceMethod yX9_init ∈ gW := mc_5 _ (List.mem_of_getElem? (i := 14) rfl)
theorem k141 : Cond.code yX9_init cX9_init 5 none ∈ gW := mc_5 _ (List.mem_of_getElem? (i := 15) rfl)
theorem k101 : Cond.methodLink RX9 3 Lib.objectInit ∈ gW := mc_5 _ (List.mem_of_getElem? (i := 16) rfl)
theorem k110 : Cond.classLink RX9 36 RX6 ∈ gW := mc_5 _ (List.mem_of_getElem? (i := 17) rfl)
theorem k111 : Cond.constant RX9 38 524288 ∈ gW := mc_5 _ (List.mem_of_getElem? (i := 18) rfl)
theorem k112 : Cond.methodLink RX9 39 yX6_init ∈ gW := mc_5 _ (List.mem_of_getElem? (i := 19) rfl)
theorem k118 : Cond.classLink RX9 62 RX1 ∈ gW := mc_5 _ (List.mem_of_getElem? (i := 20) rfl)
theorem k119 : Cond.instantiable RX1 11 ∈ gW := mc_5 _ (List.mem_of_getElem? (i := 21) rfl)
theorem k136 : Cond.methodLink RX9 64 yX1_init ∈ gW := mc_5 _ (List.mem_of_getElem? (i := 22) rfl)
theorem k138 : Cond.instanceMethod yX1_init ∈ gW := mc_5 _ (List.mem_of_getElem? (i := 23) rfl)
theorem k137 : Cond.code yX1_init cX1_init 3 none ∈ gW := mc_5 _ (List.mem_of_getElem? (i := 24) rfl)
theorem k121 : Cond.methodLink RX1 3 Lib.objectInit ∈ gW := mc_6 _ (List.mem_of_getElem? (i := 0) rfl)
theorem k122 : Cond.classLink RX1 9 RX6 ∈ gW := mc_6 _ (List.mem_of_getElem? (i := 1) rfl)
theorem k123 : Cond.constant RX1 11 131072 ∈ gW := mc_6 _ (List.mem_of_getElem? (i := 2) rfl)
theorem k124 : Cond.methodLink RX1 12 yX6_init ∈ gW := mc_6 _ (List.mem_of_getElem? (i := 3) rfl)
theorem k130 : Cond.constant RX1 33 393216 ∈ gW := mc_6 _ (List.mem_of_getElem? (i := 4) rfl)
theorem k134 : Cond.fieldLink RX1 43 "GroundProver$Closure" "store" "LGroundProver$TermStore;" ∈ gW := mc_6 _ (List.mem_of_getElem? (i := 5) rfl)
theorem k135 : Cond.fieldLink RX1 47 "GroundProver$Closure" "walk" "LGroundProver$Walk;" ∈ gW := mc_6 _ (List.mem_of_getElem? (i := 6) rfl)
theorem k125 : Cond.fieldLink RX1 15 "GroundProver$Closure" "leaders" "LGroundProver$Row;" ∈ gW := mc_6 _ (List.mem_of_getElem? (i := 7) rfl)
theorem k126 : Cond.fieldLink RX1 21 "GroundProver$Closure" "nextMembers" "LGroundProver$Row;" ∈ gW := mc_6 _ (List.mem_of_getElem? (i := 8) rfl)
theorem k127 : Cond.fieldLink RX1 24 "GroundProver$Closure" "memberCounts" "LGroundProver$Row;" ∈ gW := mc_6 _ (List.mem_of_getElem? (i := 9) rfl)
theorem k128 : Cond.fieldLink RX1 27 "GroundProver$Closure" "twins" "LGroundProver$Row;" ∈ gW := mc_6 _ (List.mem_of_getElem? (i := 10) rfl)
theorem k129 : Cond.fieldLink RX1 30 "GroundProver$Closure" "signs" "LGroundProver$Row;" ∈ gW := mc_6 _ (List.mem_of_getElem? (i := 11) rfl)
theorem k131 : Cond.fieldLink RX1 34 "GroundProver$Closure" "parts" "LGroundProver$Row;" ∈ gW := mc_6 _ (List.mem_of_getElem? (i := 12) rfl)
theorem k132 : Cond.fieldLink RX1 37 "GroundProver$Closure" "buckets" "LGroundProver$Row;" ∈ gW := mc_6 _ (List.mem_of_getElem? (i := 13) rfl)
theorem k133 : Cond.fieldLink RX1 40 "GroundProver$Closure" "links" "LGroundProver$Row;" ∈ gW := mc_6 _ (List.mem_of_getElem? (i := 14) rfl)
theorem k114 : Cond.fieldLink RX9 46 "GroundProver$Theory" "symbols" "LGroundProver$Symbols;" ∈ gW := mc_6 _ (List.mem_of_getElem? (i := 15) rfl)
theorem k115 : Cond.fieldLink RX9 50 "GroundProver$Theory" "store" "LGroundProver$TermStore;" ∈ gW := mc_6 _ (List.mem_of_getElem? (i := 16) rfl)
theorem k116 : Cond.fieldLink RX9 54 "GroundProver$Theory" "walk" "LGroundProver$Walk;" ∈ gW := mc_6 _ (List.mem_of_getElem? (i := 17) rfl)
theorem k117 : Cond.fieldLink RX9 58 "GroundProver$Theory" "grammar" "LGroundProver$Grammar;" ∈ gW := mc_6 _ (List.mem_of_getElem? (i := 18) rfl)
theorem k139 : Cond.fieldLink RX9 67 "GroundProver$Theory" "closure" "LGroundProver$Closure;" ∈ gW := mc_6 _ (List.mem_of_getElem? (i := 19) rfl)
theorem k102 : Cond.fieldLink RX9 9 "GroundProver$Theory" "equationLefts" "[I" ∈ gW := mc_6 _ (List.mem_of_getElem? (i := 20) rfl)
theorem k103 : Cond.fieldLink RX9 15 "GroundProver$Theory" "equationRights" "[I" ∈ gW := mc_6 _ (List.mem_of_getElem? (i := 21) rfl)
theorem k806 : Cond.fieldLink RX9 71 "GroundProver$Theory" "equationCount" "I" ∈ gW := mc_6 _ (List.mem_of_getElem? (i := 22) rfl)
theorem k733 : Cond.fieldLink RX11 298 "GroundProver$Theory" "equationCount" "I" ∈ gW := mc_6 _ (List.mem_of_getElem? (i := 23) rfl)
theorem k104 : Cond.fieldLink RX9 18 "GroundProver$Theory" "separationLefts" "[I" ∈ gW := mc_6 _ (List.mem_of_getElem? (i := 24) rfl)
theorem k105 : Cond.fieldLink RX9 21 "GroundProver$Theory" "separationRights" "[I" ∈ gW := mc_7 _ (List.mem_of_getElem? (i := 0) rfl)
theorem k773 : Cond.fieldLink RX9 75 "GroundProver$Theory" "separationCount" "I" ∈ gW := mc_7 _ (List.mem_of_getElem? (i := 1) rfl)
theorem k734 : Cond.fieldLink RX11 309 "GroundProver$Theory" "separationCount" "I" ∈ gW := mc_7 _ (List.mem_of_getElem? (i := 2) rfl)
theorem k106 : Cond.fieldLink RX9 24 "GroundProver$Theory" "levelEquations" "[I" ∈ gW := mc_7 _ (List.mem_of_getElem? (i := 3) rfl)
theorem k107 : Cond.fieldLink RX9 27 "GroundProver$Theory" "levelSeparations" "[I" ∈ gW := mc_7 _ (List.mem_of_getElem? (i := 4) rfl)
theorem k805 : Cond.fieldLink RX9 85 "GroundProver$Theory" "levelCount" "I" ∈ gW := mc_7 _ (List.mem_of_getElem? (i := 5) rfl)
theorem k804 : Cond.fieldLink RX11 354 "GroundProver$Theory" "levelCount" "I" ∈ gW := mc_7 _ (List.mem_of_getElem? (i := 6) rfl)
theorem k108 : Cond.fieldLink RX9 30 "GroundProver$Theory" "ruleLefts" "[I" ∈ gW := mc_7 _ (List.mem_of_getElem? (i := 7) rfl)
theorem k109 : Cond.fieldLink RX9 33 "GroundProver$Theory" "ruleRights" "[I" ∈ gW := mc_7 _ (List.mem_of_getElem? (i := 8) rfl)
theorem k113 : Cond.fieldLink RX9 42 "GroundProver$Theory" "ruleHints" "LGroundProver$Row;" ∈ gW := mc_7 _ (List.mem_of_getElem? (i := 9) rfl)
theorem k837 : Cond.fieldLink RX11 367 "GroundProver$Theory" "ruleCount" "I" ∈ gW := mc_7 _ (List.mem_of_getElem? (i := 10) rfl)
theorem k144 : Cond.classLink RX11 50 RX5 ∈ gW := mc_7 _ (List.mem_of_getElem? (i := 11) rfl)
theorem k145 : Cond.instantiable RX5 19 ∈ gW := mc_7 _ (List.mem_of_getElem? (i := 12) rfl)
theorem k159 : Cond.methodLink RX11 52 yX5_init ∈ gW := mc_7 _ (List.mem_of_getElem? (i := 13) rfl)
theorem k161 : Cond.instanceMethod yX5_init ∈ gW := mc_7 _ (List.mem_of_getElem? (i := 14) rfl)
theorem k160 : Cond.code yX5_init cX5_init 3 none ∈ gW := mc_7 _ (List.mem_of_getElem? (i := 15) rfl)
theorem k147 : Cond.methodLink RX5 3 Lib.objectInit ∈ gW := mc_7 _ (List.mem_of_getElem? (i := 16) rfl)
theorem k157 : Cond.fieldLink RX5 42 "GroundProver$Reader" "symbols" "LGroundProver$Symbols;" ∈ gW := mc_7 _ (List.mem_of_getElem? (i := 17) rfl)
theorem k158 : Cond.fieldLink RX5 46 "GroundProver$Reader" "store" "LGroundProver$TermStore;" ∈ gW := mc_7 _ (List.mem_of_getElem? (i := 18) rfl)
theorem k148 : Cond.fieldLink RX5 9 "GroundProver$Reader" "input" "[B" ∈ gW := mc_7 _ (List.mem_of_getElem? (i := 19) rfl)
theorem k285 : Cond.fieldLink RX5 50 "GroundProver$Reader" "length" "I" ∈ gW := mc_7 _ (List.mem_of_getElem? (i := 20) rfl)
theorem k491 : Cond.fieldLink RX5 86 "GroundProver$Reader" "end" "I" ∈ gW := mc_7 _ (List.mem_of_getElem? (i := 21) rfl)
theorem k492 : Cond.fieldLink RX5 83 "GroundProver$Reader" "at" "I" ∈ gW := mc_7 _ (List.mem_of_getElem? (i := 22) rfl)
theorem k489 : Cond.fieldLink RX5 104 "GroundProver$Reader" "isTheory" "Z" ∈ gW := mc_7 _ (List.mem_of_getElem? (i := 23) rfl)
theorem k493 : Cond.fieldLink RX5 53 "GroundProver$Reader" "kind" "I" ∈ gW := mc_7 _ (List.mem_of_getElem? (i := 24) rfl)
theorem k149 : Cond.fieldLink RX5 15 "GroundProver$Reader" "position" "I" ∈ gW := mc_8 _ (List.mem_of_getElem? (i := 0) rfl)
theorem k150 : Cond.fieldLink RX5 19 "GroundProver$Reader" "openSymbols" "[I" ∈ gW := mc_8 _ (List.mem_of_getElem? (i := 1) rfl)
theorem k151 : Cond.fieldLink RX5 23 "GroundProver$Reader" "openStarts" "[I" ∈ gW := mc_8 _ (List.mem_of_getElem? (i := 2) rfl)
theorem k152 : Cond.fieldLink RX5 26 "GroundProver$Reader" "openCounts" "[I" ∈ gW := mc_8 _ (List.mem_of_getElem? (i := 3) rfl)
theorem k153 : Cond.fieldLink RX5 29 "GroundProver$Reader" "openParts" "[I" ∈ gW := mc_8 _ (List.mem_of_getElem? (i := 4) rfl)
theorem k498 : Cond.fieldLink RX5 114 "GroundProver$Reader" "openCount" "I" ∈ gW := mc_8 _ (List.mem_of_getElem? (i := 5) rfl)
theorem k154 : Cond.fieldLink RX5 32 "GroundProver$Reader" "lefts" "[I" ∈ gW := mc_8 _ (List.mem_of_getElem? (i := 6) rfl)
theorem k155 : Cond.fieldLink RX5 35 "GroundProver$Reader" "rights" "[I" ∈ gW := mc_8 _ (List.mem_of_getElem? (i := 7) rfl)
theorem k156 : Cond.fieldLink RX5 38 "GroundProver$Reader" "areEquations" "[Z" ∈ gW := mc_8 _ (List.mem_of_getElem? (i := 8) rfl)
theorem k728 : Cond.fieldLink RX5 56 "GroundProver$Reader" "statementCount" "I" ∈ gW := mc_8 _ (List.mem_of_getElem? (i := 9) rfl)
theorem k163 : Cond.classLink RX11 59 RX4 ∈ gW := mc_8 _ (List.mem_of_getElem? (i := 10) rfl)
theorem k164 : Cond.instantiable RX4 5 ∈ gW := mc_8 _ (List.mem_of_getElem? (i := 11) rfl)
theorem k171 : Cond.methodLink RX11 61 yX4_init ∈ gW := mc_8 _ (List.mem_of_getElem? (i := 12) rfl)
theorem k173 : Cond.instanceMethod yX4_init ∈ gW := mc_8 _ (List.mem_of_getElem? (i := 13) rfl)
theorem k172 : Cond.code yX4_init cX4_init 4 none ∈ gW := mc_8 _ (List.mem_of_getElem? (i := 14) rfl)
theorem k166 : Cond.methodLink RX4 3 Lib.objectInit ∈ gW := mc_8 _ (List.mem_of_getElem? (i := 15) rfl)
theorem k168 : Cond.fieldLink RX4 15 "GroundProver$Printer" "symbols" "LGroundProver$Symbols;" ∈ gW := mc_8 _ (List.mem_of_getElem? (i := 16) rfl)
theorem k169 : Cond.fieldLink RX4 19 "GroundProver$Printer" "store" "LGroundProver$TermStore;" ∈ gW := mc_8 _ (List.mem_of_getElem? (i := 17) rfl)
theorem k170 : Cond.fieldLink RX4 23 "GroundProver$Printer" "walk" "LGroundProver$Walk;" ∈ gW := mc_8 _ (List.mem_of_getElem? (i := 18) rfl)
theorem k167 : Cond.fieldLink RX4 9 "GroundProver$Printer" "output" "[B" ∈ gW := mc_8 _ (List.mem_of_getElem? (i := 19) rfl)
theorem k689 : Cond.fieldLink RX4 27 "GroundProver$Printer" "length" "I" ∈ gW := mc_8 _ (List.mem_of_getElem? (i := 20) rfl)
theorem k175 : Cond.classLink RX11 68 RX0 ∈ gW := mc_8 _ (List.mem_of_getElem? (i := 21) rfl)
theorem k176 : Cond.instantiable RX0 5 ∈ gW := mc_8 _ (List.mem_of_getElem? (i := 22) rfl)
theorem k184 : Cond.methodLink RX11 70 yX0_init ∈ gW := mc_8 _ (List.mem_of_getElem? (i := 23) rfl)
theorem k186 : Cond.instanceMethod yX0_init ∈ gW := mc_8 _ (List.mem_of_getElem? (i := 24) rfl)
theorem k185 : Cond.code yX0_init cX0_init 5 none ∈ gW := mc_9 _ (List.mem_of_getElem? (i := 0) rfl)
theorem k178 : Cond.methodLink RX0 3 Lib.objectInit ∈ gW := mc_9 _ (List.mem_of_getElem? (i := 1) rfl)
theorem k180 : Cond.fieldLink RX0 15 "GroundProver$ClassSearch" "theory" "LGroundProver$Theory;" ∈ gW := mc_9 _ (List.mem_of_getElem? (i := 2) rfl)
theorem k181 : Cond.fieldLink RX0 19 "GroundProver$ClassSearch" "store" "LGroundProver$TermStore;" ∈ gW := mc_9 _ (List.mem_of_getElem? (i := 3) rfl)
theorem k182 : Cond.fieldLink RX0 23 "GroundProver$ClassSearch" "walk" "LGroundProver$Walk;" ∈ gW := mc_9 _ (List.mem_of_getElem? (i := 4) rfl)
theorem k183 : Cond.fieldLink RX0 27 "GroundProver$ClassSearch" "grammar" "LGroundProver$Grammar;" ∈ gW := mc_9 _ (List.mem_of_getElem? (i := 5) rfl)
theorem k179 : Cond.fieldLink RX0 9 "GroundProver$ClassSearch" "counts" "[J" ∈ gW := mc_9 _ (List.mem_of_getElem? (i := 6) rfl)
theorem k996 : Cond.arrayClass .long ∈ gW := mc_9 _ (List.mem_of_getElem? (i := 7) rfl)
theorem k188 : Cond.classLink RX11 77 RX3 ∈ gW := mc_9 _ (List.mem_of_getElem? (i := 8) rfl)
theorem k189 : Cond.instantiable RX3 15 ∈ gW := mc_9 _ (List.mem_of_getElem? (i := 9) rfl)
theorem k204 : Cond.methodLink RX11 79 yX3_init ∈ gW := mc_9 _ (List.mem_of_getElem? (i := 10) rfl)
theorem k206 : Cond.instanceMethod yX3_init ∈ gW := mc_9 _ (List.mem_of_getElem? (i := 11) rfl)
theorem k205 : Cond.code yX3_init cX3_init 5 none ∈ gW := mc_9 _ (List.mem_of_getElem? (i := 12) rfl)
theorem k191 : Cond.methodLink RX3 5 Lib.objectInit ∈ gW := mc_9 _ (List.mem_of_getElem? (i := 13) rfl)
theorem k192 : Cond.classLink RX3 11 RX6 ∈ gW := mc_9 _ (List.mem_of_getElem? (i := 14) rfl)
theorem k193 : Cond.methodLink RX3 13 yX6_init ∈ gW := mc_9 _ (List.mem_of_getElem? (i := 15) rfl)
theorem k200 : Cond.fieldLink RX3 37 "GroundProver$Matcher" "theory" "LGroundProver$Theory;" ∈ gW := mc_9 _ (List.mem_of_getElem? (i := 16) rfl)
theorem k201 : Cond.fieldLink RX3 41 "GroundProver$Matcher" "store" "LGroundProver$TermStore;" ∈ gW := mc_9 _ (List.mem_of_getElem? (i := 17) rfl)
theorem k202 : Cond.fieldLink RX3 45 "GroundProver$Matcher" "walk" "LGroundProver$Walk;" ∈ gW := mc_9 _ (List.mem_of_getElem? (i := 18) rfl)
theorem k203 : Cond.fieldLink RX3 49 "GroundProver$Matcher" "grammar" "LGroundProver$Grammar;" ∈ gW := mc_9 _ (List.mem_of_getElem? (i := 19) rfl)
theorem k194 : Cond.fieldLink RX3 16 "GroundProver$Matcher" "found" "LGroundProver$Row;" ∈ gW := mc_9 _ (List.mem_of_getElem? (i := 20) rfl)
theorem k195 : Cond.fieldLink RX3 20 "GroundProver$Matcher" "kept" "LGroundProver$Row;" ∈ gW := mc_9 _ (List.mem_of_getElem? (i := 21) rfl)
theorem k968 : Cond.fieldLink RX11 425 "GroundProver$Matcher" "keptCount" "I" ∈ gW := mc_9 _ (List.mem_of_getElem? (i := 22) rfl)
theorem k196 : Cond.fieldLink RX3 23 "GroundProver$Matcher" "bindings" "[I" ∈ gW := mc_9 _ (List.mem_of_getElem? (i := 23) rfl)
theorem k197 : Cond.fieldLink RX3 27 "GroundProver$Matcher" "goalPatterns" "[I" ∈ gW := mc_9 _ (List.mem_of_getElem? (i := 24) rfl)
theorem k198 : Cond.fieldLink RX3 30 "GroundProver$Matcher" "goalNodes" "[I" ∈ gW := mc_10 _ (List.mem_of_getElem? (i := 0) rfl)
theorem k199 : Cond.fieldLink RX3 33 "GroundProver$Matcher" "keys" "[J" ∈ gW := mc_10 _ (List.mem_of_getElem? (i := 1) rfl)
theorem k208 : Cond.classLink RX11 84 RX6 ∈ gW := mc_10 _ (List.mem_of_getElem? (i := 2) rfl)
theorem k209 : Cond.constant RX11 86 131072 ∈ gW := mc_10 _ (List.mem_of_getElem? (i := 3) rfl)
theorem k210 : Cond.methodLink RX11 87 yX6_init ∈ gW := mc_10 _ (List.mem_of_getElem? (i := 4) rfl)
theorem k19 : Cond.fieldLink RX11 10 "GroundProver" "symbols" "LGroundProver$Symbols;" ∈ gW := mc_10 _ (List.mem_of_getElem? (i := 5) rfl)
theorem k52 : Cond.fieldLink RX11 21 "GroundProver" "store" "LGroundProver$TermStore;" ∈ gW := mc_10 _ (List.mem_of_getElem? (i := 6) rfl)
theorem k70 : Cond.fieldLink RX11 30 "GroundProver" "walk" "LGroundProver$Walk;" ∈ gW := mc_10 _ (List.mem_of_getElem? (i := 7) rfl)
theorem k97 : Cond.fieldLink RX11 37 "GroundProver" "grammar" "LGroundProver$Grammar;" ∈ gW := mc_10 _ (List.mem_of_getElem? (i := 8) rfl)
theorem k143 : Cond.fieldLink RX11 46 "GroundProver" "theory" "LGroundProver$Theory;" ∈ gW := mc_10 _ (List.mem_of_getElem? (i := 9) rfl)
theorem k162 : Cond.fieldLink RX11 55 "GroundProver" "reader" "LGroundProver$Reader;" ∈ gW := mc_10 _ (List.mem_of_getElem? (i := 10) rfl)
theorem k174 : Cond.fieldLink RX11 64 "GroundProver" "printer" "LGroundProver$Printer;" ∈ gW := mc_10 _ (List.mem_of_getElem? (i := 11) rfl)
theorem k187 : Cond.fieldLink RX11 73 "GroundProver" "search" "LGroundProver$ClassSearch;" ∈ gW := mc_10 _ (List.mem_of_getElem? (i := 12) rfl)
theorem k207 : Cond.fieldLink RX11 80 "GroundProver" "matcher" "LGroundProver$Matcher;" ∈ gW := mc_10 _ (List.mem_of_getElem? (i := 13) rfl)
theorem k211 : Cond.fieldLink RX11 90 "GroundProver" "numbered" "LGroundProver$Row;" ∈ gW := mc_10 _ (List.mem_of_getElem? (i := 14) rfl)
theorem k583 : Cond.fieldLink RX11 231 "GroundProver" "numberedCount" "I" ∈ gW := mc_10 _ (List.mem_of_getElem? (i := 15) rfl)
theorem k385 : Cond.methodLink RL 167 yX11_symbolCount ∈ gW := mc_10 _ (List.mem_of_getElem? (i := 16) rfl)
theorem k387 : Cond.instanceMethod yX11_symbolCount ∈ gW := mc_10 _ (List.mem_of_getElem? (i := 17) rfl)
theorem k388 : Cond.selects RX11 yX11_symbolCount yX11_symbolCount ∈ gW := mc_10 _ (List.mem_of_getElem? (i := 18) rfl)
theorem k386 : Cond.code yX11_symbolCount cX11_symbolCount 1 (some .int) ∈ gW := mc_10 _ (List.mem_of_getElem? (i := 19) rfl)
theorem k381 : Cond.methodLink RX11 150 yX7_count ∈ gW := mc_10 _ (List.mem_of_getElem? (i := 20) rfl)
theorem k383 : Cond.instanceMethod yX7_count ∈ gW := mc_10 _ (List.mem_of_getElem? (i := 21) rfl)
theorem k384 : Cond.selects RX7 yX7_count yX7_count ∈ gW := mc_10 _ (List.mem_of_getElem? (i := 22) rfl)
theorem k382 : Cond.code yX7_count cX7_count 1 (some .int) ∈ gW := mc_10 _ (List.mem_of_getElem? (i := 23) rfl)
theorem k563 : Cond.methodLink RL 192 yX11_errorKind ∈ gW := mc_10 _ (List.mem_of_getElem? (i := 24) rfl)
theorem k565 : Cond.instanceMethod yX11_errorKind ∈ gW := mc_11 _ (List.mem_of_getElem? (i := 0) rfl)
theorem k566 : Cond.selects RX11 yX11_errorKind yX11_errorKind ∈ gW := mc_11 _ (List.mem_of_getElem? (i := 1) rfl)
theorem k564 : Cond.code yX11_errorKind cX11_errorKind 1 (some .int) ∈ gW := mc_11 _ (List.mem_of_getElem? (i := 2) rfl)
theorem k559 : Cond.methodLink RX11 225 yX5_kind ∈ gW := mc_11 _ (List.mem_of_getElem? (i := 3) rfl)
theorem k561 : Cond.instanceMethod yX5_kind ∈ gW := mc_11 _ (List.mem_of_getElem? (i := 4) rfl)
theorem k562 : Cond.selects RX5 yX5_kind yX5_kind ∈ gW := mc_11 _ (List.mem_of_getElem? (i := 5) rfl)
theorem k560 : Cond.code yX5_kind cX5_kind 1 (some .int) ∈ gW := mc_11 _ (List.mem_of_getElem? (i := 6) rfl)
theorem k575 : Cond.methodLink RL 196 yX11_errorPosition ∈ gW := mc_11 _ (List.mem_of_getElem? (i := 7) rfl)
theorem k577 : Cond.instanceMethod yX11_errorPosition ∈ gW := mc_11 _ (List.mem_of_getElem? (i := 8) rfl)
theorem k578 : Cond.selects RX11 yX11_errorPosition yX11_errorPosition ∈ gW := mc_11 _ (List.mem_of_getElem? (i := 9) rfl)
theorem k576 : Cond.code yX11_errorPosition cX11_errorPosition 1 (some .int) ∈ gW := mc_11 _ (List.mem_of_getElem? (i := 10) rfl)
theorem k571 : Cond.methodLink RX11 228 yX5_position ∈ gW := mc_11 _ (List.mem_of_getElem? (i := 11) rfl)
theorem k573 : Cond.instanceMethod yX5_position ∈ gW := mc_11 _ (List.mem_of_getElem? (i := 12) rfl)
theorem k574 : Cond.selects RX5 yX5_position yX5_position ∈ gW := mc_11 _ (List.mem_of_getElem? (i := 13) rfl)
theorem k572 : Cond.code yX5_position cX5_position 1 (some .int) ∈ gW := mc_11 _ (List.mem_of_getElem? (i := 14) rfl)
theorem k584 : Cond.methodLink RL 200 yX11_termCount ∈ gW := mc_11 _ (List.mem_of_getElem? (i := 15) rfl)
theorem k586 : Cond.instanceMethod yX11_termCount ∈ gW := mc_11 _ (List.mem_of_getElem? (i := 16) rfl)
theorem k587 : Cond.selects RX11 yX11_termCount yX11_termCount ∈ gW := mc_11 _ (List.mem_of_getElem? (i := 17) rfl)
theorem k585 : Cond.code yX11_termCount cX11_termCount 1 (some .int) ∈ gW := mc_11 _ (List.mem_of_getElem? (i := 18) rfl)
theorem k757 : Cond.methodLink RL 241 yX11_equationCount ∈ gW := mc_11 _ (List.mem_of_getElem? (i := 19) rfl)
theorem k759 : Cond.instanceMethod yX11_equationCount ∈ gW := mc_11 _ (List.mem_of_getElem? (i := 20) rfl)
theorem k760 : Cond.selects RX11 yX11_equationCount yX11_equationCount ∈ gW := mc_11 _ (List.mem_of_getElem? (i := 21) rfl)
theorem k758 : Cond.code yX11_equationCount cX11_equationCount 1 (some .int) ∈ gW := mc_11 _ (List.mem_of_getElem? (i := 22) rfl)
theorem k765 : Cond.methodLink RL 245 yX11_separationCount ∈ gW := mc_11 _ (List.mem_of_getElem? (i := 23) rfl)
theorem k767 : Cond.instanceMethod yX11_separationCount ∈ gW := mc_11 _ (List.mem_of_getElem? (i := 24) rfl)
theorem k768 : Cond.selects RX11 yX11_separationCount yX11_separationCount ∈ gW := mc_12 _ (List.mem_of_getElem? (i := 0) rfl)
theorem k766 : Cond.code yX11_separationCount cX11_separationCount 1 (some .int) ∈ gW := mc_12 _ (List.mem_of_getElem? (i := 1) rfl)
theorem k778 : Cond.methodLink RL 249 yX11_isConsistent ∈ gW := mc_12 _ (List.mem_of_getElem? (i := 2) rfl)
theorem k780 : Cond.instanceMethod yX11_isConsistent ∈ gW := mc_12 _ (List.mem_of_getElem? (i := 3) rfl)
theorem k781 : Cond.selects RX11 yX11_isConsistent yX11_isConsistent ∈ gW := mc_12 _ (List.mem_of_getElem? (i := 4) rfl)
theorem k779 : Cond.code yX11_isConsistent cX11_isConsistent 1 (some .boolean) ∈ gW := mc_12 _ (List.mem_of_getElem? (i := 5) rfl)
theorem k485 : Cond.methodLink RX11 199 yX11_tidy ∈ gW := mc_12 _ (List.mem_of_getElem? (i := 6) rfl)
theorem k487 : Cond.instanceMethod yX11_tidy ∈ gW := mc_12 _ (List.mem_of_getElem? (i := 7) rfl)
theorem k486 : Cond.code yX11_tidy cX11_tidy 2 none ∈ gW := mc_12 _ (List.mem_of_getElem? (i := 8) rfl)
theorem k481 : Cond.methodLink RX11 454 yX8_isCrowded ∈ gW := mc_12 _ (List.mem_of_getElem? (i := 9) rfl)
theorem k483 : Cond.instanceMethod yX8_isCrowded ∈ gW := mc_12 _ (List.mem_of_getElem? (i := 10) rfl)
theorem k484 : Cond.selects RX8 yX8_isCrowded yX8_isCrowded ∈ gW := mc_12 _ (List.mem_of_getElem? (i := 11) rfl)
theorem k482 : Cond.code yX8_isCrowded cX8_isCrowded 1 (some .boolean) ∈ gW := mc_12 _ (List.mem_of_getElem? (i := 12) rfl)
theorem k467 : Cond.instanceMethod yX7_arity ∈ gW := mc_12 _ (List.mem_of_getElem? (i := 13) rfl)
theorem k468 : Cond.selects RX7 yX7_arity yX7_arity ∈ gW := mc_12 _ (List.mem_of_getElem? (i := 14) rfl)
theorem k466 : Cond.code yX7_arity cX7_arity 2 (some .int) ∈ gW := mc_12 _ (List.mem_of_getElem? (i := 15) rfl)
theorem k774 : Cond.methodLink RX11 346 yX9_firstConflict ∈ gW := mc_12 _ (List.mem_of_getElem? (i := 16) rfl)
theorem k776 : Cond.instanceMethod yX9_firstConflict ∈ gW := mc_12 _ (List.mem_of_getElem? (i := 17) rfl)
theorem k777 : Cond.selects RX9 yX9_firstConflict yX9_firstConflict ∈ gW := mc_12 _ (List.mem_of_getElem? (i := 18) rfl)
theorem k775 : Cond.code yX9_firstConflict cX9_firstConflict 2 (some .int) ∈ gW := mc_12 _ (List.mem_of_getElem? (i := 19) rfl)
theorem k838 : Cond.methodLink RL 263 yX11_ruleCount ∈ gW := mc_12 _ (List.mem_of_getElem? (i := 20) rfl)
theorem k840 : Cond.instanceMethod yX11_ruleCount ∈ gW := mc_12 _ (List.mem_of_getElem? (i := 21) rfl)
theorem k841 : Cond.selects RX11 yX11_ruleCount yX11_ruleCount ∈ gW := mc_12 _ (List.mem_of_getElem? (i := 22) rfl)
theorem k839 : Cond.code yX11_ruleCount cX11_ruleCount 1 (some .int) ∈ gW := mc_12 _ (List.mem_of_getElem? (i := 23) rfl)
theorem k983 : Cond.methodLink RL 303 yX11_digest ∈ gW := mc_12 _ (List.mem_of_getElem? (i := 24) rfl)
theorem k985 : Cond.instanceMethod yX11_digest ∈ gW := mc_13 _ (List.mem_of_getElem? (i := 0) rfl)
theorem k986 : Cond.selects RX11 yX11_digest yX11_digest ∈ gW := mc_13 _ (List.mem_of_getElem? (i := 1) rfl)
theorem k984 : Cond.code yX11_digest cX11_digest 4 (some .long) ∈ gW := mc_13 _ (List.mem_of_getElem? (i := 2) rfl)
theorem k981 : Cond.constantLong RX11 441 527 ∈ gW := mc_13 _ (List.mem_of_getElem? (i := 3) rfl)
theorem k982 : Cond.constantLong RX11 443 31 ∈ gW := mc_13 _ (List.mem_of_getElem? (i := 4) rfl)
theorem k298 : Cond.methodLink RL 146 yL_feed ∈ gW := mc_13 _ (List.mem_of_getElem? (i := 5) rfl)
theorem k301 : Cond.static yL_feed ∈ gW := mc_13 _ (List.mem_of_getElem? (i := 6) rfl)
theorem k299 : Cond.codeWith yL_feed cL_feed 8 (some .int) [(0, 16, 19, 13)] ∈ gW := mc_13 _ (List.mem_of_getElem? (i := 7) rfl)
theorem k829 : Cond.classLink RL 13 g_ISE ∈ gW := mc_13 _ (List.mem_of_getElem? (i := 8) rfl)
theorem k294 : Cond.methodLink RL 7 yX11_feed ∈ gW := mc_13 _ (List.mem_of_getElem? (i := 9) rfl)
theorem k296 : Cond.instanceMethod yX11_feed ∈ gW := mc_13 _ (List.mem_of_getElem? (i := 10) rfl)
theorem k297 : Cond.selects RX11 yX11_feed yX11_feed ∈ gW := mc_13 _ (List.mem_of_getElem? (i := 11) rfl)
theorem k295 : Cond.code yX11_feed cX11_feed 6 (some .int) ∈ gW := mc_13 _ (List.mem_of_getElem? (i := 12) rfl)
theorem k286 : Cond.methodLink RX11 94 yX5_length ∈ gW := mc_13 _ (List.mem_of_getElem? (i := 13) rfl)
theorem k288 : Cond.instanceMethod yX5_length ∈ gW := mc_13 _ (List.mem_of_getElem? (i := 14) rfl)
theorem k289 : Cond.selects RX5 yX5_length yX5_length ∈ gW := mc_13 _ (List.mem_of_getElem? (i := 15) rfl)
theorem k287 : Cond.code yX5_length cX5_length 1 (some .int) ∈ gW := mc_13 _ (List.mem_of_getElem? (i := 16) rfl)
theorem k823 : Cond.classLink RX11 98 g_ISE ∈ gW := mc_13 _ (List.mem_of_getElem? (i := 17) rfl)
theorem k290 : Cond.methodLink RX11 105 yX5_append ∈ gW := mc_13 _ (List.mem_of_getElem? (i := 18) rfl)
theorem k292 : Cond.instanceMethod yX5_append ∈ gW := mc_13 _ (List.mem_of_getElem? (i := 19) rfl)
theorem k293 : Cond.selects RX5 yX5_append yX5_append ∈ gW := mc_13 _ (List.mem_of_getElem? (i := 20) rfl)
theorem k291 : Cond.code yX5_append cX5_append 3 none ∈ gW := mc_13 _ (List.mem_of_getElem? (i := 21) rfl)
theorem k324 : Cond.methodLink RL 155 yL_trim ∈ gW := mc_13 _ (List.mem_of_getElem? (i := 22) rfl)
theorem k326 : Cond.static yL_trim ∈ gW := mc_13 _ (List.mem_of_getElem? (i := 23) rfl)
theorem k325 : Cond.codeWith yL_trim cL_trim 4 (some .int) [(0, 9, 12, 19)] ∈ gW := mc_13 _ (List.mem_of_getElem? (i := 24) rfl)
theorem k333 : Cond.classLink RL 19 g_IAE ∈ gW := mc_14 _ (List.mem_of_getElem? (i := 0) rfl)
theorem k320 : Cond.methodLink RL 15 yX11_trim ∈ gW := mc_14 _ (List.mem_of_getElem? (i := 1) rfl)
theorem k322 : Cond.instanceMethod yX11_trim ∈ gW := mc_14 _ (List.mem_of_getElem? (i := 2) rfl)
theorem k323 : Cond.selects RX11 yX11_trim yX11_trim ∈ gW := mc_14 _ (List.mem_of_getElem? (i := 3) rfl)
theorem k321 : Cond.code yX11_trim cX11_trim 2 (some .int) ∈ gW := mc_14 _ (List.mem_of_getElem? (i := 4) rfl)
theorem k331 : Cond.classLink RX11 108 g_IAE ∈ gW := mc_14 _ (List.mem_of_getElem? (i := 5) rfl)
theorem k316 : Cond.methodLink RX11 113 yX5_shorten ∈ gW := mc_14 _ (List.mem_of_getElem? (i := 6) rfl)
theorem k318 : Cond.instanceMethod yX5_shorten ∈ gW := mc_14 _ (List.mem_of_getElem? (i := 7) rfl)
theorem k319 : Cond.selects RX5 yX5_shorten yX5_shorten ∈ gW := mc_14 _ (List.mem_of_getElem? (i := 8) rfl)
theorem k317 : Cond.code yX5_shorten cX5_shorten 2 none ∈ gW := mc_14 _ (List.mem_of_getElem? (i := 9) rfl)
theorem k358 : Cond.methodLink RL 159 yL_declare ∈ gW := mc_14 _ (List.mem_of_getElem? (i := 10) rfl)
theorem k360 : Cond.static yL_declare ∈ gW := mc_14 _ (List.mem_of_getElem? (i := 11) rfl)
theorem k359 : Cond.codeWith yL_declare cL_declare 5 (some .int) [(0, 10, 13, 19), (0, 10, 17, 13)] ∈ gW := mc_14 _ (List.mem_of_getElem? (i := 12) rfl)
theorem k354 : Cond.methodLink RL 21 yX11_declare ∈ gW := mc_14 _ (List.mem_of_getElem? (i := 13) rfl)
theorem k356 : Cond.instanceMethod yX11_declare ∈ gW := mc_14 _ (List.mem_of_getElem? (i := 14) rfl)
theorem k357 : Cond.selects RX11 yX11_declare yX11_declare ∈ gW := mc_14 _ (List.mem_of_getElem? (i := 15) rfl)
theorem k355 : Cond.code yX11_declare cX11_declare 6 (some .int) ∈ gW := mc_14 _ (List.mem_of_getElem? (i := 16) rfl)
theorem k338 : Cond.methodLink RX11 116 yX5_holdsName ∈ gW := mc_14 _ (List.mem_of_getElem? (i := 17) rfl)
theorem k340 : Cond.instanceMethod yX5_holdsName ∈ gW := mc_14 _ (List.mem_of_getElem? (i := 18) rfl)
theorem k341 : Cond.selects RX5 yX5_holdsName yX5_holdsName ∈ gW := mc_14 _ (List.mem_of_getElem? (i := 19) rfl)
theorem k339 : Cond.code yX5_holdsName cX5_holdsName 2 (some .boolean) ∈ gW := mc_14 _ (List.mem_of_getElem? (i := 20) rfl)
theorem k507 : Cond.methodLink RX5 59 yX5_isLetter ∈ gW := mc_14 _ (List.mem_of_getElem? (i := 21) rfl)
theorem k509 : Cond.instanceMethod yX5_isLetter ∈ gW := mc_14 _ (List.mem_of_getElem? (i := 22) rfl)
theorem k508 : Cond.code yX5_isLetter cX5_isLetter 2 (some .boolean) ∈ gW := mc_14 _ (List.mem_of_getElem? (i := 23) rfl)
theorem k346 : Cond.methodLink RX11 120 yX5_heldSymbol ∈ gW := mc_14 _ (List.mem_of_getElem? (i := 24) rfl)
theorem k348 : Cond.instanceMethod yX5_heldSymbol ∈ gW := mc_15 _ (List.mem_of_getElem? (i := 0) rfl)
theorem k349 : Cond.selects RX5 yX5_heldSymbol yX5_heldSymbol ∈ gW := mc_15 _ (List.mem_of_getElem? (i := 1) rfl)
theorem k347 : Cond.code yX5_heldSymbol cX5_heldSymbol 1 (some .int) ∈ gW := mc_15 _ (List.mem_of_getElem? (i := 2) rfl)
theorem k342 : Cond.methodLink RX5 66 yX7_find ∈ gW := mc_15 _ (List.mem_of_getElem? (i := 3) rfl)
theorem k344 : Cond.instanceMethod yX7_find ∈ gW := mc_15 _ (List.mem_of_getElem? (i := 4) rfl)
theorem k345 : Cond.selects RX7 yX7_find yX7_find ∈ gW := mc_15 _ (List.mem_of_getElem? (i := 5) rfl)
theorem k343 : Cond.code yX7_find cX7_find 5 (some .int) ∈ gW := mc_15 _ (List.mem_of_getElem? (i := 6) rfl)
theorem k350 : Cond.methodLink RX11 123 yX5_drain ∈ gW := mc_15 _ (List.mem_of_getElem? (i := 7) rfl)
theorem k352 : Cond.instanceMethod yX5_drain ∈ gW := mc_15 _ (List.mem_of_getElem? (i := 8) rfl)
theorem k353 : Cond.selects RX5 yX5_drain yX5_drain ∈ gW := mc_15 _ (List.mem_of_getElem? (i := 9) rfl)
theorem k351 : Cond.code yX5_drain cX5_drain 2 (some .int) ∈ gW := mc_15 _ (List.mem_of_getElem? (i := 10) rfl)
theorem k373 : Cond.methodLink RL 163 yL_declareVariable ∈ gW := mc_15 _ (List.mem_of_getElem? (i := 11) rfl)
theorem k375 : Cond.static yL_declareVariable ∈ gW := mc_15 _ (List.mem_of_getElem? (i := 12) rfl)
theorem k374 : Cond.codeWith yL_declareVariable cL_declareVariable 3 (some .int) [(0, 8, 11, 19), (0, 8, 14, 13)] ∈ gW := mc_15 _ (List.mem_of_getElem? (i := 13) rfl)
theorem k369 : Cond.methodLink RL 25 yX11_declareVariable ∈ gW := mc_15 _ (List.mem_of_getElem? (i := 14) rfl)
theorem k371 : Cond.instanceMethod yX11_declareVariable ∈ gW := mc_15 _ (List.mem_of_getElem? (i := 15) rfl)
theorem k372 : Cond.selects RX11 yX11_declareVariable yX11_declareVariable ∈ gW := mc_15 _ (List.mem_of_getElem? (i := 16) rfl)
theorem k370 : Cond.code yX11_declareVariable cX11_declareVariable 4 (some .int) ∈ gW := mc_15 _ (List.mem_of_getElem? (i := 17) rfl)
theorem k412 : Cond.methodLink RL 171 yL_orderByWeight ∈ gW := mc_15 _ (List.mem_of_getElem? (i := 18) rfl)
theorem k414 : Cond.static yL_orderByWeight ∈ gW := mc_15 _ (List.mem_of_getElem? (i := 19) rfl)
theorem k413 : Cond.codeWith yL_orderByWeight cL_orderByWeight 4 (some .int) [(0, 16, 19, 13)] ∈ gW := mc_15 _ (List.mem_of_getElem? (i := 20) rfl)
theorem k408 : Cond.methodLink RL 29 yX11_orderByWeight ∈ gW := mc_15 _ (List.mem_of_getElem? (i := 21) rfl)
theorem k410 : Cond.instanceMethod yX11_orderByWeight ∈ gW := mc_15 _ (List.mem_of_getElem? (i := 22) rfl)
theorem k411 : Cond.selects RX11 yX11_orderByWeight yX11_orderByWeight ∈ gW := mc_15 _ (List.mem_of_getElem? (i := 23) rfl)
theorem k409 : Cond.code yX11_orderByWeight cX11_orderByWeight 3 (some .boolean) ∈ gW := mc_15 _ (List.mem_of_getElem? (i := 24) rfl)
theorem k395 : Cond.methodLink RX11 153 yX7_isOrderFixed ∈ gW := mc_16 _ (List.mem_of_getElem? (i := 0) rfl)
theorem k397 : Cond.instanceMethod yX7_isOrderFixed ∈ gW := mc_16 _ (List.mem_of_getElem? (i := 1) rfl)
theorem k398 : Cond.selects RX7 yX7_isOrderFixed yX7_isOrderFixed ∈ gW := mc_16 _ (List.mem_of_getElem? (i := 2) rfl)
theorem k396 : Cond.code yX7_isOrderFixed cX7_isOrderFixed 1 (some .boolean) ∈ gW := mc_16 _ (List.mem_of_getElem? (i := 3) rfl)
theorem k400 : Cond.methodLink RX11 158 yX7_isByWeight ∈ gW := mc_16 _ (List.mem_of_getElem? (i := 4) rfl)
theorem k402 : Cond.instanceMethod yX7_isByWeight ∈ gW := mc_16 _ (List.mem_of_getElem? (i := 5) rfl)
theorem k403 : Cond.selects RX7 yX7_isByWeight yX7_isByWeight ∈ gW := mc_16 _ (List.mem_of_getElem? (i := 6) rfl)
theorem k401 : Cond.code yX7_isByWeight cX7_isByWeight 1 (some .boolean) ∈ gW := mc_16 _ (List.mem_of_getElem? (i := 7) rfl)
theorem k404 : Cond.methodLink RX11 161 yX7_chooseOrder ∈ gW := mc_16 _ (List.mem_of_getElem? (i := 8) rfl)
theorem k406 : Cond.instanceMethod yX7_chooseOrder ∈ gW := mc_16 _ (List.mem_of_getElem? (i := 9) rfl)
theorem k407 : Cond.selects RX7 yX7_chooseOrder yX7_chooseOrder ∈ gW := mc_16 _ (List.mem_of_getElem? (i := 10) rfl)
theorem k405 : Cond.code yX7_chooseOrder cX7_chooseOrder 2 none ∈ gW := mc_16 _ (List.mem_of_getElem? (i := 11) rfl)
theorem k432 : Cond.methodLink RL 175 yL_promote ∈ gW := mc_16 _ (List.mem_of_getElem? (i := 12) rfl)
theorem k434 : Cond.static yL_promote ∈ gW := mc_16 _ (List.mem_of_getElem? (i := 13) rfl)
theorem k433 : Cond.codeWith yL_promote cL_promote 5 (some .int) [(0, 10, 13, 36), (0, 10, 17, 13)] ∈ gW := mc_16 _ (List.mem_of_getElem? (i := 14) rfl)
theorem k431 : Cond.classLink RL 36 g_IOB ∈ gW := mc_16 _ (List.mem_of_getElem? (i := 15) rfl)
theorem k427 : Cond.methodLink RL 33 yX11_promote ∈ gW := mc_16 _ (List.mem_of_getElem? (i := 16) rfl)
theorem k429 : Cond.instanceMethod yX11_promote ∈ gW := mc_16 _ (List.mem_of_getElem? (i := 17) rfl)
theorem k430 : Cond.selects RX11 yX11_promote yX11_promote ∈ gW := mc_16 _ (List.mem_of_getElem? (i := 18) rfl)
theorem k428 : Cond.code yX11_promote cX11_promote 4 (some .int) ∈ gW := mc_16 _ (List.mem_of_getElem? (i := 19) rfl)
theorem k421 : Cond.methodLink RX11 165 yX7_has ∈ gW := mc_16 _ (List.mem_of_getElem? (i := 20) rfl)
theorem k423 : Cond.instanceMethod yX7_has ∈ gW := mc_16 _ (List.mem_of_getElem? (i := 21) rfl)
theorem k424 : Cond.selects RX7 yX7_has yX7_has ∈ gW := mc_16 _ (List.mem_of_getElem? (i := 22) rfl)
theorem k422 : Cond.code yX7_has cX7_has 2 (some .boolean) ∈ gW := mc_16 _ (List.mem_of_getElem? (i := 23) rfl)
theorem k425 : Cond.classLink RX11 169 g_IOB ∈ gW := mc_16 _ (List.mem_of_getElem? (i := 24) rfl)
theorem k447 : Cond.methodLink RL 178 yL_rankOf ∈ gW := mc_17 _ (List.mem_of_getElem? (i := 0) rfl)
theorem k449 : Cond.static yL_rankOf ∈ gW := mc_17 _ (List.mem_of_getElem? (i := 1) rfl)
theorem k448 : Cond.codeWith yL_rankOf cL_rankOf 4 (some .int) [(0, 9, 12, 36)] ∈ gW := mc_17 _ (List.mem_of_getElem? (i := 2) rfl)
theorem k443 : Cond.methodLink RL 38 yX11_rankOf ∈ gW := mc_17 _ (List.mem_of_getElem? (i := 3) rfl)
theorem k445 : Cond.instanceMethod yX11_rankOf ∈ gW := mc_17 _ (List.mem_of_getElem? (i := 4) rfl)
theorem k446 : Cond.selects RX11 yX11_rankOf yX11_rankOf ∈ gW := mc_17 _ (List.mem_of_getElem? (i := 5) rfl)
theorem k444 : Cond.code yX11_rankOf cX11_rankOf 2 (some .int) ∈ gW := mc_17 _ (List.mem_of_getElem? (i := 6) rfl)
theorem k458 : Cond.methodLink RL 181 yL_setDirection ∈ gW := mc_17 _ (List.mem_of_getElem? (i := 7) rfl)
theorem k460 : Cond.static yL_setDirection ∈ gW := mc_17 _ (List.mem_of_getElem? (i := 8) rfl)
theorem k459 : Cond.codeWith yL_setDirection cL_setDirection 5 (some .int) [(0, 17, 20, 36), (0, 17, 24, 13)] ∈ gW := mc_17 _ (List.mem_of_getElem? (i := 9) rfl)
theorem k454 : Cond.methodLink RL 41 yX11_setDirection ∈ gW := mc_17 _ (List.mem_of_getElem? (i := 10) rfl)
theorem k456 : Cond.instanceMethod yX11_setDirection ∈ gW := mc_17 _ (List.mem_of_getElem? (i := 11) rfl)
theorem k457 : Cond.selects RX11 yX11_setDirection yX11_setDirection ∈ gW := mc_17 _ (List.mem_of_getElem? (i := 12) rfl)
theorem k455 : Cond.code yX11_setDirection cX11_setDirection 4 (some .boolean) ∈ gW := mc_17 _ (List.mem_of_getElem? (i := 13) rfl)
theorem k473 : Cond.methodLink RL 185 yL_term ∈ gW := mc_17 _ (List.mem_of_getElem? (i := 14) rfl)
theorem k475 : Cond.static yL_term ∈ gW := mc_17 _ (List.mem_of_getElem? (i := 15) rfl)
theorem k474 : Cond.codeWith yL_term cL_term 7 (some .int) [(0, 14, 17, 36), (0, 14, 21, 49)] ∈ gW := mc_17 _ (List.mem_of_getElem? (i := 16) rfl)
theorem k469 : Cond.methodLink RL 45 yX11_term ∈ gW := mc_17 _ (List.mem_of_getElem? (i := 17) rfl)
theorem k471 : Cond.instanceMethod yX11_term ∈ gW := mc_17 _ (List.mem_of_getElem? (i := 18) rfl)
theorem k472 : Cond.selects RX11 yX11_term yX11_term ∈ gW := mc_17 _ (List.mem_of_getElem? (i := 19) rfl)
theorem k470 : Cond.code yX11_term cX11_term 7 (some .int) ∈ gW := mc_17 _ (List.mem_of_getElem? (i := 20) rfl)
theorem k465 : Cond.methodLink RX11 191 yX7_arity ∈ gW := mc_17 _ (List.mem_of_getElem? (i := 21) rfl)
theorem k593 : Cond.methodLink RX11 194 yX11_isTerm ∈ gW := mc_17 _ (List.mem_of_getElem? (i := 22) rfl)
theorem k595 : Cond.instanceMethod yX11_isTerm ∈ gW := mc_17 _ (List.mem_of_getElem? (i := 23) rfl)
theorem k594 : Cond.code yX11_isTerm cX11_isTerm 2 (some .boolean) ∈ gW := mc_17 _ (List.mem_of_getElem? (i := 24) rfl)
theorem k531 : Cond.methodLink RL 189 yL_read ∈ gW := mc_18 _ (List.mem_of_getElem? (i := 0) rfl)
theorem k533 : Cond.static yL_read ∈ gW := mc_18 _ (List.mem_of_getElem? (i := 1) rfl)
theorem k532 : Cond.codeWith yL_read cL_read 3 (some .int) [(0, 8, 11, 19)] ∈ gW := mc_18 _ (List.mem_of_getElem? (i := 2) rfl)
theorem k527 : Cond.methodLink RL 51 yX11_read ∈ gW := mc_18 _ (List.mem_of_getElem? (i := 3) rfl)
theorem k529 : Cond.instanceMethod yX11_read ∈ gW := mc_18 _ (List.mem_of_getElem? (i := 4) rfl)
theorem k530 : Cond.selects RX11 yX11_read yX11_read ∈ gW := mc_18 _ (List.mem_of_getElem? (i := 5) rfl)
theorem k528 : Cond.code yX11_read cX11_read 2 (some .int) ∈ gW := mc_18 _ (List.mem_of_getElem? (i := 6) rfl)
theorem k523 : Cond.methodLink RX11 220 yX5_readTerm ∈ gW := mc_18 _ (List.mem_of_getElem? (i := 7) rfl)
theorem k525 : Cond.instanceMethod yX5_readTerm ∈ gW := mc_18 _ (List.mem_of_getElem? (i := 8) rfl)
theorem k526 : Cond.selects RX5 yX5_readTerm yX5_readTerm ∈ gW := mc_18 _ (List.mem_of_getElem? (i := 9) rfl)
theorem k524 : Cond.code yX5_readTerm cX5_readTerm 2 (some .int) ∈ gW := mc_18 _ (List.mem_of_getElem? (i := 10) rfl)
theorem k494 : Cond.methodLink RX5 72 yX5_start ∈ gW := mc_18 _ (List.mem_of_getElem? (i := 11) rfl)
theorem k496 : Cond.instanceMethod yX5_start ∈ gW := mc_18 _ (List.mem_of_getElem? (i := 12) rfl)
theorem k495 : Cond.code yX5_start cX5_start 2 none ∈ gW := mc_18 _ (List.mem_of_getElem? (i := 13) rfl)
theorem k490 : Cond.methodLink RX5 108 yX5_drain ∈ gW := mc_18 _ (List.mem_of_getElem? (i := 14) rfl)
theorem k519 : Cond.methodLink RX5 76 yX5_readOne ∈ gW := mc_18 _ (List.mem_of_getElem? (i := 15) rfl)
theorem k521 : Cond.instanceMethod yX5_readOne ∈ gW := mc_18 _ (List.mem_of_getElem? (i := 16) rfl)
theorem k520 : Cond.code yX5_readOne cX5_readOne 4 (some .int) ∈ gW := mc_18 _ (List.mem_of_getElem? (i := 17) rfl)
theorem k515 : Cond.methodLink RX5 117 yX5_readName ∈ gW := mc_18 _ (List.mem_of_getElem? (i := 18) rfl)
theorem k517 : Cond.instanceMethod yX5_readName ∈ gW := mc_18 _ (List.mem_of_getElem? (i := 19) rfl)
theorem k516 : Cond.code yX5_readName cX5_readName 2 (some .int) ∈ gW := mc_18 _ (List.mem_of_getElem? (i := 20) rfl)
theorem k499 : Cond.methodLink RX5 80 yX5_skipBlanks ∈ gW := mc_18 _ (List.mem_of_getElem? (i := 21) rfl)
theorem k501 : Cond.instanceMethod yX5_skipBlanks ∈ gW := mc_18 _ (List.mem_of_getElem? (i := 22) rfl)
theorem k500 : Cond.code yX5_skipBlanks cX5_skipBlanks 2 none ∈ gW := mc_18 _ (List.mem_of_getElem? (i := 23) rfl)
theorem k503 : Cond.methodLink RX5 111 yX5_peek ∈ gW := mc_18 _ (List.mem_of_getElem? (i := 24) rfl)
theorem k505 : Cond.instanceMethod yX5_peek ∈ gW := mc_19 _ (List.mem_of_getElem? (i := 0) rfl)
theorem k504 : Cond.code yX5_peek cX5_peek 1 (some .int) ∈ gW := mc_19 _ (List.mem_of_getElem? (i := 1) rfl)
theorem k511 : Cond.methodLink RX5 89 yX5_fail ∈ gW := mc_19 _ (List.mem_of_getElem? (i := 2) rfl)
theorem k513 : Cond.instanceMethod yX5_fail ∈ gW := mc_19 _ (List.mem_of_getElem? (i := 3) rfl)
theorem k512 : Cond.code yX5_fail cX5_fail 3 (some .int) ∈ gW := mc_19 _ (List.mem_of_getElem? (i := 4) rfl)
theorem k601 : Cond.methodLink RL 204 yL_symbolOf ∈ gW := mc_19 _ (List.mem_of_getElem? (i := 5) rfl)
theorem k603 : Cond.static yL_symbolOf ∈ gW := mc_19 _ (List.mem_of_getElem? (i := 6) rfl)
theorem k602 : Cond.codeWith yL_symbolOf cL_symbolOf 4 (some .int) [(0, 9, 12, 36)] ∈ gW := mc_19 _ (List.mem_of_getElem? (i := 7) rfl)
theorem k597 : Cond.methodLink RL 54 yX11_symbolOf ∈ gW := mc_19 _ (List.mem_of_getElem? (i := 8) rfl)
theorem k599 : Cond.instanceMethod yX11_symbolOf ∈ gW := mc_19 _ (List.mem_of_getElem? (i := 9) rfl)
theorem k600 : Cond.selects RX11 yX11_symbolOf yX11_symbolOf ∈ gW := mc_19 _ (List.mem_of_getElem? (i := 10) rfl)
theorem k598 : Cond.code yX11_symbolOf cX11_symbolOf 2 (some .int) ∈ gW := mc_19 _ (List.mem_of_getElem? (i := 11) rfl)
theorem k616 : Cond.methodLink RL 207 yL_argument ∈ gW := mc_19 _ (List.mem_of_getElem? (i := 12) rfl)
theorem k618 : Cond.static yL_argument ∈ gW := mc_19 _ (List.mem_of_getElem? (i := 13) rfl)
theorem k617 : Cond.codeWith yL_argument cL_argument 5 (some .int) [(0, 10, 13, 36)] ∈ gW := mc_19 _ (List.mem_of_getElem? (i := 14) rfl)
theorem k612 : Cond.methodLink RL 57 yX11_argument ∈ gW := mc_19 _ (List.mem_of_getElem? (i := 15) rfl)
theorem k614 : Cond.instanceMethod yX11_argument ∈ gW := mc_19 _ (List.mem_of_getElem? (i := 16) rfl)
theorem k615 : Cond.selects RX11 yX11_argument yX11_argument ∈ gW := mc_19 _ (List.mem_of_getElem? (i := 17) rfl)
theorem k613 : Cond.code yX11_argument cX11_argument 3 (some .int) ∈ gW := mc_19 _ (List.mem_of_getElem? (i := 18) rfl)
theorem k627 : Cond.methodLink RL 210 yL_size ∈ gW := mc_19 _ (List.mem_of_getElem? (i := 19) rfl)
theorem k629 : Cond.static yL_size ∈ gW := mc_19 _ (List.mem_of_getElem? (i := 20) rfl)
theorem k628 : Cond.codeWith yL_size cL_size 4 (some .int) [(0, 9, 12, 36)] ∈ gW := mc_19 _ (List.mem_of_getElem? (i := 21) rfl)
theorem k623 : Cond.methodLink RL 60 yX11_size ∈ gW := mc_19 _ (List.mem_of_getElem? (i := 22) rfl)
theorem k625 : Cond.instanceMethod yX11_size ∈ gW := mc_19 _ (List.mem_of_getElem? (i := 23) rfl)
theorem k626 : Cond.selects RX11 yX11_size yX11_size ∈ gW := mc_19 _ (List.mem_of_getElem? (i := 24) rfl)
theorem k624 : Cond.code yX11_size cX11_size 2 (some .int) ∈ gW := mc_20 _ (List.mem_of_getElem? (i := 0) rfl)
theorem k638 : Cond.methodLink RL 213 yL_depth ∈ gW := mc_20 _ (List.mem_of_getElem? (i := 1) rfl)
theorem k640 : Cond.static yL_depth ∈ gW := mc_20 _ (List.mem_of_getElem? (i := 2) rfl)
theorem k639 : Cond.codeWith yL_depth cL_depth 4 (some .int) [(0, 9, 12, 36)] ∈ gW := mc_20 _ (List.mem_of_getElem? (i := 3) rfl)
theorem k634 : Cond.methodLink RL 63 yX11_depth ∈ gW := mc_20 _ (List.mem_of_getElem? (i := 4) rfl)
theorem k636 : Cond.instanceMethod yX11_depth ∈ gW := mc_20 _ (List.mem_of_getElem? (i := 5) rfl)
theorem k637 : Cond.selects RX11 yX11_depth yX11_depth ∈ gW := mc_20 _ (List.mem_of_getElem? (i := 6) rfl)
theorem k635 : Cond.code yX11_depth cX11_depth 2 (some .int) ∈ gW := mc_20 _ (List.mem_of_getElem? (i := 7) rfl)
theorem k649 : Cond.methodLink RL 216 yL_compare ∈ gW := mc_20 _ (List.mem_of_getElem? (i := 8) rfl)
theorem k651 : Cond.static yL_compare ∈ gW := mc_20 _ (List.mem_of_getElem? (i := 9) rfl)
theorem k650 : Cond.codeWith yL_compare cL_compare 5 (some .int) [(0, 10, 13, 36)] ∈ gW := mc_20 _ (List.mem_of_getElem? (i := 10) rfl)
theorem k645 : Cond.methodLink RL 66 yX11_compare ∈ gW := mc_20 _ (List.mem_of_getElem? (i := 11) rfl)
theorem k647 : Cond.instanceMethod yX11_compare ∈ gW := mc_20 _ (List.mem_of_getElem? (i := 12) rfl)
theorem k648 : Cond.selects RX11 yX11_compare yX11_compare ∈ gW := mc_20 _ (List.mem_of_getElem? (i := 13) rfl)
theorem k646 : Cond.code yX11_compare cX11_compare 5 (some .int) ∈ gW := mc_20 _ (List.mem_of_getElem? (i := 14) rfl)
theorem k660 : Cond.methodLink RL 219 yL_occurrences ∈ gW := mc_20 _ (List.mem_of_getElem? (i := 15) rfl)
theorem k662 : Cond.static yL_occurrences ∈ gW := mc_20 _ (List.mem_of_getElem? (i := 16) rfl)
theorem k661 : Cond.codeWith yL_occurrences cL_occurrences 5 (some .int) [(0, 10, 13, 36)] ∈ gW := mc_20 _ (List.mem_of_getElem? (i := 17) rfl)
theorem k656 : Cond.methodLink RL 69 yX11_occurrences ∈ gW := mc_20 _ (List.mem_of_getElem? (i := 18) rfl)
theorem k658 : Cond.instanceMethod yX11_occurrences ∈ gW := mc_20 _ (List.mem_of_getElem? (i := 19) rfl)
theorem k659 : Cond.selects RX11 yX11_occurrences yX11_occurrences ∈ gW := mc_20 _ (List.mem_of_getElem? (i := 20) rfl)
theorem k657 : Cond.code yX11_occurrences cX11_occurrences 3 (some .int) ∈ gW := mc_20 _ (List.mem_of_getElem? (i := 21) rfl)
theorem k671 : Cond.methodLink RL 222 yL_replace ∈ gW := mc_20 _ (List.mem_of_getElem? (i := 22) rfl)
theorem k673 : Cond.static yL_replace ∈ gW := mc_20 _ (List.mem_of_getElem? (i := 23) rfl)
theorem k672 : Cond.codeWith yL_replace cL_replace 6 (some .int) [(0, 12, 15, 36), (0, 12, 19, 49)] ∈ gW := mc_20 _ (List.mem_of_getElem? (i := 24) rfl)
theorem k667 : Cond.methodLink RL 72 yX11_replace ∈ gW := mc_21 _ (List.mem_of_getElem? (i := 0) rfl)
theorem k669 : Cond.instanceMethod yX11_replace ∈ gW := mc_21 _ (List.mem_of_getElem? (i := 1) rfl)
theorem k670 : Cond.selects RX11 yX11_replace yX11_replace ∈ gW := mc_21 _ (List.mem_of_getElem? (i := 2) rfl)
theorem k668 : Cond.code yX11_replace cX11_replace 5 (some .int) ∈ gW := mc_21 _ (List.mem_of_getElem? (i := 3) rfl)
theorem k682 : Cond.methodLink RL 226 yL_write ∈ gW := mc_21 _ (List.mem_of_getElem? (i := 4) rfl)
theorem k684 : Cond.static yL_write ∈ gW := mc_21 _ (List.mem_of_getElem? (i := 5) rfl)
theorem k683 : Cond.codeWith yL_write cL_write 4 (some .int) [(0, 9, 12, 36), (0, 9, 15, 49)] ∈ gW := mc_21 _ (List.mem_of_getElem? (i := 6) rfl)
theorem k678 : Cond.methodLink RL 76 yX11_write ∈ gW := mc_21 _ (List.mem_of_getElem? (i := 7) rfl)
theorem k680 : Cond.instanceMethod yX11_write ∈ gW := mc_21 _ (List.mem_of_getElem? (i := 8) rfl)
theorem k681 : Cond.selects RX11 yX11_write yX11_write ∈ gW := mc_21 _ (List.mem_of_getElem? (i := 9) rfl)
theorem k679 : Cond.code yX11_write cX11_write 3 (some .int) ∈ gW := mc_21 _ (List.mem_of_getElem? (i := 10) rfl)
theorem k698 : Cond.methodLink RL 229 yL_outputByte ∈ gW := mc_21 _ (List.mem_of_getElem? (i := 11) rfl)
theorem k700 : Cond.static yL_outputByte ∈ gW := mc_21 _ (List.mem_of_getElem? (i := 12) rfl)
theorem k699 : Cond.codeWith yL_outputByte cL_outputByte 4 (some .int) [(0, 9, 12, 36)] ∈ gW := mc_21 _ (List.mem_of_getElem? (i := 13) rfl)
theorem k694 : Cond.methodLink RL 79 yX11_outputByte ∈ gW := mc_21 _ (List.mem_of_getElem? (i := 14) rfl)
theorem k696 : Cond.instanceMethod yX11_outputByte ∈ gW := mc_21 _ (List.mem_of_getElem? (i := 15) rfl)
theorem k697 : Cond.selects RX11 yX11_outputByte yX11_outputByte ∈ gW := mc_21 _ (List.mem_of_getElem? (i := 16) rfl)
theorem k695 : Cond.code yX11_outputByte cX11_outputByte 2 (some .int) ∈ gW := mc_21 _ (List.mem_of_getElem? (i := 17) rfl)
theorem k690 : Cond.methodLink RX11 287 yX4_length ∈ gW := mc_21 _ (List.mem_of_getElem? (i := 18) rfl)
theorem k692 : Cond.instanceMethod yX4_length ∈ gW := mc_21 _ (List.mem_of_getElem? (i := 19) rfl)
theorem k693 : Cond.selects RX4 yX4_length yX4_length ∈ gW := mc_21 _ (List.mem_of_getElem? (i := 20) rfl)
theorem k691 : Cond.code yX4_length cX4_length 1 (some .int) ∈ gW := mc_21 _ (List.mem_of_getElem? (i := 21) rfl)
theorem k710 : Cond.methodLink RL 232 yL_equate ∈ gW := mc_21 _ (List.mem_of_getElem? (i := 22) rfl)
theorem k712 : Cond.static yL_equate ∈ gW := mc_21 _ (List.mem_of_getElem? (i := 23) rfl)
theorem k711 : Cond.codeWith yL_equate cL_equate 5 (some .int) [(0, 10, 13, 36), (0, 10, 17, 19), (0, 10, 21, 13), (0, 10, 25, 49)] ∈ gW := mc_21 _ (List.mem_of_getElem? (i := 24) rfl)
theorem k706 : Cond.methodLink RL 82 yX11_equate ∈ gW := mc_22 _ (List.mem_of_getElem? (i := 0) rfl)
theorem k708 : Cond.instanceMethod yX11_equate ∈ gW := mc_22 _ (List.mem_of_getElem? (i := 1) rfl)
theorem k709 : Cond.selects RX11 yX11_equate yX11_equate ∈ gW := mc_22 _ (List.mem_of_getElem? (i := 2) rfl)
theorem k707 : Cond.code yX11_equate cX11_equate 3 (some .int) ∈ gW := mc_22 _ (List.mem_of_getElem? (i := 3) rfl)
theorem k721 : Cond.methodLink RL 235 yL_separate ∈ gW := mc_22 _ (List.mem_of_getElem? (i := 4) rfl)
theorem k723 : Cond.static yL_separate ∈ gW := mc_22 _ (List.mem_of_getElem? (i := 5) rfl)
theorem k722 : Cond.codeWith yL_separate cL_separate 5 (some .int) [(0, 10, 13, 36), (0, 10, 17, 19), (0, 10, 21, 13)] ∈ gW := mc_22 _ (List.mem_of_getElem? (i := 6) rfl)
theorem k717 : Cond.methodLink RL 85 yX11_separate ∈ gW := mc_22 _ (List.mem_of_getElem? (i := 7) rfl)
theorem k719 : Cond.instanceMethod yX11_separate ∈ gW := mc_22 _ (List.mem_of_getElem? (i := 8) rfl)
theorem k720 : Cond.selects RX11 yX11_separate yX11_separate ∈ gW := mc_22 _ (List.mem_of_getElem? (i := 9) rfl)
theorem k718 : Cond.code yX11_separate cX11_separate 3 (some .int) ∈ gW := mc_22 _ (List.mem_of_getElem? (i := 10) rfl)
theorem k743 : Cond.methodLink RL 238 yL_readTheory ∈ gW := mc_22 _ (List.mem_of_getElem? (i := 11) rfl)
theorem k745 : Cond.static yL_readTheory ∈ gW := mc_22 _ (List.mem_of_getElem? (i := 12) rfl)
theorem k744 : Cond.codeWith yL_readTheory cL_readTheory 3 (some .int) [(0, 8, 11, 19), (0, 8, 14, 13), (0, 8, 17, 49)] ∈ gW := mc_22 _ (List.mem_of_getElem? (i := 13) rfl)
theorem k739 : Cond.methodLink RL 88 yX11_readTheory ∈ gW := mc_22 _ (List.mem_of_getElem? (i := 14) rfl)
theorem k741 : Cond.instanceMethod yX11_readTheory ∈ gW := mc_22 _ (List.mem_of_getElem? (i := 15) rfl)
theorem k742 : Cond.selects RX11 yX11_readTheory yX11_readTheory ∈ gW := mc_22 _ (List.mem_of_getElem? (i := 16) rfl)
theorem k740 : Cond.code yX11_readTheory cX11_readTheory 5 (some .int) ∈ gW := mc_22 _ (List.mem_of_getElem? (i := 17) rfl)
theorem k729 : Cond.methodLink RX11 322 yX5_readTheoryText ∈ gW := mc_22 _ (List.mem_of_getElem? (i := 18) rfl)
theorem k731 : Cond.instanceMethod yX5_readTheoryText ∈ gW := mc_22 _ (List.mem_of_getElem? (i := 19) rfl)
theorem k732 : Cond.selects RX5 yX5_readTheoryText yX5_readTheoryText ∈ gW := mc_22 _ (List.mem_of_getElem? (i := 20) rfl)
theorem k730 : Cond.code yX5_readTheoryText cX5_readTheoryText 5 (some .boolean) ∈ gW := mc_22 _ (List.mem_of_getElem? (i := 21) rfl)
theorem k735 : Cond.methodLink RX11 325 yX5_statementCount ∈ gW := mc_22 _ (List.mem_of_getElem? (i := 22) rfl)
theorem k737 : Cond.instanceMethod yX5_statementCount ∈ gW := mc_22 _ (List.mem_of_getElem? (i := 23) rfl)
theorem k738 : Cond.selects RX5 yX5_statementCount yX5_statementCount ∈ gW := mc_22 _ (List.mem_of_getElem? (i := 24) rfl)
theorem k736 : Cond.code yX5_statementCount cX5_statementCount 1 (some .int) ∈ gW := mc_23 _ (List.mem_of_getElem? (i := 0) rfl)
theorem k797 : Cond.methodLink RL 254 yL_conflict ∈ gW := mc_23 _ (List.mem_of_getElem? (i := 1) rfl)
theorem k799 : Cond.static yL_conflict ∈ gW := mc_23 _ (List.mem_of_getElem? (i := 2) rfl)
theorem k798 : Cond.codeWith yL_conflict cL_conflict 3 (some .int) [(0, 8, 11, 94)] ∈ gW := mc_23 _ (List.mem_of_getElem? (i := 3) rfl)
theorem k796 : Cond.classLink RL 94 g_NSE ∈ gW := mc_23 _ (List.mem_of_getElem? (i := 4) rfl)
theorem k792 : Cond.methodLink RL 91 yX11_conflict ∈ gW := mc_23 _ (List.mem_of_getElem? (i := 5) rfl)
theorem k794 : Cond.instanceMethod yX11_conflict ∈ gW := mc_23 _ (List.mem_of_getElem? (i := 6) rfl)
theorem k795 : Cond.selects RX11 yX11_conflict yX11_conflict ∈ gW := mc_23 _ (List.mem_of_getElem? (i := 7) rfl)
theorem k793 : Cond.code yX11_conflict cX11_conflict 2 (some .int) ∈ gW := mc_23 _ (List.mem_of_getElem? (i := 8) rfl)
theorem k790 : Cond.classLink RX11 349 g_NSE ∈ gW := mc_23 _ (List.mem_of_getElem? (i := 9) rfl)
theorem k815 : Cond.methodLink RL 257 yL_push ∈ gW := mc_23 _ (List.mem_of_getElem? (i := 10) rfl)
theorem k817 : Cond.static yL_push ∈ gW := mc_23 _ (List.mem_of_getElem? (i := 11) rfl)
theorem k816 : Cond.codeWith yL_push cL_push 3 (some .int) [(0, 8, 11, 13)] ∈ gW := mc_23 _ (List.mem_of_getElem? (i := 12) rfl)
theorem k811 : Cond.methodLink RL 96 yX11_push ∈ gW := mc_23 _ (List.mem_of_getElem? (i := 13) rfl)
theorem k813 : Cond.instanceMethod yX11_push ∈ gW := mc_23 _ (List.mem_of_getElem? (i := 14) rfl)
theorem k814 : Cond.selects RX11 yX11_push yX11_push ∈ gW := mc_23 _ (List.mem_of_getElem? (i := 15) rfl)
theorem k812 : Cond.code yX11_push cX11_push 1 (some .int) ∈ gW := mc_23 _ (List.mem_of_getElem? (i := 16) rfl)
theorem k807 : Cond.methodLink RX11 359 yX9_openLevel ∈ gW := mc_23 _ (List.mem_of_getElem? (i := 17) rfl)
theorem k809 : Cond.instanceMethod yX9_openLevel ∈ gW := mc_23 _ (List.mem_of_getElem? (i := 18) rfl)
theorem k810 : Cond.selects RX9 yX9_openLevel yX9_openLevel ∈ gW := mc_23 _ (List.mem_of_getElem? (i := 19) rfl)
theorem k808 : Cond.code yX9_openLevel cX9_openLevel 1 none ∈ gW := mc_23 _ (List.mem_of_getElem? (i := 20) rfl)
theorem k830 : Cond.methodLink RL 260 yL_pop ∈ gW := mc_23 _ (List.mem_of_getElem? (i := 21) rfl)
theorem k832 : Cond.static yL_pop ∈ gW := mc_23 _ (List.mem_of_getElem? (i := 22) rfl)
theorem k831 : Cond.codeWith yL_pop cL_pop 3 (some .int) [(0, 8, 11, 13)] ∈ gW := mc_23 _ (List.mem_of_getElem? (i := 23) rfl)
theorem k825 : Cond.methodLink RL 99 yX11_pop ∈ gW := mc_23 _ (List.mem_of_getElem? (i := 24) rfl)
theorem k827 : Cond.instanceMethod yX11_pop ∈ gW := mc_24 _ (List.mem_of_getElem? (i := 0) rfl)
theorem k828 : Cond.selects RX11 yX11_pop yX11_pop ∈ gW := mc_24 _ (List.mem_of_getElem? (i := 1) rfl)
theorem k826 : Cond.code yX11_pop cX11_pop 1 (some .int) ∈ gW := mc_24 _ (List.mem_of_getElem? (i := 2) rfl)
theorem k851 : Cond.methodLink RL 267 yL_ruleLeft ∈ gW := mc_24 _ (List.mem_of_getElem? (i := 3) rfl)
theorem k853 : Cond.static yL_ruleLeft ∈ gW := mc_24 _ (List.mem_of_getElem? (i := 4) rfl)
theorem k852 : Cond.codeWith yL_ruleLeft cL_ruleLeft 4 (some .int) [(0, 9, 12, 36)] ∈ gW := mc_24 _ (List.mem_of_getElem? (i := 5) rfl)
theorem k847 : Cond.methodLink RL 102 yX11_ruleLeft ∈ gW := mc_24 _ (List.mem_of_getElem? (i := 6) rfl)
theorem k849 : Cond.instanceMethod yX11_ruleLeft ∈ gW := mc_24 _ (List.mem_of_getElem? (i := 7) rfl)
theorem k850 : Cond.selects RX11 yX11_ruleLeft yX11_ruleLeft ∈ gW := mc_24 _ (List.mem_of_getElem? (i := 8) rfl)
theorem k848 : Cond.code yX11_ruleLeft cX11_ruleLeft 2 (some .int) ∈ gW := mc_24 _ (List.mem_of_getElem? (i := 9) rfl)
theorem k862 : Cond.methodLink RL 270 yL_ruleRight ∈ gW := mc_24 _ (List.mem_of_getElem? (i := 10) rfl)
theorem k864 : Cond.static yL_ruleRight ∈ gW := mc_24 _ (List.mem_of_getElem? (i := 11) rfl)
theorem k863 : Cond.codeWith yL_ruleRight cL_ruleRight 4 (some .int) [(0, 9, 12, 36)] ∈ gW := mc_24 _ (List.mem_of_getElem? (i := 12) rfl)
theorem k858 : Cond.methodLink RL 105 yX11_ruleRight ∈ gW := mc_24 _ (List.mem_of_getElem? (i := 13) rfl)
theorem k860 : Cond.instanceMethod yX11_ruleRight ∈ gW := mc_24 _ (List.mem_of_getElem? (i := 14) rfl)
theorem k861 : Cond.selects RX11 yX11_ruleRight yX11_ruleRight ∈ gW := mc_24 _ (List.mem_of_getElem? (i := 15) rfl)
theorem k859 : Cond.code yX11_ruleRight cX11_ruleRight 2 (some .int) ∈ gW := mc_24 _ (List.mem_of_getElem? (i := 16) rfl)
theorem k873 : Cond.methodLink RL 273 yL_normalForm ∈ gW := mc_24 _ (List.mem_of_getElem? (i := 17) rfl)
theorem k875 : Cond.static yL_normalForm ∈ gW := mc_24 _ (List.mem_of_getElem? (i := 18) rfl)
theorem k874 : Cond.codeWith yL_normalForm cL_normalForm 4 (some .int) [(0, 9, 12, 36), (0, 9, 15, 49)] ∈ gW := mc_24 _ (List.mem_of_getElem? (i := 19) rfl)
theorem k869 : Cond.methodLink RL 108 yX11_normalForm ∈ gW := mc_24 _ (List.mem_of_getElem? (i := 20) rfl)
theorem k871 : Cond.instanceMethod yX11_normalForm ∈ gW := mc_24 _ (List.mem_of_getElem? (i := 21) rfl)
theorem k872 : Cond.selects RX11 yX11_normalForm yX11_normalForm ∈ gW := mc_24 _ (List.mem_of_getElem? (i := 22) rfl)
theorem k870 : Cond.code yX11_normalForm cX11_normalForm 3 (some .int) ∈ gW := mc_24 _ (List.mem_of_getElem? (i := 23) rfl)
theorem k884 : Cond.methodLink RL 276 yL_areEqual ∈ gW := mc_24 _ (List.mem_of_getElem? (i := 24) rfl)
theorem k886 : Cond.static yL_areEqual ∈ gW := mc_25 _ (List.mem_of_getElem? (i := 0) rfl)
theorem k885 : Cond.codeWith yL_areEqual cL_areEqual 5 (some .int) [(0, 17, 20, 36)] ∈ gW := mc_25 _ (List.mem_of_getElem? (i := 1) rfl)
theorem k880 : Cond.methodLink RL 111 yX11_areEqual ∈ gW := mc_25 _ (List.mem_of_getElem? (i := 2) rfl)
theorem k882 : Cond.instanceMethod yX11_areEqual ∈ gW := mc_25 _ (List.mem_of_getElem? (i := 3) rfl)
theorem k883 : Cond.selects RX11 yX11_areEqual yX11_areEqual ∈ gW := mc_25 _ (List.mem_of_getElem? (i := 4) rfl)
theorem k881 : Cond.code yX11_areEqual cX11_areEqual 3 (some .boolean) ∈ gW := mc_25 _ (List.mem_of_getElem? (i := 5) rfl)
theorem k895 : Cond.methodLink RL 279 yL_dependsOn ∈ gW := mc_25 _ (List.mem_of_getElem? (i := 6) rfl)
theorem k897 : Cond.static yL_dependsOn ∈ gW := mc_25 _ (List.mem_of_getElem? (i := 7) rfl)
theorem k896 : Cond.codeWith yL_dependsOn cL_dependsOn 6 (some .int) [(0, 19, 22, 36)] ∈ gW := mc_25 _ (List.mem_of_getElem? (i := 8) rfl)
theorem k891 : Cond.methodLink RL 115 yX11_dependsOn ∈ gW := mc_25 _ (List.mem_of_getElem? (i := 9) rfl)
theorem k893 : Cond.instanceMethod yX11_dependsOn ∈ gW := mc_25 _ (List.mem_of_getElem? (i := 10) rfl)
theorem k894 : Cond.selects RX11 yX11_dependsOn yX11_dependsOn ∈ gW := mc_25 _ (List.mem_of_getElem? (i := 11) rfl)
theorem k892 : Cond.code yX11_dependsOn cX11_dependsOn 4 (some .boolean) ∈ gW := mc_25 _ (List.mem_of_getElem? (i := 12) rfl)
theorem k906 : Cond.methodLink RL 282 yL_stepCount ∈ gW := mc_25 _ (List.mem_of_getElem? (i := 13) rfl)
theorem k908 : Cond.static yL_stepCount ∈ gW := mc_25 _ (List.mem_of_getElem? (i := 14) rfl)
theorem k907 : Cond.codeWith yL_stepCount cL_stepCount 4 (some .int) [(0, 9, 12, 36)] ∈ gW := mc_25 _ (List.mem_of_getElem? (i := 15) rfl)
theorem k902 : Cond.methodLink RL 119 yX11_stepCount ∈ gW := mc_25 _ (List.mem_of_getElem? (i := 16) rfl)
theorem k904 : Cond.instanceMethod yX11_stepCount ∈ gW := mc_25 _ (List.mem_of_getElem? (i := 17) rfl)
theorem k905 : Cond.selects RX11 yX11_stepCount yX11_stepCount ∈ gW := mc_25 _ (List.mem_of_getElem? (i := 18) rfl)
theorem k903 : Cond.code yX11_stepCount cX11_stepCount 2 (some .int) ∈ gW := mc_25 _ (List.mem_of_getElem? (i := 19) rfl)
theorem k917 : Cond.methodLink RL 285 yL_afterSteps ∈ gW := mc_25 _ (List.mem_of_getElem? (i := 20) rfl)
theorem k919 : Cond.static yL_afterSteps ∈ gW := mc_25 _ (List.mem_of_getElem? (i := 21) rfl)
theorem k918 : Cond.codeWith yL_afterSteps cL_afterSteps 5 (some .int) [(0, 10, 13, 36), (0, 10, 17, 49)] ∈ gW := mc_25 _ (List.mem_of_getElem? (i := 22) rfl)
theorem k913 : Cond.methodLink RL 122 yX11_afterSteps ∈ gW := mc_25 _ (List.mem_of_getElem? (i := 23) rfl)
theorem k915 : Cond.instanceMethod yX11_afterSteps ∈ gW := mc_25 _ (List.mem_of_getElem? (i := 24) rfl)
theorem k916 : Cond.selects RX11 yX11_afterSteps yX11_afterSteps ∈ gW := mc_26 _ (List.mem_of_getElem? (i := 0) rfl)
theorem k914 : Cond.code yX11_afterSteps cX11_afterSteps 4 (some .int) ∈ gW := mc_26 _ (List.mem_of_getElem? (i := 1) rfl)
theorem k928 : Cond.methodLink RL 288 yL_countOfSize ∈ gW := mc_26 _ (List.mem_of_getElem? (i := 2) rfl)
theorem k930 : Cond.static yL_countOfSize ∈ gW := mc_26 _ (List.mem_of_getElem? (i := 3) rfl)
theorem k929 : Cond.codeWith yL_countOfSize cL_countOfSize 5 (some .int) [(0, 9, 12, 36), (0, 9, 16, 19)] ∈ gW := mc_26 _ (List.mem_of_getElem? (i := 4) rfl)
theorem k924 : Cond.methodLink RL 125 yX11_countOfSize ∈ gW := mc_26 _ (List.mem_of_getElem? (i := 5) rfl)
theorem k926 : Cond.instanceMethod yX11_countOfSize ∈ gW := mc_26 _ (List.mem_of_getElem? (i := 6) rfl)
theorem k927 : Cond.selects RX11 yX11_countOfSize yX11_countOfSize ∈ gW := mc_26 _ (List.mem_of_getElem? (i := 7) rfl)
theorem k925 : Cond.code yX11_countOfSize cX11_countOfSize 3 (some .long) ∈ gW := mc_26 _ (List.mem_of_getElem? (i := 8) rfl)
theorem k939 : Cond.methodLink RL 291 yL_isFinite ∈ gW := mc_26 _ (List.mem_of_getElem? (i := 9) rfl)
theorem k941 : Cond.static yL_isFinite ∈ gW := mc_26 _ (List.mem_of_getElem? (i := 10) rfl)
theorem k940 : Cond.codeWith yL_isFinite cL_isFinite 4 (some .int) [(0, 16, 19, 36)] ∈ gW := mc_26 _ (List.mem_of_getElem? (i := 11) rfl)
theorem k935 : Cond.methodLink RL 129 yX11_isFinite ∈ gW := mc_26 _ (List.mem_of_getElem? (i := 12) rfl)
theorem k937 : Cond.instanceMethod yX11_isFinite ∈ gW := mc_26 _ (List.mem_of_getElem? (i := 13) rfl)
theorem k938 : Cond.selects RX11 yX11_isFinite yX11_isFinite ∈ gW := mc_26 _ (List.mem_of_getElem? (i := 14) rfl)
theorem k936 : Cond.code yX11_isFinite cX11_isFinite 2 (some .boolean) ∈ gW := mc_26 _ (List.mem_of_getElem? (i := 15) rfl)
theorem k950 : Cond.methodLink RL 294 yL_smallest ∈ gW := mc_26 _ (List.mem_of_getElem? (i := 16) rfl)
theorem k952 : Cond.static yL_smallest ∈ gW := mc_26 _ (List.mem_of_getElem? (i := 17) rfl)
theorem k951 : Cond.codeWith yL_smallest cL_smallest 4 (some .int) [(0, 9, 12, 36), (0, 9, 15, 49)] ∈ gW := mc_26 _ (List.mem_of_getElem? (i := 18) rfl)
theorem k946 : Cond.methodLink RL 133 yX11_smallest ∈ gW := mc_26 _ (List.mem_of_getElem? (i := 19) rfl)
theorem k948 : Cond.instanceMethod yX11_smallest ∈ gW := mc_26 _ (List.mem_of_getElem? (i := 20) rfl)
theorem k949 : Cond.selects RX11 yX11_smallest yX11_smallest ∈ gW := mc_26 _ (List.mem_of_getElem? (i := 21) rfl)
theorem k947 : Cond.code yX11_smallest cX11_smallest 3 (some .int) ∈ gW := mc_26 _ (List.mem_of_getElem? (i := 22) rfl)
theorem k961 : Cond.methodLink RL 297 yL_match ∈ gW := mc_26 _ (List.mem_of_getElem? (i := 23) rfl)
theorem k963 : Cond.static yL_match ∈ gW := mc_26 _ (List.mem_of_getElem? (i := 24) rfl)
theorem k962 : Cond.codeWith yL_match cL_match 5 (some .int) [(0, 10, 13, 36), (0, 10, 17, 19), (0, 10, 21, 49)] ∈ gW := mc_27 _ (List.mem_of_getElem? (i := 0) rfl)
theorem k957 : Cond.methodLink RL 136 yX11_match ∈ gW := mc_27 _ (List.mem_of_getElem? (i := 1) rfl)
theorem k959 : Cond.instanceMethod yX11_match ∈ gW := mc_27 _ (List.mem_of_getElem? (i := 2) rfl)
theorem k960 : Cond.selects RX11 yX11_match yX11_match ∈ gW := mc_27 _ (List.mem_of_getElem? (i := 3) rfl)
theorem k958 : Cond.code yX11_match cX11_match 4 (some .int) ∈ gW := mc_27 _ (List.mem_of_getElem? (i := 4) rfl)
theorem k973 : Cond.methodLink RL 300 yL_solution ∈ gW := mc_27 _ (List.mem_of_getElem? (i := 5) rfl)
theorem k975 : Cond.static yL_solution ∈ gW := mc_27 _ (List.mem_of_getElem? (i := 6) rfl)
theorem k974 : Cond.codeWith yL_solution cL_solution 5 (some .int) [(0, 10, 13, 36), (0, 10, 17, 94), (0, 10, 21, 49)] ∈ gW := mc_27 _ (List.mem_of_getElem? (i := 7) rfl)
theorem k969 : Cond.methodLink RL 139 yX11_solution ∈ gW := mc_27 _ (List.mem_of_getElem? (i := 8) rfl)
theorem k971 : Cond.instanceMethod yX11_solution ∈ gW := mc_27 _ (List.mem_of_getElem? (i := 9) rfl)
theorem k972 : Cond.selects RX11 yX11_solution yX11_solution ∈ gW := mc_27 _ (List.mem_of_getElem? (i := 10) rfl)
theorem k970 : Cond.code yX11_solution cX11_solution 5 (some .int) ∈ gW := mc_27 _ (List.mem_of_getElem? (i := 11) rfl)
theorem k215 : Cond.classLink RL 143 RX12 ∈ gW := mc_27 _ (List.mem_of_getElem? (i := 12) rfl)
theorem k216 : Cond.instantiable RX12 92 ∈ gW := mc_27 _ (List.mem_of_getElem? (i := 13) rfl)
theorem k282 : Cond.methodLink RL 145 yX12_init ∈ gW := mc_27 _ (List.mem_of_getElem? (i := 14) rfl)
theorem k284 : Cond.instanceMethod yX12_init ∈ gW := mc_27 _ (List.mem_of_getElem? (i := 15) rfl)
theorem k283 : Cond.code yX12_init cX12_init 2 none ∈ gW := mc_27 _ (List.mem_of_getElem? (i := 16) rfl)
theorem k218 : Cond.methodLink RX12 1 Lib.objectInit ∈ gW := mc_27 _ (List.mem_of_getElem? (i := 17) rfl)
theorem k302 : Cond.fieldLink RX12 203 "GroundProverModel" "thrown" "I" ∈ gW := mc_27 _ (List.mem_of_getElem? (i := 18) rfl)
theorem k389 : Cond.fieldLink RX12 392 "GroundProverModel" "symbols" "I" ∈ gW := mc_27 _ (List.mem_of_getElem? (i := 19) rfl)
theorem k219 : Cond.fieldLink RX12 9 "GroundProverModel" "names" "[B" ∈ gW := mc_27 _ (List.mem_of_getElem? (i := 20) rfl)
theorem k220 : Cond.fieldLink RX12 13 "GroundProverModel" "nameLengths" "[I" ∈ gW := mc_27 _ (List.mem_of_getElem? (i := 21) rfl)
theorem k221 : Cond.fieldLink RX12 17 "GroundProverModel" "arities" "[I" ∈ gW := mc_27 _ (List.mem_of_getElem? (i := 22) rfl)
theorem k222 : Cond.fieldLink RX12 20 "GroundProverModel" "weights" "[I" ∈ gW := mc_27 _ (List.mem_of_getElem? (i := 23) rfl)
theorem k223 : Cond.fieldLink RX12 23 "GroundProverModel" "ranks" "[I" ∈ gW := mc_27 _ (List.mem_of_getElem? (i := 24) rfl)
theorem k224 : Cond.fieldLink RX12 26 "GroundProverModel" "isVariable" "[Z" ∈ gW := mc_28 _ (List.mem_of_getElem? (i := 0) rfl)
theorem k225 : Cond.fieldLink RX12 30 "GroundProverModel" "isFromRight" "[Z" ∈ gW := mc_28 _ (List.mem_of_getElem? (i := 1) rfl)
theorem k415 : Cond.fieldLink RX12 265 "GroundProverModel" "isByWeight" "Z" ∈ gW := mc_28 _ (List.mem_of_getElem? (i := 2) rfl)
theorem k416 : Cond.fieldLink RX12 252 "GroundProverModel" "isFixed" "Z" ∈ gW := mc_28 _ (List.mem_of_getElem? (i := 3) rfl)
theorem k226 : Cond.fieldLink RX12 33 "GroundProverModel" "input" "[B" ∈ gW := mc_28 _ (List.mem_of_getElem? (i := 4) rfl)
theorem k303 : Cond.fieldLink RX12 430 "GroundProverModel" "inputLength" "I" ∈ gW := mc_28 _ (List.mem_of_getElem? (i := 5) rfl)
theorem k227 : Cond.fieldLink RX12 36 "GroundProverModel" "output" "[B" ∈ gW := mc_28 _ (List.mem_of_getElem? (i := 6) rfl)
theorem k701 : Cond.fieldLink RX12 483 "GroundProverModel" "outputLength" "I" ∈ gW := mc_28 _ (List.mem_of_getElem? (i := 7) rfl)
theorem k534 : Cond.fieldLink RX12 424 "GroundProverModel" "errorKind" "I" ∈ gW := mc_28 _ (List.mem_of_getElem? (i := 8) rfl)
theorem k228 : Cond.fieldLink RX12 39 "GroundProverModel" "errorPosition" "I" ∈ gW := mc_28 _ (List.mem_of_getElem? (i := 9) rfl)
theorem k229 : Cond.fieldLink RX12 43 "GroundProverModel" "room" "I" ∈ gW := mc_28 _ (List.mem_of_getElem? (i := 10) rfl)
theorem k230 : Cond.fieldLink RX12 46 "GroundProverModel" "symbolAt" "[I" ∈ gW := mc_28 _ (List.mem_of_getElem? (i := 11) rfl)
theorem k231 : Cond.fieldLink RX12 49 "GroundProverModel" "arguments" "[I" ∈ gW := mc_28 _ (List.mem_of_getElem? (i := 12) rfl)
theorem k232 : Cond.fieldLink RX12 52 "GroundProverModel" "sizeAt" "[I" ∈ gW := mc_28 _ (List.mem_of_getElem? (i := 13) rfl)
theorem k233 : Cond.fieldLink RX12 55 "GroundProverModel" "depthAt" "[I" ∈ gW := mc_28 _ (List.mem_of_getElem? (i := 14) rfl)
theorem k234 : Cond.fieldLink RX12 58 "GroundProverModel" "weightAt" "[J" ∈ gW := mc_28 _ (List.mem_of_getElem? (i := 15) rfl)
theorem k235 : Cond.fieldLink RX12 62 "GroundProverModel" "isGroundAt" "[Z" ∈ gW := mc_28 _ (List.mem_of_getElem? (i := 16) rfl)
theorem k236 : Cond.fieldLink RX12 65 "GroundProverModel" "numberAt" "[I" ∈ gW := mc_28 _ (List.mem_of_getElem? (i := 17) rfl)
theorem k237 : Cond.fieldLink RX12 68 "GroundProverModel" "numbered" "[I" ∈ gW := mc_28 _ (List.mem_of_getElem? (i := 18) rfl)
theorem k588 : Cond.fieldLink RX12 241 "GroundProverModel" "numberedCount" "I" ∈ gW := mc_28 _ (List.mem_of_getElem? (i := 19) rfl)
theorem k238 : Cond.fieldLink RX12 71 "GroundProverModel" "table" "[I" ∈ gW := mc_28 _ (List.mem_of_getElem? (i := 20) rfl)
theorem k239 : Cond.fieldLink RX12 74 "GroundProverModel" "mark" "[I" ∈ gW := mc_28 _ (List.mem_of_getElem? (i := 21) rfl)
theorem k240 : Cond.fieldLink RX12 77 "GroundProverModel" "place" "[I" ∈ gW := mc_28 _ (List.mem_of_getElem? (i := 22) rfl)
theorem k241 : Cond.fieldLink RX12 80 "GroundProverModel" "work" "[I" ∈ gW := mc_28 _ (List.mem_of_getElem? (i := 23) rfl)
theorem k242 : Cond.fieldLink RX12 83 "GroundProverModel" "path" "[I" ∈ gW := mc_28 _ (List.mem_of_getElem? (i := 24) rfl)
theorem k243 : Cond.fieldLink RX12 86 "GroundProverModel" "lefts" "[I" ∈ gW := mc_29 _ (List.mem_of_getElem? (i := 0) rfl)
theorem k244 : Cond.fieldLink RX12 89 "GroundProverModel" "rights" "[I" ∈ gW := mc_29 _ (List.mem_of_getElem? (i := 1) rfl)
theorem k245 : Cond.fieldLink RX12 92 "GroundProverModel" "leftPlace" "[I" ∈ gW := mc_29 _ (List.mem_of_getElem? (i := 2) rfl)
theorem k246 : Cond.fieldLink RX12 95 "GroundProverModel" "greater" "[Z" ∈ gW := mc_29 _ (List.mem_of_getElem? (i := 3) rfl)
theorem k247 : Cond.fieldLink RX12 98 "GroundProverModel" "equations" "[I" ∈ gW := mc_29 _ (List.mem_of_getElem? (i := 4) rfl)
theorem k751 : Cond.fieldLink RX12 404 "GroundProverModel" "equationMany" "I" ∈ gW := mc_29 _ (List.mem_of_getElem? (i := 5) rfl)
theorem k248 : Cond.fieldLink RX12 101 "GroundProverModel" "separations" "[I" ∈ gW := mc_29 _ (List.mem_of_getElem? (i := 6) rfl)
theorem k752 : Cond.fieldLink RX12 489 "GroundProverModel" "separationMany" "I" ∈ gW := mc_29 _ (List.mem_of_getElem? (i := 7) rfl)
theorem k249 : Cond.fieldLink RX12 104 "GroundProverModel" "levels" "[I" ∈ gW := mc_29 _ (List.mem_of_getElem? (i := 8) rfl)
theorem k818 : Cond.fieldLink RX12 508 "GroundProverModel" "levelMany" "I" ∈ gW := mc_29 _ (List.mem_of_getElem? (i := 9) rfl)
theorem k250 : Cond.fieldLink RX12 107 "GroundProverModel" "members" "[I" ∈ gW := mc_29 _ (List.mem_of_getElem? (i := 10) rfl)
theorem k251 : Cond.fieldLink RX12 110 "GroundProverModel" "classes" "[I" ∈ gW := mc_29 _ (List.mem_of_getElem? (i := 11) rfl)
theorem k252 : Cond.fieldLink RX12 113 "GroundProverModel" "least" "[I" ∈ gW := mc_29 _ (List.mem_of_getElem? (i := 12) rfl)
theorem k253 : Cond.fieldLink RX12 116 "GroundProverModel" "memberAt" "[I" ∈ gW := mc_29 _ (List.mem_of_getElem? (i := 13) rfl)
theorem k254 : Cond.fieldLink RX12 119 "GroundProverModel" "memberVersion" "[I" ∈ gW := mc_29 _ (List.mem_of_getElem? (i := 14) rfl)
theorem k255 : Cond.fieldLink RX12 122 "GroundProverModel" "version" "I" ∈ gW := mc_29 _ (List.mem_of_getElem? (i := 15) rfl)
theorem k256 : Cond.fieldLink RX12 125 "GroundProverModel" "ruleLefts" "[I" ∈ gW := mc_29 _ (List.mem_of_getElem? (i := 16) rfl)
theorem k257 : Cond.fieldLink RX12 128 "GroundProverModel" "ruleRights" "[I" ∈ gW := mc_29 _ (List.mem_of_getElem? (i := 17) rfl)
theorem k842 : Cond.fieldLink RX12 333 "GroundProverModel" "ruleMany" "I" ∈ gW := mc_29 _ (List.mem_of_getElem? (i := 18) rfl)
theorem k258 : Cond.fieldLink RX12 131 "GroundProverModel" "ruleAt" "[I" ∈ gW := mc_29 _ (List.mem_of_getElem? (i := 19) rfl)
theorem k259 : Cond.fieldLink RX12 134 "GroundProverModel" "normAt" "[I" ∈ gW := mc_29 _ (List.mem_of_getElem? (i := 20) rfl)
theorem k260 : Cond.fieldLink RX12 137 "GroundProverModel" "normVersion" "[I" ∈ gW := mc_29 _ (List.mem_of_getElem? (i := 21) rfl)
theorem k261 : Cond.fieldLink RX12 140 "GroundProverModel" "stepsAt" "[I" ∈ gW := mc_29 _ (List.mem_of_getElem? (i := 22) rfl)
theorem k262 : Cond.fieldLink RX12 143 "GroundProverModel" "heap" "[I" ∈ gW := mc_29 _ (List.mem_of_getElem? (i := 23) rfl)
theorem k263 : Cond.fieldLink RX12 146 "GroundProverModel" "candidateAt" "[I" ∈ gW := mc_29 _ (List.mem_of_getElem? (i := 24) rfl)
theorem k264 : Cond.fieldLink RX12 149 "GroundProverModel" "row" "[I" ∈ gW := mc_30 _ (List.mem_of_getElem? (i := 0) rfl)
theorem k265 : Cond.fieldLink RX12 152 "GroundProverModel" "forms" "[I" ∈ gW := mc_30 _ (List.mem_of_getElem? (i := 1) rfl)
theorem k266 : Cond.fieldLink RX12 155 "GroundProverModel" "formAt" "[I" ∈ gW := mc_30 _ (List.mem_of_getElem? (i := 2) rfl)
theorem k267 : Cond.fieldLink RX12 158 "GroundProverModel" "formVersion" "[I" ∈ gW := mc_30 _ (List.mem_of_getElem? (i := 3) rfl)
theorem k268 : Cond.fieldLink RX12 161 "GroundProverModel" "solutions" "[I" ∈ gW := mc_30 _ (List.mem_of_getElem? (i := 4) rfl)
theorem k976 : Cond.fieldLink RX12 528 "GroundProverModel" "solutionMany" "I" ∈ gW := mc_30 _ (List.mem_of_getElem? (i := 5) rfl)
theorem k269 : Cond.fieldLink RX12 164 "GroundProverModel" "asked" "[I" ∈ gW := mc_30 _ (List.mem_of_getElem? (i := 6) rfl)
theorem k270 : Cond.fieldLink RX12 167 "GroundProverModel" "found" "[I" ∈ gW := mc_30 _ (List.mem_of_getElem? (i := 7) rfl)
theorem k271 : Cond.fieldLink RX12 170 "GroundProverModel" "unknowns" "[I" ∈ gW := mc_30 _ (List.mem_of_getElem? (i := 8) rfl)
theorem k272 : Cond.fieldLink RX12 173 "GroundProverModel" "values" "[I" ∈ gW := mc_30 _ (List.mem_of_getElem? (i := 9) rfl)
theorem k273 : Cond.fieldLink RX12 176 "GroundProverModel" "pattern" "[I" ∈ gW := mc_30 _ (List.mem_of_getElem? (i := 10) rfl)
theorem k274 : Cond.fieldLink RX12 179 "GroundProverModel" "patternValue" "[I" ∈ gW := mc_30 _ (List.mem_of_getElem? (i := 11) rfl)
theorem k275 : Cond.fieldLink RX12 182 "GroundProverModel" "candidates" "[I" ∈ gW := mc_30 _ (List.mem_of_getElem? (i := 12) rfl)
theorem k535 : Cond.fieldLink RX12 427 "GroundProverModel" "at" "I" ∈ gW := mc_30 _ (List.mem_of_getElem? (i := 13) rfl)
theorem k276 : Cond.fieldLink RX12 185 "GroundProverModel" "openSymbols" "[I" ∈ gW := mc_30 _ (List.mem_of_getElem? (i := 14) rfl)
theorem k277 : Cond.fieldLink RX12 188 "GroundProverModel" "openPlaces" "[I" ∈ gW := mc_30 _ (List.mem_of_getElem? (i := 15) rfl)
theorem k278 : Cond.fieldLink RX12 191 "GroundProverModel" "openMany" "[I" ∈ gW := mc_30 _ (List.mem_of_getElem? (i := 16) rfl)
theorem k279 : Cond.fieldLink RX12 194 "GroundProverModel" "openArguments" "[I" ∈ gW := mc_30 _ (List.mem_of_getElem? (i := 17) rfl)
theorem k280 : Cond.fieldLink RX12 197 "GroundProverModel" "statements" "[I" ∈ gW := mc_30 _ (List.mem_of_getElem? (i := 18) rfl)
theorem k746 : Cond.fieldLink RX12 451 "GroundProverModel" "statementMany" "I" ∈ gW := mc_30 _ (List.mem_of_getElem? (i := 19) rfl)
theorem k281 : Cond.fieldLink RX12 200 "GroundProverModel" "written" "[B" ∈ gW := mc_30 _ (List.mem_of_getElem? (i := 20) rfl)
theorem k312 : Cond.methodLink RL 152 yX12_thrown ∈ gW := mc_30 _ (List.mem_of_getElem? (i := 21) rfl)
theorem k314 : Cond.instanceMethod yX12_thrown ∈ gW := mc_30 _ (List.mem_of_getElem? (i := 22) rfl)
theorem k315 : Cond.selects RX12 yX12_thrown yX12_thrown ∈ gW := mc_30 _ (List.mem_of_getElem? (i := 23) rfl)
theorem k313 : Cond.code yX12_thrown cX12_thrown 1 (some .int) ∈ gW := mc_30 _ (List.mem_of_getElem? (i := 24) rfl)
theorem k308 : Cond.methodLink RL 151 yX12_feed ∈ gW := mc_31 _ (List.mem_of_getElem? (i := 0) rfl)
theorem k310 : Cond.instanceMethod yX12_feed ∈ gW := mc_31 _ (List.mem_of_getElem? (i := 1) rfl)
theorem k311 : Cond.selects RX12 yX12_feed yX12_feed ∈ gW := mc_31 _ (List.mem_of_getElem? (i := 2) rfl)
theorem k309 : Cond.code yX12_feed cX12_feed 6 (some .int) ∈ gW := mc_31 _ (List.mem_of_getElem? (i := 3) rfl)
theorem k334 : Cond.methodLink RX12 248 yX12_fail ∈ gW := mc_31 _ (List.mem_of_getElem? (i := 4) rfl)
theorem k336 : Cond.instanceMethod yX12_fail ∈ gW := mc_31 _ (List.mem_of_getElem? (i := 5) rfl)
theorem k335 : Cond.code yX12_fail cX12_fail 2 (some .int) ∈ gW := mc_31 _ (List.mem_of_getElem? (i := 6) rfl)
theorem k304 : Cond.methodLink RX12 458 yX12_four ∈ gW := mc_31 _ (List.mem_of_getElem? (i := 7) rfl)
theorem k306 : Cond.instanceMethod yX12_four ∈ gW := mc_31 _ (List.mem_of_getElem? (i := 8) rfl)
theorem k305 : Cond.code yX12_four cX12_four 3 none ∈ gW := mc_31 _ (List.mem_of_getElem? (i := 9) rfl)
theorem k327 : Cond.methodLink RL 158 yX12_trim ∈ gW := mc_31 _ (List.mem_of_getElem? (i := 10) rfl)
theorem k329 : Cond.instanceMethod yX12_trim ∈ gW := mc_31 _ (List.mem_of_getElem? (i := 11) rfl)
theorem k330 : Cond.selects RX12 yX12_trim yX12_trim ∈ gW := mc_31 _ (List.mem_of_getElem? (i := 12) rfl)
theorem k328 : Cond.code yX12_trim cX12_trim 2 (some .int) ∈ gW := mc_31 _ (List.mem_of_getElem? (i := 13) rfl)
theorem k365 : Cond.methodLink RL 162 yX12_declare ∈ gW := mc_31 _ (List.mem_of_getElem? (i := 14) rfl)
theorem k367 : Cond.instanceMethod yX12_declare ∈ gW := mc_31 _ (List.mem_of_getElem? (i := 15) rfl)
theorem k368 : Cond.selects RX12 yX12_declare yX12_declare ∈ gW := mc_31 _ (List.mem_of_getElem? (i := 16) rfl)
theorem k366 : Cond.code yX12_declare cX12_declare 4 (some .int) ∈ gW := mc_31 _ (List.mem_of_getElem? (i := 17) rfl)
theorem k361 : Cond.methodLink RX12 461 yX12_isName ∈ gW := mc_31 _ (List.mem_of_getElem? (i := 18) rfl)
theorem k363 : Cond.instanceMethod yX12_isName ∈ gW := mc_31 _ (List.mem_of_getElem? (i := 19) rfl)
theorem k362 : Cond.code yX12_isName cX12_isName 4 (some .boolean) ∈ gW := mc_31 _ (List.mem_of_getElem? (i := 20) rfl)
theorem k544 : Cond.methodLink RX12 433 yX12_isLetter ∈ gW := mc_31 _ (List.mem_of_getElem? (i := 21) rfl)
theorem k546 : Cond.static yX12_isLetter ∈ gW := mc_31 _ (List.mem_of_getElem? (i := 22) rfl)
theorem k545 : Cond.code yX12_isLetter cX12_isLetter 1 (some .boolean) ∈ gW := mc_31 _ (List.mem_of_getElem? (i := 23) rfl)
theorem k376 : Cond.methodLink RL 166 yX12_declareVariable ∈ gW := mc_31 _ (List.mem_of_getElem? (i := 24) rfl)
theorem k378 : Cond.instanceMethod yX12_declareVariable ∈ gW := mc_32 _ (List.mem_of_getElem? (i := 0) rfl)
theorem k379 : Cond.selects RX12 yX12_declareVariable yX12_declareVariable ∈ gW := mc_32 _ (List.mem_of_getElem? (i := 1) rfl)
theorem k377 : Cond.code yX12_declareVariable cX12_declareVariable 2 (some .int) ∈ gW := mc_32 _ (List.mem_of_getElem? (i := 2) rfl)
theorem k390 : Cond.methodLink RL 170 yX12_symbolCount ∈ gW := mc_32 _ (List.mem_of_getElem? (i := 3) rfl)
theorem k392 : Cond.instanceMethod yX12_symbolCount ∈ gW := mc_32 _ (List.mem_of_getElem? (i := 4) rfl)
theorem k393 : Cond.selects RX12 yX12_symbolCount yX12_symbolCount ∈ gW := mc_32 _ (List.mem_of_getElem? (i := 5) rfl)
theorem k391 : Cond.code yX12_symbolCount cX12_symbolCount 1 (some .int) ∈ gW := mc_32 _ (List.mem_of_getElem? (i := 6) rfl)
theorem k417 : Cond.methodLink RL 174 yX12_orderByWeight ∈ gW := mc_32 _ (List.mem_of_getElem? (i := 7) rfl)
theorem k419 : Cond.instanceMethod yX12_orderByWeight ∈ gW := mc_32 _ (List.mem_of_getElem? (i := 8) rfl)
theorem k420 : Cond.selects RX12 yX12_orderByWeight yX12_orderByWeight ∈ gW := mc_32 _ (List.mem_of_getElem? (i := 9) rfl)
theorem k418 : Cond.code yX12_orderByWeight cX12_orderByWeight 3 (some .boolean) ∈ gW := mc_32 _ (List.mem_of_getElem? (i := 10) rfl)
theorem k439 : Cond.methodLink RL 177 yX12_promote ∈ gW := mc_32 _ (List.mem_of_getElem? (i := 11) rfl)
theorem k441 : Cond.instanceMethod yX12_promote ∈ gW := mc_32 _ (List.mem_of_getElem? (i := 12) rfl)
theorem k442 : Cond.selects RX12 yX12_promote yX12_promote ∈ gW := mc_32 _ (List.mem_of_getElem? (i := 13) rfl)
theorem k440 : Cond.code yX12_promote cX12_promote 6 (some .int) ∈ gW := mc_32 _ (List.mem_of_getElem? (i := 14) rfl)
theorem k435 : Cond.methodLink RX12 471 yX12_isSymbol ∈ gW := mc_32 _ (List.mem_of_getElem? (i := 15) rfl)
theorem k437 : Cond.instanceMethod yX12_isSymbol ∈ gW := mc_32 _ (List.mem_of_getElem? (i := 16) rfl)
theorem k436 : Cond.code yX12_isSymbol cX12_isSymbol 2 (some .boolean) ∈ gW := mc_32 _ (List.mem_of_getElem? (i := 17) rfl)
theorem k450 : Cond.methodLink RL 180 yX12_rankOf ∈ gW := mc_32 _ (List.mem_of_getElem? (i := 18) rfl)
theorem k452 : Cond.instanceMethod yX12_rankOf ∈ gW := mc_32 _ (List.mem_of_getElem? (i := 19) rfl)
theorem k453 : Cond.selects RX12 yX12_rankOf yX12_rankOf ∈ gW := mc_32 _ (List.mem_of_getElem? (i := 20) rfl)
theorem k451 : Cond.code yX12_rankOf cX12_rankOf 2 (some .int) ∈ gW := mc_32 _ (List.mem_of_getElem? (i := 21) rfl)
theorem k461 : Cond.methodLink RL 184 yX12_setDirection ∈ gW := mc_32 _ (List.mem_of_getElem? (i := 22) rfl)
theorem k463 : Cond.instanceMethod yX12_setDirection ∈ gW := mc_32 _ (List.mem_of_getElem? (i := 23) rfl)
theorem k464 : Cond.selects RX12 yX12_setDirection yX12_setDirection ∈ gW := mc_32 _ (List.mem_of_getElem? (i := 24) rfl)
theorem k462 : Cond.code yX12_setDirection cX12_setDirection 4 (some .boolean) ∈ gW := mc_33 _ (List.mem_of_getElem? (i := 0) rfl)
theorem k476 : Cond.methodLink RL 188 yX12_term ∈ gW := mc_33 _ (List.mem_of_getElem? (i := 1) rfl)
theorem k478 : Cond.instanceMethod yX12_term ∈ gW := mc_33 _ (List.mem_of_getElem? (i := 2) rfl)
theorem k479 : Cond.selects RX12 yX12_term yX12_term ∈ gW := mc_33 _ (List.mem_of_getElem? (i := 3) rfl)
theorem k477 : Cond.code yX12_term cX12_term 7 (some .int) ∈ gW := mc_33 _ (List.mem_of_getElem? (i := 4) rfl)
theorem k604 : Cond.methodLink RX12 474 yX12_isNumber ∈ gW := mc_33 _ (List.mem_of_getElem? (i := 5) rfl)
theorem k606 : Cond.instanceMethod yX12_isNumber ∈ gW := mc_33 _ (List.mem_of_getElem? (i := 6) rfl)
theorem k605 : Cond.code yX12_isNumber cX12_isNumber 2 (some .boolean) ∈ gW := mc_33 _ (List.mem_of_getElem? (i := 7) rfl)
theorem k555 : Cond.methodLink RL 191 yX12_read ∈ gW := mc_33 _ (List.mem_of_getElem? (i := 8) rfl)
theorem k557 : Cond.instanceMethod yX12_read ∈ gW := mc_33 _ (List.mem_of_getElem? (i := 9) rfl)
theorem k558 : Cond.selects RX12 yX12_read yX12_read ∈ gW := mc_33 _ (List.mem_of_getElem? (i := 10) rfl)
theorem k556 : Cond.code yX12_read cX12_read 2 (some .int) ∈ gW := mc_33 _ (List.mem_of_getElem? (i := 11) rfl)
theorem k536 : Cond.methodLink RX12 480 yX12_beginText ∈ gW := mc_33 _ (List.mem_of_getElem? (i := 12) rfl)
theorem k538 : Cond.instanceMethod yX12_beginText ∈ gW := mc_33 _ (List.mem_of_getElem? (i := 13) rfl)
theorem k537 : Cond.code yX12_beginText cX12_beginText 1 none ∈ gW := mc_33 _ (List.mem_of_getElem? (i := 14) rfl)
theorem k551 : Cond.methodLink RX12 454 yX12_readsTerm ∈ gW := mc_33 _ (List.mem_of_getElem? (i := 15) rfl)
theorem k553 : Cond.instanceMethod yX12_readsTerm ∈ gW := mc_33 _ (List.mem_of_getElem? (i := 16) rfl)
theorem k552 : Cond.code yX12_readsTerm cX12_readsTerm 10 (some .boolean) ∈ gW := mc_33 _ (List.mem_of_getElem? (i := 17) rfl)
theorem k540 : Cond.methodLink RX12 436 yX12_look ∈ gW := mc_33 _ (List.mem_of_getElem? (i := 18) rfl)
theorem k542 : Cond.instanceMethod yX12_look ∈ gW := mc_33 _ (List.mem_of_getElem? (i := 19) rfl)
theorem k541 : Cond.code yX12_look cX12_look 1 (some .int) ∈ gW := mc_33 _ (List.mem_of_getElem? (i := 20) rfl)
theorem k547 : Cond.methodLink RX12 439 yX12_error ∈ gW := mc_33 _ (List.mem_of_getElem? (i := 21) rfl)
theorem k549 : Cond.instanceMethod yX12_error ∈ gW := mc_33 _ (List.mem_of_getElem? (i := 22) rfl)
theorem k548 : Cond.code yX12_error cX12_error 3 (some .boolean) ∈ gW := mc_33 _ (List.mem_of_getElem? (i := 23) rfl)
theorem k567 : Cond.methodLink RL 195 yX12_errorKind ∈ gW := mc_33 _ (List.mem_of_getElem? (i := 24) rfl)
theorem k569 : Cond.instanceMethod yX12_errorKind ∈ gW := mc_34 _ (List.mem_of_getElem? (i := 0) rfl)
theorem k570 : Cond.selects RX12 yX12_errorKind yX12_errorKind ∈ gW := mc_34 _ (List.mem_of_getElem? (i := 1) rfl)
theorem k568 : Cond.code yX12_errorKind cX12_errorKind 1 (some .int) ∈ gW := mc_34 _ (List.mem_of_getElem? (i := 2) rfl)
theorem k579 : Cond.methodLink RL 199 yX12_errorPosition ∈ gW := mc_34 _ (List.mem_of_getElem? (i := 3) rfl)
theorem k581 : Cond.instanceMethod yX12_errorPosition ∈ gW := mc_34 _ (List.mem_of_getElem? (i := 4) rfl)
theorem k582 : Cond.selects RX12 yX12_errorPosition yX12_errorPosition ∈ gW := mc_34 _ (List.mem_of_getElem? (i := 5) rfl)
theorem k580 : Cond.code yX12_errorPosition cX12_errorPosition 1 (some .int) ∈ gW := mc_34 _ (List.mem_of_getElem? (i := 6) rfl)
theorem k589 : Cond.methodLink RL 203 yX12_termCount ∈ gW := mc_34 _ (List.mem_of_getElem? (i := 7) rfl)
theorem k591 : Cond.instanceMethod yX12_termCount ∈ gW := mc_34 _ (List.mem_of_getElem? (i := 8) rfl)
theorem k592 : Cond.selects RX12 yX12_termCount yX12_termCount ∈ gW := mc_34 _ (List.mem_of_getElem? (i := 9) rfl)
theorem k590 : Cond.code yX12_termCount cX12_termCount 1 (some .int) ∈ gW := mc_34 _ (List.mem_of_getElem? (i := 10) rfl)
theorem k608 : Cond.methodLink RL 206 yX12_symbolOf ∈ gW := mc_34 _ (List.mem_of_getElem? (i := 11) rfl)
theorem k610 : Cond.instanceMethod yX12_symbolOf ∈ gW := mc_34 _ (List.mem_of_getElem? (i := 12) rfl)
theorem k611 : Cond.selects RX12 yX12_symbolOf yX12_symbolOf ∈ gW := mc_34 _ (List.mem_of_getElem? (i := 13) rfl)
theorem k609 : Cond.code yX12_symbolOf cX12_symbolOf 2 (some .int) ∈ gW := mc_34 _ (List.mem_of_getElem? (i := 14) rfl)
theorem k619 : Cond.methodLink RL 209 yX12_argument ∈ gW := mc_34 _ (List.mem_of_getElem? (i := 15) rfl)
theorem k621 : Cond.instanceMethod yX12_argument ∈ gW := mc_34 _ (List.mem_of_getElem? (i := 16) rfl)
theorem k622 : Cond.selects RX12 yX12_argument yX12_argument ∈ gW := mc_34 _ (List.mem_of_getElem? (i := 17) rfl)
theorem k620 : Cond.code yX12_argument cX12_argument 3 (some .int) ∈ gW := mc_34 _ (List.mem_of_getElem? (i := 18) rfl)
theorem k630 : Cond.methodLink RL 212 yX12_size ∈ gW := mc_34 _ (List.mem_of_getElem? (i := 19) rfl)
theorem k632 : Cond.instanceMethod yX12_size ∈ gW := mc_34 _ (List.mem_of_getElem? (i := 20) rfl)
theorem k633 : Cond.selects RX12 yX12_size yX12_size ∈ gW := mc_34 _ (List.mem_of_getElem? (i := 21) rfl)
theorem k631 : Cond.code yX12_size cX12_size 2 (some .int) ∈ gW := mc_34 _ (List.mem_of_getElem? (i := 22) rfl)
theorem k641 : Cond.methodLink RL 215 yX12_depth ∈ gW := mc_34 _ (List.mem_of_getElem? (i := 23) rfl)
theorem k643 : Cond.instanceMethod yX12_depth ∈ gW := mc_34 _ (List.mem_of_getElem? (i := 24) rfl)
theorem k644 : Cond.selects RX12 yX12_depth yX12_depth ∈ gW := mc_35 _ (List.mem_of_getElem? (i := 0) rfl)
theorem k642 : Cond.code yX12_depth cX12_depth 2 (some .int) ∈ gW := mc_35 _ (List.mem_of_getElem? (i := 1) rfl)
theorem k652 : Cond.methodLink RL 218 yX12_compare ∈ gW := mc_35 _ (List.mem_of_getElem? (i := 2) rfl)
theorem k654 : Cond.instanceMethod yX12_compare ∈ gW := mc_35 _ (List.mem_of_getElem? (i := 3) rfl)
theorem k655 : Cond.selects RX12 yX12_compare yX12_compare ∈ gW := mc_35 _ (List.mem_of_getElem? (i := 4) rfl)
theorem k653 : Cond.code yX12_compare cX12_compare 3 (some .int) ∈ gW := mc_35 _ (List.mem_of_getElem? (i := 5) rfl)
theorem k663 : Cond.methodLink RL 221 yX12_occurrences ∈ gW := mc_35 _ (List.mem_of_getElem? (i := 6) rfl)
theorem k665 : Cond.instanceMethod yX12_occurrences ∈ gW := mc_35 _ (List.mem_of_getElem? (i := 7) rfl)
theorem k666 : Cond.selects RX12 yX12_occurrences yX12_occurrences ∈ gW := mc_35 _ (List.mem_of_getElem? (i := 8) rfl)
theorem k664 : Cond.code yX12_occurrences cX12_occurrences 8 (some .int) ∈ gW := mc_35 _ (List.mem_of_getElem? (i := 9) rfl)
theorem k674 : Cond.methodLink RL 225 yX12_replace ∈ gW := mc_35 _ (List.mem_of_getElem? (i := 10) rfl)
theorem k676 : Cond.instanceMethod yX12_replace ∈ gW := mc_35 _ (List.mem_of_getElem? (i := 11) rfl)
theorem k677 : Cond.selects RX12 yX12_replace yX12_replace ∈ gW := mc_35 _ (List.mem_of_getElem? (i := 12) rfl)
theorem k675 : Cond.code yX12_replace cX12_replace 10 (some .int) ∈ gW := mc_35 _ (List.mem_of_getElem? (i := 13) rfl)
theorem k685 : Cond.methodLink RL 228 yX12_write ∈ gW := mc_35 _ (List.mem_of_getElem? (i := 14) rfl)
theorem k687 : Cond.instanceMethod yX12_write ∈ gW := mc_35 _ (List.mem_of_getElem? (i := 15) rfl)
theorem k688 : Cond.selects RX12 yX12_write yX12_write ∈ gW := mc_35 _ (List.mem_of_getElem? (i := 16) rfl)
theorem k686 : Cond.code yX12_write cX12_write 9 (some .int) ∈ gW := mc_35 _ (List.mem_of_getElem? (i := 17) rfl)
theorem k702 : Cond.methodLink RL 231 yX12_outputByte ∈ gW := mc_35 _ (List.mem_of_getElem? (i := 18) rfl)
theorem k704 : Cond.instanceMethod yX12_outputByte ∈ gW := mc_35 _ (List.mem_of_getElem? (i := 19) rfl)
theorem k705 : Cond.selects RX12 yX12_outputByte yX12_outputByte ∈ gW := mc_35 _ (List.mem_of_getElem? (i := 20) rfl)
theorem k703 : Cond.code yX12_outputByte cX12_outputByte 2 (some .int) ∈ gW := mc_35 _ (List.mem_of_getElem? (i := 21) rfl)
theorem k713 : Cond.methodLink RL 234 yX12_equate ∈ gW := mc_35 _ (List.mem_of_getElem? (i := 22) rfl)
theorem k715 : Cond.instanceMethod yX12_equate ∈ gW := mc_35 _ (List.mem_of_getElem? (i := 23) rfl)
theorem k716 : Cond.selects RX12 yX12_equate yX12_equate ∈ gW := mc_35 _ (List.mem_of_getElem? (i := 24) rfl)
theorem k714 : Cond.code yX12_equate cX12_equate 4 (some .int) ∈ gW := mc_36 _ (List.mem_of_getElem? (i := 0) rfl)
theorem k724 : Cond.methodLink RL 237 yX12_separate ∈ gW := mc_36 _ (List.mem_of_getElem? (i := 1) rfl)
theorem k726 : Cond.instanceMethod yX12_separate ∈ gW := mc_36 _ (List.mem_of_getElem? (i := 2) rfl)
theorem k727 : Cond.selects RX12 yX12_separate yX12_separate ∈ gW := mc_36 _ (List.mem_of_getElem? (i := 3) rfl)
theorem k725 : Cond.code yX12_separate cX12_separate 4 (some .int) ∈ gW := mc_36 _ (List.mem_of_getElem? (i := 4) rfl)
theorem k753 : Cond.methodLink RL 240 yX12_readTheory ∈ gW := mc_36 _ (List.mem_of_getElem? (i := 5) rfl)
theorem k755 : Cond.instanceMethod yX12_readTheory ∈ gW := mc_36 _ (List.mem_of_getElem? (i := 6) rfl)
theorem k756 : Cond.selects RX12 yX12_readTheory yX12_readTheory ∈ gW := mc_36 _ (List.mem_of_getElem? (i := 7) rfl)
theorem k754 : Cond.code yX12_readTheory cX12_readTheory 9 (some .int) ∈ gW := mc_36 _ (List.mem_of_getElem? (i := 8) rfl)
theorem k747 : Cond.methodLink RX12 501 yX12_readsTheory ∈ gW := mc_36 _ (List.mem_of_getElem? (i := 9) rfl)
theorem k749 : Cond.instanceMethod yX12_readsTheory ∈ gW := mc_36 _ (List.mem_of_getElem? (i := 10) rfl)
theorem k748 : Cond.code yX12_readsTheory cX12_readsTheory 3 (some .boolean) ∈ gW := mc_36 _ (List.mem_of_getElem? (i := 11) rfl)
theorem k761 : Cond.methodLink RL 244 yX12_equationCount ∈ gW := mc_36 _ (List.mem_of_getElem? (i := 12) rfl)
theorem k763 : Cond.instanceMethod yX12_equationCount ∈ gW := mc_36 _ (List.mem_of_getElem? (i := 13) rfl)
theorem k764 : Cond.selects RX12 yX12_equationCount yX12_equationCount ∈ gW := mc_36 _ (List.mem_of_getElem? (i := 14) rfl)
theorem k762 : Cond.code yX12_equationCount cX12_equationCount 1 (some .int) ∈ gW := mc_36 _ (List.mem_of_getElem? (i := 15) rfl)
theorem k769 : Cond.methodLink RL 248 yX12_separationCount ∈ gW := mc_36 _ (List.mem_of_getElem? (i := 16) rfl)
theorem k771 : Cond.instanceMethod yX12_separationCount ∈ gW := mc_36 _ (List.mem_of_getElem? (i := 17) rfl)
theorem k772 : Cond.selects RX12 yX12_separationCount yX12_separationCount ∈ gW := mc_36 _ (List.mem_of_getElem? (i := 18) rfl)
theorem k770 : Cond.code yX12_separationCount cX12_separationCount 1 (some .int) ∈ gW := mc_36 _ (List.mem_of_getElem? (i := 19) rfl)
theorem k786 : Cond.methodLink RL 253 yX12_isConsistent ∈ gW := mc_36 _ (List.mem_of_getElem? (i := 20) rfl)
theorem k788 : Cond.instanceMethod yX12_isConsistent ∈ gW := mc_36 _ (List.mem_of_getElem? (i := 21) rfl)
theorem k789 : Cond.selects RX12 yX12_isConsistent yX12_isConsistent ∈ gW := mc_36 _ (List.mem_of_getElem? (i := 22) rfl)
theorem k787 : Cond.code yX12_isConsistent cX12_isConsistent 1 (some .boolean) ∈ gW := mc_36 _ (List.mem_of_getElem? (i := 23) rfl)
theorem k782 : Cond.methodLink RX12 505 yX12_firstConflict ∈ gW := mc_36 _ (List.mem_of_getElem? (i := 24) rfl)
theorem k784 : Cond.instanceMethod yX12_firstConflict ∈ gW := mc_37 _ (List.mem_of_getElem? (i := 0) rfl)
theorem k783 : Cond.code yX12_firstConflict cX12_firstConflict 2 (some .int) ∈ gW := mc_37 _ (List.mem_of_getElem? (i := 1) rfl)
theorem k800 : Cond.methodLink RL 256 yX12_conflict ∈ gW := mc_37 _ (List.mem_of_getElem? (i := 2) rfl)
theorem k802 : Cond.instanceMethod yX12_conflict ∈ gW := mc_37 _ (List.mem_of_getElem? (i := 3) rfl)
theorem k803 : Cond.selects RX12 yX12_conflict yX12_conflict ∈ gW := mc_37 _ (List.mem_of_getElem? (i := 4) rfl)
theorem k801 : Cond.code yX12_conflict cX12_conflict 2 (some .int) ∈ gW := mc_37 _ (List.mem_of_getElem? (i := 5) rfl)
theorem k819 : Cond.methodLink RL 259 yX12_push_ ∈ gW := mc_37 _ (List.mem_of_getElem? (i := 6) rfl)
theorem k821 : Cond.instanceMethod yX12_push_ ∈ gW := mc_37 _ (List.mem_of_getElem? (i := 7) rfl)
theorem k822 : Cond.selects RX12 yX12_push_ yX12_push_ ∈ gW := mc_37 _ (List.mem_of_getElem? (i := 8) rfl)
theorem k820 : Cond.code yX12_push_ cX12_push_ 1 (some .int) ∈ gW := mc_37 _ (List.mem_of_getElem? (i := 9) rfl)
theorem k833 : Cond.methodLink RL 262 yX12_pop ∈ gW := mc_37 _ (List.mem_of_getElem? (i := 10) rfl)
theorem k835 : Cond.instanceMethod yX12_pop ∈ gW := mc_37 _ (List.mem_of_getElem? (i := 11) rfl)
theorem k836 : Cond.selects RX12 yX12_pop yX12_pop ∈ gW := mc_37 _ (List.mem_of_getElem? (i := 12) rfl)
theorem k834 : Cond.code yX12_pop cX12_pop 2 (some .int) ∈ gW := mc_37 _ (List.mem_of_getElem? (i := 13) rfl)
theorem k843 : Cond.methodLink RL 266 yX12_ruleCount ∈ gW := mc_37 _ (List.mem_of_getElem? (i := 14) rfl)
theorem k845 : Cond.instanceMethod yX12_ruleCount ∈ gW := mc_37 _ (List.mem_of_getElem? (i := 15) rfl)
theorem k846 : Cond.selects RX12 yX12_ruleCount yX12_ruleCount ∈ gW := mc_37 _ (List.mem_of_getElem? (i := 16) rfl)
theorem k844 : Cond.code yX12_ruleCount cX12_ruleCount 1 (some .int) ∈ gW := mc_37 _ (List.mem_of_getElem? (i := 17) rfl)
theorem k854 : Cond.methodLink RL 269 yX12_ruleLeft ∈ gW := mc_37 _ (List.mem_of_getElem? (i := 18) rfl)
theorem k856 : Cond.instanceMethod yX12_ruleLeft ∈ gW := mc_37 _ (List.mem_of_getElem? (i := 19) rfl)
theorem k857 : Cond.selects RX12 yX12_ruleLeft yX12_ruleLeft ∈ gW := mc_37 _ (List.mem_of_getElem? (i := 20) rfl)
theorem k855 : Cond.code yX12_ruleLeft cX12_ruleLeft 2 (some .int) ∈ gW := mc_37 _ (List.mem_of_getElem? (i := 21) rfl)
theorem k865 : Cond.methodLink RL 272 yX12_ruleRight ∈ gW := mc_37 _ (List.mem_of_getElem? (i := 22) rfl)
theorem k867 : Cond.instanceMethod yX12_ruleRight ∈ gW := mc_37 _ (List.mem_of_getElem? (i := 23) rfl)
theorem k868 : Cond.selects RX12 yX12_ruleRight yX12_ruleRight ∈ gW := mc_37 _ (List.mem_of_getElem? (i := 24) rfl)
theorem k866 : Cond.code yX12_ruleRight cX12_ruleRight 2 (some .int) ∈ gW := mc_38 _ (List.mem_of_getElem? (i := 0) rfl)
theorem k876 : Cond.methodLink RL 275 yX12_normalForm ∈ gW := mc_38 _ (List.mem_of_getElem? (i := 1) rfl)
theorem k878 : Cond.instanceMethod yX12_normalForm ∈ gW := mc_38 _ (List.mem_of_getElem? (i := 2) rfl)
theorem k879 : Cond.selects RX12 yX12_normalForm yX12_normalForm ∈ gW := mc_38 _ (List.mem_of_getElem? (i := 3) rfl)
theorem k877 : Cond.code yX12_normalForm cX12_normalForm 2 (some .int) ∈ gW := mc_38 _ (List.mem_of_getElem? (i := 4) rfl)
theorem k887 : Cond.methodLink RL 278 yX12_areEqual ∈ gW := mc_38 _ (List.mem_of_getElem? (i := 5) rfl)
theorem k889 : Cond.instanceMethod yX12_areEqual ∈ gW := mc_38 _ (List.mem_of_getElem? (i := 6) rfl)
theorem k890 : Cond.selects RX12 yX12_areEqual yX12_areEqual ∈ gW := mc_38 _ (List.mem_of_getElem? (i := 7) rfl)
theorem k888 : Cond.code yX12_areEqual cX12_areEqual 3 (some .boolean) ∈ gW := mc_38 _ (List.mem_of_getElem? (i := 8) rfl)
theorem k898 : Cond.methodLink RL 281 yX12_dependsOn ∈ gW := mc_38 _ (List.mem_of_getElem? (i := 9) rfl)
theorem k900 : Cond.instanceMethod yX12_dependsOn ∈ gW := mc_38 _ (List.mem_of_getElem? (i := 10) rfl)
theorem k901 : Cond.selects RX12 yX12_dependsOn yX12_dependsOn ∈ gW := mc_38 _ (List.mem_of_getElem? (i := 11) rfl)
theorem k899 : Cond.code yX12_dependsOn cX12_dependsOn 4 (some .boolean) ∈ gW := mc_38 _ (List.mem_of_getElem? (i := 12) rfl)
theorem k909 : Cond.methodLink RL 284 yX12_stepCount ∈ gW := mc_38 _ (List.mem_of_getElem? (i := 13) rfl)
theorem k911 : Cond.instanceMethod yX12_stepCount ∈ gW := mc_38 _ (List.mem_of_getElem? (i := 14) rfl)
theorem k912 : Cond.selects RX12 yX12_stepCount yX12_stepCount ∈ gW := mc_38 _ (List.mem_of_getElem? (i := 15) rfl)
theorem k910 : Cond.code yX12_stepCount cX12_stepCount 3 (some .int) ∈ gW := mc_38 _ (List.mem_of_getElem? (i := 16) rfl)
theorem k920 : Cond.methodLink RL 287 yX12_afterSteps ∈ gW := mc_38 _ (List.mem_of_getElem? (i := 17) rfl)
theorem k922 : Cond.instanceMethod yX12_afterSteps ∈ gW := mc_38 _ (List.mem_of_getElem? (i := 18) rfl)
theorem k923 : Cond.selects RX12 yX12_afterSteps yX12_afterSteps ∈ gW := mc_38 _ (List.mem_of_getElem? (i := 19) rfl)
theorem k921 : Cond.code yX12_afterSteps cX12_afterSteps 4 (some .int) ∈ gW := mc_38 _ (List.mem_of_getElem? (i := 20) rfl)
theorem k931 : Cond.methodLink RL 290 yX12_countOfSize ∈ gW := mc_38 _ (List.mem_of_getElem? (i := 21) rfl)
theorem k933 : Cond.instanceMethod yX12_countOfSize ∈ gW := mc_38 _ (List.mem_of_getElem? (i := 22) rfl)
theorem k934 : Cond.selects RX12 yX12_countOfSize yX12_countOfSize ∈ gW := mc_38 _ (List.mem_of_getElem? (i := 23) rfl)
theorem k932 : Cond.code yX12_countOfSize cX12_countOfSize 3 (some .long) ∈ gW := mc_38 _ (List.mem_of_getElem? (i := 24) rfl)
theorem k942 : Cond.methodLink RL 293 yX12_isFinite ∈ gW := mc_39 _ (List.mem_of_getElem? (i := 0) rfl)
theorem k944 : Cond.instanceMethod yX12_isFinite ∈ gW := mc_39 _ (List.mem_of_getElem? (i := 1) rfl)
theorem k945 : Cond.selects RX12 yX12_isFinite yX12_isFinite ∈ gW := mc_39 _ (List.mem_of_getElem? (i := 2) rfl)
theorem k943 : Cond.code yX12_isFinite cX12_isFinite 2 (some .boolean) ∈ gW := mc_39 _ (List.mem_of_getElem? (i := 3) rfl)
theorem k953 : Cond.methodLink RL 296 yX12_smallest ∈ gW := mc_39 _ (List.mem_of_getElem? (i := 4) rfl)
theorem k955 : Cond.instanceMethod yX12_smallest ∈ gW := mc_39 _ (List.mem_of_getElem? (i := 5) rfl)
theorem k956 : Cond.selects RX12 yX12_smallest yX12_smallest ∈ gW := mc_39 _ (List.mem_of_getElem? (i := 6) rfl)
theorem k954 : Cond.code yX12_smallest cX12_smallest 2 (some .int) ∈ gW := mc_39 _ (List.mem_of_getElem? (i := 7) rfl)
theorem k964 : Cond.methodLink RL 299 yX12_match ∈ gW := mc_39 _ (List.mem_of_getElem? (i := 8) rfl)
theorem k966 : Cond.instanceMethod yX12_match ∈ gW := mc_39 _ (List.mem_of_getElem? (i := 9) rfl)
theorem k967 : Cond.selects RX12 yX12_match yX12_match ∈ gW := mc_39 _ (List.mem_of_getElem? (i := 10) rfl)
theorem k965 : Cond.code yX12_match cX12_match 5 (some .int) ∈ gW := mc_39 _ (List.mem_of_getElem? (i := 11) rfl)
theorem k977 : Cond.methodLink RL 302 yX12_solution ∈ gW := mc_39 _ (List.mem_of_getElem? (i := 12) rfl)
theorem k979 : Cond.instanceMethod yX12_solution ∈ gW := mc_39 _ (List.mem_of_getElem? (i := 13) rfl)
theorem k980 : Cond.selects RX12 yX12_solution yX12_solution ∈ gW := mc_39 _ (List.mem_of_getElem? (i := 14) rfl)
theorem k978 : Cond.code yX12_solution cX12_solution 4 (some .int) ∈ gW := mc_39 _ (List.mem_of_getElem? (i := 15) rfl)
theorem k989 : Cond.methodLink RL 307 yX12_digest ∈ gW := mc_39 _ (List.mem_of_getElem? (i := 16) rfl)
theorem k991 : Cond.instanceMethod yX12_digest ∈ gW := mc_39 _ (List.mem_of_getElem? (i := 17) rfl)
theorem k992 : Cond.selects RX12 yX12_digest yX12_digest ∈ gW := mc_39 _ (List.mem_of_getElem? (i := 18) rfl)
theorem k990 : Cond.code yX12_digest cX12_digest 4 (some .long) ∈ gW := mc_39 _ (List.mem_of_getElem? (i := 19) rfl)
theorem k987 : Cond.constantLong RX12 534 527 ∈ gW := mc_39 _ (List.mem_of_getElem? (i := 20) rfl)
theorem k988 : Cond.constantLong RX12 536 31 ∈ gW := mc_39 _ (List.mem_of_getElem? (i := 21) rfl)
theorem ka_int : Cond.arrayClass .int ∈ gW := k993
theorem ka_byte : Cond.arrayClass .byte ∈ gW := k994
theorem ka_boolean : Cond.arrayClass .boolean ∈ gW := k995
theorem ka_long : Cond.arrayClass .long ∈ gW := k996
theorem tk0 : ∀ w ∈ k2_sels lw_privs, w ∈ lw_tbl := fun _ h => List.mem_append_left _ h
theorem tk1 : ∀ w ∈ tables_1_1, w ∈ lw_tbl := fun _ h => List.mem_append_right _ (List.mem_append_left _ h)
theorem tk2 : ∀ w ∈ tables_1_2, w ∈ lw_tbl := fun _ h => List.mem_append_right _ (List.mem_append_right _ (List.mem_append_left _ h))
theorem tk3 : ∀ w ∈ tables_1_3, w ∈ lw_tbl := fun _ h => List.mem_append_right _ (List.mem_append_right _ (List.mem_append_right _ (List.mem_append_left _ h)))
theorem tk4 : ∀ w ∈ tables_1_4, w ∈ lw_tbl := fun _ h => List.mem_append_right _ (List.mem_append_right _ (List.mem_append_right _ (List.mem_append_right _ (List.mem_append_left _ h))))
theorem tk5 : ∀ w ∈ tables_1_5, w ∈ lw_tbl := fun _ h => List.mem_append_right _ (List.mem_append_right _ (List.mem_append_right _ (List.mem_append_right _ (List.mem_append_right _ (List.mem_append_left _ h)))))
theorem tk6 : ∀ w ∈ tables_1_6, w ∈ lw_tbl := fun _ h => List.mem_append_right _ (List.mem_append_right _ (List.mem_append_right _ (List.mem_append_right _ (List.mem_append_right _ (List.mem_append_right _ (List.mem_append_left _ h))))))
theorem tk7 : ∀ w ∈ tables_1_7, w ∈ lw_tbl := fun _ h => List.mem_append_right _ (List.mem_append_right _ (List.mem_append_right _ (List.mem_append_right _ (List.mem_append_right _ (List.mem_append_right _ (List.mem_append_right _ (List.mem_append_left _ h)))))))
theorem tk8 : ∀ w ∈ tables_1_8, w ∈ lw_tbl := fun _ h => List.mem_append_right _ (List.mem_append_right _ (List.mem_append_right _ (List.mem_append_right _ (List.mem_append_right _ (List.mem_append_right _ (List.mem_append_right _ (List.mem_append_right _ (List.mem_append_left _ h))))))))
theorem tk9 : ∀ w ∈ tables_1_9, w ∈ lw_tbl := fun _ h => List.mem_append_right _ (List.mem_append_right _ (List.mem_append_right _ (List.mem_append_right _ (List.mem_append_right _ (List.mem_append_right _ (List.mem_append_right _ (List.mem_append_right _ (List.mem_append_right _ (List.mem_append_left _ h)))))))))
theorem tk10 : ∀ w ∈ tables_1_10, w ∈ lw_tbl := fun _ h => List.mem_append_right _ (List.mem_append_right _ (List.mem_append_right _ (List.mem_append_right _ (List.mem_append_right _ (List.mem_append_right _ (List.mem_append_right _ (List.mem_append_right _ (List.mem_append_right _ (List.mem_append_right _ (List.mem_append_left _ h))))))))))
theorem tk11 : ∀ w ∈ tables_1_11, w ∈ lw_tbl := fun _ h => List.mem_append_right _ (List.mem_append_right _ (List.mem_append_right _ (List.mem_append_right _ (List.mem_append_right _ (List.mem_append_right _ (List.mem_append_right _ (List.mem_append_right _ (List.mem_append_right _ (List.mem_append_right _ (List.mem_append_right _ (List.mem_append_left _ h)))))))))))
theorem tk12 : ∀ w ∈ tables_1_12, w ∈ lw_tbl := fun _ h => List.mem_append_right _ (List.mem_append_right _ (List.mem_append_right _ (List.mem_append_right _ (List.mem_append_right _ (List.mem_append_right _ (List.mem_append_right _ (List.mem_append_right _ (List.mem_append_right _ (List.mem_append_right _ (List.mem_append_right _ (List.mem_append_right _ (h))))))))))))
set_option maxRecDepth 100000 in
theorem tb_0 : ∀ w ∈ gW_0, w ∈ lw_tbl := List.forall_mem_cons.mpr ⟨tk0 _ (List.mem_of_getElem? (i := 0) rfl), List.forall_mem_cons.mpr ⟨tk0 _ (List.mem_of_getElem? (i := 9) rfl), List.forall_mem_cons.mpr ⟨tk0 _ (List.mem_of_getElem? (i := 12) rfl), List.forall_mem_cons.mpr ⟨tk0 _ (List.mem_of_getElem? (i := 14) rfl), List.forall_mem_cons.mpr ⟨tk0 _ (List.mem_of_getElem? (i := 15) rfl), List.forall_mem_cons.mpr ⟨tk0 _ (List.mem_of_getElem? (i := 16) rfl), List.forall_mem_cons.mpr ⟨tk0 _ (List.mem_of_getElem? (i := 17) rfl), List.forall_mem_cons.mpr ⟨tk0 _ (List.mem_of_getElem? (i := 18) rfl), List.forall_mem_cons.mpr ⟨tk0 _ (List.mem_of_getElem? (i := 19) rfl), List.forall_mem_cons.mpr ⟨tk0 _ (List.mem_of_getElem? (i := 55) rfl), List.forall_mem_cons.mpr ⟨tk0 _ (List.mem_of_getElem? (i := 56) rfl), List.forall_mem_cons.mpr ⟨tk0 _ (List.mem_of_getElem? (i := 57) rfl), List.forall_mem_cons.mpr ⟨tk0 _ (List.mem_of_getElem? (i := 60) rfl), List.forall_mem_cons.mpr ⟨tk0 _ (List.mem_of_getElem? (i := 61) rfl), List.forall_mem_cons.mpr ⟨tk0 _ (List.mem_of_getElem? (i := 69) rfl), List.forall_mem_cons.mpr ⟨tk0 _ (List.mem_of_getElem? (i := 70) rfl), List.forall_mem_cons.mpr ⟨tk0 _ (List.mem_of_getElem? (i := 71) rfl), List.forall_mem_cons.mpr ⟨tk0 _ (List.mem_of_getElem? (i := 72) rfl), List.forall_mem_cons.mpr ⟨tk0 _ (List.mem_of_getElem? (i := 102) rfl), List.forall_mem_cons.mpr ⟨tk0 _ (List.mem_of_getElem? (i := 103) rfl), List.forall_mem_cons.mpr ⟨tk1 _ (List.mem_of_getElem? (i := 0) rfl), List.forall_mem_cons.mpr ⟨tk1 _ (List.mem_of_getElem? (i := 1) rfl), List.forall_mem_cons.mpr ⟨tk1 _ (List.mem_of_getElem? (i := 2) rfl), List.forall_mem_cons.mpr ⟨tk1 _ (List.mem_of_getElem? (i := 3) rfl), List.forall_mem_cons.mpr ⟨tk1 _ (List.mem_of_getElem? (i := 4) rfl), fun _ h => absurd h List.not_mem_nil⟩⟩⟩⟩⟩⟩⟩⟩⟩⟩⟩⟩⟩⟩⟩⟩⟩⟩⟩⟩⟩⟩⟩⟩⟩
set_option maxRecDepth 100000 in
theorem tb_1 : ∀ w ∈ gW_1, w ∈ lw_tbl := List.forall_mem_cons.mpr ⟨tk1 _ (List.mem_of_getElem? (i := 5) rfl), List.forall_mem_cons.mpr ⟨tk1 _ (List.mem_of_getElem? (i := 6) rfl), List.forall_mem_cons.mpr ⟨tk1 _ (List.mem_of_getElem? (i := 7) rfl), List.forall_mem_cons.mpr ⟨tk1 _ (List.mem_of_getElem? (i := 8) rfl), List.forall_mem_cons.mpr ⟨tk1 _ (List.mem_of_getElem? (i := 9) rfl), List.forall_mem_cons.mpr ⟨tk1 _ (List.mem_of_getElem? (i := 10) rfl), List.forall_mem_cons.mpr ⟨tk1 _ (List.mem_of_getElem? (i := 11) rfl), List.forall_mem_cons.mpr ⟨tk1 _ (List.mem_of_getElem? (i := 12) rfl), List.forall_mem_cons.mpr ⟨tk1 _ (List.mem_of_getElem? (i := 13) rfl), List.forall_mem_cons.mpr ⟨tk1 _ (List.mem_of_getElem? (i := 14) rfl), List.forall_mem_cons.mpr ⟨tk1 _ (List.mem_of_getElem? (i := 18) rfl), List.forall_mem_cons.mpr ⟨tk1 _ (List.mem_of_getElem? (i := 19) rfl), List.forall_mem_cons.mpr ⟨tk1 _ (List.mem_of_getElem? (i := 20) rfl), List.forall_mem_cons.mpr ⟨tk1 _ (List.mem_of_getElem? (i := 24) rfl), List.forall_mem_cons.mpr ⟨tk1 _ (List.mem_of_getElem? (i := 26) rfl), List.forall_mem_cons.mpr ⟨tk1 _ (List.mem_of_getElem? (i := 27) rfl), List.forall_mem_cons.mpr ⟨tk1 _ (List.mem_of_getElem? (i := 28) rfl), List.forall_mem_cons.mpr ⟨tk1 _ (List.mem_of_getElem? (i := 29) rfl), List.forall_mem_cons.mpr ⟨tk1 _ (List.mem_of_getElem? (i := 30) rfl), List.forall_mem_cons.mpr ⟨tk1 _ (List.mem_of_getElem? (i := 31) rfl), List.forall_mem_cons.mpr ⟨tk1 _ (List.mem_of_getElem? (i := 32) rfl), List.forall_mem_cons.mpr ⟨tk1 _ (List.mem_of_getElem? (i := 33) rfl), List.forall_mem_cons.mpr ⟨tk1 _ (List.mem_of_getElem? (i := 34) rfl), List.forall_mem_cons.mpr ⟨tk1 _ (List.mem_of_getElem? (i := 35) rfl), List.forall_mem_cons.mpr ⟨tk1 _ (List.mem_of_getElem? (i := 37) rfl), fun _ h => absurd h List.not_mem_nil⟩⟩⟩⟩⟩⟩⟩⟩⟩⟩⟩⟩⟩⟩⟩⟩⟩⟩⟩⟩⟩⟩⟩⟩⟩
set_option maxRecDepth 100000 in
theorem tb_2 : ∀ w ∈ gW_2, w ∈ lw_tbl := List.forall_mem_cons.mpr ⟨tk1 _ (List.mem_of_getElem? (i := 38) rfl), List.forall_mem_cons.mpr ⟨tk1 _ (List.mem_of_getElem? (i := 39) rfl), List.forall_mem_cons.mpr ⟨tk1 _ (List.mem_of_getElem? (i := 40) rfl), List.forall_mem_cons.mpr ⟨tk1 _ (List.mem_of_getElem? (i := 41) rfl), List.forall_mem_cons.mpr ⟨tk1 _ (List.mem_of_getElem? (i := 42) rfl), List.forall_mem_cons.mpr ⟨tk1 _ (List.mem_of_getElem? (i := 43) rfl), List.forall_mem_cons.mpr ⟨tk1 _ (List.mem_of_getElem? (i := 44) rfl), List.forall_mem_cons.mpr ⟨tk1 _ (List.mem_of_getElem? (i := 45) rfl), List.forall_mem_cons.mpr ⟨tk1 _ (List.mem_of_getElem? (i := 46) rfl), List.forall_mem_cons.mpr ⟨tk1 _ (List.mem_of_getElem? (i := 47) rfl), List.forall_mem_cons.mpr ⟨tk1 _ (List.mem_of_getElem? (i := 49) rfl), List.forall_mem_cons.mpr ⟨tk1 _ (List.mem_of_getElem? (i := 50) rfl), List.forall_mem_cons.mpr ⟨tk1 _ (List.mem_of_getElem? (i := 74) rfl), List.forall_mem_cons.mpr ⟨tk1 _ (List.mem_of_getElem? (i := 75) rfl), List.forall_mem_cons.mpr ⟨tk1 _ (List.mem_of_getElem? (i := 76) rfl), List.forall_mem_cons.mpr ⟨tk1 _ (List.mem_of_getElem? (i := 77) rfl), List.forall_mem_cons.mpr ⟨tk1 _ (List.mem_of_getElem? (i := 78) rfl), List.forall_mem_cons.mpr ⟨tk1 _ (List.mem_of_getElem? (i := 79) rfl), List.forall_mem_cons.mpr ⟨tk1 _ (List.mem_of_getElem? (i := 80) rfl), List.forall_mem_cons.mpr ⟨tk1 _ (List.mem_of_getElem? (i := 81) rfl), List.forall_mem_cons.mpr ⟨tk1 _ (List.mem_of_getElem? (i := 82) rfl), List.forall_mem_cons.mpr ⟨tk1 _ (List.mem_of_getElem? (i := 83) rfl), List.forall_mem_cons.mpr ⟨tk1 _ (List.mem_of_getElem? (i := 84) rfl), List.forall_mem_cons.mpr ⟨tk1 _ (List.mem_of_getElem? (i := 85) rfl), List.forall_mem_cons.mpr ⟨tk1 _ (List.mem_of_getElem? (i := 86) rfl), fun _ h => absurd h List.not_mem_nil⟩⟩⟩⟩⟩⟩⟩⟩⟩⟩⟩⟩⟩⟩⟩⟩⟩⟩⟩⟩⟩⟩⟩⟩⟩
set_option maxRecDepth 100000 in
theorem tb_3 : ∀ w ∈ gW_3, w ∈ lw_tbl := List.forall_mem_cons.mpr ⟨tk1 _ (List.mem_of_getElem? (i := 87) rfl), List.forall_mem_cons.mpr ⟨tk1 _ (List.mem_of_getElem? (i := 88) rfl), List.forall_mem_cons.mpr ⟨tk1 _ (List.mem_of_getElem? (i := 89) rfl), List.forall_mem_cons.mpr ⟨tk1 _ (List.mem_of_getElem? (i := 90) rfl), List.forall_mem_cons.mpr ⟨tk1 _ (List.mem_of_getElem? (i := 91) rfl), List.forall_mem_cons.mpr ⟨tk1 _ (List.mem_of_getElem? (i := 92) rfl), List.forall_mem_cons.mpr ⟨tk1 _ (List.mem_of_getElem? (i := 93) rfl), List.forall_mem_cons.mpr ⟨tk1 _ (List.mem_of_getElem? (i := 95) rfl), List.forall_mem_cons.mpr ⟨tk1 _ (List.mem_of_getElem? (i := 99) rfl), List.forall_mem_cons.mpr ⟨tk1 _ (List.mem_of_getElem? (i := 100) rfl), List.forall_mem_cons.mpr ⟨tk1 _ (List.mem_of_getElem? (i := 101) rfl), List.forall_mem_cons.mpr ⟨tk1 _ (List.mem_of_getElem? (i := 102) rfl), List.forall_mem_cons.mpr ⟨tk1 _ (List.mem_of_getElem? (i := 103) rfl), List.forall_mem_cons.mpr ⟨tk1 _ (List.mem_of_getElem? (i := 104) rfl), List.forall_mem_cons.mpr ⟨tk1 _ (List.mem_of_getElem? (i := 105) rfl), List.forall_mem_cons.mpr ⟨tk1 _ (List.mem_of_getElem? (i := 106) rfl), List.forall_mem_cons.mpr ⟨tk1 _ (List.mem_of_getElem? (i := 107) rfl), List.forall_mem_cons.mpr ⟨tk1 _ (List.mem_of_getElem? (i := 108) rfl), List.forall_mem_cons.mpr ⟨tk1 _ (List.mem_of_getElem? (i := 111) rfl), List.forall_mem_cons.mpr ⟨tk1 _ (List.mem_of_getElem? (i := 113) rfl), List.forall_mem_cons.mpr ⟨tk1 _ (List.mem_of_getElem? (i := 141) rfl), List.forall_mem_cons.mpr ⟨tk1 _ (List.mem_of_getElem? (i := 142) rfl), List.forall_mem_cons.mpr ⟨tk1 _ (List.mem_of_getElem? (i := 143) rfl), List.forall_mem_cons.mpr ⟨tk1 _ (List.mem_of_getElem? (i := 144) rfl), List.forall_mem_cons.mpr ⟨tk1 _ (List.mem_of_getElem? (i := 145) rfl), fun _ h => absurd h List.not_mem_nil⟩⟩⟩⟩⟩⟩⟩⟩⟩⟩⟩⟩⟩⟩⟩⟩⟩⟩⟩⟩⟩⟩⟩⟩⟩
set_option maxRecDepth 100000 in
theorem tb_4 : ∀ w ∈ gW_4, w ∈ lw_tbl := List.forall_mem_cons.mpr ⟨tk1 _ (List.mem_of_getElem? (i := 146) rfl), List.forall_mem_cons.mpr ⟨tk1 _ (List.mem_of_getElem? (i := 147) rfl), List.forall_mem_cons.mpr ⟨tk1 _ (List.mem_of_getElem? (i := 148) rfl), List.forall_mem_cons.mpr ⟨tk1 _ (List.mem_of_getElem? (i := 149) rfl), List.forall_mem_cons.mpr ⟨tk1 _ (List.mem_of_getElem? (i := 150) rfl), List.forall_mem_cons.mpr ⟨tk1 _ (List.mem_of_getElem? (i := 151) rfl), List.forall_mem_cons.mpr ⟨tk1 _ (List.mem_of_getElem? (i := 152) rfl), List.forall_mem_cons.mpr ⟨tk1 _ (List.mem_of_getElem? (i := 153) rfl), List.forall_mem_cons.mpr ⟨tk1 _ (List.mem_of_getElem? (i := 154) rfl), List.forall_mem_cons.mpr ⟨tk1 _ (List.mem_of_getElem? (i := 155) rfl), List.forall_mem_cons.mpr ⟨tk1 _ (List.mem_of_getElem? (i := 156) rfl), List.forall_mem_cons.mpr ⟨tk1 _ (List.mem_of_getElem? (i := 173) rfl), List.forall_mem_cons.mpr ⟨tk1 _ (List.mem_of_getElem? (i := 174) rfl), List.forall_mem_cons.mpr ⟨tk1 _ (List.mem_of_getElem? (i := 175) rfl), List.forall_mem_cons.mpr ⟨tk1 _ (List.mem_of_getElem? (i := 176) rfl), List.forall_mem_cons.mpr ⟨tk1 _ (List.mem_of_getElem? (i := 177) rfl), List.forall_mem_cons.mpr ⟨tk1 _ (List.mem_of_getElem? (i := 178) rfl), List.forall_mem_cons.mpr ⟨tk1 _ (List.mem_of_getElem? (i := 179) rfl), List.forall_mem_cons.mpr ⟨tk1 _ (List.mem_of_getElem? (i := 180) rfl), List.forall_mem_cons.mpr ⟨tk1 _ (List.mem_of_getElem? (i := 181) rfl), List.forall_mem_cons.mpr ⟨tk1 _ (List.mem_of_getElem? (i := 182) rfl), List.forall_mem_cons.mpr ⟨tk1 _ (List.mem_of_getElem? (i := 183) rfl), List.forall_mem_cons.mpr ⟨tk1 _ (List.mem_of_getElem? (i := 184) rfl), List.forall_mem_cons.mpr ⟨tk1 _ (List.mem_of_getElem? (i := 185) rfl), List.forall_mem_cons.mpr ⟨tk1 _ (List.mem_of_getElem? (i := 186) rfl), fun _ h => absurd h List.not_mem_nil⟩⟩⟩⟩⟩⟩⟩⟩⟩⟩⟩⟩⟩⟩⟩⟩⟩⟩⟩⟩⟩⟩⟩⟩⟩
set_option maxRecDepth 100000 in
theorem tb_5 : ∀ w ∈ gW_5, w ∈ lw_tbl := List.forall_mem_cons.mpr ⟨tk1 _ (List.mem_of_getElem? (i := 187) rfl), List.forall_mem_cons.mpr ⟨tk1 _ (List.mem_of_getElem? (i := 188) rfl), List.forall_mem_cons.mpr ⟨tk1 _ (List.mem_of_getElem? (i := 189) rfl), List.forall_mem_cons.mpr ⟨tk1 _ (List.mem_of_getElem? (i := 190) rfl), List.forall_mem_cons.mpr ⟨tk1 _ (List.mem_of_getElem? (i := 191) rfl), List.forall_mem_cons.mpr ⟨tk1 _ (List.mem_of_getElem? (i := 192) rfl), List.forall_mem_cons.mpr ⟨tk1 _ (List.mem_of_getElem? (i := 193) rfl), List.forall_mem_cons.mpr ⟨tk1 _ (List.mem_of_getElem? (i := 194) rfl), List.forall_mem_cons.mpr ⟨tk1 _ (List.mem_of_getElem? (i := 195) rfl), List.forall_mem_cons.mpr ⟨tk1 _ (List.mem_of_getElem? (i := 196) rfl), List.forall_mem_cons.mpr ⟨tk1 _ (List.mem_of_getElem? (i := 197) rfl), List.forall_mem_cons.mpr ⟨tk2 _ (List.mem_of_getElem? (i := 4) rfl), List.forall_mem_cons.mpr ⟨tk2 _ (List.mem_of_getElem? (i := 5) rfl), List.forall_mem_cons.mpr ⟨tk2 _ (List.mem_of_getElem? (i := 6) rfl), List.forall_mem_cons.mpr ⟨tk2 _ (List.mem_of_getElem? (i := 7) rfl), List.forall_mem_cons.mpr ⟨tk2 _ (List.mem_of_getElem? (i := 8) rfl), List.forall_mem_cons.mpr ⟨tk2 _ (List.mem_of_getElem? (i := 9) rfl), List.forall_mem_cons.mpr ⟨tk2 _ (List.mem_of_getElem? (i := 10) rfl), List.forall_mem_cons.mpr ⟨tk2 _ (List.mem_of_getElem? (i := 11) rfl), List.forall_mem_cons.mpr ⟨tk2 _ (List.mem_of_getElem? (i := 12) rfl), List.forall_mem_cons.mpr ⟨tk2 _ (List.mem_of_getElem? (i := 13) rfl), List.forall_mem_cons.mpr ⟨tk2 _ (List.mem_of_getElem? (i := 14) rfl), List.forall_mem_cons.mpr ⟨tk2 _ (List.mem_of_getElem? (i := 15) rfl), List.forall_mem_cons.mpr ⟨tk2 _ (List.mem_of_getElem? (i := 16) rfl), List.forall_mem_cons.mpr ⟨tk2 _ (List.mem_of_getElem? (i := 17) rfl), fun _ h => absurd h List.not_mem_nil⟩⟩⟩⟩⟩⟩⟩⟩⟩⟩⟩⟩⟩⟩⟩⟩⟩⟩⟩⟩⟩⟩⟩⟩⟩
set_option maxRecDepth 100000 in
theorem tb_6 : ∀ w ∈ gW_6, w ∈ lw_tbl := List.forall_mem_cons.mpr ⟨tk2 _ (List.mem_of_getElem? (i := 18) rfl), List.forall_mem_cons.mpr ⟨tk2 _ (List.mem_of_getElem? (i := 19) rfl), List.forall_mem_cons.mpr ⟨tk2 _ (List.mem_of_getElem? (i := 20) rfl), List.forall_mem_cons.mpr ⟨tk2 _ (List.mem_of_getElem? (i := 21) rfl), List.forall_mem_cons.mpr ⟨tk2 _ (List.mem_of_getElem? (i := 22) rfl), List.forall_mem_cons.mpr ⟨tk2 _ (List.mem_of_getElem? (i := 23) rfl), List.forall_mem_cons.mpr ⟨tk2 _ (List.mem_of_getElem? (i := 24) rfl), List.forall_mem_cons.mpr ⟨tk2 _ (List.mem_of_getElem? (i := 25) rfl), List.forall_mem_cons.mpr ⟨tk2 _ (List.mem_of_getElem? (i := 26) rfl), List.forall_mem_cons.mpr ⟨tk2 _ (List.mem_of_getElem? (i := 27) rfl), List.forall_mem_cons.mpr ⟨tk2 _ (List.mem_of_getElem? (i := 28) rfl), List.forall_mem_cons.mpr ⟨tk2 _ (List.mem_of_getElem? (i := 29) rfl), List.forall_mem_cons.mpr ⟨tk2 _ (List.mem_of_getElem? (i := 30) rfl), List.forall_mem_cons.mpr ⟨tk2 _ (List.mem_of_getElem? (i := 31) rfl), List.forall_mem_cons.mpr ⟨tk2 _ (List.mem_of_getElem? (i := 32) rfl), List.forall_mem_cons.mpr ⟨tk2 _ (List.mem_of_getElem? (i := 57) rfl), List.forall_mem_cons.mpr ⟨tk2 _ (List.mem_of_getElem? (i := 60) rfl), List.forall_mem_cons.mpr ⟨tk2 _ (List.mem_of_getElem? (i := 61) rfl), List.forall_mem_cons.mpr ⟨tk2 _ (List.mem_of_getElem? (i := 62) rfl), List.forall_mem_cons.mpr ⟨tk2 _ (List.mem_of_getElem? (i := 63) rfl), List.forall_mem_cons.mpr ⟨tk2 _ (List.mem_of_getElem? (i := 64) rfl), List.forall_mem_cons.mpr ⟨tk2 _ (List.mem_of_getElem? (i := 65) rfl), List.forall_mem_cons.mpr ⟨tk2 _ (List.mem_of_getElem? (i := 66) rfl), List.forall_mem_cons.mpr ⟨tk2 _ (List.mem_of_getElem? (i := 67) rfl), List.forall_mem_cons.mpr ⟨tk2 _ (List.mem_of_getElem? (i := 68) rfl), fun _ h => absurd h List.not_mem_nil⟩⟩⟩⟩⟩⟩⟩⟩⟩⟩⟩⟩⟩⟩⟩⟩⟩⟩⟩⟩⟩⟩⟩⟩⟩
set_option maxRecDepth 100000 in
theorem tb_7 : ∀ w ∈ gW_7, w ∈ lw_tbl := List.forall_mem_cons.mpr ⟨tk2 _ (List.mem_of_getElem? (i := 69) rfl), List.forall_mem_cons.mpr ⟨tk2 _ (List.mem_of_getElem? (i := 70) rfl), List.forall_mem_cons.mpr ⟨tk2 _ (List.mem_of_getElem? (i := 71) rfl), List.forall_mem_cons.mpr ⟨tk2 _ (List.mem_of_getElem? (i := 72) rfl), List.forall_mem_cons.mpr ⟨tk2 _ (List.mem_of_getElem? (i := 73) rfl), List.forall_mem_cons.mpr ⟨tk2 _ (List.mem_of_getElem? (i := 74) rfl), List.forall_mem_cons.mpr ⟨tk2 _ (List.mem_of_getElem? (i := 75) rfl), List.forall_mem_cons.mpr ⟨tk2 _ (List.mem_of_getElem? (i := 76) rfl), List.forall_mem_cons.mpr ⟨tk2 _ (List.mem_of_getElem? (i := 77) rfl), List.forall_mem_cons.mpr ⟨tk2 _ (List.mem_of_getElem? (i := 78) rfl), List.forall_mem_cons.mpr ⟨tk2 _ (List.mem_of_getElem? (i := 82) rfl), List.forall_mem_cons.mpr ⟨tk2 _ (List.mem_of_getElem? (i := 120) rfl), List.forall_mem_cons.mpr ⟨tk2 _ (List.mem_of_getElem? (i := 121) rfl), List.forall_mem_cons.mpr ⟨tk2 _ (List.mem_of_getElem? (i := 122) rfl), List.forall_mem_cons.mpr ⟨tk2 _ (List.mem_of_getElem? (i := 123) rfl), List.forall_mem_cons.mpr ⟨tk2 _ (List.mem_of_getElem? (i := 124) rfl), List.forall_mem_cons.mpr ⟨tk2 _ (List.mem_of_getElem? (i := 125) rfl), List.forall_mem_cons.mpr ⟨tk2 _ (List.mem_of_getElem? (i := 126) rfl), List.forall_mem_cons.mpr ⟨tk2 _ (List.mem_of_getElem? (i := 127) rfl), List.forall_mem_cons.mpr ⟨tk2 _ (List.mem_of_getElem? (i := 128) rfl), List.forall_mem_cons.mpr ⟨tk2 _ (List.mem_of_getElem? (i := 129) rfl), List.forall_mem_cons.mpr ⟨tk2 _ (List.mem_of_getElem? (i := 130) rfl), List.forall_mem_cons.mpr ⟨tk2 _ (List.mem_of_getElem? (i := 131) rfl), List.forall_mem_cons.mpr ⟨tk2 _ (List.mem_of_getElem? (i := 133) rfl), List.forall_mem_cons.mpr ⟨tk2 _ (List.mem_of_getElem? (i := 134) rfl), fun _ h => absurd h List.not_mem_nil⟩⟩⟩⟩⟩⟩⟩⟩⟩⟩⟩⟩⟩⟩⟩⟩⟩⟩⟩⟩⟩⟩⟩⟩⟩
set_option maxRecDepth 100000 in
theorem tb_8 : ∀ w ∈ gW_8, w ∈ lw_tbl := List.forall_mem_cons.mpr ⟨tk2 _ (List.mem_of_getElem? (i := 135) rfl), List.forall_mem_cons.mpr ⟨tk2 _ (List.mem_of_getElem? (i := 136) rfl), List.forall_mem_cons.mpr ⟨tk2 _ (List.mem_of_getElem? (i := 137) rfl), List.forall_mem_cons.mpr ⟨tk2 _ (List.mem_of_getElem? (i := 138) rfl), List.forall_mem_cons.mpr ⟨tk2 _ (List.mem_of_getElem? (i := 139) rfl), List.forall_mem_cons.mpr ⟨tk2 _ (List.mem_of_getElem? (i := 140) rfl), List.forall_mem_cons.mpr ⟨tk2 _ (List.mem_of_getElem? (i := 141) rfl), List.forall_mem_cons.mpr ⟨tk2 _ (List.mem_of_getElem? (i := 142) rfl), List.forall_mem_cons.mpr ⟨tk2 _ (List.mem_of_getElem? (i := 143) rfl), List.forall_mem_cons.mpr ⟨tk2 _ (List.mem_of_getElem? (i := 144) rfl), List.forall_mem_cons.mpr ⟨tk2 _ (List.mem_of_getElem? (i := 184) rfl), List.forall_mem_cons.mpr ⟨tk2 _ (List.mem_of_getElem? (i := 185) rfl), List.forall_mem_cons.mpr ⟨tk2 _ (List.mem_of_getElem? (i := 186) rfl), List.forall_mem_cons.mpr ⟨tk2 _ (List.mem_of_getElem? (i := 187) rfl), List.forall_mem_cons.mpr ⟨tk2 _ (List.mem_of_getElem? (i := 188) rfl), List.forall_mem_cons.mpr ⟨tk2 _ (List.mem_of_getElem? (i := 189) rfl), List.forall_mem_cons.mpr ⟨tk2 _ (List.mem_of_getElem? (i := 190) rfl), List.forall_mem_cons.mpr ⟨tk2 _ (List.mem_of_getElem? (i := 191) rfl), List.forall_mem_cons.mpr ⟨tk2 _ (List.mem_of_getElem? (i := 192) rfl), List.forall_mem_cons.mpr ⟨tk2 _ (List.mem_of_getElem? (i := 193) rfl), List.forall_mem_cons.mpr ⟨tk2 _ (List.mem_of_getElem? (i := 194) rfl), List.forall_mem_cons.mpr ⟨tk2 _ (List.mem_of_getElem? (i := 206) rfl), List.forall_mem_cons.mpr ⟨tk2 _ (List.mem_of_getElem? (i := 207) rfl), List.forall_mem_cons.mpr ⟨tk2 _ (List.mem_of_getElem? (i := 208) rfl), List.forall_mem_cons.mpr ⟨tk2 _ (List.mem_of_getElem? (i := 209) rfl), fun _ h => absurd h List.not_mem_nil⟩⟩⟩⟩⟩⟩⟩⟩⟩⟩⟩⟩⟩⟩⟩⟩⟩⟩⟩⟩⟩⟩⟩⟩⟩
set_option maxRecDepth 100000 in
theorem tb_9 : ∀ w ∈ gW_9, w ∈ lw_tbl := List.forall_mem_cons.mpr ⟨tk2 _ (List.mem_of_getElem? (i := 210) rfl), List.forall_mem_cons.mpr ⟨tk2 _ (List.mem_of_getElem? (i := 211) rfl), List.forall_mem_cons.mpr ⟨tk2 _ (List.mem_of_getElem? (i := 212) rfl), List.forall_mem_cons.mpr ⟨tk2 _ (List.mem_of_getElem? (i := 213) rfl), List.forall_mem_cons.mpr ⟨tk2 _ (List.mem_of_getElem? (i := 214) rfl), List.forall_mem_cons.mpr ⟨tk2 _ (List.mem_of_getElem? (i := 215) rfl), List.forall_mem_cons.mpr ⟨tk2 _ (List.mem_of_getElem? (i := 216) rfl), List.forall_mem_cons.mpr ⟨tk2 _ (List.mem_of_getElem? (i := 228) rfl), List.forall_mem_cons.mpr ⟨tk2 _ (List.mem_of_getElem? (i := 229) rfl), List.forall_mem_cons.mpr ⟨tk2 _ (List.mem_of_getElem? (i := 230) rfl), List.forall_mem_cons.mpr ⟨tk2 _ (List.mem_of_getElem? (i := 231) rfl), List.forall_mem_cons.mpr ⟨tk2 _ (List.mem_of_getElem? (i := 232) rfl), List.forall_mem_cons.mpr ⟨tk2 _ (List.mem_of_getElem? (i := 233) rfl), List.forall_mem_cons.mpr ⟨tk2 _ (List.mem_of_getElem? (i := 234) rfl), List.forall_mem_cons.mpr ⟨tk2 _ (List.mem_of_getElem? (i := 235) rfl), List.forall_mem_cons.mpr ⟨tk2 _ (List.mem_of_getElem? (i := 236) rfl), List.forall_mem_cons.mpr ⟨tk2 _ (List.mem_of_getElem? (i := 237) rfl), List.forall_mem_cons.mpr ⟨tk2 _ (List.mem_of_getElem? (i := 238) rfl), List.forall_mem_cons.mpr ⟨tk2 _ (List.mem_of_getElem? (i := 239) rfl), List.forall_mem_cons.mpr ⟨tk3 _ (List.mem_of_getElem? (i := 0) rfl), List.forall_mem_cons.mpr ⟨tk3 _ (List.mem_of_getElem? (i := 1) rfl), List.forall_mem_cons.mpr ⟨tk3 _ (List.mem_of_getElem? (i := 4) rfl), List.forall_mem_cons.mpr ⟨tk3 _ (List.mem_of_getElem? (i := 6) rfl), List.forall_mem_cons.mpr ⟨tk3 _ (List.mem_of_getElem? (i := 8) rfl), List.forall_mem_cons.mpr ⟨tk3 _ (List.mem_of_getElem? (i := 9) rfl), fun _ h => absurd h List.not_mem_nil⟩⟩⟩⟩⟩⟩⟩⟩⟩⟩⟩⟩⟩⟩⟩⟩⟩⟩⟩⟩⟩⟩⟩⟩⟩
set_option maxRecDepth 100000 in
theorem tb_10 : ∀ w ∈ gW_10, w ∈ lw_tbl := List.forall_mem_cons.mpr ⟨tk3 _ (List.mem_of_getElem? (i := 10) rfl), List.forall_mem_cons.mpr ⟨tk3 _ (List.mem_of_getElem? (i := 12) rfl), List.forall_mem_cons.mpr ⟨tk3 _ (List.mem_of_getElem? (i := 44) rfl), List.forall_mem_cons.mpr ⟨tk3 _ (List.mem_of_getElem? (i := 45) rfl), List.forall_mem_cons.mpr ⟨tk3 _ (List.mem_of_getElem? (i := 46) rfl), List.forall_mem_cons.mpr ⟨tk3 _ (List.mem_of_getElem? (i := 47) rfl), List.forall_mem_cons.mpr ⟨tk3 _ (List.mem_of_getElem? (i := 48) rfl), List.forall_mem_cons.mpr ⟨tk3 _ (List.mem_of_getElem? (i := 49) rfl), List.forall_mem_cons.mpr ⟨tk3 _ (List.mem_of_getElem? (i := 50) rfl), List.forall_mem_cons.mpr ⟨tk3 _ (List.mem_of_getElem? (i := 51) rfl), List.forall_mem_cons.mpr ⟨tk3 _ (List.mem_of_getElem? (i := 52) rfl), List.forall_mem_cons.mpr ⟨tk3 _ (List.mem_of_getElem? (i := 53) rfl), List.forall_mem_cons.mpr ⟨tk3 _ (List.mem_of_getElem? (i := 54) rfl), List.forall_mem_cons.mpr ⟨tk3 _ (List.mem_of_getElem? (i := 55) rfl), List.forall_mem_cons.mpr ⟨tk3 _ (List.mem_of_getElem? (i := 56) rfl), List.forall_mem_cons.mpr ⟨tk3 _ (List.mem_of_getElem? (i := 57) rfl), List.forall_mem_cons.mpr ⟨tk3 _ (List.mem_of_getElem? (i := 81) rfl), List.forall_mem_cons.mpr ⟨tk3 _ (List.mem_of_getElem? (i := 82) rfl), List.forall_mem_cons.mpr ⟨tk3 _ (List.mem_of_getElem? (i := 83) rfl), List.forall_mem_cons.mpr ⟨tk3 _ (List.mem_of_getElem? (i := 84) rfl), List.forall_mem_cons.mpr ⟨tk3 _ (List.mem_of_getElem? (i := 85) rfl), List.forall_mem_cons.mpr ⟨tk3 _ (List.mem_of_getElem? (i := 86) rfl), List.forall_mem_cons.mpr ⟨tk3 _ (List.mem_of_getElem? (i := 87) rfl), List.forall_mem_cons.mpr ⟨tk3 _ (List.mem_of_getElem? (i := 88) rfl), List.forall_mem_cons.mpr ⟨tk3 _ (List.mem_of_getElem? (i := 89) rfl), fun _ h => absurd h List.not_mem_nil⟩⟩⟩⟩⟩⟩⟩⟩⟩⟩⟩⟩⟩⟩⟩⟩⟩⟩⟩⟩⟩⟩⟩⟩⟩
set_option maxRecDepth 100000 in
theorem tb_11 : ∀ w ∈ gW_11, w ∈ lw_tbl := List.forall_mem_cons.mpr ⟨tk3 _ (List.mem_of_getElem? (i := 90) rfl), List.forall_mem_cons.mpr ⟨tk3 _ (List.mem_of_getElem? (i := 91) rfl), List.forall_mem_cons.mpr ⟨tk3 _ (List.mem_of_getElem? (i := 92) rfl), List.forall_mem_cons.mpr ⟨tk3 _ (List.mem_of_getElem? (i := 93) rfl), List.forall_mem_cons.mpr ⟨tk3 _ (List.mem_of_getElem? (i := 94) rfl), List.forall_mem_cons.mpr ⟨tk3 _ (List.mem_of_getElem? (i := 95) rfl), List.forall_mem_cons.mpr ⟨tk3 _ (List.mem_of_getElem? (i := 96) rfl), List.forall_mem_cons.mpr ⟨tk3 _ (List.mem_of_getElem? (i := 97) rfl), List.forall_mem_cons.mpr ⟨tk3 _ (List.mem_of_getElem? (i := 98) rfl), List.forall_mem_cons.mpr ⟨tk3 _ (List.mem_of_getElem? (i := 99) rfl), List.forall_mem_cons.mpr ⟨tk3 _ (List.mem_of_getElem? (i := 100) rfl), List.forall_mem_cons.mpr ⟨tk3 _ (List.mem_of_getElem? (i := 101) rfl), List.forall_mem_cons.mpr ⟨tk3 _ (List.mem_of_getElem? (i := 102) rfl), List.forall_mem_cons.mpr ⟨tk3 _ (List.mem_of_getElem? (i := 103) rfl), List.forall_mem_cons.mpr ⟨tk3 _ (List.mem_of_getElem? (i := 104) rfl), List.forall_mem_cons.mpr ⟨tk3 _ (List.mem_of_getElem? (i := 105) rfl), List.forall_mem_cons.mpr ⟨tk3 _ (List.mem_of_getElem? (i := 106) rfl), List.forall_mem_cons.mpr ⟨tk3 _ (List.mem_of_getElem? (i := 107) rfl), List.forall_mem_cons.mpr ⟨tk3 _ (List.mem_of_getElem? (i := 108) rfl), List.forall_mem_cons.mpr ⟨tk3 _ (List.mem_of_getElem? (i := 109) rfl), List.forall_mem_cons.mpr ⟨tk3 _ (List.mem_of_getElem? (i := 110) rfl), List.forall_mem_cons.mpr ⟨tk3 _ (List.mem_of_getElem? (i := 111) rfl), List.forall_mem_cons.mpr ⟨tk3 _ (List.mem_of_getElem? (i := 112) rfl), List.forall_mem_cons.mpr ⟨tk3 _ (List.mem_of_getElem? (i := 113) rfl), List.forall_mem_cons.mpr ⟨tk3 _ (List.mem_of_getElem? (i := 114) rfl), fun _ h => absurd h List.not_mem_nil⟩⟩⟩⟩⟩⟩⟩⟩⟩⟩⟩⟩⟩⟩⟩⟩⟩⟩⟩⟩⟩⟩⟩⟩⟩
set_option maxRecDepth 100000 in
theorem tb_12 : ∀ w ∈ gW_12, w ∈ lw_tbl := List.forall_mem_cons.mpr ⟨tk3 _ (List.mem_of_getElem? (i := 115) rfl), List.forall_mem_cons.mpr ⟨tk3 _ (List.mem_of_getElem? (i := 116) rfl), List.forall_mem_cons.mpr ⟨tk3 _ (List.mem_of_getElem? (i := 117) rfl), List.forall_mem_cons.mpr ⟨tk3 _ (List.mem_of_getElem? (i := 118) rfl), List.forall_mem_cons.mpr ⟨tk3 _ (List.mem_of_getElem? (i := 119) rfl), List.forall_mem_cons.mpr ⟨tk3 _ (List.mem_of_getElem? (i := 120) rfl), List.forall_mem_cons.mpr ⟨tk3 _ (List.mem_of_getElem? (i := 121) rfl), List.forall_mem_cons.mpr ⟨tk3 _ (List.mem_of_getElem? (i := 123) rfl), List.forall_mem_cons.mpr ⟨tk3 _ (List.mem_of_getElem? (i := 124) rfl), List.forall_mem_cons.mpr ⟨tk3 _ (List.mem_of_getElem? (i := 125) rfl), List.forall_mem_cons.mpr ⟨tk3 _ (List.mem_of_getElem? (i := 126) rfl), List.forall_mem_cons.mpr ⟨tk3 _ (List.mem_of_getElem? (i := 127) rfl), List.forall_mem_cons.mpr ⟨tk3 _ (List.mem_of_getElem? (i := 128) rfl), List.forall_mem_cons.mpr ⟨tk3 _ (List.mem_of_getElem? (i := 151) rfl), List.forall_mem_cons.mpr ⟨tk3 _ (List.mem_of_getElem? (i := 152) rfl), List.forall_mem_cons.mpr ⟨tk3 _ (List.mem_of_getElem? (i := 153) rfl), List.forall_mem_cons.mpr ⟨tk3 _ (List.mem_of_getElem? (i := 183) rfl), List.forall_mem_cons.mpr ⟨tk3 _ (List.mem_of_getElem? (i := 184) rfl), List.forall_mem_cons.mpr ⟨tk3 _ (List.mem_of_getElem? (i := 185) rfl), List.forall_mem_cons.mpr ⟨tk3 _ (List.mem_of_getElem? (i := 186) rfl), List.forall_mem_cons.mpr ⟨tk4 _ (List.mem_of_getElem? (i := 41) rfl), List.forall_mem_cons.mpr ⟨tk4 _ (List.mem_of_getElem? (i := 42) rfl), List.forall_mem_cons.mpr ⟨tk4 _ (List.mem_of_getElem? (i := 43) rfl), List.forall_mem_cons.mpr ⟨tk4 _ (List.mem_of_getElem? (i := 44) rfl), List.forall_mem_cons.mpr ⟨tk4 _ (List.mem_of_getElem? (i := 45) rfl), fun _ h => absurd h List.not_mem_nil⟩⟩⟩⟩⟩⟩⟩⟩⟩⟩⟩⟩⟩⟩⟩⟩⟩⟩⟩⟩⟩⟩⟩⟩⟩
set_option maxRecDepth 100000 in
theorem tb_13 : ∀ w ∈ gW_13, w ∈ lw_tbl := List.forall_mem_cons.mpr ⟨tk4 _ (List.mem_of_getElem? (i := 46) rfl), List.forall_mem_cons.mpr ⟨tk4 _ (List.mem_of_getElem? (i := 47) rfl), List.forall_mem_cons.mpr ⟨tk4 _ (List.mem_of_getElem? (i := 48) rfl), List.forall_mem_cons.mpr ⟨tk4 _ (List.mem_of_getElem? (i := 49) rfl), List.forall_mem_cons.mpr ⟨tk4 _ (List.mem_of_getElem? (i := 50) rfl), List.forall_mem_cons.mpr ⟨tk4 _ (List.mem_of_getElem? (i := 64) rfl), List.forall_mem_cons.mpr ⟨tk4 _ (List.mem_of_getElem? (i := 65) rfl), List.forall_mem_cons.mpr ⟨tk4 _ (List.mem_of_getElem? (i := 66) rfl), List.forall_mem_cons.mpr ⟨tk4 _ (List.mem_of_getElem? (i := 67) rfl), List.forall_mem_cons.mpr ⟨tk4 _ (List.mem_of_getElem? (i := 68) rfl), List.forall_mem_cons.mpr ⟨tk4 _ (List.mem_of_getElem? (i := 69) rfl), List.forall_mem_cons.mpr ⟨tk4 _ (List.mem_of_getElem? (i := 70) rfl), List.forall_mem_cons.mpr ⟨tk4 _ (List.mem_of_getElem? (i := 71) rfl), List.forall_mem_cons.mpr ⟨tk4 _ (List.mem_of_getElem? (i := 72) rfl), List.forall_mem_cons.mpr ⟨tk4 _ (List.mem_of_getElem? (i := 73) rfl), List.forall_mem_cons.mpr ⟨tk4 _ (List.mem_of_getElem? (i := 74) rfl), List.forall_mem_cons.mpr ⟨tk4 _ (List.mem_of_getElem? (i := 75) rfl), List.forall_mem_cons.mpr ⟨tk4 _ (List.mem_of_getElem? (i := 76) rfl), List.forall_mem_cons.mpr ⟨tk4 _ (List.mem_of_getElem? (i := 146) rfl), List.forall_mem_cons.mpr ⟨tk4 _ (List.mem_of_getElem? (i := 147) rfl), List.forall_mem_cons.mpr ⟨tk4 _ (List.mem_of_getElem? (i := 148) rfl), List.forall_mem_cons.mpr ⟨tk4 _ (List.mem_of_getElem? (i := 149) rfl), List.forall_mem_cons.mpr ⟨tk4 _ (List.mem_of_getElem? (i := 150) rfl), List.forall_mem_cons.mpr ⟨tk4 _ (List.mem_of_getElem? (i := 151) rfl), List.forall_mem_cons.mpr ⟨tk4 _ (List.mem_of_getElem? (i := 152) rfl), fun _ h => absurd h List.not_mem_nil⟩⟩⟩⟩⟩⟩⟩⟩⟩⟩⟩⟩⟩⟩⟩⟩⟩⟩⟩⟩⟩⟩⟩⟩⟩
set_option maxRecDepth 100000 in
theorem tb_14 : ∀ w ∈ gW_14, w ∈ lw_tbl := List.forall_mem_cons.mpr ⟨tk4 _ (List.mem_of_getElem? (i := 153) rfl), List.forall_mem_cons.mpr ⟨tk4 _ (List.mem_of_getElem? (i := 154) rfl), List.forall_mem_cons.mpr ⟨tk4 _ (List.mem_of_getElem? (i := 155) rfl), List.forall_mem_cons.mpr ⟨tk4 _ (List.mem_of_getElem? (i := 156) rfl), List.forall_mem_cons.mpr ⟨tk4 _ (List.mem_of_getElem? (i := 157) rfl), List.forall_mem_cons.mpr ⟨tk4 _ (List.mem_of_getElem? (i := 158) rfl), List.forall_mem_cons.mpr ⟨tk4 _ (List.mem_of_getElem? (i := 174) rfl), List.forall_mem_cons.mpr ⟨tk4 _ (List.mem_of_getElem? (i := 175) rfl), List.forall_mem_cons.mpr ⟨tk4 _ (List.mem_of_getElem? (i := 176) rfl), List.forall_mem_cons.mpr ⟨tk4 _ (List.mem_of_getElem? (i := 177) rfl), List.forall_mem_cons.mpr ⟨tk4 _ (List.mem_of_getElem? (i := 178) rfl), List.forall_mem_cons.mpr ⟨tk4 _ (List.mem_of_getElem? (i := 179) rfl), List.forall_mem_cons.mpr ⟨tk4 _ (List.mem_of_getElem? (i := 180) rfl), List.forall_mem_cons.mpr ⟨tk4 _ (List.mem_of_getElem? (i := 181) rfl), List.forall_mem_cons.mpr ⟨tk4 _ (List.mem_of_getElem? (i := 182) rfl), List.forall_mem_cons.mpr ⟨tk4 _ (List.mem_of_getElem? (i := 183) rfl), List.forall_mem_cons.mpr ⟨tk4 _ (List.mem_of_getElem? (i := 184) rfl), List.forall_mem_cons.mpr ⟨tk4 _ (List.mem_of_getElem? (i := 185) rfl), List.forall_mem_cons.mpr ⟨tk4 _ (List.mem_of_getElem? (i := 186) rfl), List.forall_mem_cons.mpr ⟨tk4 _ (List.mem_of_getElem? (i := 187) rfl), List.forall_mem_cons.mpr ⟨tk4 _ (List.mem_of_getElem? (i := 188) rfl), List.forall_mem_cons.mpr ⟨tk4 _ (List.mem_of_getElem? (i := 189) rfl), List.forall_mem_cons.mpr ⟨tk4 _ (List.mem_of_getElem? (i := 191) rfl), List.forall_mem_cons.mpr ⟨tk4 _ (List.mem_of_getElem? (i := 192) rfl), List.forall_mem_cons.mpr ⟨tk4 _ (List.mem_of_getElem? (i := 197) rfl), fun _ h => absurd h List.not_mem_nil⟩⟩⟩⟩⟩⟩⟩⟩⟩⟩⟩⟩⟩⟩⟩⟩⟩⟩⟩⟩⟩⟩⟩⟩⟩
set_option maxRecDepth 100000 in
theorem tb_15 : ∀ w ∈ gW_15, w ∈ lw_tbl := List.forall_mem_cons.mpr ⟨tk4 _ (List.mem_of_getElem? (i := 198) rfl), List.forall_mem_cons.mpr ⟨tk4 _ (List.mem_of_getElem? (i := 199) rfl), List.forall_mem_cons.mpr ⟨tk4 _ (List.mem_of_getElem? (i := 200) rfl), List.forall_mem_cons.mpr ⟨tk4 _ (List.mem_of_getElem? (i := 201) rfl), List.forall_mem_cons.mpr ⟨tk4 _ (List.mem_of_getElem? (i := 202) rfl), List.forall_mem_cons.mpr ⟨tk4 _ (List.mem_of_getElem? (i := 203) rfl), List.forall_mem_cons.mpr ⟨tk4 _ (List.mem_of_getElem? (i := 204) rfl), List.forall_mem_cons.mpr ⟨tk4 _ (List.mem_of_getElem? (i := 217) rfl), List.forall_mem_cons.mpr ⟨tk4 _ (List.mem_of_getElem? (i := 218) rfl), List.forall_mem_cons.mpr ⟨tk4 _ (List.mem_of_getElem? (i := 219) rfl), List.forall_mem_cons.mpr ⟨tk4 _ (List.mem_of_getElem? (i := 220) rfl), List.forall_mem_cons.mpr ⟨tk4 _ (List.mem_of_getElem? (i := 235) rfl), List.forall_mem_cons.mpr ⟨tk4 _ (List.mem_of_getElem? (i := 236) rfl), List.forall_mem_cons.mpr ⟨tk4 _ (List.mem_of_getElem? (i := 237) rfl), List.forall_mem_cons.mpr ⟨tk4 _ (List.mem_of_getElem? (i := 238) rfl), List.forall_mem_cons.mpr ⟨tk4 _ (List.mem_of_getElem? (i := 239) rfl), List.forall_mem_cons.mpr ⟨tk5 _ (List.mem_of_getElem? (i := 0) rfl), List.forall_mem_cons.mpr ⟨tk5 _ (List.mem_of_getElem? (i := 1) rfl), List.forall_mem_cons.mpr ⟨tk5 _ (List.mem_of_getElem? (i := 12) rfl), List.forall_mem_cons.mpr ⟨tk5 _ (List.mem_of_getElem? (i := 13) rfl), List.forall_mem_cons.mpr ⟨tk5 _ (List.mem_of_getElem? (i := 14) rfl), List.forall_mem_cons.mpr ⟨tk5 _ (List.mem_of_getElem? (i := 15) rfl), List.forall_mem_cons.mpr ⟨tk5 _ (List.mem_of_getElem? (i := 16) rfl), List.forall_mem_cons.mpr ⟨tk5 _ (List.mem_of_getElem? (i := 17) rfl), List.forall_mem_cons.mpr ⟨tk5 _ (List.mem_of_getElem? (i := 18) rfl), fun _ h => absurd h List.not_mem_nil⟩⟩⟩⟩⟩⟩⟩⟩⟩⟩⟩⟩⟩⟩⟩⟩⟩⟩⟩⟩⟩⟩⟩⟩⟩
set_option maxRecDepth 100000 in
theorem tb_16 : ∀ w ∈ gW_16, w ∈ lw_tbl := List.forall_mem_cons.mpr ⟨tk5 _ (List.mem_of_getElem? (i := 19) rfl), List.forall_mem_cons.mpr ⟨tk5 _ (List.mem_of_getElem? (i := 20) rfl), List.forall_mem_cons.mpr ⟨tk5 _ (List.mem_of_getElem? (i := 21) rfl), List.forall_mem_cons.mpr ⟨tk5 _ (List.mem_of_getElem? (i := 22) rfl), List.forall_mem_cons.mpr ⟨tk5 _ (List.mem_of_getElem? (i := 24) rfl), List.forall_mem_cons.mpr ⟨tk5 _ (List.mem_of_getElem? (i := 25) rfl), List.forall_mem_cons.mpr ⟨tk5 _ (List.mem_of_getElem? (i := 26) rfl), List.forall_mem_cons.mpr ⟨tk5 _ (List.mem_of_getElem? (i := 27) rfl), List.forall_mem_cons.mpr ⟨tk5 _ (List.mem_of_getElem? (i := 28) rfl), List.forall_mem_cons.mpr ⟨tk5 _ (List.mem_of_getElem? (i := 29) rfl), List.forall_mem_cons.mpr ⟨tk5 _ (List.mem_of_getElem? (i := 30) rfl), List.forall_mem_cons.mpr ⟨tk5 _ (List.mem_of_getElem? (i := 31) rfl), List.forall_mem_cons.mpr ⟨tk5 _ (List.mem_of_getElem? (i := 32) rfl), List.forall_mem_cons.mpr ⟨tk5 _ (List.mem_of_getElem? (i := 33) rfl), List.forall_mem_cons.mpr ⟨tk5 _ (List.mem_of_getElem? (i := 34) rfl), List.forall_mem_cons.mpr ⟨tk5 _ (List.mem_of_getElem? (i := 35) rfl), List.forall_mem_cons.mpr ⟨tk5 _ (List.mem_of_getElem? (i := 59) rfl), List.forall_mem_cons.mpr ⟨tk5 _ (List.mem_of_getElem? (i := 60) rfl), List.forall_mem_cons.mpr ⟨tk5 _ (List.mem_of_getElem? (i := 61) rfl), List.forall_mem_cons.mpr ⟨tk5 _ (List.mem_of_getElem? (i := 62) rfl), List.forall_mem_cons.mpr ⟨tk5 _ (List.mem_of_getElem? (i := 63) rfl), List.forall_mem_cons.mpr ⟨tk5 _ (List.mem_of_getElem? (i := 64) rfl), List.forall_mem_cons.mpr ⟨tk5 _ (List.mem_of_getElem? (i := 65) rfl), List.forall_mem_cons.mpr ⟨tk5 _ (List.mem_of_getElem? (i := 66) rfl), List.forall_mem_cons.mpr ⟨tk5 _ (List.mem_of_getElem? (i := 67) rfl), fun _ h => absurd h List.not_mem_nil⟩⟩⟩⟩⟩⟩⟩⟩⟩⟩⟩⟩⟩⟩⟩⟩⟩⟩⟩⟩⟩⟩⟩⟩⟩
set_option maxRecDepth 100000 in
theorem tb_17 : ∀ w ∈ gW_17, w ∈ lw_tbl := List.forall_mem_cons.mpr ⟨tk5 _ (List.mem_of_getElem? (i := 84) rfl), List.forall_mem_cons.mpr ⟨tk5 _ (List.mem_of_getElem? (i := 85) rfl), List.forall_mem_cons.mpr ⟨tk5 _ (List.mem_of_getElem? (i := 86) rfl), List.forall_mem_cons.mpr ⟨tk5 _ (List.mem_of_getElem? (i := 87) rfl), List.forall_mem_cons.mpr ⟨tk5 _ (List.mem_of_getElem? (i := 88) rfl), List.forall_mem_cons.mpr ⟨tk5 _ (List.mem_of_getElem? (i := 89) rfl), List.forall_mem_cons.mpr ⟨tk5 _ (List.mem_of_getElem? (i := 90) rfl), List.forall_mem_cons.mpr ⟨tk5 _ (List.mem_of_getElem? (i := 92) rfl), List.forall_mem_cons.mpr ⟨tk5 _ (List.mem_of_getElem? (i := 93) rfl), List.forall_mem_cons.mpr ⟨tk5 _ (List.mem_of_getElem? (i := 94) rfl), List.forall_mem_cons.mpr ⟨tk5 _ (List.mem_of_getElem? (i := 95) rfl), List.forall_mem_cons.mpr ⟨tk5 _ (List.mem_of_getElem? (i := 96) rfl), List.forall_mem_cons.mpr ⟨tk5 _ (List.mem_of_getElem? (i := 97) rfl), List.forall_mem_cons.mpr ⟨tk5 _ (List.mem_of_getElem? (i := 98) rfl), List.forall_mem_cons.mpr ⟨tk5 _ (List.mem_of_getElem? (i := 107) rfl), List.forall_mem_cons.mpr ⟨tk5 _ (List.mem_of_getElem? (i := 108) rfl), List.forall_mem_cons.mpr ⟨tk5 _ (List.mem_of_getElem? (i := 109) rfl), List.forall_mem_cons.mpr ⟨tk5 _ (List.mem_of_getElem? (i := 124) rfl), List.forall_mem_cons.mpr ⟨tk5 _ (List.mem_of_getElem? (i := 125) rfl), List.forall_mem_cons.mpr ⟨tk5 _ (List.mem_of_getElem? (i := 126) rfl), List.forall_mem_cons.mpr ⟨tk5 _ (List.mem_of_getElem? (i := 127) rfl), List.forall_mem_cons.mpr ⟨tk5 _ (List.mem_of_getElem? (i := 128) rfl), List.forall_mem_cons.mpr ⟨tk5 _ (List.mem_of_getElem? (i := 129) rfl), List.forall_mem_cons.mpr ⟨tk5 _ (List.mem_of_getElem? (i := 131) rfl), List.forall_mem_cons.mpr ⟨tk5 _ (List.mem_of_getElem? (i := 132) rfl), fun _ h => absurd h List.not_mem_nil⟩⟩⟩⟩⟩⟩⟩⟩⟩⟩⟩⟩⟩⟩⟩⟩⟩⟩⟩⟩⟩⟩⟩⟩⟩
set_option maxRecDepth 100000 in
theorem tb_18 : ∀ w ∈ gW_18, w ∈ lw_tbl := List.forall_mem_cons.mpr ⟨tk5 _ (List.mem_of_getElem? (i := 164) rfl), List.forall_mem_cons.mpr ⟨tk5 _ (List.mem_of_getElem? (i := 165) rfl), List.forall_mem_cons.mpr ⟨tk5 _ (List.mem_of_getElem? (i := 166) rfl), List.forall_mem_cons.mpr ⟨tk5 _ (List.mem_of_getElem? (i := 167) rfl), List.forall_mem_cons.mpr ⟨tk5 _ (List.mem_of_getElem? (i := 168) rfl), List.forall_mem_cons.mpr ⟨tk5 _ (List.mem_of_getElem? (i := 169) rfl), List.forall_mem_cons.mpr ⟨tk5 _ (List.mem_of_getElem? (i := 170) rfl), List.forall_mem_cons.mpr ⟨tk5 _ (List.mem_of_getElem? (i := 171) rfl), List.forall_mem_cons.mpr ⟨tk5 _ (List.mem_of_getElem? (i := 172) rfl), List.forall_mem_cons.mpr ⟨tk5 _ (List.mem_of_getElem? (i := 173) rfl), List.forall_mem_cons.mpr ⟨tk5 _ (List.mem_of_getElem? (i := 174) rfl), List.forall_mem_cons.mpr ⟨tk5 _ (List.mem_of_getElem? (i := 175) rfl), List.forall_mem_cons.mpr ⟨tk5 _ (List.mem_of_getElem? (i := 177) rfl), List.forall_mem_cons.mpr ⟨tk5 _ (List.mem_of_getElem? (i := 178) rfl), List.forall_mem_cons.mpr ⟨tk5 _ (List.mem_of_getElem? (i := 179) rfl), List.forall_mem_cons.mpr ⟨tk5 _ (List.mem_of_getElem? (i := 180) rfl), List.forall_mem_cons.mpr ⟨tk5 _ (List.mem_of_getElem? (i := 182) rfl), List.forall_mem_cons.mpr ⟨tk5 _ (List.mem_of_getElem? (i := 183) rfl), List.forall_mem_cons.mpr ⟨tk5 _ (List.mem_of_getElem? (i := 184) rfl), List.forall_mem_cons.mpr ⟨tk5 _ (List.mem_of_getElem? (i := 186) rfl), List.forall_mem_cons.mpr ⟨tk5 _ (List.mem_of_getElem? (i := 187) rfl), List.forall_mem_cons.mpr ⟨tk5 _ (List.mem_of_getElem? (i := 188) rfl), List.forall_mem_cons.mpr ⟨tk5 _ (List.mem_of_getElem? (i := 190) rfl), List.forall_mem_cons.mpr ⟨tk5 _ (List.mem_of_getElem? (i := 191) rfl), List.forall_mem_cons.mpr ⟨tk5 _ (List.mem_of_getElem? (i := 192) rfl), fun _ h => absurd h List.not_mem_nil⟩⟩⟩⟩⟩⟩⟩⟩⟩⟩⟩⟩⟩⟩⟩⟩⟩⟩⟩⟩⟩⟩⟩⟩⟩
set_option maxRecDepth 100000 in
theorem tb_19 : ∀ w ∈ gW_19, w ∈ lw_tbl := List.forall_mem_cons.mpr ⟨tk5 _ (List.mem_of_getElem? (i := 194) rfl), List.forall_mem_cons.mpr ⟨tk5 _ (List.mem_of_getElem? (i := 195) rfl), List.forall_mem_cons.mpr ⟨tk5 _ (List.mem_of_getElem? (i := 196) rfl), List.forall_mem_cons.mpr ⟨tk5 _ (List.mem_of_getElem? (i := 198) rfl), List.forall_mem_cons.mpr ⟨tk5 _ (List.mem_of_getElem? (i := 199) rfl), List.forall_mem_cons.mpr ⟨tk5 _ (List.mem_of_getElem? (i := 216) rfl), List.forall_mem_cons.mpr ⟨tk5 _ (List.mem_of_getElem? (i := 217) rfl), List.forall_mem_cons.mpr ⟨tk5 _ (List.mem_of_getElem? (i := 218) rfl), List.forall_mem_cons.mpr ⟨tk5 _ (List.mem_of_getElem? (i := 219) rfl), List.forall_mem_cons.mpr ⟨tk5 _ (List.mem_of_getElem? (i := 220) rfl), List.forall_mem_cons.mpr ⟨tk5 _ (List.mem_of_getElem? (i := 221) rfl), List.forall_mem_cons.mpr ⟨tk5 _ (List.mem_of_getElem? (i := 222) rfl), List.forall_mem_cons.mpr ⟨tk5 _ (List.mem_of_getElem? (i := 225) rfl), List.forall_mem_cons.mpr ⟨tk5 _ (List.mem_of_getElem? (i := 226) rfl), List.forall_mem_cons.mpr ⟨tk5 _ (List.mem_of_getElem? (i := 227) rfl), List.forall_mem_cons.mpr ⟨tk5 _ (List.mem_of_getElem? (i := 228) rfl), List.forall_mem_cons.mpr ⟨tk5 _ (List.mem_of_getElem? (i := 229) rfl), List.forall_mem_cons.mpr ⟨tk5 _ (List.mem_of_getElem? (i := 230) rfl), List.forall_mem_cons.mpr ⟨tk5 _ (List.mem_of_getElem? (i := 231) rfl), List.forall_mem_cons.mpr ⟨tk5 _ (List.mem_of_getElem? (i := 235) rfl), List.forall_mem_cons.mpr ⟨tk5 _ (List.mem_of_getElem? (i := 236) rfl), List.forall_mem_cons.mpr ⟨tk5 _ (List.mem_of_getElem? (i := 237) rfl), List.forall_mem_cons.mpr ⟨tk5 _ (List.mem_of_getElem? (i := 238) rfl), List.forall_mem_cons.mpr ⟨tk5 _ (List.mem_of_getElem? (i := 239) rfl), List.forall_mem_cons.mpr ⟨tk6 _ (List.mem_of_getElem? (i := 0) rfl), fun _ h => absurd h List.not_mem_nil⟩⟩⟩⟩⟩⟩⟩⟩⟩⟩⟩⟩⟩⟩⟩⟩⟩⟩⟩⟩⟩⟩⟩⟩⟩
set_option maxRecDepth 100000 in
theorem tb_20 : ∀ w ∈ gW_20, w ∈ lw_tbl := List.forall_mem_cons.mpr ⟨tk6 _ (List.mem_of_getElem? (i := 1) rfl), List.forall_mem_cons.mpr ⟨tk6 _ (List.mem_of_getElem? (i := 2) rfl), List.forall_mem_cons.mpr ⟨tk6 _ (List.mem_of_getElem? (i := 3) rfl), List.forall_mem_cons.mpr ⟨tk6 _ (List.mem_of_getElem? (i := 4) rfl), List.forall_mem_cons.mpr ⟨tk6 _ (List.mem_of_getElem? (i := 5) rfl), List.forall_mem_cons.mpr ⟨tk6 _ (List.mem_of_getElem? (i := 6) rfl), List.forall_mem_cons.mpr ⟨tk6 _ (List.mem_of_getElem? (i := 7) rfl), List.forall_mem_cons.mpr ⟨tk6 _ (List.mem_of_getElem? (i := 8) rfl), List.forall_mem_cons.mpr ⟨tk6 _ (List.mem_of_getElem? (i := 10) rfl), List.forall_mem_cons.mpr ⟨tk6 _ (List.mem_of_getElem? (i := 11) rfl), List.forall_mem_cons.mpr ⟨tk6 _ (List.mem_of_getElem? (i := 12) rfl), List.forall_mem_cons.mpr ⟨tk6 _ (List.mem_of_getElem? (i := 13) rfl), List.forall_mem_cons.mpr ⟨tk6 _ (List.mem_of_getElem? (i := 14) rfl), List.forall_mem_cons.mpr ⟨tk6 _ (List.mem_of_getElem? (i := 15) rfl), List.forall_mem_cons.mpr ⟨tk6 _ (List.mem_of_getElem? (i := 16) rfl), List.forall_mem_cons.mpr ⟨tk6 _ (List.mem_of_getElem? (i := 91) rfl), List.forall_mem_cons.mpr ⟨tk6 _ (List.mem_of_getElem? (i := 92) rfl), List.forall_mem_cons.mpr ⟨tk6 _ (List.mem_of_getElem? (i := 93) rfl), List.forall_mem_cons.mpr ⟨tk6 _ (List.mem_of_getElem? (i := 94) rfl), List.forall_mem_cons.mpr ⟨tk6 _ (List.mem_of_getElem? (i := 95) rfl), List.forall_mem_cons.mpr ⟨tk6 _ (List.mem_of_getElem? (i := 96) rfl), List.forall_mem_cons.mpr ⟨tk6 _ (List.mem_of_getElem? (i := 97) rfl), List.forall_mem_cons.mpr ⟨tk6 _ (List.mem_of_getElem? (i := 105) rfl), List.forall_mem_cons.mpr ⟨tk6 _ (List.mem_of_getElem? (i := 106) rfl), List.forall_mem_cons.mpr ⟨tk6 _ (List.mem_of_getElem? (i := 107) rfl), fun _ h => absurd h List.not_mem_nil⟩⟩⟩⟩⟩⟩⟩⟩⟩⟩⟩⟩⟩⟩⟩⟩⟩⟩⟩⟩⟩⟩⟩⟩⟩
set_option maxRecDepth 100000 in
theorem tb_21 : ∀ w ∈ gW_21, w ∈ lw_tbl := List.forall_mem_cons.mpr ⟨tk6 _ (List.mem_of_getElem? (i := 108) rfl), List.forall_mem_cons.mpr ⟨tk6 _ (List.mem_of_getElem? (i := 109) rfl), List.forall_mem_cons.mpr ⟨tk6 _ (List.mem_of_getElem? (i := 110) rfl), List.forall_mem_cons.mpr ⟨tk6 _ (List.mem_of_getElem? (i := 111) rfl), List.forall_mem_cons.mpr ⟨tk6 _ (List.mem_of_getElem? (i := 117) rfl), List.forall_mem_cons.mpr ⟨tk6 _ (List.mem_of_getElem? (i := 118) rfl), List.forall_mem_cons.mpr ⟨tk6 _ (List.mem_of_getElem? (i := 119) rfl), List.forall_mem_cons.mpr ⟨tk6 _ (List.mem_of_getElem? (i := 120) rfl), List.forall_mem_cons.mpr ⟨tk6 _ (List.mem_of_getElem? (i := 121) rfl), List.forall_mem_cons.mpr ⟨tk6 _ (List.mem_of_getElem? (i := 122) rfl), List.forall_mem_cons.mpr ⟨tk6 _ (List.mem_of_getElem? (i := 123) rfl), List.forall_mem_cons.mpr ⟨tk6 _ (List.mem_of_getElem? (i := 156) rfl), List.forall_mem_cons.mpr ⟨tk6 _ (List.mem_of_getElem? (i := 157) rfl), List.forall_mem_cons.mpr ⟨tk6 _ (List.mem_of_getElem? (i := 158) rfl), List.forall_mem_cons.mpr ⟨tk6 _ (List.mem_of_getElem? (i := 159) rfl), List.forall_mem_cons.mpr ⟨tk6 _ (List.mem_of_getElem? (i := 160) rfl), List.forall_mem_cons.mpr ⟨tk6 _ (List.mem_of_getElem? (i := 161) rfl), List.forall_mem_cons.mpr ⟨tk6 _ (List.mem_of_getElem? (i := 162) rfl), List.forall_mem_cons.mpr ⟨tk6 _ (List.mem_of_getElem? (i := 163) rfl), List.forall_mem_cons.mpr ⟨tk6 _ (List.mem_of_getElem? (i := 164) rfl), List.forall_mem_cons.mpr ⟨tk6 _ (List.mem_of_getElem? (i := 165) rfl), List.forall_mem_cons.mpr ⟨tk6 _ (List.mem_of_getElem? (i := 166) rfl), List.forall_mem_cons.mpr ⟨tk6 _ (List.mem_of_getElem? (i := 172) rfl), List.forall_mem_cons.mpr ⟨tk6 _ (List.mem_of_getElem? (i := 173) rfl), List.forall_mem_cons.mpr ⟨tk6 _ (List.mem_of_getElem? (i := 174) rfl), fun _ h => absurd h List.not_mem_nil⟩⟩⟩⟩⟩⟩⟩⟩⟩⟩⟩⟩⟩⟩⟩⟩⟩⟩⟩⟩⟩⟩⟩⟩⟩
set_option maxRecDepth 100000 in
theorem tb_22 : ∀ w ∈ gW_22, w ∈ lw_tbl := List.forall_mem_cons.mpr ⟨tk6 _ (List.mem_of_getElem? (i := 175) rfl), List.forall_mem_cons.mpr ⟨tk6 _ (List.mem_of_getElem? (i := 176) rfl), List.forall_mem_cons.mpr ⟨tk6 _ (List.mem_of_getElem? (i := 177) rfl), List.forall_mem_cons.mpr ⟨tk6 _ (List.mem_of_getElem? (i := 178) rfl), List.forall_mem_cons.mpr ⟨tk7 _ (List.mem_of_getElem? (i := 77) rfl), List.forall_mem_cons.mpr ⟨tk7 _ (List.mem_of_getElem? (i := 78) rfl), List.forall_mem_cons.mpr ⟨tk7 _ (List.mem_of_getElem? (i := 79) rfl), List.forall_mem_cons.mpr ⟨tk7 _ (List.mem_of_getElem? (i := 80) rfl), List.forall_mem_cons.mpr ⟨tk7 _ (List.mem_of_getElem? (i := 81) rfl), List.forall_mem_cons.mpr ⟨tk7 _ (List.mem_of_getElem? (i := 82) rfl), List.forall_mem_cons.mpr ⟨tk7 _ (List.mem_of_getElem? (i := 83) rfl), List.forall_mem_cons.mpr ⟨tk7 _ (List.mem_of_getElem? (i := 89) rfl), List.forall_mem_cons.mpr ⟨tk7 _ (List.mem_of_getElem? (i := 90) rfl), List.forall_mem_cons.mpr ⟨tk7 _ (List.mem_of_getElem? (i := 91) rfl), List.forall_mem_cons.mpr ⟨tk7 _ (List.mem_of_getElem? (i := 92) rfl), List.forall_mem_cons.mpr ⟨tk7 _ (List.mem_of_getElem? (i := 93) rfl), List.forall_mem_cons.mpr ⟨tk7 _ (List.mem_of_getElem? (i := 94) rfl), List.forall_mem_cons.mpr ⟨tk7 _ (List.mem_of_getElem? (i := 95) rfl), List.forall_mem_cons.mpr ⟨tk7 _ (List.mem_of_getElem? (i := 96) rfl), List.forall_mem_cons.mpr ⟨tk7 _ (List.mem_of_getElem? (i := 97) rfl), List.forall_mem_cons.mpr ⟨tk7 _ (List.mem_of_getElem? (i := 98) rfl), List.forall_mem_cons.mpr ⟨tk7 _ (List.mem_of_getElem? (i := 99) rfl), List.forall_mem_cons.mpr ⟨tk7 _ (List.mem_of_getElem? (i := 112) rfl), List.forall_mem_cons.mpr ⟨tk7 _ (List.mem_of_getElem? (i := 113) rfl), List.forall_mem_cons.mpr ⟨tk7 _ (List.mem_of_getElem? (i := 114) rfl), fun _ h => absurd h List.not_mem_nil⟩⟩⟩⟩⟩⟩⟩⟩⟩⟩⟩⟩⟩⟩⟩⟩⟩⟩⟩⟩⟩⟩⟩⟩⟩
set_option maxRecDepth 100000 in
theorem tb_23 : ∀ w ∈ gW_23, w ∈ lw_tbl := List.forall_mem_cons.mpr ⟨tk7 _ (List.mem_of_getElem? (i := 115) rfl), List.forall_mem_cons.mpr ⟨tk7 _ (List.mem_of_getElem? (i := 135) rfl), List.forall_mem_cons.mpr ⟨tk7 _ (List.mem_of_getElem? (i := 136) rfl), List.forall_mem_cons.mpr ⟨tk7 _ (List.mem_of_getElem? (i := 137) rfl), List.forall_mem_cons.mpr ⟨tk7 _ (List.mem_of_getElem? (i := 138) rfl), List.forall_mem_cons.mpr ⟨tk7 _ (List.mem_of_getElem? (i := 139) rfl), List.forall_mem_cons.mpr ⟨tk7 _ (List.mem_of_getElem? (i := 140) rfl), List.forall_mem_cons.mpr ⟨tk7 _ (List.mem_of_getElem? (i := 141) rfl), List.forall_mem_cons.mpr ⟨tk7 _ (List.mem_of_getElem? (i := 142) rfl), List.forall_mem_cons.mpr ⟨tk7 _ (List.mem_of_getElem? (i := 143) rfl), List.forall_mem_cons.mpr ⟨tk7 _ (List.mem_of_getElem? (i := 159) rfl), List.forall_mem_cons.mpr ⟨tk7 _ (List.mem_of_getElem? (i := 160) rfl), List.forall_mem_cons.mpr ⟨tk7 _ (List.mem_of_getElem? (i := 161) rfl), List.forall_mem_cons.mpr ⟨tk7 _ (List.mem_of_getElem? (i := 162) rfl), List.forall_mem_cons.mpr ⟨tk7 _ (List.mem_of_getElem? (i := 163) rfl), List.forall_mem_cons.mpr ⟨tk7 _ (List.mem_of_getElem? (i := 164) rfl), List.forall_mem_cons.mpr ⟨tk7 _ (List.mem_of_getElem? (i := 165) rfl), List.forall_mem_cons.mpr ⟨tk7 _ (List.mem_of_getElem? (i := 167) rfl), List.forall_mem_cons.mpr ⟨tk7 _ (List.mem_of_getElem? (i := 168) rfl), List.forall_mem_cons.mpr ⟨tk7 _ (List.mem_of_getElem? (i := 169) rfl), List.forall_mem_cons.mpr ⟨tk7 _ (List.mem_of_getElem? (i := 170) rfl), List.forall_mem_cons.mpr ⟨tk7 _ (List.mem_of_getElem? (i := 171) rfl), List.forall_mem_cons.mpr ⟨tk7 _ (List.mem_of_getElem? (i := 172) rfl), List.forall_mem_cons.mpr ⟨tk7 _ (List.mem_of_getElem? (i := 173) rfl), List.forall_mem_cons.mpr ⟨tk7 _ (List.mem_of_getElem? (i := 174) rfl), fun _ h => absurd h List.not_mem_nil⟩⟩⟩⟩⟩⟩⟩⟩⟩⟩⟩⟩⟩⟩⟩⟩⟩⟩⟩⟩⟩⟩⟩⟩⟩
set_option maxRecDepth 100000 in
theorem tb_24 : ∀ w ∈ gW_24, w ∈ lw_tbl := List.forall_mem_cons.mpr ⟨tk7 _ (List.mem_of_getElem? (i := 175) rfl), List.forall_mem_cons.mpr ⟨tk7 _ (List.mem_of_getElem? (i := 176) rfl), List.forall_mem_cons.mpr ⟨tk7 _ (List.mem_of_getElem? (i := 177) rfl), List.forall_mem_cons.mpr ⟨tk7 _ (List.mem_of_getElem? (i := 184) rfl), List.forall_mem_cons.mpr ⟨tk7 _ (List.mem_of_getElem? (i := 185) rfl), List.forall_mem_cons.mpr ⟨tk7 _ (List.mem_of_getElem? (i := 186) rfl), List.forall_mem_cons.mpr ⟨tk7 _ (List.mem_of_getElem? (i := 187) rfl), List.forall_mem_cons.mpr ⟨tk7 _ (List.mem_of_getElem? (i := 188) rfl), List.forall_mem_cons.mpr ⟨tk7 _ (List.mem_of_getElem? (i := 189) rfl), List.forall_mem_cons.mpr ⟨tk7 _ (List.mem_of_getElem? (i := 190) rfl), List.forall_mem_cons.mpr ⟨tk7 _ (List.mem_of_getElem? (i := 192) rfl), List.forall_mem_cons.mpr ⟨tk7 _ (List.mem_of_getElem? (i := 193) rfl), List.forall_mem_cons.mpr ⟨tk7 _ (List.mem_of_getElem? (i := 194) rfl), List.forall_mem_cons.mpr ⟨tk7 _ (List.mem_of_getElem? (i := 195) rfl), List.forall_mem_cons.mpr ⟨tk7 _ (List.mem_of_getElem? (i := 196) rfl), List.forall_mem_cons.mpr ⟨tk7 _ (List.mem_of_getElem? (i := 197) rfl), List.forall_mem_cons.mpr ⟨tk7 _ (List.mem_of_getElem? (i := 198) rfl), List.forall_mem_cons.mpr ⟨tk7 _ (List.mem_of_getElem? (i := 199) rfl), List.forall_mem_cons.mpr ⟨tk7 _ (List.mem_of_getElem? (i := 200) rfl), List.forall_mem_cons.mpr ⟨tk7 _ (List.mem_of_getElem? (i := 201) rfl), List.forall_mem_cons.mpr ⟨tk7 _ (List.mem_of_getElem? (i := 202) rfl), List.forall_mem_cons.mpr ⟨tk7 _ (List.mem_of_getElem? (i := 203) rfl), List.forall_mem_cons.mpr ⟨tk7 _ (List.mem_of_getElem? (i := 204) rfl), List.forall_mem_cons.mpr ⟨tk7 _ (List.mem_of_getElem? (i := 205) rfl), List.forall_mem_cons.mpr ⟨tk7 _ (List.mem_of_getElem? (i := 208) rfl), fun _ h => absurd h List.not_mem_nil⟩⟩⟩⟩⟩⟩⟩⟩⟩⟩⟩⟩⟩⟩⟩⟩⟩⟩⟩⟩⟩⟩⟩⟩⟩
set_option maxRecDepth 100000 in
theorem tb_25 : ∀ w ∈ gW_25, w ∈ lw_tbl := List.forall_mem_cons.mpr ⟨tk7 _ (List.mem_of_getElem? (i := 209) rfl), List.forall_mem_cons.mpr ⟨tk7 _ (List.mem_of_getElem? (i := 210) rfl), List.forall_mem_cons.mpr ⟨tk7 _ (List.mem_of_getElem? (i := 211) rfl), List.forall_mem_cons.mpr ⟨tk7 _ (List.mem_of_getElem? (i := 212) rfl), List.forall_mem_cons.mpr ⟨tk7 _ (List.mem_of_getElem? (i := 213) rfl), List.forall_mem_cons.mpr ⟨tk7 _ (List.mem_of_getElem? (i := 214) rfl), List.forall_mem_cons.mpr ⟨tk7 _ (List.mem_of_getElem? (i := 219) rfl), List.forall_mem_cons.mpr ⟨tk7 _ (List.mem_of_getElem? (i := 220) rfl), List.forall_mem_cons.mpr ⟨tk7 _ (List.mem_of_getElem? (i := 221) rfl), List.forall_mem_cons.mpr ⟨tk7 _ (List.mem_of_getElem? (i := 222) rfl), List.forall_mem_cons.mpr ⟨tk7 _ (List.mem_of_getElem? (i := 223) rfl), List.forall_mem_cons.mpr ⟨tk7 _ (List.mem_of_getElem? (i := 224) rfl), List.forall_mem_cons.mpr ⟨tk7 _ (List.mem_of_getElem? (i := 225) rfl), List.forall_mem_cons.mpr ⟨tk7 _ (List.mem_of_getElem? (i := 235) rfl), List.forall_mem_cons.mpr ⟨tk7 _ (List.mem_of_getElem? (i := 236) rfl), List.forall_mem_cons.mpr ⟨tk7 _ (List.mem_of_getElem? (i := 237) rfl), List.forall_mem_cons.mpr ⟨tk7 _ (List.mem_of_getElem? (i := 238) rfl), List.forall_mem_cons.mpr ⟨tk7 _ (List.mem_of_getElem? (i := 239) rfl), List.forall_mem_cons.mpr ⟨tk8 _ (List.mem_of_getElem? (i := 0) rfl), List.forall_mem_cons.mpr ⟨tk8 _ (List.mem_of_getElem? (i := 1) rfl), List.forall_mem_cons.mpr ⟨tk8 _ (List.mem_of_getElem? (i := 7) rfl), List.forall_mem_cons.mpr ⟨tk8 _ (List.mem_of_getElem? (i := 8) rfl), List.forall_mem_cons.mpr ⟨tk8 _ (List.mem_of_getElem? (i := 9) rfl), List.forall_mem_cons.mpr ⟨tk8 _ (List.mem_of_getElem? (i := 10) rfl), List.forall_mem_cons.mpr ⟨tk8 _ (List.mem_of_getElem? (i := 11) rfl), fun _ h => absurd h List.not_mem_nil⟩⟩⟩⟩⟩⟩⟩⟩⟩⟩⟩⟩⟩⟩⟩⟩⟩⟩⟩⟩⟩⟩⟩⟩⟩
set_option maxRecDepth 100000 in
theorem tb_26 : ∀ w ∈ gW_26, w ∈ lw_tbl := List.forall_mem_cons.mpr ⟨tk8 _ (List.mem_of_getElem? (i := 12) rfl), List.forall_mem_cons.mpr ⟨tk8 _ (List.mem_of_getElem? (i := 13) rfl), List.forall_mem_cons.mpr ⟨tk8 _ (List.mem_of_getElem? (i := 29) rfl), List.forall_mem_cons.mpr ⟨tk8 _ (List.mem_of_getElem? (i := 30) rfl), List.forall_mem_cons.mpr ⟨tk8 _ (List.mem_of_getElem? (i := 31) rfl), List.forall_mem_cons.mpr ⟨tk8 _ (List.mem_of_getElem? (i := 32) rfl), List.forall_mem_cons.mpr ⟨tk8 _ (List.mem_of_getElem? (i := 33) rfl), List.forall_mem_cons.mpr ⟨tk8 _ (List.mem_of_getElem? (i := 34) rfl), List.forall_mem_cons.mpr ⟨tk8 _ (List.mem_of_getElem? (i := 35) rfl), List.forall_mem_cons.mpr ⟨tk8 _ (List.mem_of_getElem? (i := 90) rfl), List.forall_mem_cons.mpr ⟨tk8 _ (List.mem_of_getElem? (i := 91) rfl), List.forall_mem_cons.mpr ⟨tk8 _ (List.mem_of_getElem? (i := 92) rfl), List.forall_mem_cons.mpr ⟨tk8 _ (List.mem_of_getElem? (i := 93) rfl), List.forall_mem_cons.mpr ⟨tk8 _ (List.mem_of_getElem? (i := 94) rfl), List.forall_mem_cons.mpr ⟨tk8 _ (List.mem_of_getElem? (i := 95) rfl), List.forall_mem_cons.mpr ⟨tk8 _ (List.mem_of_getElem? (i := 96) rfl), List.forall_mem_cons.mpr ⟨tk8 _ (List.mem_of_getElem? (i := 113) rfl), List.forall_mem_cons.mpr ⟨tk8 _ (List.mem_of_getElem? (i := 114) rfl), List.forall_mem_cons.mpr ⟨tk8 _ (List.mem_of_getElem? (i := 115) rfl), List.forall_mem_cons.mpr ⟨tk8 _ (List.mem_of_getElem? (i := 116) rfl), List.forall_mem_cons.mpr ⟨tk8 _ (List.mem_of_getElem? (i := 117) rfl), List.forall_mem_cons.mpr ⟨tk8 _ (List.mem_of_getElem? (i := 118) rfl), List.forall_mem_cons.mpr ⟨tk8 _ (List.mem_of_getElem? (i := 119) rfl), List.forall_mem_cons.mpr ⟨tk8 _ (List.mem_of_getElem? (i := 143) rfl), List.forall_mem_cons.mpr ⟨tk8 _ (List.mem_of_getElem? (i := 144) rfl), fun _ h => absurd h List.not_mem_nil⟩⟩⟩⟩⟩⟩⟩⟩⟩⟩⟩⟩⟩⟩⟩⟩⟩⟩⟩⟩⟩⟩⟩⟩⟩
set_option maxRecDepth 100000 in
theorem tb_27 : ∀ w ∈ gW_27, w ∈ lw_tbl := List.forall_mem_cons.mpr ⟨tk8 _ (List.mem_of_getElem? (i := 145) rfl), List.forall_mem_cons.mpr ⟨tk8 _ (List.mem_of_getElem? (i := 146) rfl), List.forall_mem_cons.mpr ⟨tk8 _ (List.mem_of_getElem? (i := 147) rfl), List.forall_mem_cons.mpr ⟨tk8 _ (List.mem_of_getElem? (i := 148) rfl), List.forall_mem_cons.mpr ⟨tk8 _ (List.mem_of_getElem? (i := 149) rfl), List.forall_mem_cons.mpr ⟨tk8 _ (List.mem_of_getElem? (i := 211) rfl), List.forall_mem_cons.mpr ⟨tk8 _ (List.mem_of_getElem? (i := 212) rfl), List.forall_mem_cons.mpr ⟨tk8 _ (List.mem_of_getElem? (i := 213) rfl), List.forall_mem_cons.mpr ⟨tk8 _ (List.mem_of_getElem? (i := 214) rfl), List.forall_mem_cons.mpr ⟨tk8 _ (List.mem_of_getElem? (i := 215) rfl), List.forall_mem_cons.mpr ⟨tk8 _ (List.mem_of_getElem? (i := 216) rfl), List.forall_mem_cons.mpr ⟨tk8 _ (List.mem_of_getElem? (i := 217) rfl), List.forall_mem_cons.mpr ⟨tk8 _ (List.mem_of_getElem? (i := 226) rfl), List.forall_mem_cons.mpr ⟨tk8 _ (List.mem_of_getElem? (i := 227) rfl), List.forall_mem_cons.mpr ⟨tk8 _ (List.mem_of_getElem? (i := 228) rfl), List.forall_mem_cons.mpr ⟨tk8 _ (List.mem_of_getElem? (i := 229) rfl), List.forall_mem_cons.mpr ⟨tk8 _ (List.mem_of_getElem? (i := 230) rfl), List.forall_mem_cons.mpr ⟨tk8 _ (List.mem_of_getElem? (i := 231) rfl), List.forall_mem_cons.mpr ⟨tk8 _ (List.mem_of_getElem? (i := 232) rfl), List.forall_mem_cons.mpr ⟨tk8 _ (List.mem_of_getElem? (i := 233) rfl), List.forall_mem_cons.mpr ⟨tk8 _ (List.mem_of_getElem? (i := 235) rfl), List.forall_mem_cons.mpr ⟨tk8 _ (List.mem_of_getElem? (i := 236) rfl), List.forall_mem_cons.mpr ⟨tk8 _ (List.mem_of_getElem? (i := 237) rfl), List.forall_mem_cons.mpr ⟨tk8 _ (List.mem_of_getElem? (i := 238) rfl), List.forall_mem_cons.mpr ⟨tk8 _ (List.mem_of_getElem? (i := 239) rfl), fun _ h => absurd h List.not_mem_nil⟩⟩⟩⟩⟩⟩⟩⟩⟩⟩⟩⟩⟩⟩⟩⟩⟩⟩⟩⟩⟩⟩⟩⟩⟩
set_option maxRecDepth 100000 in
theorem tb_28 : ∀ w ∈ gW_28, w ∈ lw_tbl := List.forall_mem_cons.mpr ⟨tk9 _ (List.mem_of_getElem? (i := 0) rfl), List.forall_mem_cons.mpr ⟨tk9 _ (List.mem_of_getElem? (i := 1) rfl), List.forall_mem_cons.mpr ⟨tk9 _ (List.mem_of_getElem? (i := 2) rfl), List.forall_mem_cons.mpr ⟨tk9 _ (List.mem_of_getElem? (i := 3) rfl), List.forall_mem_cons.mpr ⟨tk9 _ (List.mem_of_getElem? (i := 4) rfl), List.forall_mem_cons.mpr ⟨tk9 _ (List.mem_of_getElem? (i := 5) rfl), List.forall_mem_cons.mpr ⟨tk9 _ (List.mem_of_getElem? (i := 6) rfl), List.forall_mem_cons.mpr ⟨tk9 _ (List.mem_of_getElem? (i := 7) rfl), List.forall_mem_cons.mpr ⟨tk9 _ (List.mem_of_getElem? (i := 8) rfl), List.forall_mem_cons.mpr ⟨tk9 _ (List.mem_of_getElem? (i := 9) rfl), List.forall_mem_cons.mpr ⟨tk9 _ (List.mem_of_getElem? (i := 11) rfl), List.forall_mem_cons.mpr ⟨tk9 _ (List.mem_of_getElem? (i := 12) rfl), List.forall_mem_cons.mpr ⟨tk9 _ (List.mem_of_getElem? (i := 13) rfl), List.forall_mem_cons.mpr ⟨tk9 _ (List.mem_of_getElem? (i := 14) rfl), List.forall_mem_cons.mpr ⟨tk9 _ (List.mem_of_getElem? (i := 15) rfl), List.forall_mem_cons.mpr ⟨tk9 _ (List.mem_of_getElem? (i := 16) rfl), List.forall_mem_cons.mpr ⟨tk9 _ (List.mem_of_getElem? (i := 17) rfl), List.forall_mem_cons.mpr ⟨tk9 _ (List.mem_of_getElem? (i := 18) rfl), List.forall_mem_cons.mpr ⟨tk9 _ (List.mem_of_getElem? (i := 19) rfl), List.forall_mem_cons.mpr ⟨tk9 _ (List.mem_of_getElem? (i := 20) rfl), List.forall_mem_cons.mpr ⟨tk9 _ (List.mem_of_getElem? (i := 21) rfl), List.forall_mem_cons.mpr ⟨tk9 _ (List.mem_of_getElem? (i := 22) rfl), List.forall_mem_cons.mpr ⟨tk9 _ (List.mem_of_getElem? (i := 24) rfl), List.forall_mem_cons.mpr ⟨tk9 _ (List.mem_of_getElem? (i := 25) rfl), List.forall_mem_cons.mpr ⟨tk9 _ (List.mem_of_getElem? (i := 26) rfl), fun _ h => absurd h List.not_mem_nil⟩⟩⟩⟩⟩⟩⟩⟩⟩⟩⟩⟩⟩⟩⟩⟩⟩⟩⟩⟩⟩⟩⟩⟩⟩
set_option maxRecDepth 100000 in
theorem tb_29 : ∀ w ∈ gW_29, w ∈ lw_tbl := List.forall_mem_cons.mpr ⟨tk9 _ (List.mem_of_getElem? (i := 27) rfl), List.forall_mem_cons.mpr ⟨tk9 _ (List.mem_of_getElem? (i := 28) rfl), List.forall_mem_cons.mpr ⟨tk9 _ (List.mem_of_getElem? (i := 29) rfl), List.forall_mem_cons.mpr ⟨tk9 _ (List.mem_of_getElem? (i := 30) rfl), List.forall_mem_cons.mpr ⟨tk9 _ (List.mem_of_getElem? (i := 32) rfl), List.forall_mem_cons.mpr ⟨tk9 _ (List.mem_of_getElem? (i := 33) rfl), List.forall_mem_cons.mpr ⟨tk9 _ (List.mem_of_getElem? (i := 34) rfl), List.forall_mem_cons.mpr ⟨tk9 _ (List.mem_of_getElem? (i := 35) rfl), List.forall_mem_cons.mpr ⟨tk9 _ (List.mem_of_getElem? (i := 36) rfl), List.forall_mem_cons.mpr ⟨tk9 _ (List.mem_of_getElem? (i := 37) rfl), List.forall_mem_cons.mpr ⟨tk9 _ (List.mem_of_getElem? (i := 38) rfl), List.forall_mem_cons.mpr ⟨tk9 _ (List.mem_of_getElem? (i := 40) rfl), List.forall_mem_cons.mpr ⟨tk9 _ (List.mem_of_getElem? (i := 41) rfl), List.forall_mem_cons.mpr ⟨tk9 _ (List.mem_of_getElem? (i := 42) rfl), List.forall_mem_cons.mpr ⟨tk9 _ (List.mem_of_getElem? (i := 43) rfl), List.forall_mem_cons.mpr ⟨tk9 _ (List.mem_of_getElem? (i := 44) rfl), List.forall_mem_cons.mpr ⟨tk9 _ (List.mem_of_getElem? (i := 45) rfl), List.forall_mem_cons.mpr ⟨tk9 _ (List.mem_of_getElem? (i := 46) rfl), List.forall_mem_cons.mpr ⟨tk9 _ (List.mem_of_getElem? (i := 47) rfl), List.forall_mem_cons.mpr ⟨tk9 _ (List.mem_of_getElem? (i := 48) rfl), List.forall_mem_cons.mpr ⟨tk9 _ (List.mem_of_getElem? (i := 49) rfl), List.forall_mem_cons.mpr ⟨tk9 _ (List.mem_of_getElem? (i := 50) rfl), List.forall_mem_cons.mpr ⟨tk9 _ (List.mem_of_getElem? (i := 51) rfl), List.forall_mem_cons.mpr ⟨tk9 _ (List.mem_of_getElem? (i := 52) rfl), List.forall_mem_cons.mpr ⟨tk9 _ (List.mem_of_getElem? (i := 54) rfl), fun _ h => absurd h List.not_mem_nil⟩⟩⟩⟩⟩⟩⟩⟩⟩⟩⟩⟩⟩⟩⟩⟩⟩⟩⟩⟩⟩⟩⟩⟩⟩
set_option maxRecDepth 100000 in
theorem tb_30 : ∀ w ∈ gW_30, w ∈ lw_tbl := List.forall_mem_cons.mpr ⟨tk9 _ (List.mem_of_getElem? (i := 55) rfl), List.forall_mem_cons.mpr ⟨tk9 _ (List.mem_of_getElem? (i := 56) rfl), List.forall_mem_cons.mpr ⟨tk9 _ (List.mem_of_getElem? (i := 58) rfl), List.forall_mem_cons.mpr ⟨tk9 _ (List.mem_of_getElem? (i := 59) rfl), List.forall_mem_cons.mpr ⟨tk9 _ (List.mem_of_getElem? (i := 61) rfl), List.forall_mem_cons.mpr ⟨tk9 _ (List.mem_of_getElem? (i := 62) rfl), List.forall_mem_cons.mpr ⟨tk9 _ (List.mem_of_getElem? (i := 63) rfl), List.forall_mem_cons.mpr ⟨tk9 _ (List.mem_of_getElem? (i := 65) rfl), List.forall_mem_cons.mpr ⟨tk9 _ (List.mem_of_getElem? (i := 67) rfl), List.forall_mem_cons.mpr ⟨tk9 _ (List.mem_of_getElem? (i := 69) rfl), List.forall_mem_cons.mpr ⟨tk9 _ (List.mem_of_getElem? (i := 70) rfl), List.forall_mem_cons.mpr ⟨tk9 _ (List.mem_of_getElem? (i := 72) rfl), List.forall_mem_cons.mpr ⟨tk9 _ (List.mem_of_getElem? (i := 73) rfl), List.forall_mem_cons.mpr ⟨tk9 _ (List.mem_of_getElem? (i := 75) rfl), List.forall_mem_cons.mpr ⟨tk9 _ (List.mem_of_getElem? (i := 76) rfl), List.forall_mem_cons.mpr ⟨tk9 _ (List.mem_of_getElem? (i := 77) rfl), List.forall_mem_cons.mpr ⟨tk9 _ (List.mem_of_getElem? (i := 78) rfl), List.forall_mem_cons.mpr ⟨tk9 _ (List.mem_of_getElem? (i := 79) rfl), List.forall_mem_cons.mpr ⟨tk9 _ (List.mem_of_getElem? (i := 81) rfl), List.forall_mem_cons.mpr ⟨tk9 _ (List.mem_of_getElem? (i := 82) rfl), List.forall_mem_cons.mpr ⟨tk9 _ (List.mem_of_getElem? (i := 83) rfl), List.forall_mem_cons.mpr ⟨tk10 _ (List.mem_of_getElem? (i := 29) rfl), List.forall_mem_cons.mpr ⟨tk10 _ (List.mem_of_getElem? (i := 30) rfl), List.forall_mem_cons.mpr ⟨tk10 _ (List.mem_of_getElem? (i := 31) rfl), List.forall_mem_cons.mpr ⟨tk10 _ (List.mem_of_getElem? (i := 32) rfl), fun _ h => absurd h List.not_mem_nil⟩⟩⟩⟩⟩⟩⟩⟩⟩⟩⟩⟩⟩⟩⟩⟩⟩⟩⟩⟩⟩⟩⟩⟩⟩
set_option maxRecDepth 100000 in
theorem tb_31 : ∀ w ∈ gW_31, w ∈ lw_tbl := List.forall_mem_cons.mpr ⟨tk10 _ (List.mem_of_getElem? (i := 33) rfl), List.forall_mem_cons.mpr ⟨tk10 _ (List.mem_of_getElem? (i := 34) rfl), List.forall_mem_cons.mpr ⟨tk10 _ (List.mem_of_getElem? (i := 35) rfl), List.forall_mem_cons.mpr ⟨tk10 _ (List.mem_of_getElem? (i := 36) rfl), List.forall_mem_cons.mpr ⟨tk10 _ (List.mem_of_getElem? (i := 37) rfl), List.forall_mem_cons.mpr ⟨tk10 _ (List.mem_of_getElem? (i := 39) rfl), List.forall_mem_cons.mpr ⟨tk10 _ (List.mem_of_getElem? (i := 40) rfl), List.forall_mem_cons.mpr ⟨tk10 _ (List.mem_of_getElem? (i := 41) rfl), List.forall_mem_cons.mpr ⟨tk10 _ (List.mem_of_getElem? (i := 43) rfl), List.forall_mem_cons.mpr ⟨tk10 _ (List.mem_of_getElem? (i := 44) rfl), List.forall_mem_cons.mpr ⟨tk10 _ (List.mem_of_getElem? (i := 45) rfl), List.forall_mem_cons.mpr ⟨tk10 _ (List.mem_of_getElem? (i := 46) rfl), List.forall_mem_cons.mpr ⟨tk10 _ (List.mem_of_getElem? (i := 47) rfl), List.forall_mem_cons.mpr ⟨tk10 _ (List.mem_of_getElem? (i := 48) rfl), List.forall_mem_cons.mpr ⟨tk10 _ (List.mem_of_getElem? (i := 49) rfl), List.forall_mem_cons.mpr ⟨tk10 _ (List.mem_of_getElem? (i := 50) rfl), List.forall_mem_cons.mpr ⟨tk10 _ (List.mem_of_getElem? (i := 51) rfl), List.forall_mem_cons.mpr ⟨tk10 _ (List.mem_of_getElem? (i := 52) rfl), List.forall_mem_cons.mpr ⟨tk10 _ (List.mem_of_getElem? (i := 53) rfl), List.forall_mem_cons.mpr ⟨tk10 _ (List.mem_of_getElem? (i := 55) rfl), List.forall_mem_cons.mpr ⟨tk10 _ (List.mem_of_getElem? (i := 56) rfl), List.forall_mem_cons.mpr ⟨tk10 _ (List.mem_of_getElem? (i := 57) rfl), List.forall_mem_cons.mpr ⟨tk10 _ (List.mem_of_getElem? (i := 58) rfl), List.forall_mem_cons.mpr ⟨tk10 _ (List.mem_of_getElem? (i := 59) rfl), List.forall_mem_cons.mpr ⟨tk10 _ (List.mem_of_getElem? (i := 71) rfl), fun _ h => absurd h List.not_mem_nil⟩⟩⟩⟩⟩⟩⟩⟩⟩⟩⟩⟩⟩⟩⟩⟩⟩⟩⟩⟩⟩⟩⟩⟩⟩
set_option maxRecDepth 100000 in
theorem tb_32 : ∀ w ∈ gW_32, w ∈ lw_tbl := List.forall_mem_cons.mpr ⟨tk10 _ (List.mem_of_getElem? (i := 72) rfl), List.forall_mem_cons.mpr ⟨tk10 _ (List.mem_of_getElem? (i := 73) rfl), List.forall_mem_cons.mpr ⟨tk10 _ (List.mem_of_getElem? (i := 74) rfl), List.forall_mem_cons.mpr ⟨tk10 _ (List.mem_of_getElem? (i := 75) rfl), List.forall_mem_cons.mpr ⟨tk10 _ (List.mem_of_getElem? (i := 76) rfl), List.forall_mem_cons.mpr ⟨tk10 _ (List.mem_of_getElem? (i := 77) rfl), List.forall_mem_cons.mpr ⟨tk10 _ (List.mem_of_getElem? (i := 78) rfl), List.forall_mem_cons.mpr ⟨tk10 _ (List.mem_of_getElem? (i := 79) rfl), List.forall_mem_cons.mpr ⟨tk10 _ (List.mem_of_getElem? (i := 80) rfl), List.forall_mem_cons.mpr ⟨tk10 _ (List.mem_of_getElem? (i := 81) rfl), List.forall_mem_cons.mpr ⟨tk10 _ (List.mem_of_getElem? (i := 82) rfl), List.forall_mem_cons.mpr ⟨tk10 _ (List.mem_of_getElem? (i := 83) rfl), List.forall_mem_cons.mpr ⟨tk10 _ (List.mem_of_getElem? (i := 84) rfl), List.forall_mem_cons.mpr ⟨tk10 _ (List.mem_of_getElem? (i := 85) rfl), List.forall_mem_cons.mpr ⟨tk10 _ (List.mem_of_getElem? (i := 86) rfl), List.forall_mem_cons.mpr ⟨tk10 _ (List.mem_of_getElem? (i := 87) rfl), List.forall_mem_cons.mpr ⟨tk10 _ (List.mem_of_getElem? (i := 89) rfl), List.forall_mem_cons.mpr ⟨tk10 _ (List.mem_of_getElem? (i := 90) rfl), List.forall_mem_cons.mpr ⟨tk10 _ (List.mem_of_getElem? (i := 91) rfl), List.forall_mem_cons.mpr ⟨tk10 _ (List.mem_of_getElem? (i := 92) rfl), List.forall_mem_cons.mpr ⟨tk10 _ (List.mem_of_getElem? (i := 93) rfl), List.forall_mem_cons.mpr ⟨tk10 _ (List.mem_of_getElem? (i := 94) rfl), List.forall_mem_cons.mpr ⟨tk10 _ (List.mem_of_getElem? (i := 95) rfl), List.forall_mem_cons.mpr ⟨tk10 _ (List.mem_of_getElem? (i := 96) rfl), List.forall_mem_cons.mpr ⟨tk10 _ (List.mem_of_getElem? (i := 97) rfl), fun _ h => absurd h List.not_mem_nil⟩⟩⟩⟩⟩⟩⟩⟩⟩⟩⟩⟩⟩⟩⟩⟩⟩⟩⟩⟩⟩⟩⟩⟩⟩
set_option maxRecDepth 100000 in
theorem tb_33 : ∀ w ∈ gW_33, w ∈ lw_tbl := List.forall_mem_cons.mpr ⟨tk10 _ (List.mem_of_getElem? (i := 98) rfl), List.forall_mem_cons.mpr ⟨tk10 _ (List.mem_of_getElem? (i := 99) rfl), List.forall_mem_cons.mpr ⟨tk10 _ (List.mem_of_getElem? (i := 100) rfl), List.forall_mem_cons.mpr ⟨tk10 _ (List.mem_of_getElem? (i := 101) rfl), List.forall_mem_cons.mpr ⟨tk10 _ (List.mem_of_getElem? (i := 102) rfl), List.forall_mem_cons.mpr ⟨tk10 _ (List.mem_of_getElem? (i := 103) rfl), List.forall_mem_cons.mpr ⟨tk10 _ (List.mem_of_getElem? (i := 105) rfl), List.forall_mem_cons.mpr ⟨tk10 _ (List.mem_of_getElem? (i := 106) rfl), List.forall_mem_cons.mpr ⟨tk10 _ (List.mem_of_getElem? (i := 144) rfl), List.forall_mem_cons.mpr ⟨tk10 _ (List.mem_of_getElem? (i := 145) rfl), List.forall_mem_cons.mpr ⟨tk10 _ (List.mem_of_getElem? (i := 146) rfl), List.forall_mem_cons.mpr ⟨tk10 _ (List.mem_of_getElem? (i := 147) rfl), List.forall_mem_cons.mpr ⟨tk10 _ (List.mem_of_getElem? (i := 148) rfl), List.forall_mem_cons.mpr ⟨tk10 _ (List.mem_of_getElem? (i := 150) rfl), List.forall_mem_cons.mpr ⟨tk10 _ (List.mem_of_getElem? (i := 151) rfl), List.forall_mem_cons.mpr ⟨tk10 _ (List.mem_of_getElem? (i := 152) rfl), List.forall_mem_cons.mpr ⟨tk10 _ (List.mem_of_getElem? (i := 154) rfl), List.forall_mem_cons.mpr ⟨tk10 _ (List.mem_of_getElem? (i := 155) rfl), List.forall_mem_cons.mpr ⟨tk10 _ (List.mem_of_getElem? (i := 156) rfl), List.forall_mem_cons.mpr ⟨tk10 _ (List.mem_of_getElem? (i := 158) rfl), List.forall_mem_cons.mpr ⟨tk10 _ (List.mem_of_getElem? (i := 159) rfl), List.forall_mem_cons.mpr ⟨tk10 _ (List.mem_of_getElem? (i := 160) rfl), List.forall_mem_cons.mpr ⟨tk10 _ (List.mem_of_getElem? (i := 162) rfl), List.forall_mem_cons.mpr ⟨tk10 _ (List.mem_of_getElem? (i := 163) rfl), List.forall_mem_cons.mpr ⟨tk10 _ (List.mem_of_getElem? (i := 164) rfl), fun _ h => absurd h List.not_mem_nil⟩⟩⟩⟩⟩⟩⟩⟩⟩⟩⟩⟩⟩⟩⟩⟩⟩⟩⟩⟩⟩⟩⟩⟩⟩
set_option maxRecDepth 100000 in
theorem tb_34 : ∀ w ∈ gW_34, w ∈ lw_tbl := List.forall_mem_cons.mpr ⟨tk10 _ (List.mem_of_getElem? (i := 165) rfl), List.forall_mem_cons.mpr ⟨tk10 _ (List.mem_of_getElem? (i := 166) rfl), List.forall_mem_cons.mpr ⟨tk10 _ (List.mem_of_getElem? (i := 167) rfl), List.forall_mem_cons.mpr ⟨tk10 _ (List.mem_of_getElem? (i := 168) rfl), List.forall_mem_cons.mpr ⟨tk10 _ (List.mem_of_getElem? (i := 169) rfl), List.forall_mem_cons.mpr ⟨tk10 _ (List.mem_of_getElem? (i := 170) rfl), List.forall_mem_cons.mpr ⟨tk10 _ (List.mem_of_getElem? (i := 171) rfl), List.forall_mem_cons.mpr ⟨tk10 _ (List.mem_of_getElem? (i := 172) rfl), List.forall_mem_cons.mpr ⟨tk10 _ (List.mem_of_getElem? (i := 173) rfl), List.forall_mem_cons.mpr ⟨tk10 _ (List.mem_of_getElem? (i := 174) rfl), List.forall_mem_cons.mpr ⟨tk10 _ (List.mem_of_getElem? (i := 175) rfl), List.forall_mem_cons.mpr ⟨tk10 _ (List.mem_of_getElem? (i := 176) rfl), List.forall_mem_cons.mpr ⟨tk10 _ (List.mem_of_getElem? (i := 177) rfl), List.forall_mem_cons.mpr ⟨tk10 _ (List.mem_of_getElem? (i := 178) rfl), List.forall_mem_cons.mpr ⟨tk10 _ (List.mem_of_getElem? (i := 179) rfl), List.forall_mem_cons.mpr ⟨tk10 _ (List.mem_of_getElem? (i := 180) rfl), List.forall_mem_cons.mpr ⟨tk10 _ (List.mem_of_getElem? (i := 181) rfl), List.forall_mem_cons.mpr ⟨tk10 _ (List.mem_of_getElem? (i := 182) rfl), List.forall_mem_cons.mpr ⟨tk10 _ (List.mem_of_getElem? (i := 183) rfl), List.forall_mem_cons.mpr ⟨tk10 _ (List.mem_of_getElem? (i := 192) rfl), List.forall_mem_cons.mpr ⟨tk10 _ (List.mem_of_getElem? (i := 193) rfl), List.forall_mem_cons.mpr ⟨tk10 _ (List.mem_of_getElem? (i := 194) rfl), List.forall_mem_cons.mpr ⟨tk10 _ (List.mem_of_getElem? (i := 195) rfl), List.forall_mem_cons.mpr ⟨tk10 _ (List.mem_of_getElem? (i := 196) rfl), List.forall_mem_cons.mpr ⟨tk10 _ (List.mem_of_getElem? (i := 197) rfl), fun _ h => absurd h List.not_mem_nil⟩⟩⟩⟩⟩⟩⟩⟩⟩⟩⟩⟩⟩⟩⟩⟩⟩⟩⟩⟩⟩⟩⟩⟩⟩
set_option maxRecDepth 100000 in
theorem tb_35 : ∀ w ∈ gW_35, w ∈ lw_tbl := List.forall_mem_cons.mpr ⟨tk10 _ (List.mem_of_getElem? (i := 198) rfl), List.forall_mem_cons.mpr ⟨tk10 _ (List.mem_of_getElem? (i := 199) rfl), List.forall_mem_cons.mpr ⟨tk10 _ (List.mem_of_getElem? (i := 200) rfl), List.forall_mem_cons.mpr ⟨tk10 _ (List.mem_of_getElem? (i := 201) rfl), List.forall_mem_cons.mpr ⟨tk10 _ (List.mem_of_getElem? (i := 202) rfl), List.forall_mem_cons.mpr ⟨tk10 _ (List.mem_of_getElem? (i := 203) rfl), List.forall_mem_cons.mpr ⟨tk10 _ (List.mem_of_getElem? (i := 232) rfl), List.forall_mem_cons.mpr ⟨tk10 _ (List.mem_of_getElem? (i := 233) rfl), List.forall_mem_cons.mpr ⟨tk10 _ (List.mem_of_getElem? (i := 234) rfl), List.forall_mem_cons.mpr ⟨tk10 _ (List.mem_of_getElem? (i := 235) rfl), List.forall_mem_cons.mpr ⟨tk11 _ (List.mem_of_getElem? (i := 0) rfl), List.forall_mem_cons.mpr ⟨tk11 _ (List.mem_of_getElem? (i := 1) rfl), List.forall_mem_cons.mpr ⟨tk11 _ (List.mem_of_getElem? (i := 2) rfl), List.forall_mem_cons.mpr ⟨tk11 _ (List.mem_of_getElem? (i := 3) rfl), List.forall_mem_cons.mpr ⟨tk11 _ (List.mem_of_getElem? (i := 4) rfl), List.forall_mem_cons.mpr ⟨tk11 _ (List.mem_of_getElem? (i := 5) rfl), List.forall_mem_cons.mpr ⟨tk11 _ (List.mem_of_getElem? (i := 6) rfl), List.forall_mem_cons.mpr ⟨tk11 _ (List.mem_of_getElem? (i := 7) rfl), List.forall_mem_cons.mpr ⟨tk11 _ (List.mem_of_getElem? (i := 8) rfl), List.forall_mem_cons.mpr ⟨tk11 _ (List.mem_of_getElem? (i := 9) rfl), List.forall_mem_cons.mpr ⟨tk11 _ (List.mem_of_getElem? (i := 10) rfl), List.forall_mem_cons.mpr ⟨tk11 _ (List.mem_of_getElem? (i := 11) rfl), List.forall_mem_cons.mpr ⟨tk11 _ (List.mem_of_getElem? (i := 12) rfl), List.forall_mem_cons.mpr ⟨tk11 _ (List.mem_of_getElem? (i := 13) rfl), List.forall_mem_cons.mpr ⟨tk11 _ (List.mem_of_getElem? (i := 14) rfl), fun _ h => absurd h List.not_mem_nil⟩⟩⟩⟩⟩⟩⟩⟩⟩⟩⟩⟩⟩⟩⟩⟩⟩⟩⟩⟩⟩⟩⟩⟩⟩
set_option maxRecDepth 100000 in
theorem tb_36 : ∀ w ∈ gW_36, w ∈ lw_tbl := List.forall_mem_cons.mpr ⟨tk11 _ (List.mem_of_getElem? (i := 15) rfl), List.forall_mem_cons.mpr ⟨tk11 _ (List.mem_of_getElem? (i := 88) rfl), List.forall_mem_cons.mpr ⟨tk11 _ (List.mem_of_getElem? (i := 89) rfl), List.forall_mem_cons.mpr ⟨tk11 _ (List.mem_of_getElem? (i := 90) rfl), List.forall_mem_cons.mpr ⟨tk11 _ (List.mem_of_getElem? (i := 91) rfl), List.forall_mem_cons.mpr ⟨tk11 _ (List.mem_of_getElem? (i := 96) rfl), List.forall_mem_cons.mpr ⟨tk11 _ (List.mem_of_getElem? (i := 97) rfl), List.forall_mem_cons.mpr ⟨tk11 _ (List.mem_of_getElem? (i := 98) rfl), List.forall_mem_cons.mpr ⟨tk11 _ (List.mem_of_getElem? (i := 99) rfl), List.forall_mem_cons.mpr ⟨tk11 _ (List.mem_of_getElem? (i := 100) rfl), List.forall_mem_cons.mpr ⟨tk11 _ (List.mem_of_getElem? (i := 102) rfl), List.forall_mem_cons.mpr ⟨tk11 _ (List.mem_of_getElem? (i := 103) rfl), List.forall_mem_cons.mpr ⟨tk11 _ (List.mem_of_getElem? (i := 104) rfl), List.forall_mem_cons.mpr ⟨tk11 _ (List.mem_of_getElem? (i := 105) rfl), List.forall_mem_cons.mpr ⟨tk11 _ (List.mem_of_getElem? (i := 106) rfl), List.forall_mem_cons.mpr ⟨tk11 _ (List.mem_of_getElem? (i := 107) rfl), List.forall_mem_cons.mpr ⟨tk11 _ (List.mem_of_getElem? (i := 108) rfl), List.forall_mem_cons.mpr ⟨tk11 _ (List.mem_of_getElem? (i := 109) rfl), List.forall_mem_cons.mpr ⟨tk11 _ (List.mem_of_getElem? (i := 110) rfl), List.forall_mem_cons.mpr ⟨tk11 _ (List.mem_of_getElem? (i := 111) rfl), List.forall_mem_cons.mpr ⟨tk11 _ (List.mem_of_getElem? (i := 112) rfl), List.forall_mem_cons.mpr ⟨tk11 _ (List.mem_of_getElem? (i := 113) rfl), List.forall_mem_cons.mpr ⟨tk11 _ (List.mem_of_getElem? (i := 114) rfl), List.forall_mem_cons.mpr ⟨tk11 _ (List.mem_of_getElem? (i := 115) rfl), List.forall_mem_cons.mpr ⟨tk11 _ (List.mem_of_getElem? (i := 116) rfl), fun _ h => absurd h List.not_mem_nil⟩⟩⟩⟩⟩⟩⟩⟩⟩⟩⟩⟩⟩⟩⟩⟩⟩⟩⟩⟩⟩⟩⟩⟩⟩
set_option maxRecDepth 100000 in
theorem tb_37 : ∀ w ∈ gW_37, w ∈ lw_tbl := List.forall_mem_cons.mpr ⟨tk11 _ (List.mem_of_getElem? (i := 118) rfl), List.forall_mem_cons.mpr ⟨tk11 _ (List.mem_of_getElem? (i := 119) rfl), List.forall_mem_cons.mpr ⟨tk11 _ (List.mem_of_getElem? (i := 124) rfl), List.forall_mem_cons.mpr ⟨tk11 _ (List.mem_of_getElem? (i := 125) rfl), List.forall_mem_cons.mpr ⟨tk11 _ (List.mem_of_getElem? (i := 126) rfl), List.forall_mem_cons.mpr ⟨tk11 _ (List.mem_of_getElem? (i := 127) rfl), List.forall_mem_cons.mpr ⟨tk11 _ (List.mem_of_getElem? (i := 128) rfl), List.forall_mem_cons.mpr ⟨tk11 _ (List.mem_of_getElem? (i := 129) rfl), List.forall_mem_cons.mpr ⟨tk11 _ (List.mem_of_getElem? (i := 130) rfl), List.forall_mem_cons.mpr ⟨tk11 _ (List.mem_of_getElem? (i := 131) rfl), List.forall_mem_cons.mpr ⟨tk11 _ (List.mem_of_getElem? (i := 132) rfl), List.forall_mem_cons.mpr ⟨tk11 _ (List.mem_of_getElem? (i := 133) rfl), List.forall_mem_cons.mpr ⟨tk11 _ (List.mem_of_getElem? (i := 134) rfl), List.forall_mem_cons.mpr ⟨tk11 _ (List.mem_of_getElem? (i := 135) rfl), List.forall_mem_cons.mpr ⟨tk11 _ (List.mem_of_getElem? (i := 136) rfl), List.forall_mem_cons.mpr ⟨tk11 _ (List.mem_of_getElem? (i := 137) rfl), List.forall_mem_cons.mpr ⟨tk11 _ (List.mem_of_getElem? (i := 138) rfl), List.forall_mem_cons.mpr ⟨tk11 _ (List.mem_of_getElem? (i := 139) rfl), List.forall_mem_cons.mpr ⟨tk11 _ (List.mem_of_getElem? (i := 140) rfl), List.forall_mem_cons.mpr ⟨tk11 _ (List.mem_of_getElem? (i := 141) rfl), List.forall_mem_cons.mpr ⟨tk11 _ (List.mem_of_getElem? (i := 142) rfl), List.forall_mem_cons.mpr ⟨tk11 _ (List.mem_of_getElem? (i := 143) rfl), List.forall_mem_cons.mpr ⟨tk11 _ (List.mem_of_getElem? (i := 144) rfl), List.forall_mem_cons.mpr ⟨tk11 _ (List.mem_of_getElem? (i := 145) rfl), List.forall_mem_cons.mpr ⟨tk11 _ (List.mem_of_getElem? (i := 146) rfl), fun _ h => absurd h List.not_mem_nil⟩⟩⟩⟩⟩⟩⟩⟩⟩⟩⟩⟩⟩⟩⟩⟩⟩⟩⟩⟩⟩⟩⟩⟩⟩
set_option maxRecDepth 100000 in
theorem tb_38 : ∀ w ∈ gW_38, w ∈ lw_tbl := List.forall_mem_cons.mpr ⟨tk11 _ (List.mem_of_getElem? (i := 147) rfl), List.forall_mem_cons.mpr ⟨tk11 _ (List.mem_of_getElem? (i := 148) rfl), List.forall_mem_cons.mpr ⟨tk11 _ (List.mem_of_getElem? (i := 149) rfl), List.forall_mem_cons.mpr ⟨tk11 _ (List.mem_of_getElem? (i := 150) rfl), List.forall_mem_cons.mpr ⟨tk11 _ (List.mem_of_getElem? (i := 151) rfl), List.forall_mem_cons.mpr ⟨tk11 _ (List.mem_of_getElem? (i := 152) rfl), List.forall_mem_cons.mpr ⟨tk11 _ (List.mem_of_getElem? (i := 153) rfl), List.forall_mem_cons.mpr ⟨tk11 _ (List.mem_of_getElem? (i := 154) rfl), List.forall_mem_cons.mpr ⟨tk11 _ (List.mem_of_getElem? (i := 155) rfl), List.forall_mem_cons.mpr ⟨tk11 _ (List.mem_of_getElem? (i := 156) rfl), List.forall_mem_cons.mpr ⟨tk11 _ (List.mem_of_getElem? (i := 157) rfl), List.forall_mem_cons.mpr ⟨tk11 _ (List.mem_of_getElem? (i := 158) rfl), List.forall_mem_cons.mpr ⟨tk11 _ (List.mem_of_getElem? (i := 159) rfl), List.forall_mem_cons.mpr ⟨tk11 _ (List.mem_of_getElem? (i := 164) rfl), List.forall_mem_cons.mpr ⟨tk11 _ (List.mem_of_getElem? (i := 165) rfl), List.forall_mem_cons.mpr ⟨tk11 _ (List.mem_of_getElem? (i := 166) rfl), List.forall_mem_cons.mpr ⟨tk11 _ (List.mem_of_getElem? (i := 167) rfl), List.forall_mem_cons.mpr ⟨tk11 _ (List.mem_of_getElem? (i := 168) rfl), List.forall_mem_cons.mpr ⟨tk11 _ (List.mem_of_getElem? (i := 169) rfl), List.forall_mem_cons.mpr ⟨tk11 _ (List.mem_of_getElem? (i := 170) rfl), List.forall_mem_cons.mpr ⟨tk11 _ (List.mem_of_getElem? (i := 171) rfl), List.forall_mem_cons.mpr ⟨tk11 _ (List.mem_of_getElem? (i := 177) rfl), List.forall_mem_cons.mpr ⟨tk11 _ (List.mem_of_getElem? (i := 178) rfl), List.forall_mem_cons.mpr ⟨tk11 _ (List.mem_of_getElem? (i := 179) rfl), List.forall_mem_cons.mpr ⟨tk11 _ (List.mem_of_getElem? (i := 180) rfl), fun _ h => absurd h List.not_mem_nil⟩⟩⟩⟩⟩⟩⟩⟩⟩⟩⟩⟩⟩⟩⟩⟩⟩⟩⟩⟩⟩⟩⟩⟩⟩
set_option maxRecDepth 100000 in
theorem tb_39 : ∀ w ∈ gW_39, w ∈ lw_tbl := List.forall_mem_cons.mpr ⟨tk11 _ (List.mem_of_getElem? (i := 201) rfl), List.forall_mem_cons.mpr ⟨tk11 _ (List.mem_of_getElem? (i := 202) rfl), List.forall_mem_cons.mpr ⟨tk11 _ (List.mem_of_getElem? (i := 203) rfl), List.forall_mem_cons.mpr ⟨tk11 _ (List.mem_of_getElem? (i := 204) rfl), List.forall_mem_cons.mpr ⟨tk11 _ (List.mem_of_getElem? (i := 209) rfl), List.forall_mem_cons.mpr ⟨tk11 _ (List.mem_of_getElem? (i := 210) rfl), List.forall_mem_cons.mpr ⟨tk11 _ (List.mem_of_getElem? (i := 211) rfl), List.forall_mem_cons.mpr ⟨tk11 _ (List.mem_of_getElem? (i := 212) rfl), List.forall_mem_cons.mpr ⟨tk11 _ (List.mem_of_getElem? (i := 225) rfl), List.forall_mem_cons.mpr ⟨tk11 _ (List.mem_of_getElem? (i := 226) rfl), List.forall_mem_cons.mpr ⟨tk11 _ (List.mem_of_getElem? (i := 227) rfl), List.forall_mem_cons.mpr ⟨tk11 _ (List.mem_of_getElem? (i := 228) rfl), List.forall_mem_cons.mpr ⟨tk12 _ (List.mem_of_getElem? (i := 13) rfl), List.forall_mem_cons.mpr ⟨tk12 _ (List.mem_of_getElem? (i := 14) rfl), List.forall_mem_cons.mpr ⟨tk12 _ (List.mem_of_getElem? (i := 15) rfl), List.forall_mem_cons.mpr ⟨tk12 _ (List.mem_of_getElem? (i := 16) rfl), List.forall_mem_cons.mpr ⟨tk12 _ (List.mem_of_getElem? (i := 17) rfl), List.forall_mem_cons.mpr ⟨tk12 _ (List.mem_of_getElem? (i := 18) rfl), List.forall_mem_cons.mpr ⟨tk12 _ (List.mem_of_getElem? (i := 19) rfl), List.forall_mem_cons.mpr ⟨tk12 _ (List.mem_of_getElem? (i := 20) rfl), List.forall_mem_cons.mpr ⟨tk12 _ (List.mem_of_getElem? (i := 21) rfl), List.forall_mem_cons.mpr ⟨tk12 _ (List.mem_of_getElem? (i := 22) rfl), fun _ h => absurd h List.not_mem_nil⟩⟩⟩⟩⟩⟩⟩⟩⟩⟩⟩⟩⟩⟩⟩⟩⟩⟩⟩⟩⟩⟩
set_option maxRecDepth 100000 in
theorem tbL0 : ∀ j, j < 5 → u_lay RX0 TX0 j ∈ lw_tbl := (lt_s (lt_s (lt_s (lt_s (lt_s lt_0 (tk2 _ (List.mem_of_getElem? (i := 217) rfl))) (tk2 _ (List.mem_of_getElem? (i := 219) rfl))) (tk2 _ (List.mem_of_getElem? (i := 221) rfl))) (tk2 _ (List.mem_of_getElem? (i := 223) rfl))) (tk2 _ (List.mem_of_getElem? (i := 225) rfl)))
theorem tbX0 : ∀ w ∈ wsX00, w ∈ lw_tbl := fun w h => by
  obtain ⟨j, hj, rfl⟩ := List.mem_map.mp h
  exact tbL0 j (List.mem_range.mp hj)
set_option maxRecDepth 100000 in
theorem tbL1 : ∀ j, j < 11 → u_lay RX1 TX1 j ∈ lw_tbl := (lt_s (lt_s (lt_s (lt_s (lt_s (lt_s (lt_s (lt_s (lt_s (lt_s (lt_s lt_0 (tk2 _ (List.mem_of_getElem? (i := 34) rfl))) (tk2 _ (List.mem_of_getElem? (i := 36) rfl))) (tk2 _ (List.mem_of_getElem? (i := 38) rfl))) (tk2 _ (List.mem_of_getElem? (i := 40) rfl))) (tk2 _ (List.mem_of_getElem? (i := 42) rfl))) (tk2 _ (List.mem_of_getElem? (i := 44) rfl))) (tk2 _ (List.mem_of_getElem? (i := 46) rfl))) (tk2 _ (List.mem_of_getElem? (i := 48) rfl))) (tk2 _ (List.mem_of_getElem? (i := 50) rfl))) (tk2 _ (List.mem_of_getElem? (i := 52) rfl))) (tk2 _ (List.mem_of_getElem? (i := 54) rfl)))
theorem tbX1 : ∀ w ∈ wsX10, w ∈ lw_tbl := fun w h => by
  obtain ⟨j, hj, rfl⟩ := List.mem_map.mp h
  exact tbL1 j (List.mem_range.mp hj)
set_option maxRecDepth 100000 in
theorem tbL2 : ∀ j, j < 20 → u_lay RX2 TX2 j ∈ lw_tbl := (lt_s (lt_s (lt_s (lt_s (lt_s (lt_s (lt_s (lt_s (lt_s (lt_s (lt_s (lt_s (lt_s (lt_s (lt_s (lt_s (lt_s (lt_s (lt_s (lt_s lt_0 (tk1 _ (List.mem_of_getElem? (i := 203) rfl))) (tk1 _ (List.mem_of_getElem? (i := 205) rfl))) (tk1 _ (List.mem_of_getElem? (i := 207) rfl))) (tk1 _ (List.mem_of_getElem? (i := 209) rfl))) (tk1 _ (List.mem_of_getElem? (i := 211) rfl))) (tk1 _ (List.mem_of_getElem? (i := 213) rfl))) (tk1 _ (List.mem_of_getElem? (i := 215) rfl))) (tk1 _ (List.mem_of_getElem? (i := 217) rfl))) (tk1 _ (List.mem_of_getElem? (i := 219) rfl))) (tk1 _ (List.mem_of_getElem? (i := 221) rfl))) (tk1 _ (List.mem_of_getElem? (i := 223) rfl))) (tk1 _ (List.mem_of_getElem? (i := 225) rfl))) (tk1 _ (List.mem_of_getElem? (i := 227) rfl))) (tk1 _ (List.mem_of_getElem? (i := 229) rfl))) (tk1 _ (List.mem_of_getElem? (i := 231) rfl))) (tk1 _ (List.mem_of_getElem? (i := 233) rfl))) (tk1 _ (List.mem_of_getElem? (i := 235) rfl))) (tk1 _ (List.mem_of_getElem? (i := 237) rfl))) (tk1 _ (List.mem_of_getElem? (i := 239) rfl))) (tk2 _ (List.mem_of_getElem? (i := 1) rfl)))
theorem tbX2 : ∀ w ∈ wsX20, w ∈ lw_tbl := fun w h => by
  obtain ⟨j, hj, rfl⟩ := List.mem_map.mp h
  exact tbL2 j (List.mem_range.mp hj)
set_option maxRecDepth 100000 in
theorem tbL3 : ∀ j, j < 15 → u_lay RX3 TX3 j ∈ lw_tbl := (lt_s (lt_s (lt_s (lt_s (lt_s (lt_s (lt_s (lt_s (lt_s (lt_s (lt_s (lt_s (lt_s (lt_s (lt_s lt_0 (tk3 _ (List.mem_of_getElem? (i := 13) rfl))) (tk3 _ (List.mem_of_getElem? (i := 15) rfl))) (tk3 _ (List.mem_of_getElem? (i := 17) rfl))) (tk3 _ (List.mem_of_getElem? (i := 19) rfl))) (tk3 _ (List.mem_of_getElem? (i := 21) rfl))) (tk3 _ (List.mem_of_getElem? (i := 23) rfl))) (tk3 _ (List.mem_of_getElem? (i := 25) rfl))) (tk3 _ (List.mem_of_getElem? (i := 27) rfl))) (tk3 _ (List.mem_of_getElem? (i := 29) rfl))) (tk3 _ (List.mem_of_getElem? (i := 31) rfl))) (tk3 _ (List.mem_of_getElem? (i := 33) rfl))) (tk3 _ (List.mem_of_getElem? (i := 35) rfl))) (tk3 _ (List.mem_of_getElem? (i := 37) rfl))) (tk3 _ (List.mem_of_getElem? (i := 39) rfl))) (tk3 _ (List.mem_of_getElem? (i := 41) rfl)))
theorem tbX3 : ∀ w ∈ wsX30, w ∈ lw_tbl := fun w h => by
  obtain ⟨j, hj, rfl⟩ := List.mem_map.mp h
  exact tbL3 j (List.mem_range.mp hj)
set_option maxRecDepth 100000 in
theorem tbL4 : ∀ j, j < 5 → u_lay RX4 TX4 j ∈ lw_tbl := (lt_s (lt_s (lt_s (lt_s (lt_s lt_0 (tk2 _ (List.mem_of_getElem? (i := 195) rfl))) (tk2 _ (List.mem_of_getElem? (i := 197) rfl))) (tk2 _ (List.mem_of_getElem? (i := 199) rfl))) (tk2 _ (List.mem_of_getElem? (i := 201) rfl))) (tk2 _ (List.mem_of_getElem? (i := 203) rfl)))
theorem tbX4 : ∀ w ∈ wsX40, w ∈ lw_tbl := fun w h => by
  obtain ⟨j, hj, rfl⟩ := List.mem_map.mp h
  exact tbL4 j (List.mem_range.mp hj)
set_option maxRecDepth 100000 in
theorem tbL5 : ∀ j, j < 19 → u_lay RX5 TX5 j ∈ lw_tbl := (lt_s (lt_s (lt_s (lt_s (lt_s (lt_s (lt_s (lt_s (lt_s (lt_s (lt_s (lt_s (lt_s (lt_s (lt_s (lt_s (lt_s (lt_s (lt_s lt_0 (tk2 _ (List.mem_of_getElem? (i := 145) rfl))) (tk2 _ (List.mem_of_getElem? (i := 147) rfl))) (tk2 _ (List.mem_of_getElem? (i := 149) rfl))) (tk2 _ (List.mem_of_getElem? (i := 151) rfl))) (tk2 _ (List.mem_of_getElem? (i := 153) rfl))) (tk2 _ (List.mem_of_getElem? (i := 155) rfl))) (tk2 _ (List.mem_of_getElem? (i := 157) rfl))) (tk2 _ (List.mem_of_getElem? (i := 159) rfl))) (tk2 _ (List.mem_of_getElem? (i := 161) rfl))) (tk2 _ (List.mem_of_getElem? (i := 163) rfl))) (tk2 _ (List.mem_of_getElem? (i := 165) rfl))) (tk2 _ (List.mem_of_getElem? (i := 167) rfl))) (tk2 _ (List.mem_of_getElem? (i := 169) rfl))) (tk2 _ (List.mem_of_getElem? (i := 171) rfl))) (tk2 _ (List.mem_of_getElem? (i := 173) rfl))) (tk2 _ (List.mem_of_getElem? (i := 175) rfl))) (tk2 _ (List.mem_of_getElem? (i := 177) rfl))) (tk2 _ (List.mem_of_getElem? (i := 179) rfl))) (tk2 _ (List.mem_of_getElem? (i := 181) rfl)))
theorem tbX5 : ∀ w ∈ wsX50, w ∈ lw_tbl := fun w h => by
  obtain ⟨j, hj, rfl⟩ := List.mem_map.mp h
  exact tbL5 j (List.mem_range.mp hj)
set_option maxRecDepth 100000 in
theorem tbL6 : ∀ j, j < 1 → u_lay RX6 TX6 j ∈ lw_tbl := (lt_s lt_0 (tk1 _ (List.mem_of_getElem? (i := 96) rfl)))
theorem tbX6 : ∀ w ∈ wsX60, w ∈ lw_tbl := fun w h => by
  obtain ⟨j, hj, rfl⟩ := List.mem_map.mp h
  exact tbL6 j (List.mem_range.mp hj)
set_option maxRecDepth 100000 in
theorem tbL7 : ∀ j, j < 11 → u_lay RX7 TX7 j ∈ lw_tbl := (lt_s (lt_s (lt_s (lt_s (lt_s (lt_s (lt_s (lt_s (lt_s (lt_s (lt_s lt_0 (tk1 _ (List.mem_of_getElem? (i := 51) rfl))) (tk1 _ (List.mem_of_getElem? (i := 53) rfl))) (tk1 _ (List.mem_of_getElem? (i := 55) rfl))) (tk1 _ (List.mem_of_getElem? (i := 57) rfl))) (tk1 _ (List.mem_of_getElem? (i := 59) rfl))) (tk1 _ (List.mem_of_getElem? (i := 61) rfl))) (tk1 _ (List.mem_of_getElem? (i := 63) rfl))) (tk1 _ (List.mem_of_getElem? (i := 65) rfl))) (tk1 _ (List.mem_of_getElem? (i := 67) rfl))) (tk1 _ (List.mem_of_getElem? (i := 69) rfl))) (tk1 _ (List.mem_of_getElem? (i := 71) rfl)))
theorem tbX7 : ∀ w ∈ wsX70, w ∈ lw_tbl := fun w h => by
  obtain ⟨j, hj, rfl⟩ := List.mem_map.mp h
  exact tbL7 j (List.mem_range.mp hj)
set_option maxRecDepth 100000 in
theorem tbL8 : ∀ j, j < 13 → u_lay RX8 TX8 j ∈ lw_tbl := (lt_s (lt_s (lt_s (lt_s (lt_s (lt_s (lt_s (lt_s (lt_s (lt_s (lt_s (lt_s (lt_s lt_0 (tk1 _ (List.mem_of_getElem? (i := 114) rfl))) (tk1 _ (List.mem_of_getElem? (i := 116) rfl))) (tk1 _ (List.mem_of_getElem? (i := 118) rfl))) (tk1 _ (List.mem_of_getElem? (i := 120) rfl))) (tk1 _ (List.mem_of_getElem? (i := 122) rfl))) (tk1 _ (List.mem_of_getElem? (i := 124) rfl))) (tk1 _ (List.mem_of_getElem? (i := 126) rfl))) (tk1 _ (List.mem_of_getElem? (i := 128) rfl))) (tk1 _ (List.mem_of_getElem? (i := 130) rfl))) (tk1 _ (List.mem_of_getElem? (i := 132) rfl))) (tk1 _ (List.mem_of_getElem? (i := 134) rfl))) (tk1 _ (List.mem_of_getElem? (i := 136) rfl))) (tk1 _ (List.mem_of_getElem? (i := 138) rfl)))
theorem tbX8 : ∀ w ∈ wsX80, w ∈ lw_tbl := fun w h => by
  obtain ⟨j, hj, rfl⟩ := List.mem_map.mp h
  exact tbL8 j (List.mem_range.mp hj)
set_option maxRecDepth 100000 in
theorem tbL9 : ∀ j, j < 18 → u_lay RX9 TX9 j ∈ lw_tbl := (lt_s (lt_s (lt_s (lt_s (lt_s (lt_s (lt_s (lt_s (lt_s (lt_s (lt_s (lt_s (lt_s (lt_s (lt_s (lt_s (lt_s (lt_s lt_0 (tk2 _ (List.mem_of_getElem? (i := 83) rfl))) (tk2 _ (List.mem_of_getElem? (i := 85) rfl))) (tk2 _ (List.mem_of_getElem? (i := 87) rfl))) (tk2 _ (List.mem_of_getElem? (i := 89) rfl))) (tk2 _ (List.mem_of_getElem? (i := 91) rfl))) (tk2 _ (List.mem_of_getElem? (i := 93) rfl))) (tk2 _ (List.mem_of_getElem? (i := 95) rfl))) (tk2 _ (List.mem_of_getElem? (i := 97) rfl))) (tk2 _ (List.mem_of_getElem? (i := 99) rfl))) (tk2 _ (List.mem_of_getElem? (i := 101) rfl))) (tk2 _ (List.mem_of_getElem? (i := 103) rfl))) (tk2 _ (List.mem_of_getElem? (i := 105) rfl))) (tk2 _ (List.mem_of_getElem? (i := 107) rfl))) (tk2 _ (List.mem_of_getElem? (i := 109) rfl))) (tk2 _ (List.mem_of_getElem? (i := 111) rfl))) (tk2 _ (List.mem_of_getElem? (i := 113) rfl))) (tk2 _ (List.mem_of_getElem? (i := 115) rfl))) (tk2 _ (List.mem_of_getElem? (i := 117) rfl)))
theorem tbX9 : ∀ w ∈ wsX90, w ∈ lw_tbl := fun w h => by
  obtain ⟨j, hj, rfl⟩ := List.mem_map.mp h
  exact tbL9 j (List.mem_range.mp hj)
set_option maxRecDepth 100000 in
theorem tbL10 : ∀ j, j < 7 → u_lay RX10 TX10 j ∈ lw_tbl := (lt_s (lt_s (lt_s (lt_s (lt_s (lt_s (lt_s lt_0 (tk1 _ (List.mem_of_getElem? (i := 158) rfl))) (tk1 _ (List.mem_of_getElem? (i := 160) rfl))) (tk1 _ (List.mem_of_getElem? (i := 162) rfl))) (tk1 _ (List.mem_of_getElem? (i := 164) rfl))) (tk1 _ (List.mem_of_getElem? (i := 166) rfl))) (tk1 _ (List.mem_of_getElem? (i := 168) rfl))) (tk1 _ (List.mem_of_getElem? (i := 170) rfl)))
theorem tbX10 : ∀ w ∈ wsX100, w ∈ lw_tbl := fun w h => by
  obtain ⟨j, hj, rfl⟩ := List.mem_map.mp h
  exact tbL10 j (List.mem_range.mp hj)
set_option maxRecDepth 100000 in
theorem tbL11 : ∀ j, j < 11 → u_lay RX11 TX11 j ∈ lw_tbl := (lt_s (lt_s (lt_s (lt_s (lt_s (lt_s (lt_s (lt_s (lt_s (lt_s (lt_s lt_0 (tk3 _ (List.mem_of_getElem? (i := 58) rfl))) (tk3 _ (List.mem_of_getElem? (i := 60) rfl))) (tk3 _ (List.mem_of_getElem? (i := 62) rfl))) (tk3 _ (List.mem_of_getElem? (i := 64) rfl))) (tk3 _ (List.mem_of_getElem? (i := 66) rfl))) (tk3 _ (List.mem_of_getElem? (i := 68) rfl))) (tk3 _ (List.mem_of_getElem? (i := 70) rfl))) (tk3 _ (List.mem_of_getElem? (i := 72) rfl))) (tk3 _ (List.mem_of_getElem? (i := 74) rfl))) (tk3 _ (List.mem_of_getElem? (i := 76) rfl))) (tk3 _ (List.mem_of_getElem? (i := 78) rfl)))
theorem tbX11 : ∀ w ∈ wsX110, w ∈ lw_tbl := fun w h => by
  obtain ⟨j, hj, rfl⟩ := List.mem_map.mp h
  exact tbL11 j (List.mem_range.mp hj)
set_option maxRecDepth 100000 in
theorem tbL12 : ∀ j, j < 92 → u_lay RX12 TX12 j ∈ lw_tbl := (lt_s (lt_s (lt_s (lt_s (lt_s (lt_s (lt_s (lt_s (lt_s (lt_s (lt_s (lt_s (lt_s (lt_s (lt_s (lt_s (lt_s (lt_s (lt_s (lt_s (lt_s (lt_s (lt_s (lt_s (lt_s (lt_s (lt_s (lt_s (lt_s (lt_s (lt_s (lt_s (lt_s (lt_s (lt_s (lt_s (lt_s (lt_s (lt_s (lt_s (lt_s (lt_s (lt_s (lt_s (lt_s (lt_s (lt_s (lt_s (lt_s (lt_s (lt_s (lt_s (lt_s (lt_s (lt_s (lt_s (lt_s (lt_s (lt_s (lt_s (lt_s (lt_s (lt_s (lt_s (lt_s (lt_s (lt_s (lt_s (lt_s (lt_s (lt_s (lt_s (lt_s (lt_s (lt_s (lt_s (lt_s (lt_s (lt_s (lt_s (lt_s (lt_s (lt_s (lt_s (lt_s (lt_s (lt_s (lt_s (lt_s (lt_s (lt_s (lt_s lt_0 (tk9 _ (List.mem_of_getElem? (i := 84) rfl))) (tk9 _ (List.mem_of_getElem? (i := 86) rfl))) (tk9 _ (List.mem_of_getElem? (i := 88) rfl))) (tk9 _ (List.mem_of_getElem? (i := 90) rfl))) (tk9 _ (List.mem_of_getElem? (i := 92) rfl))) (tk9 _ (List.mem_of_getElem? (i := 94) rfl))) (tk9 _ (List.mem_of_getElem? (i := 96) rfl))) (tk9 _ (List.mem_of_getElem? (i := 98) rfl))) (tk9 _ (List.mem_of_getElem? (i := 100) rfl))) (tk9 _ (List.mem_of_getElem? (i := 102) rfl))) (tk9 _ (List.mem_of_getElem? (i := 104) rfl))) (tk9 _ (List.mem_of_getElem? (i := 106) rfl))) (tk9 _ (List.mem_of_getElem? (i := 108) rfl))) (tk9 _ (List.mem_of_getElem? (i := 110) rfl))) (tk9 _ (List.mem_of_getElem? (i := 112) rfl))) (tk9 _ (List.mem_of_getElem? (i := 114) rfl))) (tk9 _ (List.mem_of_getElem? (i := 116) rfl))) (tk9 _ (List.mem_of_getElem? (i := 118) rfl))) (tk9 _ (List.mem_of_getElem? (i := 120) rfl))) (tk9 _ (List.mem_of_getElem? (i := 122) rfl))) (tk9 _ (List.mem_of_getElem? (i := 124) rfl))) (tk9 _ (List.mem_of_getElem? (i := 126) rfl))) (tk9 _ (List.mem_of_getElem? (i := 128) rfl))) (tk9 _ (List.mem_of_getElem? (i := 130) rfl))) (tk9 _ (List.mem_of_getElem? (i := 132) rfl))) (tk9 _ (List.mem_of_getElem? (i := 134) rfl))) (tk9 _ (List.mem_of_getElem? (i := 136) rfl))) (tk9 _ (List.mem_of_getElem? (i := 138) rfl))) (tk9 _ (List.mem_of_getElem? (i := 140) rfl))) (tk9 _ (List.mem_of_getElem? (i := 142) rfl))) (tk9 _ (List.mem_of_getElem? (i := 144) rfl))) (tk9 _ (List.mem_of_getElem? (i := 146) rfl))) (tk9 _ (List.mem_of_getElem? (i := 148) rfl))) (tk9 _ (List.mem_of_getElem? (i := 150) rfl))) (tk9 _ (List.mem_of_getElem? (i := 152) rfl))) (tk9 _ (List.mem_of_getElem? (i := 154) rfl))) (tk9 _ (List.mem_of_getElem? (i := 156) rfl))) (tk9 _ (List.mem_of_getElem? (i := 158) rfl))) (tk9 _ (List.mem_of_getElem? (i := 160) rfl))) (tk9 _ (List.mem_of_getElem? (i := 162) rfl))) (tk9 _ (List.mem_of_getElem? (i := 164) rfl))) (tk9 _ (List.mem_of_getElem? (i := 166) rfl))) (tk9 _ (List.mem_of_getElem? (i := 168) rfl))) (tk9 _ (List.mem_of_getElem? (i := 170) rfl))) (tk9 _ (List.mem_of_getElem? (i := 172) rfl))) (tk9 _ (List.mem_of_getElem? (i := 174) rfl))) (tk9 _ (List.mem_of_getElem? (i := 176) rfl))) (tk9 _ (List.mem_of_getElem? (i := 178) rfl))) (tk9 _ (List.mem_of_getElem? (i := 180) rfl))) (tk9 _ (List.mem_of_getElem? (i := 182) rfl))) (tk9 _ (List.mem_of_getElem? (i := 184) rfl))) (tk9 _ (List.mem_of_getElem? (i := 186) rfl))) (tk9 _ (List.mem_of_getElem? (i := 188) rfl))) (tk9 _ (List.mem_of_getElem? (i := 190) rfl))) (tk9 _ (List.mem_of_getElem? (i := 192) rfl))) (tk9 _ (List.mem_of_getElem? (i := 194) rfl))) (tk9 _ (List.mem_of_getElem? (i := 196) rfl))) (tk9 _ (List.mem_of_getElem? (i := 198) rfl))) (tk9 _ (List.mem_of_getElem? (i := 200) rfl))) (tk9 _ (List.mem_of_getElem? (i := 202) rfl))) (tk9 _ (List.mem_of_getElem? (i := 204) rfl))) (tk9 _ (List.mem_of_getElem? (i := 206) rfl))) (tk9 _ (List.mem_of_getElem? (i := 208) rfl))) (tk9 _ (List.mem_of_getElem? (i := 210) rfl))) (tk9 _ (List.mem_of_getElem? (i := 212) rfl))) (tk9 _ (List.mem_of_getElem? (i := 214) rfl))) (tk9 _ (List.mem_of_getElem? (i := 216) rfl))) (tk9 _ (List.mem_of_getElem? (i := 218) rfl))) (tk9 _ (List.mem_of_getElem? (i := 220) rfl))) (tk9 _ (List.mem_of_getElem? (i := 222) rfl))) (tk9 _ (List.mem_of_getElem? (i := 224) rfl))) (tk9 _ (List.mem_of_getElem? (i := 226) rfl))) (tk9 _ (List.mem_of_getElem? (i := 228) rfl))) (tk9 _ (List.mem_of_getElem? (i := 230) rfl))) (tk9 _ (List.mem_of_getElem? (i := 232) rfl))) (tk9 _ (List.mem_of_getElem? (i := 234) rfl))) (tk9 _ (List.mem_of_getElem? (i := 236) rfl))) (tk9 _ (List.mem_of_getElem? (i := 238) rfl))) (tk10 _ (List.mem_of_getElem? (i := 0) rfl))) (tk10 _ (List.mem_of_getElem? (i := 2) rfl))) (tk10 _ (List.mem_of_getElem? (i := 4) rfl))) (tk10 _ (List.mem_of_getElem? (i := 6) rfl))) (tk10 _ (List.mem_of_getElem? (i := 8) rfl))) (tk10 _ (List.mem_of_getElem? (i := 10) rfl))) (tk10 _ (List.mem_of_getElem? (i := 12) rfl))) (tk10 _ (List.mem_of_getElem? (i := 14) rfl))) (tk10 _ (List.mem_of_getElem? (i := 16) rfl))) (tk10 _ (List.mem_of_getElem? (i := 18) rfl))) (tk10 _ (List.mem_of_getElem? (i := 20) rfl))) (tk10 _ (List.mem_of_getElem? (i := 22) rfl))) (tk10 _ (List.mem_of_getElem? (i := 24) rfl))) (tk10 _ (List.mem_of_getElem? (i := 26) rfl)))
theorem tbX12 : ∀ w ∈ wsX120, w ∈ lw_tbl := fun w h => by
  obtain ⟨j, hj, rfl⟩ := List.mem_map.mp h
  exact tbL12 j (List.mem_range.mp hj)
theorem tbE0 : ∀ w ∈ (vx_atS RX11 102 g_ISE g_nm).filter goodWord, w ∈ lw_tbl := fun w h => (goodIn_r ((vx_atS RX11 102 g_ISE g_nm).filter goodWord) [137, 940, 949, 956, 959, 961, 941, 942, 154, 155, 943, 948, 957, 977, 930, 978, 932, 979, 934, 944, 946, 936, 973, 974, 976, 936, 964, 965, 966, 967, 967, 968, 969, 970, 970, 971, 972, 973, 963, 919, 927, 928, 929, 931, 933, 935, 939, 938, 937] (by decide +kernel) (by decide +kernel) w h).1
theorem tbE1 : ∀ w ∈ (vx_atS RX11 112 g_IAE g_nm).filter goodWord, w ∈ lw_tbl := fun w h => (goodIn_r ((vx_atS RX11 112 g_IAE g_nm).filter goodWord) [137, 940, 949, 956, 959, 961, 941, 942, 154, 155, 943, 948, 957, 977, 930, 978, 932, 979, 934, 944, 946, 936, 973, 974, 976, 936, 1011, 1012, 1013, 967, 967, 968, 969, 970, 970, 971, 972, 973, 1010, 1001, 1003, 953, 1004, 1005, 1006, 1007, 939, 938, 1008] (by decide +kernel) (by decide +kernel) w h).1
theorem tbE2 : ∀ w ∈ (vx_atS RX11 173 g_IOB g_nm).filter goodWord, w ∈ lw_tbl := fun w h => (goodIn_r ((vx_atS RX11 173 g_IOB g_nm).filter goodWord) [137, 940, 949, 956, 959, 961, 941, 942, 154, 155, 943, 948, 957, 977, 930, 978, 932, 979, 934, 944, 946, 936, 973, 974, 976, 936, 1122, 1123, 1124, 967, 967, 968, 969, 970, 970, 971, 972, 973, 1159, 1150, 1152, 954, 1153, 1154, 1155, 1156, 939, 938, 1157] (by decide +kernel) (by decide +kernel) w h).1
theorem gW_in : ∀ w ∈ gW, w ∈ lw_tbl := List.forall_mem_append.mpr ⟨tb_0, List.forall_mem_append.mpr ⟨tb_1, List.forall_mem_append.mpr ⟨tb_2, List.forall_mem_append.mpr ⟨tb_3, List.forall_mem_append.mpr ⟨tb_4, List.forall_mem_append.mpr ⟨tb_5, List.forall_mem_append.mpr ⟨tb_6, List.forall_mem_append.mpr ⟨tb_7, List.forall_mem_append.mpr ⟨tb_8, List.forall_mem_append.mpr ⟨tb_9, List.forall_mem_append.mpr ⟨tb_10, List.forall_mem_append.mpr ⟨tb_11, List.forall_mem_append.mpr ⟨tb_12, List.forall_mem_append.mpr ⟨tb_13, List.forall_mem_append.mpr ⟨tb_14, List.forall_mem_append.mpr ⟨tb_15, List.forall_mem_append.mpr ⟨tb_16, List.forall_mem_append.mpr ⟨tb_17, List.forall_mem_append.mpr ⟨tb_18, List.forall_mem_append.mpr ⟨tb_19, List.forall_mem_append.mpr ⟨tb_20, List.forall_mem_append.mpr ⟨tb_21, List.forall_mem_append.mpr ⟨tb_22, List.forall_mem_append.mpr ⟨tb_23, List.forall_mem_append.mpr ⟨tb_24, List.forall_mem_append.mpr ⟨tb_25, List.forall_mem_append.mpr ⟨tb_26, List.forall_mem_append.mpr ⟨tb_27, List.forall_mem_append.mpr ⟨tb_28, List.forall_mem_append.mpr ⟨tb_29, List.forall_mem_append.mpr ⟨tb_30, List.forall_mem_append.mpr ⟨tb_31, List.forall_mem_append.mpr ⟨tb_32, List.forall_mem_append.mpr ⟨tb_33, List.forall_mem_append.mpr ⟨tb_34, List.forall_mem_append.mpr ⟨tb_35, List.forall_mem_append.mpr ⟨tb_36, List.forall_mem_append.mpr ⟨tb_37, List.forall_mem_append.mpr ⟨tb_38, List.forall_mem_append.mpr ⟨tb_39, List.forall_mem_append.mpr ⟨tbX0, List.forall_mem_append.mpr ⟨tbX1, List.forall_mem_append.mpr ⟨tbX2, List.forall_mem_append.mpr ⟨tbX3, List.forall_mem_append.mpr ⟨tbX4, List.forall_mem_append.mpr ⟨tbX5, List.forall_mem_append.mpr ⟨tbX6, List.forall_mem_append.mpr ⟨tbX7, List.forall_mem_append.mpr ⟨tbX8, List.forall_mem_append.mpr ⟨tbX9, List.forall_mem_append.mpr ⟨tbX10, List.forall_mem_append.mpr ⟨tbX11, List.forall_mem_append.mpr ⟨tbX12, List.forall_mem_append.mpr ⟨tbE0, List.forall_mem_append.mpr ⟨tbE1, tbE2⟩⟩⟩⟩⟩⟩⟩⟩⟩⟩⟩⟩⟩⟩⟩⟩⟩⟩⟩⟩⟩⟩⟩⟩⟩⟩⟩⟩⟩⟩⟩⟩⟩⟩⟩⟩⟩⟩⟩⟩⟩⟩⟩⟩⟩⟩⟩⟩⟩⟩⟩⟩⟩⟩⟩
end VWd
end
section
/-! The forms of this claim's contracts, and a row for each instruction over one judgement V: 'from here, in any heap that holds the world ws, with the locals lv, the goal is reached'. -/
section VB
abbrev g_T : Type := List (ClassId × FieldType)
abbrev gCl : List vw_C := [(RX0, TX0, 5), (RX1, TX1, 11), (RX2, TX2, 20), (RX3, TX3, 15), (RX4, TX4, 5), (RX5, TX5, 19), (RX6, TX6, 1), (RX7, TX7, 11), (RX8, TX8, 13), (RX9, TX9, 18), (RX10, TX10, 7), (RX11, TX11, 11), (RX12, TX12, 92)]
abbrev g_ty (d : Nat → ClassId) : g_T := [(d 0, .int), (d 1, .byte), (d 2, .boolean), (d 3, .long)]
abbrev g_S : Type := (Nat → Nat) × (Nat → Nat → Int32) × (Nat → Nat → Value)
def g_wd (y : MethodName) (b : ByteArray) (n : Nat) (r : Option FieldType) : List Cond := Cond.code y b n r :: gW
def g_wh (y : MethodName) (b : ByteArray) (n : Nat) (r : Option FieldType) (hh : List (Nat × Nat × Nat × Nat)) : List Cond := Cond.codeWith y b n r hh :: gW
theorem g_all : gW.all goodWord = true := by decide +kernel
theorem g_good : GoodIn gW gW := fun w h => ⟨h, good_of_word (List.all_eq_true.mp g_all w h)⟩
theorem g_goodC {w0 : Cond} (h0 : w0 ∈ gW) : GoodIn gW (w0 :: gW) := fun w h => (List.mem_cons.mp h).elim (fun e => by rw [e]; exact g_good _ h0) (fun h => g_good w h)
theorem g_goodA {a b : List Cond} (ha : ∀ w ∈ a, w ∈ gW) (hb : GoodIn gW b) : GoodIn gW (a ++ b) := fun w h => (List.mem_append.mp h).elim (fun h => g_good w (ha w h)) (fun h => hb w h)
-- exceptions: what is not among the good words, the texts of the class's own throws
def gB : List Cond := [.declares (Bundle.initS "java/lang/RuntimeException"), .declares (Bundle.initS "java/lang/Exception"), .declares (Bundle.initS "java/lang/Throwable"), .castable g_ISE g_ISE, .castable g_IAE g_IAE, .castable g_IOB g_IOB, .castable g_NSE g_NSE, .methodLinkNest RX11 9 yX7_init "GroundProver"]
def gTx : List (Nat × String) := [(100, "the input buffer would be too long"), (110, "the input buffer has not so many bytes"), (126, "arity, weight or name"), (131, "the name is taken, or there are too many symbols"), (141, "not a name"), (156, "the order is fixed"), (171, "no such symbol or rank"), (182, "no such symbol"), (197, "no such symbol or term"), (214, "the term is too large"), (223, "the text has an error"), (235, "no such term"), (241, "no such term or argument"), (282, "the output would be too long"), (288, "no such byte"), (296, "a term is not ground"), (301, "there are too many equations"), (315, "a rule would be too large"), (317, "there are too many separations"), (341, "there are too many equations or separations"), (351, "no separation is violated"), (357, "there are too many levels"), (362, "there is no level"), (370, "no such rule"), (381, "the normal form is too large"), (387, "no such term or equation"), (396, "there are not so many steps"), (401, "the size is not 1 to 12"), (413, "the smallest term is too large"), (415, "the term is not ground, or the pattern is too large"), (420, "there are too many solutions"), (428, "no such solution or symbol"), (436, "the pattern has no such variable")]
def g_AO (U : State) : Prop := (Cond.arrayOver (.array .int)).before #[] U = true
theorem g_AO.moved {u U : State} (hvm : u.vm.Alike U.vm) (h : g_AO u) : g_AO U := by
  obtain ⟨comp, c, k, h1, h2, h3, h4, h5⟩ := arrayOverA_spec h
  obtain ⟨k', hk', he⟩ := hvm.2.2 _ _ h3
  have e1 := va_idx_bare U.vm comp
  have e2 := va_idx_bare u.vm comp
  have e3 : U.vm.bare = u.vm.bare := by first | exact hvm.bare_eq | exact hvm.bare_eq.symm
  rw [e3] at e1
  have hi := (e1.symm.trans e2).trans h2
  have hkind : k'.kind = .array comp (.array .int) := by rw [he]; exact h4
  have f1 : U.vm.findClass (FieldType.array .int).toString = some comp := by rw [hvm.findClass]; exact h1
  have f2 : U.vm.findClass ("[" ++ (FieldType.array .int).toString) = some c := by rw [hvm.findClass]; exact h5
  unfold g_AO Cond.before Cond.holds
  simp only [Cond.value]
  rw [f1, Option.bind_some]
  refine (congrArg (fun o : Option Nat => (o.bind (fun c => (U.vm.classes[c]?).map fun (k : Class) => match k.kind with | .array _ ty => decide (ty = FieldType.array .int) && decide (U.vm.findClass ("[" ++ (FieldType.array .int).toString) = some c) | _ => false) == some true)) hi).trans ?_
  simp [hk', hkind, f2]
def g_ex (A : Nat → Prop) (U : State) : Prop := vx_Zq Bundle.tN "UNASSIGNED_STACK" Bundle.steD A U U.heap ∧ vx_Zq Bundle.tN "SUPPRESSED_SENTINEL" Bundle.listD A U U.heap ∧ ∀ q ∈ gTx, ∃ sa : Nat, vk_R RX11 q.1 q.2 sa U
theorem gB_warm {s U : State} (hW : s.WarmedH U.vm) (h : ∀ w ∈ gB, va_Nw w s) : ∀ w ∈ gB, va_Nw w U := by
  have h' : ∀ w ∈ gB, (∃ x, w = .declares x) ∨ (∃ a b, w = .castable a b) ∨ ∃ a i x h, w = .methodLinkNest a i x h := by
    intro w hw
    simp only [gB, List.mem_cons, List.not_mem_nil, or_false] at hw
    rcases hw with rfl | rfl | rfl | rfl | rfl | rfl | rfl | rfl <;> first | exact Or.inl ⟨_, rfl⟩ | exact Or.inr (Or.inl ⟨_, _, rfl⟩) | exact Or.inr (Or.inr ⟨_, _, _, _, rfl⟩)
  intro w hw
  rcases h' w hw with ⟨x, rfl⟩ | ⟨a, b, rfl⟩ | ⟨a, i, x, h0, rfl⟩
  · exact (h _ hw).warmD hW
  · exact (h _ hw).warmC hW
  · exact (h _ hw).warmM hW
theorem gB_same {s U : State} (hv : s.vm = U.vm) (h : ∀ w ∈ gB, va_Nw w s) : ∀ w ∈ gB, va_Nw w U := by
  have h' : ∀ w ∈ gB, w.onTables = true := by decide +kernel
  exact fun w hw => (h w hw).same (h' w hw) hv
theorem g_ex.to {A B : Nat → Prop} {s U : State} {H : Heap} {locs : List Loc} (hS : va_S A s.heap H locs) (hU : U.heap = H) (hW : s.WarmedH U.vm) (hAB : ∀ q, B q → A q) (h : g_ex A s) : g_ex B U := by
  subst hU
  obtain ⟨h1, h2, h4⟩ := h
  exact ⟨((h1.kept hS.2.1).moved hW.alike).narrow hAB, ((h2.kept hS.2.1).moved hW.alike).narrow hAB, fun q hq => (h4 q hq).imp fun sa h => h.warm hW⟩
theorem g_ex.same {A : Nat → Prop} {s U : State} (hU : U.heap = s.heap) (hv : s.vm = U.vm) (h : g_ex A s) : g_ex A U := by
  obtain ⟨h1, h2, h4⟩ := h
  have ha : s.vm.Alike U.vm := by rw [hv]; exact Vm.Alike.refl _
  refine ⟨?_, ?_, fun q hq => (h4 q hq).imp fun sa h => vk_R.same hv.symm h⟩
  · rw [hU]; exact h1.moved ha
  · rw [hU]; exact h2.moved ha
def g_pr (E : Bool) (D : va_G) (d : Nat → ClassId) (W : va_W) (sz : Nat) (U : State) : Prop := U.heap.size = sz ∧ va_P D gCl W U.heap ∧ va_K D gCl (g_ty d) U ∧ va_D (fun _ => True) W ∧ g_AO U ∧ (∀ w ∈ gB, va_Nw w U) ∧ (E = true → g_ex (va_A W sz) U)
def g_po (D : va_G) (A : Nat → Prop) {S : Type} (w1 : S → va_W) : S → State → Prop := fun u t => va_P D gCl (w1 u) t.heap ∧ va_D A (w1 u)
abbrev q_v (D : va_G) {S : Type} (w1 : S → va_W) (A : Nat → Prop) := va_Qv (fun _ : S => True) (g_po D A w1) A
abbrev q_i (D : va_G) (K : Int32) {S : Type} (w1 : S → va_W) (A : Nat → Prop) := va_Qi (fun (r : Int32) (_ : S) => r = K) (g_po D A w1) A
abbrev q_l (D : va_G) (K : Int64) {S : Type} (w1 : S → va_W) (A : Nat → Prop) := va_Ql (fun (r : Int64) (_ : S) => r = K) (g_po D A w1) A
abbrev q_ni (A : Nat → Prop) := va_Qi (fun (_ : Int32) (_ : Unit) => False) (fun _ _ => True) A
abbrev q_nl (A : Nat → Prop) := va_Ql (fun (_ : Int64) (_ : Unit) => False) (fun _ _ => True) A
abbrev g_XC (E : String) (A : Nat → Prop) : String → State → State → Prop := vx_X (fun _ : Unit => True) (fun E' _ _ => E' = E) A
theorem pr_blind {E : Bool} {D : va_G} {d : Nat → ClassId} {W : va_W} {sz : Nat} {av : List Value} : FrameBlind (va_Pc av (g_pr E D d W sz)) := fun a U g mk q => by
  obtain ⟨q0, q1, q2, q3, q4, q5, q7, q6⟩ := q
  exact ⟨q0, q1, q2, va_K.moved (u := U) (U := U.calling g mk a) (Vm.Alike.refl U.vm) q3, q4, q5.moved (u := U) (U := U.calling g mk a) (Vm.Alike.refl U.vm), gB_same (s := U) (U := U.calling g mk a) rfl q7, fun h => (q6 h).same rfl rfl⟩
def V (p : Program) (l : Launch) (e : Env) (R : Room) (s : State) (m : MethodId) (args : Array Value) (below : List Frame) (meth : Method) (c : Code) (Q : State → Prop) (D : va_G) (A : Nat → Prop) (nL : Nat) (ws : va_W) (lv : List (Nat × Value)) (ck sl pc : Nat) (st : List Value) : Prop :=
  ∀ (H : Heap) (locs : List Loc) (ls : Array Slot), va_P D gCl ws H → va_D A ws → va_S A s.heap H locs → lv_has ls nL lv → W p l e R s m args below meth c H locs ck sl Q (F0 m pc ls st)
def VC (p : Program) (s : State) (m : MethodId) (args : Array Value) (c : Code) (D : va_G) (d : Nat → ClassId) (A : Nat → Prop) (cc : ByteArray) (nL : Nat) (own : String) : Prop :=
  p.tables.exec = Jvm.exec ∧ c.code = cc ∧ c.maxLocals = nL ∧ s.vm.findClass own = some m.cls ∧ (∀ w ∈ gW, w.before args s = true) ∧ va_K D gCl (g_ty d) s ∧ (∀ q : Nat, s.heap.size ≤ q → A q) ∧ g_AO s ∧ ∀ w ∈ gB, va_Nw w s
def g_cf (C : String) (T : u_T) (N : Nat) (ty : Nat → FieldType) : Prop := (∀ w ∈ u_ws C T N, w ∈ gW) ∧ (∀ k, k < N → parseFieldDescriptor (T k).2.2.1 = some (ty k)) ∧ ∀ a, a < N → ∀ b, b < N → a ≠ b → (T a).2.1 ≠ (T b).2.1
def g_mf (y : MethodName) (b : ByteArray) (n : Nat) (r : Option FieldType) (k : Nat) : Prop := Cond.code y b n r ∈ gW ∧ Cond.initialized y.cls ∈ gW ∧ (y.cls ≠ "java/lang/invoke/MethodHandle" ∧ y.cls ≠ "java/lang/invoke/VarHandle" ∧ (parseMethodDescriptor y.desc).map (fun d => d.parameters.length) = some k)
def g_mv (y : MethodName) : Prop := Cond.instanceMethod y ∈ gW ∧ Cond.selects y.cls y y ∈ gW
def g_rm (n mc ms : Nat) : Room := { frames := 10 + n, cells := mc, slots := ms, locals := 150 + 50 * n }

theorem fm_of {α β : Type} {f : α → Option β} : ∀ {is : List α} {l : List β}, is.map f = l.map some → is.filterMap f = l
  | [], [], _ => rfl
  | [], _ :: _, h => by simp at h
  | _ :: _, [], h => by simp at h
  | i :: is, x :: l, h => by
    simp only [List.map_cons, List.cons.injEq] at h
    rw [List.filterMap_cons_some h.1, fm_of h.2]
theorem g_AO.use {U : State} {A' : Array Value} (h : g_AO U) : (Cond.arrayOver (.array .int)).before A' U = true := h
variable {p : Program} {l : Launch} {e : Env} {R : Room} {s : State} {m : MethodId} {args : Array Value} {below : List Frame} {meth : Method} {c : Code} {Q : State → Prop} {D : va_G} {d : Nat → ClassId} {A : Nat → Prop} {cc : ByteArray} {nL : Nat} {own : String} {ws : va_W} {lv : List (Nat × Value)} {ck sl pc : Nat} {st : List Value}

theorem v_eq {ws' : va_W} (h : ws = ws') (k : V p l e R s m args below meth c Q D A nL ws' lv ck sl pc st) : V p l e R s m args below meth c Q D A nL ws lv ck sl pc st := h ▸ k
theorem v_sub {ws' : va_W} (is : List Nat) (hn : va_nd is = true) (hs : is.map (fun i => ws[i]?) = ws'.map some) (k : V p l e R s m args below meth c Q D A nL ws' lv ck sl pc st) : V p l e R s m args below meth c Q D A nL ws lv ck sl pc st := fun H locs ls hP hD hS hl => k H locs ls (hP.sub is (fm_of hs)) (hD.sub is hn hs) hS hl
theorem v_wide {k n : Nat} (h1 : ck ≤ k) (h2 : sl ≤ n) (kk : V p l e R s m args below meth c Q D A nL ws lv k n pc st) : V p l e R s m args below meth c Q D A nL ws lv ck sl pc st := fun H locs ls hP hD hS hl => W.widen h1 h2 (kk H locs ls hP hD hS hl)
theorem v_iconst (C : VC p s m args c D d A cc nL own) {n : Int} {v : Int32} (dg : decode cc pc = .ok (.iconst n, 1)) (hv : Int32.ofInt n = v) (k : V p l e R s m args below meth c Q D A nL ws lv ck sl (pc + 1) (.int v :: st)) : V p l e R s m args below meth c Q D A nL ws lv ck sl pc st := fun H locs ls hP hD hS hl => lv_iconst C.1 C.2.1 dg hv (k H locs ls hP hD hS hl)
theorem v_bipush (C : VC p s m args c D d A cc nL own) {n : Int} {v : Int32} (dg : decode cc pc = .ok (.bipush n, 2)) (hv : (Int8.ofInt n).toInt32 = v) (k : V p l e R s m args below meth c Q D A nL ws lv ck sl (pc + 2) (.int v :: st)) : V p l e R s m args below meth c Q D A nL ws lv ck sl pc st := fun H locs ls hP hD hS hl => lv_bipush C.1 C.2.1 dg hv (k H locs ls hP hD hS hl)
theorem v_sipush (C : VC p s m args c D d A cc nL own) {n : Int} {v : Int32} (dg : decode cc pc = .ok (.sipush n, 3)) (hv : (Int16.ofInt n).toInt32 = v) (k : V p l e R s m args below meth c Q D A nL ws lv ck sl (pc + 3) (.int v :: st)) : V p l e R s m args below meth c Q D A nL ws lv ck sl pc st := fun H locs ls hP hD hS hl => lv_sipush C.1 C.2.1 dg hv (k H locs ls hP hD hS hl)
theorem v_lconst (C : VC p s m args c D d A cc nL own) {n : Fin 2} {v : Int64} (dg : decode cc pc = .ok (.lconst n, 1)) (hv : Int64.ofNat (n : Nat) = v) (k : V p l e R s m args below meth c Q D A nL ws lv ck sl (pc + 1) (.long v :: st)) : V p l e R s m args below meth c Q D A nL ws lv ck sl pc st := fun H locs ls hP hD hS hl => lv_lconst C.1 C.2.1 dg hv (k H locs ls hP hD hS hl)
theorem v_ldc (C : VC p s m args c D d A cc nL own) {i : Nat} {v : Int32} (dg : decode cc pc = .ok (.ldc i, 2)) (hc : Cond.constant own i v ∈ gW) (k : V p l e R s m args below meth c Q D A nL ws lv ck sl (pc + 2) (.int v :: st)) : V p l e R s m args below meth c Q D A nL ws lv ck sl pc st := fun H locs ls hP hD hS hl => lv_ldc C.1 C.2.1 C.2.2.2.1 (C.2.2.2.2.1 _ hc) dg (k H locs ls hP hD hS hl)
theorem v_ldc2 (C : VC p s m args c D d A cc nL own) {i : Nat} {v : Int64} (dg : decode cc pc = .ok (.ldc2_w i, 3)) (hc : Cond.constantLong own i v ∈ gW) (k : V p l e R s m args below meth c Q D A nL ws lv ck sl (pc + 3) (.long v :: st)) : V p l e R s m args below meth c Q D A nL ws lv ck sl pc st := fun H locs ls hP hD hS hl => lv_ldc2 C.1 C.2.1 C.2.2.2.1 (C.2.2.2.2.1 _ hc) dg (k H locs ls hP hD hS hl)
theorem v_iload_n (C : VC p s m args c D d A cc nL own) {j : Fin 4} {i : Nat} {x : Int32} (dg : decode cc pc = .ok (.iload_n j, 1)) (hi : (j : Nat) = i) (q : Nat) (hq : lv[q]? = some (i, .int x)) (k : V p l e R s m args below meth c Q D A nL ws lv ck sl (pc + 1) (.int x :: st)) : V p l e R s m args below meth c Q D A nL ws lv ck sl pc st := fun H locs ls hP hD hS hl => lv_iload_n C.1 C.2.1 dg hi (lv_at hl q hq) (k H locs ls hP hD hS hl)
theorem v_iload (C : VC p s m args c D d A cc nL own) {i : Nat} {x : Int32} (dg : decode cc pc = .ok (.iload i, 2)) (q : Nat) (hq : lv[q]? = some (i, .int x)) (k : V p l e R s m args below meth c Q D A nL ws lv ck sl (pc + 2) (.int x :: st)) : V p l e R s m args below meth c Q D A nL ws lv ck sl pc st := fun H locs ls hP hD hS hl => lv_iload C.1 C.2.1 dg (lv_at hl q hq) (k H locs ls hP hD hS hl)
theorem v_aload_n (C : VC p s m args c D d A cc nL own) {j : Fin 4} {i : Nat} {x : Nat} (dg : decode cc pc = .ok (.aload_n j, 1)) (hi : (j : Nat) = i) (q : Nat) (hq : lv[q]? = some (i, .ref x)) (k : V p l e R s m args below meth c Q D A nL ws lv ck sl (pc + 1) (.ref x :: st)) : V p l e R s m args below meth c Q D A nL ws lv ck sl pc st := fun H locs ls hP hD hS hl => lv_aload_n C.1 C.2.1 dg hi (lv_at hl q hq) (k H locs ls hP hD hS hl)
theorem v_aload (C : VC p s m args c D d A cc nL own) {i : Nat} {x : Nat} (dg : decode cc pc = .ok (.aload i, 2)) (q : Nat) (hq : lv[q]? = some (i, .ref x)) (k : V p l e R s m args below meth c Q D A nL ws lv ck sl (pc + 2) (.ref x :: st)) : V p l e R s m args below meth c Q D A nL ws lv ck sl pc st := fun H locs ls hP hD hS hl => lv_aload C.1 C.2.1 dg (lv_at hl q hq) (k H locs ls hP hD hS hl)
theorem v_lload_n (C : VC p s m args c D d A cc nL own) {j : Fin 4} {i : Nat} {x : Int64} (dg : decode cc pc = .ok (.lload_n j, 1)) (hi : (j : Nat) = i) (q : Nat) (hq : lv[q]? = some (i, .long x)) (k : V p l e R s m args below meth c Q D A nL ws lv ck sl (pc + 1) (.long x :: st)) : V p l e R s m args below meth c Q D A nL ws lv ck sl pc st := fun H locs ls hP hD hS hl => lv_lload_n C.1 C.2.1 dg hi (lv_at hl q hq) (k H locs ls hP hD hS hl)
theorem v_lload (C : VC p s m args c D d A cc nL own) {i : Nat} {x : Int64} (dg : decode cc pc = .ok (.lload i, 2)) (q : Nat) (hq : lv[q]? = some (i, .long x)) (k : V p l e R s m args below meth c Q D A nL ws lv ck sl (pc + 2) (.long x :: st)) : V p l e R s m args below meth c Q D A nL ws lv ck sl pc st := fun H locs ls hP hD hS hl => lv_lload C.1 C.2.1 dg (lv_at hl q hq) (k H locs ls hP hD hS hl)
theorem v_istore_n (C : VC p s m args c D d A cc nL own) {j : Fin 4} {i : Nat} {x : Int32} (dg : decode cc pc = .ok (.istore_n j, 1)) (hi : (j : Nat) = i) (hn : i < nL) (lv' : List (Nat × Value)) (he : (i, Value.int x) :: lv.filter (fun q => !(q.1 == i) && !(q.1 + 1 == i && q.2.category == 2)) = lv') (k : V p l e R s m args below meth c Q D A nL ws lv' ck sl (pc + 1) st) : V p l e R s m args below meth c Q D A nL ws lv ck sl pc (.int x :: st) := fun H locs ls hP hD hS hl => lv_istore_n C.1 C.2.1 dg hi hl hn he (fun ls' hl' => k H locs ls' hP hD hS hl')
theorem v_istore (C : VC p s m args c D d A cc nL own) {i : Nat} {x : Int32} (dg : decode cc pc = .ok (.istore i, 2)) (hn : i < nL) (lv' : List (Nat × Value)) (he : (i, Value.int x) :: lv.filter (fun q => !(q.1 == i) && !(q.1 + 1 == i && q.2.category == 2)) = lv') (k : V p l e R s m args below meth c Q D A nL ws lv' ck sl (pc + 2) st) : V p l e R s m args below meth c Q D A nL ws lv ck sl pc (.int x :: st) := fun H locs ls hP hD hS hl => lv_istore C.1 C.2.1 dg hl hn he (fun ls' hl' => k H locs ls' hP hD hS hl')
theorem v_astore_n (C : VC p s m args c D d A cc nL own) {j : Fin 4} {i : Nat} {x : Nat} (dg : decode cc pc = .ok (.astore_n j, 1)) (hi : (j : Nat) = i) (hn : i < nL) (lv' : List (Nat × Value)) (he : (i, Value.ref x) :: lv.filter (fun q => !(q.1 == i) && !(q.1 + 1 == i && q.2.category == 2)) = lv') (k : V p l e R s m args below meth c Q D A nL ws lv' ck sl (pc + 1) st) : V p l e R s m args below meth c Q D A nL ws lv ck sl pc (.ref x :: st) := fun H locs ls hP hD hS hl => lv_astore_n C.1 C.2.1 dg hi hl hn he (fun ls' hl' => k H locs ls' hP hD hS hl')
theorem v_astore (C : VC p s m args c D d A cc nL own) {i : Nat} {x : Nat} (dg : decode cc pc = .ok (.astore i, 2)) (hn : i < nL) (lv' : List (Nat × Value)) (he : (i, Value.ref x) :: lv.filter (fun q => !(q.1 == i) && !(q.1 + 1 == i && q.2.category == 2)) = lv') (k : V p l e R s m args below meth c Q D A nL ws lv' ck sl (pc + 2) st) : V p l e R s m args below meth c Q D A nL ws lv ck sl pc (.ref x :: st) := fun H locs ls hP hD hS hl => lv_astore C.1 C.2.1 dg hl hn he (fun ls' hl' => k H locs ls' hP hD hS hl')
theorem v_lstore_n (C : VC p s m args c D d A cc nL own) {j : Fin 4} {i : Nat} {x : Int64} (dg : decode cc pc = .ok (.lstore_n j, 1)) (hi : (j : Nat) = i) (hn : i + 1 < nL) (lv' : List (Nat × Value)) (he : (i, Value.long x) :: lv.filter (fun q => !(q.1 == i) && (!(q.1 == i + 1) && !(q.1 + 1 == i && q.2.category == 2))) = lv') (k : V p l e R s m args below meth c Q D A nL ws lv' ck sl (pc + 1) st) : V p l e R s m args below meth c Q D A nL ws lv ck sl pc (.long x :: st) := fun H locs ls hP hD hS hl => lv_lstore_n C.1 C.2.1 dg hi hl hn he (fun ls' hl' => k H locs ls' hP hD hS hl')
theorem v_lstore (C : VC p s m args c D d A cc nL own) {i : Nat} {x : Int64} (dg : decode cc pc = .ok (.lstore i, 2)) (hn : i + 1 < nL) (lv' : List (Nat × Value)) (he : (i, Value.long x) :: lv.filter (fun q => !(q.1 == i) && (!(q.1 == i + 1) && !(q.1 + 1 == i && q.2.category == 2))) = lv') (k : V p l e R s m args below meth c Q D A nL ws lv' ck sl (pc + 2) st) : V p l e R s m args below meth c Q D A nL ws lv ck sl pc (.long x :: st) := fun H locs ls hP hD hS hl => lv_lstore C.1 C.2.1 dg hl hn he (fun ls' hl' => k H locs ls' hP hD hS hl')
theorem v_iinc (C : VC p s m args c D d A cc nL own) {i : Nat} {n : Int} {x : Int32} (v : Int32) (dg : decode cc pc = .ok (.iinc i n, 3)) (q : Nat) (hq : lv[q]? = some (i, .int x)) (hv : x + Int32.ofInt n = v) (hn : i < nL) (lv' : List (Nat × Value)) (he : (i, Value.int v) :: lv.filter (fun q => !(q.1 == i) && !(q.1 + 1 == i && q.2.category == 2)) = lv') (k : V p l e R s m args below meth c Q D A nL ws lv' ck sl (pc + 3) st) : V p l e R s m args below meth c Q D A nL ws lv ck sl pc st := fun H locs ls hP hD hS hl => lv_iinc C.1 C.2.1 dg hl (k := q) hq hv hn he (fun ls' hl' => k H locs ls' hP hD hS hl')
theorem v_iadd (C : VC p s m args c D d A cc nL own) {x y : Int32} (v : Int32) (dg : decode cc pc = .ok (.iadd, 1)) (hv : x + y = v) (k : V p l e R s m args below meth c Q D A nL ws lv ck sl (pc + 1) (.int v :: st)) : V p l e R s m args below meth c Q D A nL ws lv ck sl pc (.int y :: .int x :: st) := fun H locs ls hP hD hS hl => by subst hv; exact lv_iadd C.1 C.2.1 dg (k H locs ls hP hD hS hl)
theorem v_iadd_s (C : VC p s m args c D d A cc nL own) {x y : Int32} (dg : decode cc pc = .ok (.iadd, 1)) (k : ∀ v : Int32, V p l e R s m args below meth c Q D A nL ws lv ck sl (pc + 1) (.int v :: st)) : V p l e R s m args below meth c Q D A nL ws lv ck sl pc (.int y :: .int x :: st) := v_iadd C _ dg rfl (k _)
theorem v_isub (C : VC p s m args c D d A cc nL own) {x y : Int32} (v : Int32) (dg : decode cc pc = .ok (.isub, 1)) (hv : x - y = v) (k : V p l e R s m args below meth c Q D A nL ws lv ck sl (pc + 1) (.int v :: st)) : V p l e R s m args below meth c Q D A nL ws lv ck sl pc (.int y :: .int x :: st) := fun H locs ls hP hD hS hl => by subst hv; exact lv_isub C.1 C.2.1 dg (k H locs ls hP hD hS hl)
theorem v_isub_s (C : VC p s m args c D d A cc nL own) {x y : Int32} (dg : decode cc pc = .ok (.isub, 1)) (k : ∀ v : Int32, V p l e R s m args below meth c Q D A nL ws lv ck sl (pc + 1) (.int v :: st)) : V p l e R s m args below meth c Q D A nL ws lv ck sl pc (.int y :: .int x :: st) := v_isub C _ dg rfl (k _)
theorem v_imul (C : VC p s m args c D d A cc nL own) {x y : Int32} (v : Int32) (dg : decode cc pc = .ok (.imul, 1)) (hv : x * y = v) (k : V p l e R s m args below meth c Q D A nL ws lv ck sl (pc + 1) (.int v :: st)) : V p l e R s m args below meth c Q D A nL ws lv ck sl pc (.int y :: .int x :: st) := fun H locs ls hP hD hS hl => by subst hv; exact lv_imul C.1 C.2.1 dg (k H locs ls hP hD hS hl)
theorem v_imul_s (C : VC p s m args c D d A cc nL own) {x y : Int32} (dg : decode cc pc = .ok (.imul, 1)) (k : ∀ v : Int32, V p l e R s m args below meth c Q D A nL ws lv ck sl (pc + 1) (.int v :: st)) : V p l e R s m args below meth c Q D A nL ws lv ck sl pc (.int y :: .int x :: st) := v_imul C _ dg rfl (k _)
theorem v_iand (C : VC p s m args c D d A cc nL own) {x y : Int32} (v : Int32) (dg : decode cc pc = .ok (.iand, 1)) (hv : x &&& y = v) (k : V p l e R s m args below meth c Q D A nL ws lv ck sl (pc + 1) (.int v :: st)) : V p l e R s m args below meth c Q D A nL ws lv ck sl pc (.int y :: .int x :: st) := fun H locs ls hP hD hS hl => by subst hv; exact lv_iand C.1 C.2.1 dg (k H locs ls hP hD hS hl)
theorem v_iand_s (C : VC p s m args c D d A cc nL own) {x y : Int32} (dg : decode cc pc = .ok (.iand, 1)) (k : ∀ v : Int32, V p l e R s m args below meth c Q D A nL ws lv ck sl (pc + 1) (.int v :: st)) : V p l e R s m args below meth c Q D A nL ws lv ck sl pc (.int y :: .int x :: st) := v_iand C _ dg rfl (k _)
theorem v_ior (C : VC p s m args c D d A cc nL own) {x y : Int32} (v : Int32) (dg : decode cc pc = .ok (.ior, 1)) (hv : x ||| y = v) (k : V p l e R s m args below meth c Q D A nL ws lv ck sl (pc + 1) (.int v :: st)) : V p l e R s m args below meth c Q D A nL ws lv ck sl pc (.int y :: .int x :: st) := fun H locs ls hP hD hS hl => by subst hv; exact lv_ior C.1 C.2.1 dg (k H locs ls hP hD hS hl)
theorem v_ior_s (C : VC p s m args c D d A cc nL own) {x y : Int32} (dg : decode cc pc = .ok (.ior, 1)) (k : ∀ v : Int32, V p l e R s m args below meth c Q D A nL ws lv ck sl (pc + 1) (.int v :: st)) : V p l e R s m args below meth c Q D A nL ws lv ck sl pc (.int y :: .int x :: st) := v_ior C _ dg rfl (k _)
theorem v_ishr (C : VC p s m args c D d A cc nL own) {x y : Int32} (v : Int32) (dg : decode cc pc = .ok (.ishr, 1)) (hv : x >>> (y &&& 31) = v) (k : V p l e R s m args below meth c Q D A nL ws lv ck sl (pc + 1) (.int v :: st)) : V p l e R s m args below meth c Q D A nL ws lv ck sl pc (.int y :: .int x :: st) := fun H locs ls hP hD hS hl => by subst hv; exact lv_ishr C.1 C.2.1 dg (k H locs ls hP hD hS hl)
theorem v_ishr_s (C : VC p s m args c D d A cc nL own) {x y : Int32} (dg : decode cc pc = .ok (.ishr, 1)) (k : ∀ v : Int32, V p l e R s m args below meth c Q D A nL ws lv ck sl (pc + 1) (.int v :: st)) : V p l e R s m args below meth c Q D A nL ws lv ck sl pc (.int y :: .int x :: st) := v_ishr C _ dg rfl (k _)
theorem v_ladd (C : VC p s m args c D d A cc nL own) {x y : Int64} (v : Int64) (dg : decode cc pc = .ok (.ladd, 1)) (hv : x + y = v) (k : V p l e R s m args below meth c Q D A nL ws lv ck sl (pc + 1) (.long v :: st)) : V p l e R s m args below meth c Q D A nL ws lv ck sl pc (.long y :: .long x :: st) := fun H locs ls hP hD hS hl => by subst hv; exact lv_ladd C.1 C.2.1 dg (k H locs ls hP hD hS hl)
theorem v_lmul (C : VC p s m args c D d A cc nL own) {x y : Int64} (v : Int64) (dg : decode cc pc = .ok (.lmul, 1)) (hv : x * y = v) (k : V p l e R s m args below meth c Q D A nL ws lv ck sl (pc + 1) (.long v :: st)) : V p l e R s m args below meth c Q D A nL ws lv ck sl pc (.long y :: .long x :: st) := fun H locs ls hP hD hS hl => by subst hv; exact lv_lmul C.1 C.2.1 dg (k H locs ls hP hD hS hl)
theorem v_i2l (C : VC p s m args c D d A cc nL own) {x : Int32} (v : Int64) (dg : decode cc pc = .ok (.i2l, 1)) (hv : x.toInt64 = v) (k : V p l e R s m args below meth c Q D A nL ws lv ck sl (pc + 1) (.long v :: st)) : V p l e R s m args below meth c Q D A nL ws lv ck sl pc (.int x :: st) := fun H locs ls hP hD hS hl => lv_i2l C.1 C.2.1 dg hv (k H locs ls hP hD hS hl)
theorem v_i2b_s (C : VC p s m args c D d A cc nL own) {x : Int32} (dg : decode cc pc = .ok (.i2b, 1)) (k : ∀ v : Int32, V p l e R s m args below meth c Q D A nL ws lv ck sl (pc + 1) (.int v :: st)) : V p l e R s m args below meth c Q D A nL ws lv ck sl pc (.int x :: st) := fun H locs ls hP hD hS hl => lv_i2b C.1 C.2.1 dg rfl (k _ H locs ls hP hD hS hl)
theorem v_lcmp (C : VC p s m args c D d A cc nL own) {x y : Int64} (v : Int32) (dg : decode cc pc = .ok (.lcmp, 1)) (hv : lg_cmp x y = v) (k : V p l e R s m args below meth c Q D A nL ws lv ck sl (pc + 1) (.int v :: st)) : V p l e R s m args below meth c Q D A nL ws lv ck sl pc (.long y :: .long x :: st) := fun H locs ls hP hD hS hl => by subst hv; exact W.lcmp C.1 C.2.1 dg (k H locs ls hP hD hS hl)
theorem v_dup (C : VC p s m args c D d A cc nL own) {va : Value} (dg : decode cc pc = .ok (.dup, 1)) (hva : va.category = 1) (k : V p l e R s m args below meth c Q D A nL ws lv ck sl (pc + 1) (va :: va :: st)) : V p l e R s m args below meth c Q D A nL ws lv ck sl pc (va :: st) := fun H locs ls hP hD hS hl => lv_dup C.1 C.2.1 dg hva (k H locs ls hP hD hS hl)
theorem v_pop (C : VC p s m args c D d A cc nL own) {va : Value} (dg : decode cc pc = .ok (.pop, 1)) (hva : va.category = 1) (k : V p l e R s m args below meth c Q D A nL ws lv ck sl (pc + 1) st) : V p l e R s m args below meth c Q D A nL ws lv ck sl pc (va :: st) := fun H locs ls hP hD hS hl => lv_pop C.1 C.2.1 dg hva (k H locs ls hP hD hS hl)
theorem v_goto (C : VC p s m args c D d A cc nL own) {off : Int} (tgt : Nat) (dg : decode cc pc = .ok (.goto off, 3)) (ht : (pc : Int) + off = (tgt : Int)) (k : V p l e R s m args below meth c Q D A nL ws lv ck sl tgt st) : V p l e R s m args below meth c Q D A nL ws lv ck sl pc st := fun H locs ls hP hD hS hl => lv_goto C.1 C.2.1 dg ht (k H locs ls hP hD hS hl)
theorem v_icmp_eq_c (C : VC p s m args c D d A cc nL own) {x y : Int32} {off : Int} (tgt : Nat) (dg : decode cc pc = .ok (.if_icmp .eq off, 3)) (ht : (pc : Int) + off = (tgt : Int)) (kt : x = y → V p l e R s m args below meth c Q D A nL ws lv ck sl tgt st) (kf : ¬ (x = y) → V p l e R s m args below meth c Q D A nL ws lv ck sl (pc + 3) st) : V p l e R s m args below meth c Q D A nL ws lv ck sl pc (.int y :: .int x :: st) := fun H locs ls hP hD hS hl => lv_icmp_eq C.1 C.2.1 dg ht (fun h => kt h H locs ls hP hD hS hl) (fun h => kf h H locs ls hP hD hS hl)
theorem v_icmp_eq_t (C : VC p s m args c D d A cc nL own) {x y : Int32} {off : Int} (tgt : Nat) (dg : decode cc pc = .ok (.if_icmp .eq off, 3)) (ht : (pc : Int) + off = (tgt : Int)) (h : x = y) (kt : V p l e R s m args below meth c Q D A nL ws lv ck sl tgt st) : V p l e R s m args below meth c Q D A nL ws lv ck sl pc (.int y :: .int x :: st) := v_icmp_eq_c C tgt dg ht (fun _ => kt) (fun h9 => absurd h h9)
theorem v_icmp_eq_f (C : VC p s m args c D d A cc nL own) {x y : Int32} {off : Int} (tgt : Nat) (dg : decode cc pc = .ok (.if_icmp .eq off, 3)) (ht : (pc : Int) + off = (tgt : Int)) (h : ¬ (x = y)) (kf : V p l e R s m args below meth c Q D A nL ws lv ck sl (pc + 3) st) : V p l e R s m args below meth c Q D A nL ws lv ck sl pc (.int y :: .int x :: st) := v_icmp_eq_c C tgt dg ht (fun h9 => absurd h9 h) (fun _ => kf)
theorem v_if_eq_c (C : VC p s m args c D d A cc nL own) {x : Int32} {off : Int} (tgt : Nat) (dg : decode cc pc = .ok (.ifCond .eq off, 3)) (ht : (pc : Int) + off = (tgt : Int)) (kt : x = 0 → V p l e R s m args below meth c Q D A nL ws lv ck sl tgt st) (kf : ¬ (x = 0) → V p l e R s m args below meth c Q D A nL ws lv ck sl (pc + 3) st) : V p l e R s m args below meth c Q D A nL ws lv ck sl pc (.int x :: st) := fun H locs ls hP hD hS hl => lv_if_eq C.1 C.2.1 dg ht (fun h => kt h H locs ls hP hD hS hl) (fun h => kf h H locs ls hP hD hS hl)
theorem v_if_eq_t (C : VC p s m args c D d A cc nL own) {x : Int32} {off : Int} (tgt : Nat) (dg : decode cc pc = .ok (.ifCond .eq off, 3)) (ht : (pc : Int) + off = (tgt : Int)) (h : x = 0) (kt : V p l e R s m args below meth c Q D A nL ws lv ck sl tgt st) : V p l e R s m args below meth c Q D A nL ws lv ck sl pc (.int x :: st) := v_if_eq_c C tgt dg ht (fun _ => kt) (fun h9 => absurd h h9)
theorem v_if_eq_f (C : VC p s m args c D d A cc nL own) {x : Int32} {off : Int} (tgt : Nat) (dg : decode cc pc = .ok (.ifCond .eq off, 3)) (ht : (pc : Int) + off = (tgt : Int)) (h : ¬ (x = 0)) (kf : V p l e R s m args below meth c Q D A nL ws lv ck sl (pc + 3) st) : V p l e R s m args below meth c Q D A nL ws lv ck sl pc (.int x :: st) := v_if_eq_c C tgt dg ht (fun h9 => absurd h9 h) (fun _ => kf)
theorem v_icmp_ne_c (C : VC p s m args c D d A cc nL own) {x y : Int32} {off : Int} (tgt : Nat) (dg : decode cc pc = .ok (.if_icmp .ne off, 3)) (ht : (pc : Int) + off = (tgt : Int)) (kt : ¬ x = y → V p l e R s m args below meth c Q D A nL ws lv ck sl tgt st) (kf : ¬ (¬ x = y) → V p l e R s m args below meth c Q D A nL ws lv ck sl (pc + 3) st) : V p l e R s m args below meth c Q D A nL ws lv ck sl pc (.int y :: .int x :: st) := fun H locs ls hP hD hS hl => lv_icmp_ne C.1 C.2.1 dg ht (fun h => kt h H locs ls hP hD hS hl) (fun h => kf (fun n => n h) H locs ls hP hD hS hl)
theorem v_icmp_ne_t (C : VC p s m args c D d A cc nL own) {x y : Int32} {off : Int} (tgt : Nat) (dg : decode cc pc = .ok (.if_icmp .ne off, 3)) (ht : (pc : Int) + off = (tgt : Int)) (h : ¬ x = y) (kt : V p l e R s m args below meth c Q D A nL ws lv ck sl tgt st) : V p l e R s m args below meth c Q D A nL ws lv ck sl pc (.int y :: .int x :: st) := v_icmp_ne_c C tgt dg ht (fun _ => kt) (fun h9 => absurd h h9)
theorem v_icmp_ne_f (C : VC p s m args c D d A cc nL own) {x y : Int32} {off : Int} (tgt : Nat) (dg : decode cc pc = .ok (.if_icmp .ne off, 3)) (ht : (pc : Int) + off = (tgt : Int)) (h : ¬ (¬ x = y)) (kf : V p l e R s m args below meth c Q D A nL ws lv ck sl (pc + 3) st) : V p l e R s m args below meth c Q D A nL ws lv ck sl pc (.int y :: .int x :: st) := v_icmp_ne_c C tgt dg ht (fun h9 => absurd h9 h) (fun _ => kf)
theorem v_if_ne_c (C : VC p s m args c D d A cc nL own) {x : Int32} {off : Int} (tgt : Nat) (dg : decode cc pc = .ok (.ifCond .ne off, 3)) (ht : (pc : Int) + off = (tgt : Int)) (kt : ¬ x = 0 → V p l e R s m args below meth c Q D A nL ws lv ck sl tgt st) (kf : ¬ (¬ x = 0) → V p l e R s m args below meth c Q D A nL ws lv ck sl (pc + 3) st) : V p l e R s m args below meth c Q D A nL ws lv ck sl pc (.int x :: st) := fun H locs ls hP hD hS hl => lv_if_ne C.1 C.2.1 dg ht (fun h => kt h H locs ls hP hD hS hl) (fun h => kf (fun n => n h) H locs ls hP hD hS hl)
theorem v_if_ne_t (C : VC p s m args c D d A cc nL own) {x : Int32} {off : Int} (tgt : Nat) (dg : decode cc pc = .ok (.ifCond .ne off, 3)) (ht : (pc : Int) + off = (tgt : Int)) (h : ¬ x = 0) (kt : V p l e R s m args below meth c Q D A nL ws lv ck sl tgt st) : V p l e R s m args below meth c Q D A nL ws lv ck sl pc (.int x :: st) := v_if_ne_c C tgt dg ht (fun _ => kt) (fun h9 => absurd h h9)
theorem v_if_ne_f (C : VC p s m args c D d A cc nL own) {x : Int32} {off : Int} (tgt : Nat) (dg : decode cc pc = .ok (.ifCond .ne off, 3)) (ht : (pc : Int) + off = (tgt : Int)) (h : ¬ (¬ x = 0)) (kf : V p l e R s m args below meth c Q D A nL ws lv ck sl (pc + 3) st) : V p l e R s m args below meth c Q D A nL ws lv ck sl pc (.int x :: st) := v_if_ne_c C tgt dg ht (fun h9 => absurd h9 h) (fun _ => kf)
theorem v_icmp_lt_c (C : VC p s m args c D d A cc nL own) {x y : Int32} {off : Int} (tgt : Nat) (dg : decode cc pc = .ok (.if_icmp .lt off, 3)) (ht : (pc : Int) + off = (tgt : Int)) (kt : x < y → V p l e R s m args below meth c Q D A nL ws lv ck sl tgt st) (kf : ¬ (x < y) → V p l e R s m args below meth c Q D A nL ws lv ck sl (pc + 3) st) : V p l e R s m args below meth c Q D A nL ws lv ck sl pc (.int y :: .int x :: st) := fun H locs ls hP hD hS hl => lv_icmp_lt C.1 C.2.1 dg ht (fun h => kt h H locs ls hP hD hS hl) (fun h => kf h H locs ls hP hD hS hl)
theorem v_icmp_lt_t (C : VC p s m args c D d A cc nL own) {x y : Int32} {off : Int} (tgt : Nat) (dg : decode cc pc = .ok (.if_icmp .lt off, 3)) (ht : (pc : Int) + off = (tgt : Int)) (h : x < y) (kt : V p l e R s m args below meth c Q D A nL ws lv ck sl tgt st) : V p l e R s m args below meth c Q D A nL ws lv ck sl pc (.int y :: .int x :: st) := v_icmp_lt_c C tgt dg ht (fun _ => kt) (fun h9 => absurd h h9)
theorem v_icmp_lt_f (C : VC p s m args c D d A cc nL own) {x y : Int32} {off : Int} (tgt : Nat) (dg : decode cc pc = .ok (.if_icmp .lt off, 3)) (ht : (pc : Int) + off = (tgt : Int)) (h : ¬ (x < y)) (kf : V p l e R s m args below meth c Q D A nL ws lv ck sl (pc + 3) st) : V p l e R s m args below meth c Q D A nL ws lv ck sl pc (.int y :: .int x :: st) := v_icmp_lt_c C tgt dg ht (fun h9 => absurd h9 h) (fun _ => kf)
theorem v_if_lt_c (C : VC p s m args c D d A cc nL own) {x : Int32} {off : Int} (tgt : Nat) (dg : decode cc pc = .ok (.ifCond .lt off, 3)) (ht : (pc : Int) + off = (tgt : Int)) (kt : x < 0 → V p l e R s m args below meth c Q D A nL ws lv ck sl tgt st) (kf : ¬ (x < 0) → V p l e R s m args below meth c Q D A nL ws lv ck sl (pc + 3) st) : V p l e R s m args below meth c Q D A nL ws lv ck sl pc (.int x :: st) := fun H locs ls hP hD hS hl => lv_if_lt C.1 C.2.1 dg ht (fun h => kt h H locs ls hP hD hS hl) (fun h => kf h H locs ls hP hD hS hl)
theorem v_if_lt_t (C : VC p s m args c D d A cc nL own) {x : Int32} {off : Int} (tgt : Nat) (dg : decode cc pc = .ok (.ifCond .lt off, 3)) (ht : (pc : Int) + off = (tgt : Int)) (h : x < 0) (kt : V p l e R s m args below meth c Q D A nL ws lv ck sl tgt st) : V p l e R s m args below meth c Q D A nL ws lv ck sl pc (.int x :: st) := v_if_lt_c C tgt dg ht (fun _ => kt) (fun h9 => absurd h h9)
theorem v_if_lt_f (C : VC p s m args c D d A cc nL own) {x : Int32} {off : Int} (tgt : Nat) (dg : decode cc pc = .ok (.ifCond .lt off, 3)) (ht : (pc : Int) + off = (tgt : Int)) (h : ¬ (x < 0)) (kf : V p l e R s m args below meth c Q D A nL ws lv ck sl (pc + 3) st) : V p l e R s m args below meth c Q D A nL ws lv ck sl pc (.int x :: st) := v_if_lt_c C tgt dg ht (fun h9 => absurd h9 h) (fun _ => kf)
theorem v_icmp_ge_c (C : VC p s m args c D d A cc nL own) {x y : Int32} {off : Int} (tgt : Nat) (dg : decode cc pc = .ok (.if_icmp .ge off, 3)) (ht : (pc : Int) + off = (tgt : Int)) (kt : y ≤ x → V p l e R s m args below meth c Q D A nL ws lv ck sl tgt st) (kf : ¬ (y ≤ x) → V p l e R s m args below meth c Q D A nL ws lv ck sl (pc + 3) st) : V p l e R s m args below meth c Q D A nL ws lv ck sl pc (.int y :: .int x :: st) := fun H locs ls hP hD hS hl => lv_icmp_ge C.1 C.2.1 dg ht (fun h => kt h H locs ls hP hD hS hl) (fun h => kf h H locs ls hP hD hS hl)
theorem v_icmp_ge_t (C : VC p s m args c D d A cc nL own) {x y : Int32} {off : Int} (tgt : Nat) (dg : decode cc pc = .ok (.if_icmp .ge off, 3)) (ht : (pc : Int) + off = (tgt : Int)) (h : y ≤ x) (kt : V p l e R s m args below meth c Q D A nL ws lv ck sl tgt st) : V p l e R s m args below meth c Q D A nL ws lv ck sl pc (.int y :: .int x :: st) := v_icmp_ge_c C tgt dg ht (fun _ => kt) (fun h9 => absurd h h9)
theorem v_icmp_ge_f (C : VC p s m args c D d A cc nL own) {x y : Int32} {off : Int} (tgt : Nat) (dg : decode cc pc = .ok (.if_icmp .ge off, 3)) (ht : (pc : Int) + off = (tgt : Int)) (h : ¬ (y ≤ x)) (kf : V p l e R s m args below meth c Q D A nL ws lv ck sl (pc + 3) st) : V p l e R s m args below meth c Q D A nL ws lv ck sl pc (.int y :: .int x :: st) := v_icmp_ge_c C tgt dg ht (fun h9 => absurd h9 h) (fun _ => kf)
theorem v_if_ge_c (C : VC p s m args c D d A cc nL own) {x : Int32} {off : Int} (tgt : Nat) (dg : decode cc pc = .ok (.ifCond .ge off, 3)) (ht : (pc : Int) + off = (tgt : Int)) (kt : 0 ≤ x → V p l e R s m args below meth c Q D A nL ws lv ck sl tgt st) (kf : ¬ (0 ≤ x) → V p l e R s m args below meth c Q D A nL ws lv ck sl (pc + 3) st) : V p l e R s m args below meth c Q D A nL ws lv ck sl pc (.int x :: st) := fun H locs ls hP hD hS hl => lv_if_ge C.1 C.2.1 dg ht (fun h => kt h H locs ls hP hD hS hl) (fun h => kf h H locs ls hP hD hS hl)
theorem v_if_ge_t (C : VC p s m args c D d A cc nL own) {x : Int32} {off : Int} (tgt : Nat) (dg : decode cc pc = .ok (.ifCond .ge off, 3)) (ht : (pc : Int) + off = (tgt : Int)) (h : 0 ≤ x) (kt : V p l e R s m args below meth c Q D A nL ws lv ck sl tgt st) : V p l e R s m args below meth c Q D A nL ws lv ck sl pc (.int x :: st) := v_if_ge_c C tgt dg ht (fun _ => kt) (fun h9 => absurd h h9)
theorem v_if_ge_f (C : VC p s m args c D d A cc nL own) {x : Int32} {off : Int} (tgt : Nat) (dg : decode cc pc = .ok (.ifCond .ge off, 3)) (ht : (pc : Int) + off = (tgt : Int)) (h : ¬ (0 ≤ x)) (kf : V p l e R s m args below meth c Q D A nL ws lv ck sl (pc + 3) st) : V p l e R s m args below meth c Q D A nL ws lv ck sl pc (.int x :: st) := v_if_ge_c C tgt dg ht (fun h9 => absurd h9 h) (fun _ => kf)
theorem v_icmp_gt_c (C : VC p s m args c D d A cc nL own) {x y : Int32} {off : Int} (tgt : Nat) (dg : decode cc pc = .ok (.if_icmp .gt off, 3)) (ht : (pc : Int) + off = (tgt : Int)) (kt : y < x → V p l e R s m args below meth c Q D A nL ws lv ck sl tgt st) (kf : ¬ (y < x) → V p l e R s m args below meth c Q D A nL ws lv ck sl (pc + 3) st) : V p l e R s m args below meth c Q D A nL ws lv ck sl pc (.int y :: .int x :: st) := fun H locs ls hP hD hS hl => lv_icmp_gt C.1 C.2.1 dg ht (fun h => kt h H locs ls hP hD hS hl) (fun h => kf h H locs ls hP hD hS hl)
theorem v_icmp_gt_t (C : VC p s m args c D d A cc nL own) {x y : Int32} {off : Int} (tgt : Nat) (dg : decode cc pc = .ok (.if_icmp .gt off, 3)) (ht : (pc : Int) + off = (tgt : Int)) (h : y < x) (kt : V p l e R s m args below meth c Q D A nL ws lv ck sl tgt st) : V p l e R s m args below meth c Q D A nL ws lv ck sl pc (.int y :: .int x :: st) := v_icmp_gt_c C tgt dg ht (fun _ => kt) (fun h9 => absurd h h9)
theorem v_icmp_gt_f (C : VC p s m args c D d A cc nL own) {x y : Int32} {off : Int} (tgt : Nat) (dg : decode cc pc = .ok (.if_icmp .gt off, 3)) (ht : (pc : Int) + off = (tgt : Int)) (h : ¬ (y < x)) (kf : V p l e R s m args below meth c Q D A nL ws lv ck sl (pc + 3) st) : V p l e R s m args below meth c Q D A nL ws lv ck sl pc (.int y :: .int x :: st) := v_icmp_gt_c C tgt dg ht (fun h9 => absurd h9 h) (fun _ => kf)
theorem v_if_gt_c (C : VC p s m args c D d A cc nL own) {x : Int32} {off : Int} (tgt : Nat) (dg : decode cc pc = .ok (.ifCond .gt off, 3)) (ht : (pc : Int) + off = (tgt : Int)) (kt : 0 < x → V p l e R s m args below meth c Q D A nL ws lv ck sl tgt st) (kf : ¬ (0 < x) → V p l e R s m args below meth c Q D A nL ws lv ck sl (pc + 3) st) : V p l e R s m args below meth c Q D A nL ws lv ck sl pc (.int x :: st) := fun H locs ls hP hD hS hl => lv_if_gt C.1 C.2.1 dg ht (fun h => kt h H locs ls hP hD hS hl) (fun h => kf h H locs ls hP hD hS hl)
theorem v_if_gt_t (C : VC p s m args c D d A cc nL own) {x : Int32} {off : Int} (tgt : Nat) (dg : decode cc pc = .ok (.ifCond .gt off, 3)) (ht : (pc : Int) + off = (tgt : Int)) (h : 0 < x) (kt : V p l e R s m args below meth c Q D A nL ws lv ck sl tgt st) : V p l e R s m args below meth c Q D A nL ws lv ck sl pc (.int x :: st) := v_if_gt_c C tgt dg ht (fun _ => kt) (fun h9 => absurd h h9)
theorem v_if_gt_f (C : VC p s m args c D d A cc nL own) {x : Int32} {off : Int} (tgt : Nat) (dg : decode cc pc = .ok (.ifCond .gt off, 3)) (ht : (pc : Int) + off = (tgt : Int)) (h : ¬ (0 < x)) (kf : V p l e R s m args below meth c Q D A nL ws lv ck sl (pc + 3) st) : V p l e R s m args below meth c Q D A nL ws lv ck sl pc (.int x :: st) := v_if_gt_c C tgt dg ht (fun h9 => absurd h9 h) (fun _ => kf)
theorem v_icmp_le_c (C : VC p s m args c D d A cc nL own) {x y : Int32} {off : Int} (tgt : Nat) (dg : decode cc pc = .ok (.if_icmp .le off, 3)) (ht : (pc : Int) + off = (tgt : Int)) (kt : x ≤ y → V p l e R s m args below meth c Q D A nL ws lv ck sl tgt st) (kf : ¬ (x ≤ y) → V p l e R s m args below meth c Q D A nL ws lv ck sl (pc + 3) st) : V p l e R s m args below meth c Q D A nL ws lv ck sl pc (.int y :: .int x :: st) := fun H locs ls hP hD hS hl => lv_icmp_le C.1 C.2.1 dg ht (fun h => kt h H locs ls hP hD hS hl) (fun h => kf h H locs ls hP hD hS hl)
theorem v_icmp_le_t (C : VC p s m args c D d A cc nL own) {x y : Int32} {off : Int} (tgt : Nat) (dg : decode cc pc = .ok (.if_icmp .le off, 3)) (ht : (pc : Int) + off = (tgt : Int)) (h : x ≤ y) (kt : V p l e R s m args below meth c Q D A nL ws lv ck sl tgt st) : V p l e R s m args below meth c Q D A nL ws lv ck sl pc (.int y :: .int x :: st) := v_icmp_le_c C tgt dg ht (fun _ => kt) (fun h9 => absurd h h9)
theorem v_icmp_le_f (C : VC p s m args c D d A cc nL own) {x y : Int32} {off : Int} (tgt : Nat) (dg : decode cc pc = .ok (.if_icmp .le off, 3)) (ht : (pc : Int) + off = (tgt : Int)) (h : ¬ (x ≤ y)) (kf : V p l e R s m args below meth c Q D A nL ws lv ck sl (pc + 3) st) : V p l e R s m args below meth c Q D A nL ws lv ck sl pc (.int y :: .int x :: st) := v_icmp_le_c C tgt dg ht (fun h9 => absurd h9 h) (fun _ => kf)
theorem v_if_le_c (C : VC p s m args c D d A cc nL own) {x : Int32} {off : Int} (tgt : Nat) (dg : decode cc pc = .ok (.ifCond .le off, 3)) (ht : (pc : Int) + off = (tgt : Int)) (kt : x ≤ 0 → V p l e R s m args below meth c Q D A nL ws lv ck sl tgt st) (kf : ¬ (x ≤ 0) → V p l e R s m args below meth c Q D A nL ws lv ck sl (pc + 3) st) : V p l e R s m args below meth c Q D A nL ws lv ck sl pc (.int x :: st) := fun H locs ls hP hD hS hl => lv_if_le C.1 C.2.1 dg ht (fun h => kt h H locs ls hP hD hS hl) (fun h => kf h H locs ls hP hD hS hl)
theorem v_if_le_t (C : VC p s m args c D d A cc nL own) {x : Int32} {off : Int} (tgt : Nat) (dg : decode cc pc = .ok (.ifCond .le off, 3)) (ht : (pc : Int) + off = (tgt : Int)) (h : x ≤ 0) (kt : V p l e R s m args below meth c Q D A nL ws lv ck sl tgt st) : V p l e R s m args below meth c Q D A nL ws lv ck sl pc (.int x :: st) := v_if_le_c C tgt dg ht (fun _ => kt) (fun h9 => absurd h h9)
theorem v_if_le_f (C : VC p s m args c D d A cc nL own) {x : Int32} {off : Int} (tgt : Nat) (dg : decode cc pc = .ok (.ifCond .le off, 3)) (ht : (pc : Int) + off = (tgt : Int)) (h : ¬ (x ≤ 0)) (kf : V p l e R s m args below meth c Q D A nL ws lv ck sl (pc + 3) st) : V p l e R s m args below meth c Q D A nL ws lv ck sl pc (.int x :: st) := v_if_le_c C tgt dg ht (fun h9 => absurd h9 h) (fun _ => kf)
theorem v_tableIn (C : VC p s m args c D d A cc nL own) {dflt lo hi : Int} {offs : Array Int} {len : Nat} {x : Int32} {off : Int} (tgt : Nat) (dg : decode cc pc = .ok (.tableswitch dflt lo hi offs, len)) (h1 : ¬ x.toInt < lo) (h2 : ¬ hi < x.toInt) (ho : offs[(x.toInt - lo).toNat]? = some off) (ht : (pc : Int) + off = (tgt : Int)) (k : V p l e R s m args below meth c Q D A nL ws lv ck sl tgt st) : V p l e R s m args below meth c Q D A nL ws lv ck sl pc (.int x :: st) := fun H locs ls hP hD hS hl => lv_tableIn C.1 C.2.1 dg h1 h2 ho ht (k H locs ls hP hD hS hl)
theorem v_tableOut (C : VC p s m args c D d A cc nL own) {dflt lo hi : Int} {offs : Array Int} {len : Nat} {x : Int32} (tgt : Nat) (dg : decode cc pc = .ok (.tableswitch dflt lo hi offs, len)) (h : x.toInt < lo ∨ hi < x.toInt) (ht : (pc : Int) + dflt = (tgt : Int)) (k : V p l e R s m args below meth c Q D A nL ws lv ck sl tgt st) : V p l e R s m args below meth c Q D A nL ws lv ck sl pc (.int x :: st) := fun H locs ls hP hD hS hl => lv_tableOut C.1 C.2.1 dg h ht (k H locs ls hP hD hS hl)
theorem v_get (C : VC p s m args c D d A cc nL own) {Cn : String} {T : u_T} {N ci index a : Nat} {ty : Nat → FieldType} (F : g_cf Cn T N ty) (q0 : Nat) {fs : List Value} (he : ws[q0]? = some (a, .inr (ci, fs))) (hc : gCl[ci]? = some (Cn, T, N)) (j : Nat) (hj : j < N) (hlink : Cond.fieldLink own index (T j).1 (T j).2.1 (T j).2.2.1 ∈ gW) {v : Value} (hv : fs[j]? = some v) (dg : decode cc pc = .ok (.getfield index, 3)) (k : V p l e R s m args below meth c Q D A nL ws lv ck sl (pc + 3) (v :: st)) : V p l e R s m args below meth c Q D A nL ws lv ck sl pc (.ref a :: st) := fun H locs ls hP hD hS hl => va_get (cl := gCl) C.1 C.2.1 C.2.2.2.2.1 F.1 C.2.2.2.1 C.2.2.2.2.2.1 hP q0 he hc j hj (C.2.2.2.2.1 _ hlink) (fun _ h => h) hv dg (k H locs ls hP hD hS hl)
theorem v_put (C : VC p s m args c D d A cc nL own) {Cn : String} {T : u_T} {N ci index a : Nat} {ty : Nat → FieldType} (F : g_cf Cn T N ty) (q0 : Nat) {fs : List Value} (he : ws[q0]? = some (a, .inr (ci, fs))) (hc : gCl[ci]? = some (Cn, T, N)) (j : Nat) (hj : j < N) (hlink : Cond.fieldLink own index (T j).1 (T j).2.1 (T j).2.2.1 ∈ gW) (hfin : (T j).2.2.2 = false) {v : Value} (hn : narrow (ty j) v = v) (hfit : fits (ty j) v = true) (hl0 : j < fs.length) (ws' : va_W) (hw : ws.set q0 (a, .inr (ci, fs.set j v)) = ws') (dg : decode cc pc = .ok (.putfield index, 3)) (k : V p l e R s m args below meth c Q D A nL ws' lv ck sl (pc + 3) st) : V p l e R s m args below meth c Q D A nL ws lv ck sl pc (v :: .ref a :: st) := fun H locs ls hP hD hS hl => va_put (cl := gCl) C.1 C.2.1 C.2.2.2.2.1 F.1 ty F.2.1 F.2.2 C.2.2.2.1 C.2.2.2.2.2.1 hP hD hS q0 he hc j hj (C.2.2.2.2.1 _ hlink) (fun _ h => h) hfin (F.2.1 j hj) hn hfit hl0 dg (fun H1 locs1 hP1 hD1 hS1 => k H1 locs1 ls (hw ▸ hP1) (hw ▸ hD1) hS1 hl)
theorem v_putF (C : VC p s m args c D d A cc nL own) (hin : meth.name = "<init>") {Cn : String} {T : u_T} {N ci index a : Nat} {ty : Nat → FieldType} (F : g_cf Cn T N ty) (q0 : Nat) {fs : List Value} (he : ws[q0]? = some (a, .inr (ci, fs))) (hc : gCl[ci]? = some (Cn, T, N)) (j : Nat) (hj : j < N) (hlink : Cond.fieldLink own index (T j).1 (T j).2.1 (T j).2.2.1 ∈ gW) (hfin : (T j).2.2.2 = true) {v : Value} (hn : narrow (ty j) v = v) (hfit : fits (ty j) v = true) (hdecl : (T j).1 = own) (hl0 : j < fs.length) (ws' : va_W) (hw : ws.set q0 (a, .inr (ci, fs.set j v)) = ws') (dg : decode cc pc = .ok (.putfield index, 3)) (k : V p l e R s m args below meth c Q D A nL ws' lv ck sl (pc + 3) st) : V p l e R s m args below meth c Q D A nL ws lv ck sl pc (v :: .ref a :: st) := fun H locs ls hP hD hS hl => va_putF (cl := gCl) C.1 C.2.1 C.2.2.2.2.1 F.1 ty F.2.1 F.2.2 C.2.2.2.1 C.2.2.2.2.2.1 hP hD hS q0 he hc j hj (C.2.2.2.2.1 _ hlink) (fun _ h => h) hfin hin hdecl (F.2.1 j hj) hn hfit hl0 dg (fun H1 locs1 hP1 hD1 hS1 => k H1 locs1 ls (hw ▸ hP1) (hw ▸ hD1) hS1 hl)
theorem v_new (C : VC p s m args c D d A cc nL own) {Cn : String} {T : u_T} {N ci index : Nat} {ty : Nat → FieldType} (F : g_cf Cn T N ty) (hc : gCl[ci]? = some (Cn, T, N)) (fs : List Value) (hfs : ∀ j, j < N → defaultValue (ty j) = vp_V fs j) (hcl : Cond.classLink own index Cn ∈ gW) (hinst : Cond.instantiable Cn N ∈ gW) (hini : Cond.initialized Cn ∈ gW) (hcells : ck + 1 ≤ R.cells) (hslots : sl + N ≤ R.slots) (ws' : Nat → va_W) (hw : ∀ q, ws ++ [(q, .inr (ci, fs))] = ws' q) (dg : decode cc pc = .ok (.new index, 3)) (k : ∀ q : Nat, V p l e R s m args below meth c Q D A nL (ws' q) lv (ck + 1) (sl + N) (pc + 3) (.ref q :: st)) : V p l e R s m args below meth c Q D A nL ws lv ck sl pc st := fun H locs ls hP hD hS hl => va_new (cl := gCl) C.1 C.2.1 C.2.2.2.2.1 F.1 ty F.2.1 C.2.2.2.1 (C.2.2.2.2.1 _ hcl) (C.2.2.2.2.1 _ hinst) (C.2.2.2.2.1 _ hini) C.2.2.2.2.2.1 hP hD hS C.2.2.2.2.2.2.1 hc hfs hcells hslots dg (fun q H1 hP1 hD1 hS1 => k q H1 locs ls (hw q ▸ hP1) (hw q ▸ hD1) hS1 hl)
theorem v_newa (C : VC p s m args c D d A cc nL own) {atype : ArrayType} (t0 : Nat) {ty : FieldType} (hty : newarray.typeOf atype = ty) (ht : (g_ty d)[t0]? = some (d t0, ty)) (harr : Cond.arrayClass ty ∈ gW) {x : Int32} (N' : Nat) (a0 : vp_A) (ha : ∀ cA : ClassId, vp_cell cA a0 = arrV cA N' (fun _ => defaultValue ty)) (hn : ¬ x < 0) (hN : x.toNatClampNeg = N') (hbytes : N' * componentBytes ty ≤ 536870912) (hcells : ck + 1 ≤ R.cells) (hslots : sl + N' ≤ R.slots) (ws' : Nat → va_W) (hw : ∀ q, ws ++ [(q, .inl (d t0, a0))] = ws' q) (dg : decode cc pc = .ok (.newarray atype, 2)) (k : ∀ q : Nat, V p l e R s m args below meth c Q D A nL (ws' q) lv (ck + 1) (sl + N') (pc + 2) (.ref q :: st)) : V p l e R s m args below meth c Q D A nL ws lv ck sl pc (.int x :: st) := fun H locs ls hP hD hS hl => by
  refine va_newa (cl := gCl) C.1 C.2.1 (by rw [hty]; exact C.2.2.2.2.1 _ harr) hty C.2.2.2.2.2.1 hP hD hS C.2.2.2.2.2.2.1 ha hn hN hbytes hcells hslots dg (fun q cA H1 hK1 hP1 hD1 hS1 => ?_)
  have h1 := (hK1.2 (g_ty d).length (cA, ty) (by simp)).2
  have h2 := (C.2.2.2.2.2.1.2 t0 _ ht).2
  have hA : cA = d t0 := by
    subst hty
    cases atype <;> exact Option.some.inj (h1.symm.trans h2)
  subst hA
  exact k q H1 locs ls (hw q ▸ hP1) (hw q ▸ hD1) hS1 hl
theorem va_P_left {D : va_G} {cl : List vw_C} {a b : va_W} {H : Heap} (h : va_P D cl (a ++ b) H) : va_P D cl a H := fun i x hx => h i x (by rw [List.getElem?_append_left (List.getElem?_eq_some_iff.mp hx).1]; exact hx)
theorem va_D_left {A : Nat → Prop} {a b : va_W} (h : va_D A (a ++ b)) : va_D A a := ⟨fun i j p q hp hq => h.1 i j p q (by rw [List.getElem?_append_left (List.getElem?_eq_some_iff.mp hp).1]; exact hp) (by rw [List.getElem?_append_left (List.getElem?_eq_some_iff.mp hq).1]; exact hq), fun i x hx => h.2 i x (by rw [List.getElem?_append_left (List.getElem?_eq_some_iff.mp hx).1]; exact hx)⟩
theorem v_newaD (C : VC p s m args c D d A cc nL own) {atype : ArrayType} (t0 : Nat) {ty : FieldType} (hty : newarray.typeOf atype = ty) (ht : (g_ty d)[t0]? = some (d t0, ty)) (harr : Cond.arrayClass ty ∈ gW) {x : Int32} (N' : Nat) (a0 : vp_A) (ha : ∀ cA : ClassId, vp_cell cA a0 = arrV cA N' (fun _ => defaultValue ty)) (hn : ¬ x < 0) (hN : x.toNatClampNeg = N') (hbytes : N' * componentBytes ty ≤ 536870912) (hcells : ck + 1 ≤ R.cells) (hslots : sl + N' ≤ R.slots) (dg : decode cc pc = .ok (.newarray atype, 2)) (k : ∀ q : Nat, V p l e R s m args below meth c Q D A nL ws lv (ck + 1) (sl + N') (pc + 2) (.ref q :: st)) : V p l e R s m args below meth c Q D A nL ws lv ck sl pc (.int x :: st) := v_newa C t0 hty ht harr N' a0 ha hn hN hbytes hcells hslots (fun q => ws ++ [(q, .inl (d t0, a0))]) (fun _ => rfl) dg (fun q H locs ls hP hD hS hl => k q H locs ls (va_P_left hP) (va_D_left hD) hS hl)
theorem v_anewI (C : VC p s m args c D d A cc nL own) {x : Int32} {index : Nat} (N' : Nat) (hlink : Cond.classLink own index "[I" ∈ gW) (hn : ¬ x < 0) (hN : x.toNatClampNeg = N') (hbytes : N' * 4 ≤ 536870912) (hcells : ck + 1 ≤ R.cells) (hslots : sl + N' ≤ R.slots) (dg : decode cc pc = .ok (.anewarray index, 3)) (k : ∀ q : Nat, V p l e R s m args below meth c Q D A nL ws lv (ck + 1) (sl + N') (pc + 3) (.ref q :: st)) : V p l e R s m args below meth c Q D A nL ws lv ck sl pc (.int x :: st) := fun H locs ls hP hD hS hl => by
  subst hN
  refine W.anewA (t := .int) C.1 C.2.1 C.2.2.2.1 (C.2.2.2.2.1 _ hlink) (g_AO.use C.2.2.2.2.2.2.2.1) rfl dg rfl hn hbytes hcells hslots (fun cA kA comp _ _ _ _ => ?_)
  generalize hH1 : H.push ({ cls := cA, slots := Array.replicate x.toNatClampNeg .null, vm := .none } : Cell) = H1
  have z1 : H1.size = H.size + 1 := by rw [← hH1, Array.size_push]
  have o1 : ∀ q : Nat, q < H.size → H1[q]? = H[q]? := fun q hq => by rw [← hH1, Array.getElem?_push, if_neg (Nat.ne_of_lt hq)]
  have hk : ∀ (k : Nat) (x : Nat × va_E), ws[k]? = some x → H1[x.1]? = H[x.1]? := fun k x hx => o1 x.1 ((hP k x hx).lt)
  exact k H.size H1 locs ls (hP.kept hk) hD ⟨Nat.le_trans hS.1 (by omega), fun x h1 h2 => (o1 x (Nat.lt_of_lt_of_le h1 hS.1)).trans (hS.2.1 x h1 h2), hS.2.2⟩ hl
theorem v_objInit (C : VC p s m args c D d A cc nL own) {a idx : Nat} (hlink : Cond.methodLink own idx Lib.objectInit ∈ gW) (hinst : Cond.instanceMethod Lib.objectInit ∈ gW) (hcode : Cond.code Lib.objectInit ⟨#[0xb1]⟩ 1 none ∈ gW) (dg : decode cc pc = .ok (.invokespecial idx, 3)) (hfr : 1 ≤ R.frames) (hlo : 2 * 0 + (st.map fun v => v.category).sum + 12 ≤ R.locals) (k : V p l e R s m args below meth c Q D A nL ws lv ck sl (pc + 3) st) : V p l e R s m args below meth c Q D A nL ws lv ck sl pc (.ref a :: st) := fun H locs ls hP hD hS hl => W.objInit C.1 C.2.1 C.2.2.2.1 (C.2.2.2.2.1 _ hlink) (C.2.2.2.2.1 _ hinst) (C.2.2.2.2.1 _ hcode) rfl (hl.1.trans C.2.2.1.symm) rfl dg hfr hlo (k H locs ls hP hD hS hl)
theorem v_mmax (C : VC p s m args c D d A cc nL own) {index : Nat} {x y : Int32} (v : Int32) (hlink : Cond.methodLink own index Lib.Math.max.name ∈ gW) (hstat : Cond.static Lib.Math.max.name ∈ gW) (hini : Cond.initialized "java/lang/Math" ∈ gW) (hcode : Cond.code Lib.Math.max.name Lib.Math.max.code 2 (some .int) ∈ gW) (hfr : 1 ≤ R.frames) (hlo : (st.map fun v => v.category).sum + 13 ≤ R.locals) (h1 : ck ≤ R.cells) (h2 : sl ≤ R.slots) (dg : decode cc pc = .ok (.invokestatic index, 3)) (hv : (if x < y then y else x) = v) (k : V p l e R s m args below meth c Q D A nL ws lv ck sl (pc + 3) (.int v :: st)) : V p l e R s m args below meth c Q D A nL ws lv ck sl pc (.int y :: .int x :: st) := fun H locs ls hP hD hS hl => by
  subst hv
  exact va_mmax C.1 C.2.1 (C.2.2.1.trans hl.1.symm) C.2.2.2.1 (C.2.2.2.2.1 _ hlink) (C.2.2.2.2.1 _ hstat) (C.2.2.2.2.1 _ hini) (C.2.2.2.2.1 _ hcode) hfr hlo h1 h2 dg (k H locs ls hP hD hS hl)
theorem v_alen (C : VC p s m args c D d A cc nL own) {a : Nat} (q0 t0 : Nat) {cA : ClassId} {x : vp_A} (ha : ws[q0]? = some (a, .inl (cA, x))) {ty : FieldType} (ht : (g_ty d)[t0]? = some (cA, ty)) (v : Int32) (hv : Int32.ofNat x.1 = v) (dg : decode cc pc = .ok (.arraylength, 1)) (k : V p l e R s m args below meth c Q D A nL ws lv ck sl (pc + 1) (.int v :: st)) : V p l e R s m args below meth c Q D A nL ws lv ck sl pc (.ref a :: st) := fun H locs ls hP hD hS hl => va_alen (cl := gCl) C.1 C.2.1 C.2.2.2.2.2.1 hP q0 t0 ha ht hv dg (k H locs ls hP hD hS hl)
theorem v_iast (C : VC p s m args c D d A cc nL own) {a : Nat} (q0 t0 : Nat) {cA : ClassId} {n : Nat} {f : Nat → Int32} (ha : ws[q0]? = some (a, .inl (cA, n, .inl f))) (ht : (g_ty d)[t0]? = some (cA, .int)) {i x : Int32} (hin : vp_in i n) (ws' : (Nat → Int32) → va_W) (hw : ∀ g, ws.set q0 (a, .inl (cA, n, .inl g)) = ws' g) (dg : decode cc pc = .ok (.iastore, 1)) (k : ∀ g : Nat → Int32, V p l e R s m args below meth c Q D A nL (ws' g) lv ck sl (pc + 1) st) : V p l e R s m args below meth c Q D A nL ws lv ck sl pc (.int x :: .int i :: .ref a :: st) := fun H locs ls hP hD hS hl => va_iast (cl := gCl) C.1 C.2.1 C.2.2.2.2.2.1 hP hD hS q0 t0 ha ht hin dg (fun H1 locs1 hP1 hD1 hS1 => k _ H1 locs1 ls (hw _ ▸ hP1) (hw _ ▸ hD1) hS1 hl)
theorem v_bast (C : VC p s m args c D d A cc nL own) {a : Nat} (q0 t0 : Nat) {cA : ClassId} {n : Nat} {f : Nat → Int32} (ha : ws[q0]? = some (a, .inl (cA, n, .inl f))) (ht : (g_ty d)[t0]? = some (cA, .byte)) {i x : Int32} (hin : vp_in i n) (ws' : (Nat → Int32) → va_W) (hw : ∀ g, ws.set q0 (a, .inl (cA, n, .inl g)) = ws' g) (dg : decode cc pc = .ok (.bastore, 1)) (k : ∀ g : Nat → Int32, V p l e R s m args below meth c Q D A nL (ws' g) lv ck sl (pc + 1) st) : V p l e R s m args below meth c Q D A nL ws lv ck sl pc (.int x :: .int i :: .ref a :: st) := fun H locs ls hP hD hS hl => va_bast (cl := gCl) C.1 C.2.1 C.2.2.2.2.2.1 hP hD hS q0 t0 ha ht hin dg (fun H1 locs1 hP1 hD1 hS1 => k _ H1 locs1 ls (hw _ ▸ hP1) (hw _ ▸ hD1) hS1 hl)
theorem v_last (C : VC p s m args c D d A cc nL own) {a : Nat} (q0 t0 : Nat) {cA : ClassId} {n : Nat} {f : Nat → Int64} (ha : ws[q0]? = some (a, .inl (cA, n, .inr (.inl f)))) (ht : (g_ty d)[t0]? = some (cA, .long)) {i : Int32} {x : Int64} (hin : vp_in i n) (ws' : va_W) (hw : ws.set q0 (a, .inl (cA, n, .inr (.inl (vp_updL f i.toNatClampNeg x)))) = ws') (dg : decode cc pc = .ok (.lastore, 1)) (k : V p l e R s m args below meth c Q D A nL ws' lv ck sl (pc + 1) st) : V p l e R s m args below meth c Q D A nL ws lv ck sl pc (.long x :: .int i :: .ref a :: st) := fun H locs ls hP hD hS hl => va_last (cl := gCl) C.1 C.2.1 C.2.2.2.2.2.1 hP hD hS q0 t0 ha ht hin dg (fun H1 locs1 hP1 hD1 hS1 => k H1 locs1 ls (hw ▸ hP1) (hw ▸ hD1) hS1 hl)
theorem v_lald (C : VC p s m args c D d A cc nL own) {a : Nat} (q0 t0 : Nat) {cA : ClassId} {n : Nat} {f : Nat → Int64} (ha : ws[q0]? = some (a, .inl (cA, n, .inr (.inl f)))) (ht : (g_ty d)[t0]? = some (cA, .long)) {i : Int32} (v : Int64) (hin : vp_in i n) (hv : f i.toNatClampNeg = v) (dg : decode cc pc = .ok (.laload, 1)) (k : V p l e R s m args below meth c Q D A nL ws lv ck sl (pc + 1) (.long v :: st)) : V p l e R s m args below meth c Q D A nL ws lv ck sl pc (.int i :: .ref a :: st) := fun H locs ls hP hD hS hl => by
  subst hv
  exact va_lald (cl := gCl) C.1 C.2.1 C.2.2.2.2.2.1 hP q0 t0 ha ht hin dg (k H locs ls hP hD hS hl)
theorem v_sld (C : VC p s m args c D d A cc nL own) {b L : Nat} {xs : Nat → Int32} (hX : va_X b L xs s s.heap) (hbl : b < s.heap.size) (hbA : ¬ A b) {i : Int32} (v : Int32) (hin : vp_in i L) (hv : xs i.toNatClampNeg = v) (dg : decode cc pc = .ok (.iaload, 1)) (k : V p l e R s m args below meth c Q D A nL ws lv ck sl (pc + 1) (.int v :: st)) : V p l e R s m args below meth c Q D A nL ws lv ck sl pc (.int i :: .ref b :: st) := fun H locs ls hP hD hS hl => by
  subst hv
  exact va_sld C.1 C.2.1 hX hbl hbA hS hin dg (k H locs ls hP hD hS hl)
theorem v_slen (C : VC p s m args c D d A cc nL own) {b L : Nat} {xs : Nat → Int32} (hX : va_X b L xs s s.heap) (hbl : b < s.heap.size) (hbA : ¬ A b) (dg : decode cc pc = .ok (.arraylength, 1)) (k : V p l e R s m args below meth c Q D A nL ws lv ck sl (pc + 1) (.int (Int32.ofNat L) :: st)) : V p l e R s m args below meth c Q D A nL ws lv ck sl pc (.ref b :: st) := fun H locs ls hP hD hS hl => va_slen C.1 C.2.1 hX hbl hbA hS dg (k H locs ls hP hD hS hl)
theorem v_callVv (C : VC p s m args c D d A cc nL own) {y : MethodName} {bb : ByteArray} {nY nA index : Nat} {ret : Option FieldType} {rm : Room} {mc ms : Nat} (F : g_mf y bb nY ret nA) (G : g_mv y) (hlink : Cond.methodLink own index y ∈ gW) {b : Nat} {S : Type} {w1 : S → va_W} {E : Bool} {wc wr : va_W} {As rest : List Value} (hM : ∀ sz, Met l y (g_wd y bb nY ret) rm (va_Pc (.ref b :: As) (g_pr E D d wc sz)) (q_v D w1 (va_A wc sz)) mc ms (va_A wc sz)) (hE : E = true → g_ex A s) (q0 : Nat) {ci : Nat} {T : u_T} {N : Nat} {fs : List Value} (he : ws[q0]? = some (b, .inr (ci, fs))) (hci : gCl[ci]? = some (y.cls, T, N)) (isC isR : List Nat) (hC : isC.map (fun i => ws[i]?) = wc.map some) (hR : isR.map (fun i => ws[i]?) = wr.map some) (hnC : va_nd isC = true) (hnR : va_nd isR = true) (hdis : ∀ i ∈ isR, i ∉ isC) (hrm : rm.cells = mc ∧ rm.slots = ms) (hfl : rm.frames + 1 ≤ R.frames ∧ 8 + (nY + 11) + rm.locals ≤ R.locals) (hcap : ck + mc ≤ R.cells ∧ sl + ms ≤ R.slots) (hrest : (rest.map fun v => v.category).sum ≤ 8) {st0 : List Value} (hst : st0 = As.reverse ++ .ref b :: rest) (hlen : As.length = nA) (ws' : S → va_W) (hw : ∀ u, wr ++ w1 u = ws' u) (dg : decode cc pc = .ok (.invokevirtual index, 3)) (k : ∀ u : S, V p l e R s m args below meth c Q D A nL (ws' u) lv (ck + mc) (sl + ms) (pc + 3) rest) : V p l e R s m args below meth c Q D A nL ws lv ck sl pc st0 := fun H locs ls hP hD hS hl => by
  have cw : CallW R s args own y.cls index y bb nY ret (g_wd y bb nY ret) rm mc ms nA := ⟨callB_of nA C.2.2.2.2.1 (g_goodC F.1) rfl hrm.1 hrm.2 (C.2.2.2.2.1 _ F.2.1) (C.2.2.2.2.1 _ hlink) F.2.2 hfl, C.2.2.2.2.1 _ G.1, C.2.2.2.2.1 _ G.2⟩
  refine va_callv (va_runV (Ts := gW) ⟨C.1, C.2.1, C.2.2.1, C.2.2.2.1, C.2.2.2.2.1⟩ (hM H.size) cw ⟨pr_blind, va_recv C.2.2.2.2.2.1 hP hci he, fun U hU hW => ⟨rfl, by rw [hU], by rw [hU]; exact hP.sub isC (fm_of hC), va_K.moved hW.alike C.2.2.2.2.2.1, (hD.sub isC hnC hC).weaken (fun _ _ _ _ => trivial), C.2.2.2.2.2.2.2.1.moved hW.alike, gB_warm hW C.2.2.2.2.2.2.2.2, fun h => (hE h).to hS hU hW (va_free hD hS C.2.2.2.2.2.2.1 isC hC)⟩⟩ rfl hlen hl.1 hst (lv_room hrest) dg hcap) hS (fun q _ h => va_free hD hS C.2.2.2.2.2.2.1 isC hC q h) (va_free hD hS C.2.2.2.2.2.2.1 isC hC) (fun u t H1 locs1 ht hvm hw9 hB hz1 hk1 hS1 => ?_)
  obtain ⟨hP1, hD1⟩ := hB
  rw [ht] at hP1
  obtain ⟨hP2, hD2⟩ := va_join hP hD isC isR hC hR hnR hdis hk1 (va_free hD hS C.2.2.2.2.2.2.1 isC hC) hP1 hD1
  exact k u H1 locs1 ls (hw u ▸ hP2) (hw u ▸ hD2) hS1 hl
theorem v_callSv (C : VC p s m args c D d A cc nL own) {y : MethodName} {bb : ByteArray} {nY nA index : Nat} {ret : Option FieldType} {rm : Room} {mc ms : Nat} (F : g_mf y bb nY ret nA) (hstat : Cond.static y ∈ gW) (hlink : Cond.methodLink own index y ∈ gW) {S : Type} {w1 : S → va_W} {E : Bool} {wc wr : va_W} {As rest : List Value} (hM : ∀ sz, Met l y (g_wd y bb nY ret) rm (va_Pc As (g_pr E D d wc sz)) (q_v D w1 (va_A wc sz)) mc ms (va_A wc sz)) (hE : E = true → g_ex A s) (isC isR : List Nat) (hC : isC.map (fun i => ws[i]?) = wc.map some) (hR : isR.map (fun i => ws[i]?) = wr.map some) (hnC : va_nd isC = true) (hnR : va_nd isR = true) (hdis : ∀ i ∈ isR, i ∉ isC) (hrm : rm.cells = mc ∧ rm.slots = ms) (hfl : rm.frames + 1 ≤ R.frames ∧ 8 + (nY + 11) + rm.locals ≤ R.locals) (hcap : ck + mc ≤ R.cells ∧ sl + ms ≤ R.slots) (hrest : (rest.map fun v => v.category).sum ≤ 8) {st0 : List Value} (hst : st0 = As.reverse ++ rest) (hlen : As.length = nA) (ws' : S → va_W) (hw : ∀ u, wr ++ w1 u = ws' u) (dg : decode cc pc = .ok (.invokestatic index, 3)) (k : ∀ u : S, V p l e R s m args below meth c Q D A nL (ws' u) lv (ck + mc) (sl + ms) (pc + 3) rest) : V p l e R s m args below meth c Q D A nL ws lv ck sl pc st0 := fun H locs ls hP hD hS hl => by
  have cw : CallB R s args own index y bb nY ret (g_wd y bb nY ret) rm mc ms nA ∧ (Cond.static y).before args s = true := ⟨callB_of nA C.2.2.2.2.1 (g_goodC F.1) rfl hrm.1 hrm.2 (C.2.2.2.2.1 _ F.2.1) (C.2.2.2.2.1 _ hlink) F.2.2 hfl, C.2.2.2.2.1 _ hstat⟩
  refine va_callv (va_runS (Ts := gW) ⟨C.1, C.2.1, C.2.2.1, C.2.2.2.1, C.2.2.2.2.1⟩ (hM H.size) cw ⟨pr_blind, fun U hU hW => ⟨rfl, by rw [hU], by rw [hU]; exact hP.sub isC (fm_of hC), va_K.moved hW.alike C.2.2.2.2.2.1, (hD.sub isC hnC hC).weaken (fun _ _ _ _ => trivial), C.2.2.2.2.2.2.2.1.moved hW.alike, gB_warm hW C.2.2.2.2.2.2.2.2, fun h => (hE h).to hS hU hW (va_free hD hS C.2.2.2.2.2.2.1 isC hC)⟩⟩ rfl hlen hl.1 hst (lv_room hrest) dg hcap) hS (fun q _ h => va_free hD hS C.2.2.2.2.2.2.1 isC hC q h) (va_free hD hS C.2.2.2.2.2.2.1 isC hC) (fun u t H1 locs1 ht hvm hw9 hB hz1 hk1 hS1 => ?_)
  obtain ⟨hP1, hD1⟩ := hB
  rw [ht] at hP1
  obtain ⟨hP2, hD2⟩ := va_join hP hD isC isR hC hR hnR hdis hk1 (va_free hD hS C.2.2.2.2.2.2.1 isC hC) hP1 hD1
  exact k u H1 locs1 ls (hw u ▸ hP2) (hw u ▸ hD2) hS1 hl
theorem v_callI (C : VC p s m args c D d A cc nL own) {y : MethodName} {bb : ByteArray} {nY nA index : Nat} {rm : Room} {mc ms : Nat} (F : g_mf y bb nY none nA) (hinst : Cond.instanceMethod y ∈ gW) (hy : y.name = "<init>") (hlink : Cond.methodLink own index y ∈ gW) {b : Nat} {S : Type} {w1 : S → va_W} {E : Bool} {wc wr : va_W} {As rest : List Value} (hM : ∀ sz, Met l y (g_wd y bb nY none) rm (va_Pc (.ref b :: As) (g_pr E D d wc sz)) (q_v D w1 (va_A wc sz)) mc ms (va_A wc sz)) (hE : E = true → g_ex A s) (isC isR : List Nat) (hC : isC.map (fun i => ws[i]?) = wc.map some) (hR : isR.map (fun i => ws[i]?) = wr.map some) (hnC : va_nd isC = true) (hnR : va_nd isR = true) (hdis : ∀ i ∈ isR, i ∉ isC) (hrm : rm.cells = mc ∧ rm.slots = ms) (hfl : rm.frames + 1 ≤ R.frames ∧ 8 + (nY + 11) + rm.locals ≤ R.locals) (hcap : ck + mc ≤ R.cells ∧ sl + ms ≤ R.slots) (hrest : (rest.map fun v => v.category).sum ≤ 8) {st0 : List Value} (hst : st0 = As.reverse ++ .ref b :: rest) (hlen : As.length = nA) (ws' : S → va_W) (hw : ∀ u, wr ++ w1 u = ws' u) (dg : decode cc pc = .ok (.invokespecial index, 3)) (k : ∀ u : S, V p l e R s m args below meth c Q D A nL (ws' u) lv (ck + mc) (sl + ms) (pc + 3) rest) : V p l e R s m args below meth c Q D A nL ws lv ck sl pc st0 := fun H locs ls hP hD hS hl => by
  have cw : CallB R s args own index y bb nY none (g_wd y bb nY none) rm mc ms nA ∧ y.name = "<init>" ∧ (Cond.instanceMethod y).before args s = true := ⟨callB_of nA C.2.2.2.2.1 (g_goodC F.1) rfl hrm.1 hrm.2 (C.2.2.2.2.1 _ F.2.1) (C.2.2.2.2.1 _ hlink) F.2.2 hfl, hy, C.2.2.2.2.1 _ hinst⟩
  refine va_callv (va_runI (Ts := gW) ⟨C.1, C.2.1, C.2.2.1, C.2.2.2.1, C.2.2.2.2.1⟩ (hM H.size) cw ⟨pr_blind, fun U hU hW => ⟨rfl, by rw [hU], by rw [hU]; exact hP.sub isC (fm_of hC), va_K.moved hW.alike C.2.2.2.2.2.1, (hD.sub isC hnC hC).weaken (fun _ _ _ _ => trivial), C.2.2.2.2.2.2.2.1.moved hW.alike, gB_warm hW C.2.2.2.2.2.2.2.2, fun h => (hE h).to hS hU hW (va_free hD hS C.2.2.2.2.2.2.1 isC hC)⟩⟩ rfl hlen hl.1 hst (lv_room hrest) dg hcap) hS (fun q _ h => va_free hD hS C.2.2.2.2.2.2.1 isC hC q h) (va_free hD hS C.2.2.2.2.2.2.1 isC hC) (fun u t H1 locs1 ht hvm hw9 hB hz1 hk1 hS1 => ?_)
  obtain ⟨hP1, hD1⟩ := hB
  rw [ht] at hP1
  obtain ⟨hP2, hD2⟩ := va_join hP hD isC isR hC hR hnR hdis hk1 (va_free hD hS C.2.2.2.2.2.2.1 isC hC) hP1 hD1
  exact k u H1 locs1 ls (hw u ▸ hP2) (hw u ▸ hD2) hS1 hl
theorem v_callIN (C : VC p s m args c D d A cc nL own) {y : MethodName} {bb : ByteArray} {nY nA index : Nat} {rm : Room} {mc ms : Nat} (F : g_mf y bb nY none nA) (hinst : Cond.instanceMethod y ∈ gW) (hy : y.name = "<init>") {host : String} (hlink : Cond.methodLinkNest own index y host ∈ gB) {b : Nat} {S : Type} {w1 : S → va_W} {E : Bool} {wc wr : va_W} {As rest : List Value} (hM : ∀ sz, Met l y (g_wd y bb nY none) rm (va_Pc (.ref b :: As) (g_pr E D d wc sz)) (q_v D w1 (va_A wc sz)) mc ms (va_A wc sz)) (hE : E = true → g_ex A s) (isC isR : List Nat) (hC : isC.map (fun i => ws[i]?) = wc.map some) (hR : isR.map (fun i => ws[i]?) = wr.map some) (hnC : va_nd isC = true) (hnR : va_nd isR = true) (hdis : ∀ i ∈ isR, i ∉ isC) (hrm : rm.cells = mc ∧ rm.slots = ms) (hfl : rm.frames + 1 ≤ R.frames ∧ 8 + (nY + 11) + rm.locals ≤ R.locals) (hcap : ck + mc ≤ R.cells ∧ sl + ms ≤ R.slots) (hrest : (rest.map fun v => v.category).sum ≤ 8) {st0 : List Value} (hst : st0 = As.reverse ++ .ref b :: rest) (hlen : As.length = nA) (ws' : S → va_W) (hw : ∀ u, wr ++ w1 u = ws' u) (dg : decode cc pc = .ok (.invokespecial index, 3)) (k : ∀ u : S, V p l e R s m args below meth c Q D A nL (ws' u) lv (ck + mc) (sl + ms) (pc + 3) rest) : V p l e R s m args below meth c Q D A nL ws lv ck sl pc st0 := fun H locs ls hP hD hS hl => by
  have cw : va_CN R s args own index y host bb nY none (g_wd y bb nY none) rm mc ms nA ∧ y.name = "<init>" ∧ (Cond.instanceMethod y).before args s = true := ⟨va_cnB nA C.2.2.2.2.1 (g_goodC F.1) rfl hrm.1 hrm.2 (C.2.2.2.2.2.2.2.2 _ hlink) (C.2.2.2.2.1 _ F.2.1) F.2.2 hfl, hy, C.2.2.2.2.1 _ hinst⟩
  refine va_callv (va_runIN (Ts := gW) ⟨C.1, C.2.1, C.2.2.1, C.2.2.2.1, C.2.2.2.2.1⟩ (hM H.size) cw ⟨pr_blind, fun U hU hW => ⟨rfl, by rw [hU], by rw [hU]; exact hP.sub isC (fm_of hC), va_K.moved hW.alike C.2.2.2.2.2.1, (hD.sub isC hnC hC).weaken (fun _ _ _ _ => trivial), C.2.2.2.2.2.2.2.1.moved hW.alike, gB_warm hW C.2.2.2.2.2.2.2.2, fun h => (hE h).to hS hU hW (va_free hD hS C.2.2.2.2.2.2.1 isC hC)⟩⟩ rfl hlen hl.1 hst (lv_room hrest) dg hcap) hS (fun q _ h => va_free hD hS C.2.2.2.2.2.2.1 isC hC q h) (va_free hD hS C.2.2.2.2.2.2.1 isC hC) (fun u t H1 locs1 ht hvm hw9 hB hz1 hk1 hS1 => ?_)
  obtain ⟨hP1, hD1⟩ := hB
  rw [ht] at hP1
  obtain ⟨hP2, hD2⟩ := va_join hP hD isC isR hC hR hnR hdis hk1 (va_free hD hS C.2.2.2.2.2.2.1 isC hC) hP1 hD1
  exact k u H1 locs1 ls (hw u ▸ hP2) (hw u ▸ hD2) hS1 hl
theorem v_callVi (C : VC p s m args c D d A cc nL own) {y : MethodName} {bb : ByteArray} {nY nA index : Nat} {ret : Option FieldType} {rm : Room} {mc ms : Nat} (F : g_mf y bb nY ret nA) (G : g_mv y) (hlink : Cond.methodLink own index y ∈ gW) {b : Nat} {S : Type} {w1 : S → va_W} {K : Int32} {E : Bool} {wc wr : va_W} {As rest : List Value} (hM : ∀ sz, Met l y (g_wd y bb nY ret) rm (va_Pc (.ref b :: As) (g_pr E D d wc sz)) (q_i D K w1 (va_A wc sz)) mc ms (va_A wc sz)) (hE : E = true → g_ex A s) (q0 : Nat) {ci : Nat} {T : u_T} {N : Nat} {fs : List Value} (he : ws[q0]? = some (b, .inr (ci, fs))) (hci : gCl[ci]? = some (y.cls, T, N)) (isC isR : List Nat) (hC : isC.map (fun i => ws[i]?) = wc.map some) (hR : isR.map (fun i => ws[i]?) = wr.map some) (hnC : va_nd isC = true) (hnR : va_nd isR = true) (hdis : ∀ i ∈ isR, i ∉ isC) (hrm : rm.cells = mc ∧ rm.slots = ms) (hfl : rm.frames + 1 ≤ R.frames ∧ 8 + (nY + 11) + rm.locals ≤ R.locals) (hcap : ck + mc ≤ R.cells ∧ sl + ms ≤ R.slots) (hrest : (rest.map fun v => v.category).sum ≤ 8) {st0 : List Value} (hst : st0 = As.reverse ++ .ref b :: rest) (hlen : As.length = nA) (ws' : S → va_W) (hw : ∀ u, wr ++ w1 u = ws' u) (dg : decode cc pc = .ok (.invokevirtual index, 3)) (k : ∀ u : S, V p l e R s m args below meth c Q D A nL (ws' u) lv (ck + mc) (sl + ms) (pc + 3) (.int K :: rest)) : V p l e R s m args below meth c Q D A nL ws lv ck sl pc st0 := fun H locs ls hP hD hS hl => by
  have cw : CallW R s args own y.cls index y bb nY ret (g_wd y bb nY ret) rm mc ms nA := ⟨callB_of nA C.2.2.2.2.1 (g_goodC F.1) rfl hrm.1 hrm.2 (C.2.2.2.2.1 _ F.2.1) (C.2.2.2.2.1 _ hlink) F.2.2 hfl, C.2.2.2.2.1 _ G.1, C.2.2.2.2.1 _ G.2⟩
  refine va_calli (va_runV (Ts := gW) ⟨C.1, C.2.1, C.2.2.1, C.2.2.2.1, C.2.2.2.2.1⟩ (hM H.size) cw ⟨pr_blind, va_recv C.2.2.2.2.2.1 hP hci he, fun U hU hW => ⟨rfl, by rw [hU], by rw [hU]; exact hP.sub isC (fm_of hC), va_K.moved hW.alike C.2.2.2.2.2.1, (hD.sub isC hnC hC).weaken (fun _ _ _ _ => trivial), C.2.2.2.2.2.2.2.1.moved hW.alike, gB_warm hW C.2.2.2.2.2.2.2.2, fun h => (hE h).to hS hU hW (va_free hD hS C.2.2.2.2.2.2.1 isC hC)⟩⟩ rfl hlen hl.1 hst (lv_room hrest) dg hcap) hS (fun q _ h => va_free hD hS C.2.2.2.2.2.2.1 isC hC q h) (va_free hD hS C.2.2.2.2.2.2.1 isC hC) (fun r u t H1 locs1 ht hvm hw9 hB hz1 hk1 hS1 => ?_)
  obtain ⟨hP1, hD1⟩ := hB
  rw [ht] at hP1
  subst hw9
  obtain ⟨hP2, hD2⟩ := va_join hP hD isC isR hC hR hnR hdis hk1 (va_free hD hS C.2.2.2.2.2.2.1 isC hC) hP1 hD1
  exact k u H1 locs1 ls (hw u ▸ hP2) (hw u ▸ hD2) hS1 hl
theorem v_callSi (C : VC p s m args c D d A cc nL own) {y : MethodName} {bb : ByteArray} {nY nA index : Nat} {ret : Option FieldType} {rm : Room} {mc ms : Nat} (F : g_mf y bb nY ret nA) (hstat : Cond.static y ∈ gW) (hlink : Cond.methodLink own index y ∈ gW) {S : Type} {w1 : S → va_W} {K : Int32} {E : Bool} {wc wr : va_W} {As rest : List Value} (hM : ∀ sz, Met l y (g_wd y bb nY ret) rm (va_Pc As (g_pr E D d wc sz)) (q_i D K w1 (va_A wc sz)) mc ms (va_A wc sz)) (hE : E = true → g_ex A s) (isC isR : List Nat) (hC : isC.map (fun i => ws[i]?) = wc.map some) (hR : isR.map (fun i => ws[i]?) = wr.map some) (hnC : va_nd isC = true) (hnR : va_nd isR = true) (hdis : ∀ i ∈ isR, i ∉ isC) (hrm : rm.cells = mc ∧ rm.slots = ms) (hfl : rm.frames + 1 ≤ R.frames ∧ 8 + (nY + 11) + rm.locals ≤ R.locals) (hcap : ck + mc ≤ R.cells ∧ sl + ms ≤ R.slots) (hrest : (rest.map fun v => v.category).sum ≤ 8) {st0 : List Value} (hst : st0 = As.reverse ++ rest) (hlen : As.length = nA) (ws' : S → va_W) (hw : ∀ u, wr ++ w1 u = ws' u) (dg : decode cc pc = .ok (.invokestatic index, 3)) (k : ∀ u : S, V p l e R s m args below meth c Q D A nL (ws' u) lv (ck + mc) (sl + ms) (pc + 3) (.int K :: rest)) : V p l e R s m args below meth c Q D A nL ws lv ck sl pc st0 := fun H locs ls hP hD hS hl => by
  have cw : CallB R s args own index y bb nY ret (g_wd y bb nY ret) rm mc ms nA ∧ (Cond.static y).before args s = true := ⟨callB_of nA C.2.2.2.2.1 (g_goodC F.1) rfl hrm.1 hrm.2 (C.2.2.2.2.1 _ F.2.1) (C.2.2.2.2.1 _ hlink) F.2.2 hfl, C.2.2.2.2.1 _ hstat⟩
  refine va_calli (va_runS (Ts := gW) ⟨C.1, C.2.1, C.2.2.1, C.2.2.2.1, C.2.2.2.2.1⟩ (hM H.size) cw ⟨pr_blind, fun U hU hW => ⟨rfl, by rw [hU], by rw [hU]; exact hP.sub isC (fm_of hC), va_K.moved hW.alike C.2.2.2.2.2.1, (hD.sub isC hnC hC).weaken (fun _ _ _ _ => trivial), C.2.2.2.2.2.2.2.1.moved hW.alike, gB_warm hW C.2.2.2.2.2.2.2.2, fun h => (hE h).to hS hU hW (va_free hD hS C.2.2.2.2.2.2.1 isC hC)⟩⟩ rfl hlen hl.1 hst (lv_room hrest) dg hcap) hS (fun q _ h => va_free hD hS C.2.2.2.2.2.2.1 isC hC q h) (va_free hD hS C.2.2.2.2.2.2.1 isC hC) (fun r u t H1 locs1 ht hvm hw9 hB hz1 hk1 hS1 => ?_)
  obtain ⟨hP1, hD1⟩ := hB
  rw [ht] at hP1
  subst hw9
  obtain ⟨hP2, hD2⟩ := va_join hP hD isC isR hC hR hnR hdis hk1 (va_free hD hS C.2.2.2.2.2.2.1 isC hC) hP1 hD1
  exact k u H1 locs1 ls (hw u ▸ hP2) (hw u ▸ hD2) hS1 hl
theorem v_callSWi (C : VC p s m args c D d A cc nL own) {y : MethodName} {bb : ByteArray} {nY nA index : Nat} {ret : Option FieldType} {hh : List (Nat × Nat × Nat × Nat)} {rm : Room} {mc ms : Nat} (F : Cond.codeWith y bb nY ret hh ∈ gW ∧ Cond.initialized y.cls ∈ gW ∧ (y.cls ≠ "java/lang/invoke/MethodHandle" ∧ y.cls ≠ "java/lang/invoke/VarHandle" ∧ (parseMethodDescriptor y.desc).map (fun d => d.parameters.length) = some nA)) (hstat : Cond.static y ∈ gW) (hlink : Cond.methodLink own index y ∈ gW) {S : Type} {w1 : S → va_W} {K : Int32} {E : Bool} {wc wr : va_W} {As rest : List Value} (hM : ∀ sz, Met l y (g_wh y bb nY ret hh) rm (va_Pc As (g_pr E D d wc sz)) (q_i D K w1 (va_A wc sz)) mc ms (va_A wc sz)) (hE : E = true → g_ex A s) (isC isR : List Nat) (hC : isC.map (fun i => ws[i]?) = wc.map some) (hR : isR.map (fun i => ws[i]?) = wr.map some) (hnC : va_nd isC = true) (hnR : va_nd isR = true) (hdis : ∀ i ∈ isR, i ∉ isC) (hrm : rm.cells = mc ∧ rm.slots = ms) (hfl : rm.frames + 1 ≤ R.frames ∧ 8 + (nY + 11) + rm.locals ≤ R.locals) (hcap : ck + mc ≤ R.cells ∧ sl + ms ≤ R.slots) (hrest : (rest.map fun v => v.category).sum ≤ 8) {st0 : List Value} (hst : st0 = As.reverse ++ rest) (hlen : As.length = nA) (ws' : S → va_W) (hw : ∀ u, wr ++ w1 u = ws' u) (dg : decode cc pc = .ok (.invokestatic index, 3)) (k : ∀ u : S, V p l e R s m args below meth c Q D A nL (ws' u) lv (ck + mc) (sl + ms) (pc + 3) (.int K :: rest)) : V p l e R s m args below meth c Q D A nL ws lv ck sl pc st0 := fun H locs ls hP hD hS hl => by
  have hG9 : GoodIn gW (va_wsS own index y (g_wh y bb nY ret hh)) := g_goodA (a := [.methodLink own index y, .static y, .initialized y.cls]) (fun w hw => (List.mem_cons.mp hw).elim (fun e => by rw [e]; exact hlink) (fun hw => (List.mem_cons.mp hw).elim (fun e => by rw [e]; exact hstat) (fun hw => (List.mem_cons.mp hw).elim (fun e => by rw [e]; exact F.2.1) (fun hw => nomatch hw)))) (g_goodC F.1)
  have cw : vx_CSW R s args own index y bb nY ret hh (g_wh y bb nY ret hh) rm mc ms nA := vx_cwSW nA C.2.2.2.2.1 hG9 rfl hrm.1 hrm.2 F.2.2 hfl
  refine va_calli (vx_runSW (Ts := gW) ⟨C.1, C.2.1, C.2.2.1, C.2.2.2.1, C.2.2.2.2.1⟩ (hM H.size) cw ⟨pr_blind, fun U hU hW => ⟨rfl, by rw [hU], by rw [hU]; exact hP.sub isC (fm_of hC), va_K.moved hW.alike C.2.2.2.2.2.1, (hD.sub isC hnC hC).weaken (fun _ _ _ _ => trivial), C.2.2.2.2.2.2.2.1.moved hW.alike, gB_warm hW C.2.2.2.2.2.2.2.2, fun h => (hE h).to hS hU hW (va_free hD hS C.2.2.2.2.2.2.1 isC hC)⟩⟩ rfl hlen hl.1 hst (lv_room hrest) dg hcap) hS (fun q _ h => va_free hD hS C.2.2.2.2.2.2.1 isC hC q h) (va_free hD hS C.2.2.2.2.2.2.1 isC hC) (fun r u t H1 locs1 ht hvm hw9 hB hz1 hk1 hS1 => ?_)
  obtain ⟨hP1, hD1⟩ := hB
  rw [ht] at hP1
  subst hw9
  obtain ⟨hP2, hD2⟩ := va_join hP hD isC isR hC hR hnR hdis hk1 (va_free hD hS C.2.2.2.2.2.2.1 isC hC) hP1 hD1
  exact k u H1 locs1 ls (hw u ▸ hP2) (hw u ▸ hD2) hS1 hl
theorem v_callVl (C : VC p s m args c D d A cc nL own) {y : MethodName} {bb : ByteArray} {nY nA index : Nat} {ret : Option FieldType} {rm : Room} {mc ms : Nat} (F : g_mf y bb nY ret nA) (G : g_mv y) (hlink : Cond.methodLink own index y ∈ gW) {b : Nat} {S : Type} {w1 : S → va_W} {K : Int64} {E : Bool} {wc wr : va_W} {As rest : List Value} (hM : ∀ sz, Met l y (g_wd y bb nY ret) rm (va_Pc (.ref b :: As) (g_pr E D d wc sz)) (q_l D K w1 (va_A wc sz)) mc ms (va_A wc sz)) (hE : E = true → g_ex A s) (q0 : Nat) {ci : Nat} {T : u_T} {N : Nat} {fs : List Value} (he : ws[q0]? = some (b, .inr (ci, fs))) (hci : gCl[ci]? = some (y.cls, T, N)) (isC isR : List Nat) (hC : isC.map (fun i => ws[i]?) = wc.map some) (hR : isR.map (fun i => ws[i]?) = wr.map some) (hnC : va_nd isC = true) (hnR : va_nd isR = true) (hdis : ∀ i ∈ isR, i ∉ isC) (hrm : rm.cells = mc ∧ rm.slots = ms) (hfl : rm.frames + 1 ≤ R.frames ∧ 8 + (nY + 11) + rm.locals ≤ R.locals) (hcap : ck + mc ≤ R.cells ∧ sl + ms ≤ R.slots) (hrest : (rest.map fun v => v.category).sum ≤ 8) {st0 : List Value} (hst : st0 = As.reverse ++ .ref b :: rest) (hlen : As.length = nA) (ws' : S → va_W) (hw : ∀ u, wr ++ w1 u = ws' u) (dg : decode cc pc = .ok (.invokevirtual index, 3)) (k : ∀ u : S, V p l e R s m args below meth c Q D A nL (ws' u) lv (ck + mc) (sl + ms) (pc + 3) (.long K :: rest)) : V p l e R s m args below meth c Q D A nL ws lv ck sl pc st0 := fun H locs ls hP hD hS hl => by
  have cw : CallW R s args own y.cls index y bb nY ret (g_wd y bb nY ret) rm mc ms nA := ⟨callB_of nA C.2.2.2.2.1 (g_goodC F.1) rfl hrm.1 hrm.2 (C.2.2.2.2.1 _ F.2.1) (C.2.2.2.2.1 _ hlink) F.2.2 hfl, C.2.2.2.2.1 _ G.1, C.2.2.2.2.1 _ G.2⟩
  refine va_calll (va_runV (Ts := gW) ⟨C.1, C.2.1, C.2.2.1, C.2.2.2.1, C.2.2.2.2.1⟩ (hM H.size) cw ⟨pr_blind, va_recv C.2.2.2.2.2.1 hP hci he, fun U hU hW => ⟨rfl, by rw [hU], by rw [hU]; exact hP.sub isC (fm_of hC), va_K.moved hW.alike C.2.2.2.2.2.1, (hD.sub isC hnC hC).weaken (fun _ _ _ _ => trivial), C.2.2.2.2.2.2.2.1.moved hW.alike, gB_warm hW C.2.2.2.2.2.2.2.2, fun h => (hE h).to hS hU hW (va_free hD hS C.2.2.2.2.2.2.1 isC hC)⟩⟩ rfl hlen hl.1 hst (lv_room hrest) dg hcap) hS (fun q _ h => va_free hD hS C.2.2.2.2.2.2.1 isC hC q h) (va_free hD hS C.2.2.2.2.2.2.1 isC hC) (fun r u t H1 locs1 ht hvm hw9 hB hz1 hk1 hS1 => ?_)
  obtain ⟨hP1, hD1⟩ := hB
  rw [ht] at hP1
  subst hw9
  obtain ⟨hP2, hD2⟩ := va_join hP hD isC isR hC hR hnR hdis hk1 (va_free hD hS C.2.2.2.2.2.2.1 isC hC) hP1 hD1
  exact k u H1 locs1 ls (hw u ▸ hP2) (hw u ▸ hD2) hS1 hl
theorem v_callSl (C : VC p s m args c D d A cc nL own) {y : MethodName} {bb : ByteArray} {nY nA index : Nat} {ret : Option FieldType} {rm : Room} {mc ms : Nat} (F : g_mf y bb nY ret nA) (hstat : Cond.static y ∈ gW) (hlink : Cond.methodLink own index y ∈ gW) {S : Type} {w1 : S → va_W} {K : Int64} {E : Bool} {wc wr : va_W} {As rest : List Value} (hM : ∀ sz, Met l y (g_wd y bb nY ret) rm (va_Pc As (g_pr E D d wc sz)) (q_l D K w1 (va_A wc sz)) mc ms (va_A wc sz)) (hE : E = true → g_ex A s) (isC isR : List Nat) (hC : isC.map (fun i => ws[i]?) = wc.map some) (hR : isR.map (fun i => ws[i]?) = wr.map some) (hnC : va_nd isC = true) (hnR : va_nd isR = true) (hdis : ∀ i ∈ isR, i ∉ isC) (hrm : rm.cells = mc ∧ rm.slots = ms) (hfl : rm.frames + 1 ≤ R.frames ∧ 8 + (nY + 11) + rm.locals ≤ R.locals) (hcap : ck + mc ≤ R.cells ∧ sl + ms ≤ R.slots) (hrest : (rest.map fun v => v.category).sum ≤ 8) {st0 : List Value} (hst : st0 = As.reverse ++ rest) (hlen : As.length = nA) (ws' : S → va_W) (hw : ∀ u, wr ++ w1 u = ws' u) (dg : decode cc pc = .ok (.invokestatic index, 3)) (k : ∀ u : S, V p l e R s m args below meth c Q D A nL (ws' u) lv (ck + mc) (sl + ms) (pc + 3) (.long K :: rest)) : V p l e R s m args below meth c Q D A nL ws lv ck sl pc st0 := fun H locs ls hP hD hS hl => by
  have cw : CallB R s args own index y bb nY ret (g_wd y bb nY ret) rm mc ms nA ∧ (Cond.static y).before args s = true := ⟨callB_of nA C.2.2.2.2.1 (g_goodC F.1) rfl hrm.1 hrm.2 (C.2.2.2.2.1 _ F.2.1) (C.2.2.2.2.1 _ hlink) F.2.2 hfl, C.2.2.2.2.1 _ hstat⟩
  refine va_calll (va_runS (Ts := gW) ⟨C.1, C.2.1, C.2.2.1, C.2.2.2.1, C.2.2.2.2.1⟩ (hM H.size) cw ⟨pr_blind, fun U hU hW => ⟨rfl, by rw [hU], by rw [hU]; exact hP.sub isC (fm_of hC), va_K.moved hW.alike C.2.2.2.2.2.1, (hD.sub isC hnC hC).weaken (fun _ _ _ _ => trivial), C.2.2.2.2.2.2.2.1.moved hW.alike, gB_warm hW C.2.2.2.2.2.2.2.2, fun h => (hE h).to hS hU hW (va_free hD hS C.2.2.2.2.2.2.1 isC hC)⟩⟩ rfl hlen hl.1 hst (lv_room hrest) dg hcap) hS (fun q _ h => va_free hD hS C.2.2.2.2.2.2.1 isC hC q h) (va_free hD hS C.2.2.2.2.2.2.1 isC hC) (fun r u t H1 locs1 ht hvm hw9 hB hz1 hk1 hS1 => ?_)
  obtain ⟨hP1, hD1⟩ := hB
  rw [ht] at hP1
  subst hw9
  obtain ⟨hP2, hD2⟩ := va_join hP hD isC isR hC hR hnR hdis hk1 (va_free hD hS C.2.2.2.2.2.2.1 isC hC) hP1 hD1
  exact k u H1 locs1 ls (hw u ▸ hP2) (hw u ▸ hD2) hS1 hl
theorem v_callXi (C : VC p s m args c D d A cc nL own) {y : MethodName} {bb : ByteArray} {nY nA index : Nat} {ret : Option FieldType} {rm : Room} {mc ms : Nat} (F : g_mf y bb nY ret nA) (G : g_mv y) (hlink : Cond.methodLink own index y ∈ gW) {b : Nat} {E : Bool} {EX : String} {wc wr : va_W} {As rest : List Value} (hM : ∀ sz, vx_Met l y (g_wd y bb nY ret) rm (va_Pc (.ref b :: As) (g_pr E D d wc sz)) (q_ni (va_A wc sz)) (g_XC EX (va_A wc sz)) mc ms (va_A wc sz)) (hE : E = true → g_ex A s) (q0 : Nat) {ci : Nat} {T : u_T} {N : Nat} {fs : List Value} (he : ws[q0]? = some (b, .inr (ci, fs))) (hci : gCl[ci]? = some (y.cls, T, N)) (isC isR : List Nat) (hC : isC.map (fun i => ws[i]?) = wc.map some) (hR : isR.map (fun i => ws[i]?) = wr.map some) (hnC : va_nd isC = true) (hnR : va_nd isR = true) (hdis : ∀ i ∈ isR, i ∉ isC) (hrm : rm.cells = mc ∧ rm.slots = ms) (hfl : rm.frames + 1 ≤ R.frames ∧ 8 + (nY + 11) + rm.locals ≤ R.locals) (hcap : ck + mc ≤ R.cells ∧ sl + ms ≤ R.slots) (hrest : (rest.map fun v => v.category).sum ≤ 8) {st0 : List Value} (hst : st0 = As.reverse ++ .ref b :: rest) (hlen : As.length = nA) (x : ExceptionTableEntry) (suf : List ExceptionTableEntry) (hsplit : c.exceptionTable.toList = x :: suf) (hx : covers x pc = true) (h0 : x.catchType ≠ 0) (hcl : Cond.classLink own x.catchType EX ∈ gW) (hcast : Cond.castable EX EX ∈ gB) (dg : decode cc pc = .ok (.invokevirtual index, 3)) (k : ∀ q : Nat, V p l e R s m args below meth c Q D A nL wr lv (ck + mc) (sl + ms) x.handlerPc [.ref q]) : V p l e R s m args below meth c Q D A nL ws lv ck sl pc st0 := fun H locs ls hP hD hS hl => by
  have cw : CallW R s args own y.cls index y bb nY ret (g_wd y bb nY ret) rm mc ms nA := ⟨callB_of nA C.2.2.2.2.1 (g_goodC F.1) rfl hrm.1 hrm.2 (C.2.2.2.2.1 _ F.2.1) (C.2.2.2.2.1 _ hlink) F.2.2 hfl, C.2.2.2.2.1 _ G.1, C.2.2.2.2.1 _ G.2⟩
  have hFc := va_free hD hS C.2.2.2.2.2.2.1 isC hC
  refine vx_calli (vx_runV (Ts := gW) ⟨C.1, C.2.1, C.2.2.1, C.2.2.2.1, C.2.2.2.2.1⟩ (hM H.size) cw ⟨pr_blind, va_recv C.2.2.2.2.2.1 hP hci he, fun U hU hW => ⟨rfl, by rw [hU], by rw [hU]; exact hP.sub isC (fm_of hC), va_K.moved hW.alike C.2.2.2.2.2.1, (hD.sub isC hnC hC).weaken (fun _ _ _ _ => trivial), C.2.2.2.2.2.2.2.1.moved hW.alike, gB_warm hW C.2.2.2.2.2.2.2.2, fun h => (hE h).to hS hU hW (va_free hD hS C.2.2.2.2.2.2.1 isC hC)⟩⟩ rfl hlen hl.1 hst (lv_room hrest) dg hcap) hS (fun q _ h => hFc q h) hFc (fun q _ h => hFc q h) (fun E' ce q9 u t H1 locs1 ht hvm hpx hBX hz1 hk1 hS1 hce hcv hcls => ?_) (fun r u t H1 locs1 ht hvm hw hB hz1 hk1 hS1 => hw.elim)
  subst hBX
  have hP0 : va_P D gCl [] H1 := fun k q h => by simp at h
  have hD0 : va_D (va_A wc H.size) [] := ⟨fun i j p q h => by simp at h, fun k q h => by simp at h⟩
  obtain ⟨hP2, hD2⟩ := va_join hP hD isC isR hC hR hnR hdis hk1 hFc hP0 hD0
  rw [List.append_nil] at hP2 hD2
  exact vx_catch C.2.2.2.1 [] x suf hsplit (fun z hz => by cases hz) hx h0 (C.2.2.2.2.1 _ hcl) ((C.2.2.2.2.2.2.2.2 _ hcast).use rfl) hce hcv hcls (k q9 H1 locs1 ls hP2 hD2 hS1 hl)
theorem v_callXl (C : VC p s m args c D d A cc nL own) {y : MethodName} {bb : ByteArray} {nY nA index : Nat} {ret : Option FieldType} {rm : Room} {mc ms : Nat} (F : g_mf y bb nY ret nA) (G : g_mv y) (hlink : Cond.methodLink own index y ∈ gW) {b : Nat} {E : Bool} {EX : String} {wc wr : va_W} {As rest : List Value} (hM : ∀ sz, vx_Met l y (g_wd y bb nY ret) rm (va_Pc (.ref b :: As) (g_pr E D d wc sz)) (q_nl (va_A wc sz)) (g_XC EX (va_A wc sz)) mc ms (va_A wc sz)) (hE : E = true → g_ex A s) (q0 : Nat) {ci : Nat} {T : u_T} {N : Nat} {fs : List Value} (he : ws[q0]? = some (b, .inr (ci, fs))) (hci : gCl[ci]? = some (y.cls, T, N)) (isC isR : List Nat) (hC : isC.map (fun i => ws[i]?) = wc.map some) (hR : isR.map (fun i => ws[i]?) = wr.map some) (hnC : va_nd isC = true) (hnR : va_nd isR = true) (hdis : ∀ i ∈ isR, i ∉ isC) (hrm : rm.cells = mc ∧ rm.slots = ms) (hfl : rm.frames + 1 ≤ R.frames ∧ 8 + (nY + 11) + rm.locals ≤ R.locals) (hcap : ck + mc ≤ R.cells ∧ sl + ms ≤ R.slots) (hrest : (rest.map fun v => v.category).sum ≤ 8) {st0 : List Value} (hst : st0 = As.reverse ++ .ref b :: rest) (hlen : As.length = nA) (x : ExceptionTableEntry) (suf : List ExceptionTableEntry) (hsplit : c.exceptionTable.toList = x :: suf) (hx : covers x pc = true) (h0 : x.catchType ≠ 0) (hcl : Cond.classLink own x.catchType EX ∈ gW) (hcast : Cond.castable EX EX ∈ gB) (dg : decode cc pc = .ok (.invokevirtual index, 3)) (k : ∀ q : Nat, V p l e R s m args below meth c Q D A nL wr lv (ck + mc) (sl + ms) x.handlerPc [.ref q]) : V p l e R s m args below meth c Q D A nL ws lv ck sl pc st0 := fun H locs ls hP hD hS hl => by
  have cw : CallW R s args own y.cls index y bb nY ret (g_wd y bb nY ret) rm mc ms nA := ⟨callB_of nA C.2.2.2.2.1 (g_goodC F.1) rfl hrm.1 hrm.2 (C.2.2.2.2.1 _ F.2.1) (C.2.2.2.2.1 _ hlink) F.2.2 hfl, C.2.2.2.2.1 _ G.1, C.2.2.2.2.1 _ G.2⟩
  have hFc := va_free hD hS C.2.2.2.2.2.2.1 isC hC
  refine vx_calll (vx_runV (Ts := gW) ⟨C.1, C.2.1, C.2.2.1, C.2.2.2.1, C.2.2.2.2.1⟩ (hM H.size) cw ⟨pr_blind, va_recv C.2.2.2.2.2.1 hP hci he, fun U hU hW => ⟨rfl, by rw [hU], by rw [hU]; exact hP.sub isC (fm_of hC), va_K.moved hW.alike C.2.2.2.2.2.1, (hD.sub isC hnC hC).weaken (fun _ _ _ _ => trivial), C.2.2.2.2.2.2.2.1.moved hW.alike, gB_warm hW C.2.2.2.2.2.2.2.2, fun h => (hE h).to hS hU hW (va_free hD hS C.2.2.2.2.2.2.1 isC hC)⟩⟩ rfl hlen hl.1 hst (lv_room hrest) dg hcap) hS (fun q _ h => hFc q h) hFc (fun q _ h => hFc q h) (fun E' ce q9 u t H1 locs1 ht hvm hpx hBX hz1 hk1 hS1 hce hcv hcls => ?_) (fun r u t H1 locs1 ht hvm hw hB hz1 hk1 hS1 => hw.elim)
  subst hBX
  have hP0 : va_P D gCl [] H1 := fun k q h => by simp at h
  have hD0 : va_D (va_A wc H.size) [] := ⟨fun i j p q h => by simp at h, fun k q h => by simp at h⟩
  obtain ⟨hP2, hD2⟩ := va_join hP hD isC isR hC hR hnR hdis hk1 hFc hP0 hD0
  rw [List.append_nil] at hP2 hD2
  exact vx_catch C.2.2.2.1 [] x suf hsplit (fun z hz => by cases hz) hx h0 (C.2.2.2.2.1 _ hcl) ((C.2.2.2.2.2.2.2.2 _ hcast).use rfl) hce hcv hcls (k q9 H1 locs1 ls hP2 hD2 hS1 hl)
theorem v_return (C : VC p s m args c D d A cc nL own) {S : Type} {w1 : S → va_W} {mc ms : Nat} (u : S) (hr : meth.sig.returnType = none) (hlocks : meth.locks = false) (is : List Nat) (hn : va_nd is = true) (hsub : is.map (fun i => ws[i]?) = (w1 u).map some) (hc : ck ≤ mc) (hs : sl ≤ ms) (dg : decode cc pc = .ok (.return_, 1)) : V p l e R s m args below meth c (MQ below (q_v D w1 A) args s mc ms A) D A nL ws lv ck sl pc [] := fun H locs ls hP hD hS hl => W.widen hc hs (W.vret C.1 C.2.1 hr (fun t ht hW => ⟨⟨u, rfl, trivial, by rw [ht]; exact hP.sub is (fm_of hsub), hD.sub is hn hsub⟩, hS.F ht⟩) hS.2.2 dg hlocks)
theorem v_ireturn (C : VC p s m args c D d A cc nL own) {S : Type} {w1 : S → va_W} {mc ms : Nat} (u : S) {K : Int32} (hr : meth.sig.returnType = some .int) (hlocks : meth.locks = false) (is : List Nat) (hn : va_nd is = true) (hsub : is.map (fun i => ws[i]?) = (w1 u).map some) (hc : ck ≤ mc) (hs : sl ≤ ms) (dg : decode cc pc = .ok (.ireturn, 1)) : V p l e R s m args below meth c (MQ below (q_i D K w1 A) args s mc ms A) D A nL ws lv ck sl pc [.int K] := fun H locs ls hP hD hS hl => W.widen hc hs (W.iret C.1 C.2.1 hr (fun t ht hW => ⟨⟨K, u, rfl, rfl, by rw [ht]; exact hP.sub is (fm_of hsub), hD.sub is hn hsub⟩, hS.F ht⟩) hS.2.2 dg hlocks)
theorem v_zreturn (C : VC p s m args c D d A cc nL own) {S : Type} {w1 : S → va_W} {mc ms : Nat} (u : S) {K : Int32} {ty : FieldType} (hr : meth.sig.returnType = some ty) (hnar : narrow ty (.int K) = .int K) (hlocks : meth.locks = false) (is : List Nat) (hn : va_nd is = true) (hsub : is.map (fun i => ws[i]?) = (w1 u).map some) (hc : ck ≤ mc) (hs : sl ≤ ms) (dg : decode cc pc = .ok (.ireturn, 1)) : V p l e R s m args below meth c (MQ below (q_i D K w1 A) args s mc ms A) D A nL ws lv ck sl pc [.int K] := fun H locs ls hP hD hS hl => W.widen hc hs (W.zret C.1 C.2.1 hr hnar (fun t ht hW => ⟨⟨K, u, rfl, rfl, by rw [ht]; exact hP.sub is (fm_of hsub), hD.sub is hn hsub⟩, hS.F ht⟩) hS.2.2 dg hlocks)
theorem v_lreturn (C : VC p s m args c D d A cc nL own) {S : Type} {w1 : S → va_W} {mc ms : Nat} (u : S) {K : Int64} (hr : meth.sig.returnType = some .long) (hlocks : meth.locks = false) (is : List Nat) (hn : va_nd is = true) (hsub : is.map (fun i => ws[i]?) = (w1 u).map some) (hc : ck ≤ mc) (hs : sl ≤ ms) (dg : decode cc pc = .ok (.lreturn, 1)) : V p l e R s m args below meth c (MQ below (q_l D K w1 A) args s mc ms A) D A nL ws lv ck sl pc [.long K] := fun H locs ls hP hD hS hl => W.widen hc hs (W.lret C.1 C.2.1 hr (fun t ht hW => ⟨⟨K, u, rfl, rfl, by rw [ht]; exact hP.sub is (fm_of hsub), hD.sub is hn hsub⟩, hS.F ht⟩) hS.2.2 dg hlocks)
theorem gB_tab : ∀ w ∈ gB, w.onTables = true := by decide +kernel
def g_xf (ic : Nat) (EX : String) : Prop := Bundle.fit EX = true ∧ (∀ n ∈ g_nm, Bundle.fit n = true) ∧ (∀ w ∈ (vx_atS RX11 ic EX g_nm).filter goodWord, w ∈ gW) ∧ (∀ w ∈ (vx_atS RX11 ic EX g_nm).filter (fun w => !goodWord w), w ∈ gB) ∧ ∀ w ∈ vx_atS RX11 ic EX g_nm, vx_ot w = true
theorem v_throwS (C : VC p s m args c D d A cc nL RX11) {Qc : Array Value → State → Outcome → State → Prop} {mc ms ik is ic : Nat} {EX text : String} (hlf : l.stackTraces = false) (hex : g_ex A s) (X : g_xf ic EX) (hk : Cond.classLink RX11 ik EX ∈ gW) (hini : Cond.initialized EX ∈ gW) (htx : (is, text) ∈ gTx) (hlocks : meth.locks = false) (hout : ∀ x ∈ c.exceptionTable.toList, False) (d0 : decode cc pc = .ok (.new ik, 3)) (d3 : decode cc (pc + 3) = .ok (.dup, 1)) (d4 : decode cc (pc + 4) = .ok (.ldc is, 2)) (d6 : decode cc (pc + 6) = .ok (.invokespecial ic, 3)) (d9 : decode cc (pc + 9) = .ok (.athrow, 1)) (hfr : 5 < R.frames) (hlo : (st.map fun v => v.category).sum + 82 ≤ R.locals) (hcap : ck + 1 ≤ R.cells ∧ sl + 6 ≤ R.slots) (hc : ck + 1 ≤ mc) (hs : sl + 6 ≤ ms) : V p l e R s m args below meth c (vx_MQ below Qc (g_XC EX A) args s mc ms A) D A nL ws lv ck sl pc st := fun H locs ls hP hD hS hl => by
  obtain ⟨h1, h2, h4⟩ := hex
  obtain ⟨sa, hsa⟩ := h4 _ htx
  have hat : ∀ w ∈ vx_atS RX11 ic EX g_nm, w.before args s = true := vx_hat (B := gB) (fun w hw => C.2.2.2.2.1 w (X.2.2.1 w hw)) X.2.2.2.1 (fun w hw => (C.2.2.2.2.2.2.2.2 w hw).use (gB_tab w hw))
  exact vx_throwS (names := g_nm) C.1 C.2.1 hlf C.2.2.2.1 X.1 X.2.1 (C.2.2.2.2.1 _ hk) (C.2.2.2.2.1 _ hini) hsa hat (fun w hw => (List.mem_cons.mp hw).elim (fun e => by rw [e]; rfl) (fun hw => (List.mem_cons.mp hw).elim (fun e => by rw [e]; rfl) (X.2.2.2.2 w))) h1 h2 hS (hl.1.trans C.2.2.1.symm) d0 d3 d4 d6 d9 (fun x hx => (hout x hx).elim) (by show 2 + 3 < R.frames; exact hfr) (by show _ + (13 * (2 + 1) + 43) ≤ _; exact hlo) hcap.1 hcap.2 hlocks (fun t hvm hz ho => ⟨(), trivial, rfl, ⟨Nat.le_trans hS.1 hz, fun q h1 h2 => (ho q (Nat.lt_of_lt_of_le h1 hS.1)).trans (hS.2.1 q h1 h2)⟩⟩) hS.2.2 hc hs
theorem v_throwSW (C : VC p s m args c D d A cc nL RX11) {Qc : Array Value → State → Outcome → State → Prop} {mc ms ik is ic : Nat} {EX text : String} (hlf : l.stackTraces = false) (hex : g_ex A s) (X : g_xf ic EX) (hk : Cond.classLink RX11 ik EX ∈ gW) (hini : Cond.initialized EX ∈ gW) (htx : (is, text) ∈ gTx) (hlocks : meth.locks = false) (hout : ∀ x ∈ c.exceptionTable.toList, False) (d0 : decode cc pc = .ok (.new ik, 3)) (d3 : decode cc (pc + 3) = .ok (.dup, 1)) (d4 : decode cc (pc + 4) = .ok (.ldc_w is, 3)) (d6 : decode cc (pc + 7) = .ok (.invokespecial ic, 3)) (d9 : decode cc (pc + 10) = .ok (.athrow, 1)) (hfr : 5 < R.frames) (hlo : (st.map fun v => v.category).sum + 82 ≤ R.locals) (hcap : ck + 1 ≤ R.cells ∧ sl + 6 ≤ R.slots) (hc : ck + 1 ≤ mc) (hs : sl + 6 ≤ ms) : V p l e R s m args below meth c (vx_MQ below Qc (g_XC EX A) args s mc ms A) D A nL ws lv ck sl pc st := fun H locs ls hP hD hS hl => by
  obtain ⟨h1, h2, h4⟩ := hex
  obtain ⟨sa, hsa⟩ := h4 _ htx
  have hat : ∀ w ∈ vx_atS RX11 ic EX g_nm, w.before args s = true := vx_hat (B := gB) (fun w hw => C.2.2.2.2.1 w (X.2.2.1 w hw)) X.2.2.2.1 (fun w hw => (C.2.2.2.2.2.2.2.2 w hw).use (gB_tab w hw))
  exact vx_throwSW (names := g_nm) C.1 C.2.1 hlf C.2.2.2.1 X.1 X.2.1 (C.2.2.2.2.1 _ hk) (C.2.2.2.2.1 _ hini) hsa hat (fun w hw => (List.mem_cons.mp hw).elim (fun e => by rw [e]; rfl) (fun hw => (List.mem_cons.mp hw).elim (fun e => by rw [e]; rfl) (X.2.2.2.2 w))) h1 h2 hS (hl.1.trans C.2.2.1.symm) d0 d3 d4 d6 d9 (fun x hx => (hout x hx).elim) (by show 2 + 3 < R.frames; exact hfr) (by show _ + (13 * (2 + 1) + 43) ≤ _; exact hlo) hcap.1 hcap.2 hlocks (fun t hvm hz ho => ⟨(), trivial, rfl, ⟨Nat.le_trans hS.1 hz, fun q h1 h2 => (ho q (Nat.lt_of_lt_of_le h1 hS.1)).trans (hS.2.1 q h1 h2)⟩⟩) hS.2.2 hc hs
end VB
section VM
variable {l : Launch} {D : va_G} {d : Nat → ClassId} {y : MethodName} {rm : Room} {av : List Value} {W0 : va_W} {mc ms : Nat} {cc : ByteArray} {maxL : Nat} {ret : Option FieldType} {E : Bool}
theorem s_met {Qf : (Nat → Prop) → Array Value → State → Outcome → State → Prop} (hy : plainName y.cls = true) (hlen : (lg_sl av).length ≤ maxL) (lv0 : List (Nat × Value)) (hlv : lv_args 0 av = lv0)
    (body : ∀ (p : Program) (e : Env) (s : State) (m : MethodId) (below : List Frame) (meth : Method) (c : Code) (A : Nat → Prop), VC p s m av.toArray c D d A cc maxL y.cls → meth.sig.returnType = ret → meth.locks = false → meth.name = y.name → (E = true → g_ex A s) → V p l e rm s m av.toArray below meth c (MQ below (Qf A) av.toArray s mc ms A) D A maxL W0 lv0 0 0 0 []) :
    ∀ sz, Met l y (g_wd y cc maxL ret) rm (va_Pc av (g_pr E D d W0 sz)) (Qf (va_A W0 sz)) mc ms (va_A W0 sz) := by
  intro sz
  refine Met.ofW (cc := cc) (maxL := maxL) (ret := ret) hy rfl ?_
  intro p e s m args below meth c s₁ B hml hv
  obtain ⟨rfl, hsz, hP, hK, hD0, hO, hB, hE⟩ := hv
  subst hsz
  rw [lg_entry_eq]
  have hts := atoms_spec (ws := g_wd y cc maxL ret) B.pre
  exact body p e s m below meth c (va_A W0 s.heap.size) ⟨B.exec, B.bytes, hml, findClass_of_methodNamed B.named, fun w hw => hts w (List.mem_cons_of_mem _ hw), hK, fun q h => Or.inr h, hO, hB⟩ B.returns B.notSynchronized (name_of_methodNamed B.named B.method).1 hE s.heap [] _ hP hD0.self va_S.rf (hlv ▸ lv_entry av hlen)
/-- a body that throws -/
theorem s_metX {Qf : (Nat → Prop) → Array Value → State → Outcome → State → Prop} {XF : (Nat → Prop) → String → State → State → Prop} (hy : plainName y.cls = true) (hlen : (lg_sl av).length ≤ maxL) (lv0 : List (Nat × Value)) (hlv : lv_args 0 av = lv0)
    (body : ∀ (p : Program) (e : Env) (s : State) (m : MethodId) (below : List Frame) (meth : Method) (c : Code) (A : Nat → Prop), VC p s m av.toArray c D d A cc maxL y.cls → meth.sig.returnType = ret → meth.locks = false → (∀ x ∈ c.exceptionTable.toList, False) → (E = true → g_ex A s) → V p l e rm s m av.toArray below meth c (vx_MQ below (Qf A) (XF A) av.toArray s mc ms A) D A maxL W0 lv0 0 0 0 []) :
    ∀ sz, vx_Met l y (g_wd y cc maxL ret) rm (va_Pc av (g_pr E D d W0 sz)) (Qf (va_A W0 sz)) (XF (va_A W0 sz)) mc ms (va_A W0 sz) := by
  intro sz
  refine vx_ofW (cc := cc) (maxL := maxL) (ret := ret) hy rfl ?_
  intro p e s m args below meth c s₁ B hml hno hv
  obtain ⟨rfl, hsz, hP, hK, hD0, hO, hB, hE⟩ := hv
  subst hsz
  rw [lg_entry_eq]
  have hts := atoms_spec (ws := g_wd y cc maxL ret) B.pre
  exact body p e s m below meth c (va_A W0 s.heap.size) ⟨B.exec, B.bytes, hml, findClass_of_methodNamed B.named, fun w hw => hts w (List.mem_cons_of_mem _ hw), hK, fun q h => Or.inr h, hO, hB⟩ B.returns B.notSynchronized hno hE s.heap [] _ hP hD0.self va_S.rf (hlv ▸ lv_entry av hlen)
/-- a body with a table that returns -/
theorem s_metH {hh : List (Nat × Nat × Nat × Nat)} {Qf : (Nat → Prop) → Array Value → State → Outcome → State → Prop} (hy : plainName y.cls = true) (hlen : (lg_sl av).length ≤ maxL) (lv0 : List (Nat × Value)) (hlv : lv_args 0 av = lv0)
    (body : ∀ (p : Program) (e : Env) (s : State) (m : MethodId) (below : List Frame) (meth : Method) (c : Code) (A : Nat → Prop), VC p s m av.toArray c D d A cc maxL y.cls → meth.sig.returnType = ret → meth.locks = false → c.exceptionTable.toList = tableOf hh → (E = true → g_ex A s) → V p l e rm s m av.toArray below meth c (MQ below (Qf A) av.toArray s mc ms A) D A maxL W0 lv0 0 0 0 []) :
    ∀ sz, Met l y (g_wh y cc maxL ret hh) rm (va_Pc av (g_pr E D d W0 sz)) (Qf (va_A W0 sz)) mc ms (va_A W0 sz) := by
  intro sz
  refine MetFree.of_bodyS (code := cc) (maxLocals := maxL) (ret := ret) hy ?_ ?_
  · intro args s m h hn
    obtain ⟨m9, meth, c, hn9, h1, h2, h3, h4, -, h5, h6, -⟩ := Cond.codeWith_spec (atoms_spec (ws := g_wh y cc maxL ret hh) h _ List.mem_cons_self)
    cases hn.symm.trans hn9
    exact ⟨meth, c, h1, h2, h3, h4, h5, h6⟩
  · intro p e s m args below meth c s₁ B hml hP _
    obtain ⟨rfl, hsz, hP, hK, hD0, hO, hB, hE⟩ := hP
    subst hsz
    have hh0 : s₁.heap = s.heap := by rw [B.state]; rfl
    have hts := atoms_spec (ws := g_wh y cc maxL ret hh) B.pre
    have htab := vx_table (x := y) B (hts _ List.mem_cons_self)
    have K := body p e s m below meth c (va_A W0 s.heap.size) ⟨B.exec, B.bytes, hml, findClass_of_methodNamed B.named, fun w hw => hts w (List.mem_cons_of_mem _ hw), hK, fun q h => Or.inr h, hO, hB⟩ B.returns B.notSynchronized htab hE s.heap [] _ hP hD0.self va_S.rf (hlv ▸ lv_entry av hlen)
    rw [← lg_entry_eq] at K
    obtain ⟨t, a1, o, b1, b2, b3, b4⟩ := K s₁ hh0 (Stand.of_body B)
    exact ⟨t, o, a1, b1, b2, b3, b4⟩
end VM
end
