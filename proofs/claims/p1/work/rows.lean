section
-- ===== PART A: goes FIRST, ahead of the names: the tables' words, and 'selects' of the private methods out of them =====
/-- a private method of a class that the tables say can be made, by its rows of tables_1 -/
def lw_okq (q : MethodName × Nat) : Prop := (q.1.cls ≠ "java/lang/invoke/MethodHandle" ∧ q.1.cls ≠ "java/lang/invoke/VarHandle") ∧ Cond.instantiable q.1.cls q.2 ∈ tables_1 ∧ Cond.privateMethod q.1 ∈ tables_1 ∧ Cond.instanceMethod q.1 ∈ tables_1
theorem lw_p0 : lw_okq (⟨"SkyCuts$Text", "take", "(I)V"⟩, 10) := ⟨⟨by decide +kernel, by decide +kernel⟩, List.mem_of_getElem? (i := 38) (by decide +kernel), List.mem_of_getElem? (i := 648) (by decide +kernel), List.mem_of_getElem? (i := 649) (by decide +kernel)⟩
theorem lw_p1 : lw_okq (⟨"SkyCuts$Mover", "isWhole", "(I)Z"⟩, 10) := ⟨⟨by decide +kernel, by decide +kernel⟩, List.mem_of_getElem? (i := 317) (by decide +kernel), List.mem_of_getElem? (i := 668) (by decide +kernel), List.mem_of_getElem? (i := 669) (by decide +kernel)⟩
theorem lw_p2 : lw_okq (⟨"SkyCuts$Ear", "followSteps", "(IJJ)V"⟩, 14) := ⟨⟨by decide +kernel, by decide +kernel⟩, List.mem_of_getElem? (i := 263) (by decide +kernel), List.mem_of_getElem? (i := 696) (by decide +kernel), List.mem_of_getElem? (i := 697) (by decide +kernel)⟩
theorem lw_p3 : lw_okq (⟨"SkyCuts$Rules", "beginOf", "(I)I"⟩, 14) := ⟨⟨by decide +kernel, by decide +kernel⟩, List.mem_of_getElem? (i := 164) (by decide +kernel), List.mem_of_getElem? (i := 719) (by decide +kernel), List.mem_of_getElem? (i := 720) (by decide +kernel)⟩
theorem lw_p4 : lw_okq (⟨"SkyCuts$Mover", "weigh", "(I)Z"⟩, 10) := ⟨⟨by decide +kernel, by decide +kernel⟩, List.mem_of_getElem? (i := 317) (by decide +kernel), List.mem_of_getElem? (i := 735) (by decide +kernel), List.mem_of_getElem? (i := 736) (by decide +kernel)⟩
theorem lw_p5 : lw_okq (⟨"java/lang/Throwable", "fillInStackTrace", "(I)Ljava/lang/Throwable;"⟩, 6) := ⟨⟨by decide +kernel, by decide +kernel⟩, List.mem_of_getElem? (i := 845) (by decide +kernel), List.mem_of_getElem? (i := 843) (by decide +kernel), List.mem_of_getElem? (i := 844) (by decide +kernel)⟩
theorem lw_p6 : lw_okq (⟨"SkyCuts$Text", "kindOf", "(I)I"⟩, 10) := ⟨⟨by decide +kernel, by decide +kernel⟩, List.mem_of_getElem? (i := 38) (by decide +kernel), List.mem_of_getElem? (i := 883) (by decide +kernel), List.mem_of_getElem? (i := 884) (by decide +kernel)⟩
theorem lw_p7 : lw_okq (⟨"SkyCuts$Streams", "readMove", "(LSkyCuts$Text;)Z"⟩, 18) := ⟨⟨by decide +kernel, by decide +kernel⟩, List.mem_of_getElem? (i := 84) (by decide +kernel), List.mem_of_getElem? (i := 902) (by decide +kernel), List.mem_of_getElem? (i := 903) (by decide +kernel)⟩
theorem lw_p8 : lw_okq (⟨"SkyCuts$Streams", "lengthen", "(I)I"⟩, 18) := ⟨⟨by decide +kernel, by decide +kernel⟩, List.mem_of_getElem? (i := 84) (by decide +kernel), List.mem_of_getElem? (i := 909) (by decide +kernel), List.mem_of_getElem? (i := 910) (by decide +kernel)⟩
theorem lw_p9 : lw_okq (⟨"SkyCuts$Streams", "wipe", "(I)V"⟩, 18) := ⟨⟨by decide +kernel, by decide +kernel⟩, List.mem_of_getElem? (i := 84) (by decide +kernel), List.mem_of_getElem? (i := 926) (by decide +kernel), List.mem_of_getElem? (i := 927) (by decide +kernel)⟩
theorem lw_p10 : lw_okq (⟨"SkyCuts$Streams", "setStep", "(III)V"⟩, 18) := ⟨⟨by decide +kernel, by decide +kernel⟩, List.mem_of_getElem? (i := 84) (by decide +kernel), List.mem_of_getElem? (i := 934) (by decide +kernel), List.mem_of_getElem? (i := 935) (by decide +kernel)⟩
theorem lw_p11 : lw_okq (⟨"SkyCuts$Streams", "meetsOf", "(III)J"⟩, 18) := ⟨⟨by decide +kernel, by decide +kernel⟩, List.mem_of_getElem? (i := 84) (by decide +kernel), List.mem_of_getElem? (i := 942) (by decide +kernel), List.mem_of_getElem? (i := 943) (by decide +kernel)⟩
theorem lw_p12 : lw_okq (⟨"SkyCuts$Rules", "adopt", "(I)V"⟩, 14) := ⟨⟨by decide +kernel, by decide +kernel⟩, List.mem_of_getElem? (i := 164) (by decide +kernel), List.mem_of_getElem? (i := 958) (by decide +kernel), List.mem_of_getElem? (i := 959) (by decide +kernel)⟩
theorem lw_p13 : lw_okq (⟨"SkyCuts$Rules", "readClause", "(I)Z"⟩, 14) := ⟨⟨by decide +kernel, by decide +kernel⟩, List.mem_of_getElem? (i := 164) (by decide +kernel), List.mem_of_getElem? (i := 962) (by decide +kernel), List.mem_of_getElem? (i := 963) (by decide +kernel)⟩
theorem lw_p14 : lw_okq (⟨"SkyCuts$Rules", "readSum", "()Z"⟩, 14) := ⟨⟨by decide +kernel, by decide +kernel⟩, List.mem_of_getElem? (i := 164) (by decide +kernel), List.mem_of_getElem? (i := 1022) (by decide +kernel), List.mem_of_getElem? (i := 1023) (by decide +kernel)⟩
theorem lw_p15 : lw_okq (⟨"SkyCuts$Rules", "readProduct", "()Z"⟩, 14) := ⟨⟨by decide +kernel, by decide +kernel⟩, List.mem_of_getElem? (i := 164) (by decide +kernel), List.mem_of_getElem? (i := 1026) (by decide +kernel), List.mem_of_getElem? (i := 1027) (by decide +kernel)⟩
def lw_privs_1 : List (MethodName × Nat) := [(⟨"SkyCuts$Text", "take", "(I)V"⟩, 10), (⟨"SkyCuts$Mover", "isWhole", "(I)Z"⟩, 10), (⟨"SkyCuts$Ear", "followSteps", "(IJJ)V"⟩, 14), (⟨"SkyCuts$Rules", "beginOf", "(I)I"⟩, 14), (⟨"SkyCuts$Mover", "weigh", "(I)Z"⟩, 10), (⟨"java/lang/Throwable", "fillInStackTrace", "(I)Ljava/lang/Throwable;"⟩, 6), (⟨"SkyCuts$Text", "kindOf", "(I)I"⟩, 10), (⟨"SkyCuts$Streams", "readMove", "(LSkyCuts$Text;)Z"⟩, 18), (⟨"SkyCuts$Streams", "lengthen", "(I)I"⟩, 18), (⟨"SkyCuts$Streams", "wipe", "(I)V"⟩, 18), (⟨"SkyCuts$Streams", "setStep", "(III)V"⟩, 18), (⟨"SkyCuts$Streams", "meetsOf", "(III)J"⟩, 18), (⟨"SkyCuts$Rules", "adopt", "(I)V"⟩, 14), (⟨"SkyCuts$Rules", "readClause", "(I)Z"⟩, 14), (⟨"SkyCuts$Rules", "readSum", "()Z"⟩, 14), (⟨"SkyCuts$Rules", "readProduct", "()Z"⟩, 14)]
theorem lw_r1 : ∀ q ∈ lw_privs_1, lw_okq q := List.forall_mem_cons.mpr ⟨lw_p0, List.forall_mem_cons.mpr ⟨lw_p1, List.forall_mem_cons.mpr ⟨lw_p2, List.forall_mem_cons.mpr ⟨lw_p3, List.forall_mem_cons.mpr ⟨lw_p4, List.forall_mem_cons.mpr ⟨lw_p5, List.forall_mem_cons.mpr ⟨lw_p6, List.forall_mem_cons.mpr ⟨lw_p7, List.forall_mem_cons.mpr ⟨lw_p8, List.forall_mem_cons.mpr ⟨lw_p9, List.forall_mem_cons.mpr ⟨lw_p10, List.forall_mem_cons.mpr ⟨lw_p11, List.forall_mem_cons.mpr ⟨lw_p12, List.forall_mem_cons.mpr ⟨lw_p13, List.forall_mem_cons.mpr ⟨lw_p14, List.forall_mem_cons.mpr ⟨lw_p15, fun _ h => absurd h List.not_mem_nil⟩⟩⟩⟩⟩⟩⟩⟩⟩⟩⟩⟩⟩⟩⟩⟩
theorem lw_p16 : lw_okq (⟨"SkyCuts$Rules", "readUnit", "()Z"⟩, 14) := ⟨⟨by decide +kernel, by decide +kernel⟩, List.mem_of_getElem? (i := 164) (by decide +kernel), List.mem_of_getElem? (i := 1030) (by decide +kernel), List.mem_of_getElem? (i := 1031) (by decide +kernel)⟩
theorem lw_p17 : lw_okq (⟨"SkyCuts$Rules", "put", "(I)V"⟩, 14) := ⟨⟨by decide +kernel, by decide +kernel⟩, List.mem_of_getElem? (i := 164) (by decide +kernel), List.mem_of_getElem? (i := 1034) (by decide +kernel), List.mem_of_getElem? (i := 1035) (by decide +kernel)⟩
theorem lw_p18 : lw_okq (⟨"SkyCuts$Rules", "enter", "()Z"⟩, 14) := ⟨⟨by decide +kernel, by decide +kernel⟩, List.mem_of_getElem? (i := 164) (by decide +kernel), List.mem_of_getElem? (i := 1038) (by decide +kernel), List.mem_of_getElem? (i := 1039) (by decide +kernel)⟩
theorem lw_p19 : lw_okq (⟨"SkyCuts$Rules", "pass", "(I)Z"⟩, 14) := ⟨⟨by decide +kernel, by decide +kernel⟩, List.mem_of_getElem? (i := 164) (by decide +kernel), List.mem_of_getElem? (i := 1042) (by decide +kernel), List.mem_of_getElem? (i := 1043) (by decide +kernel)⟩
theorem lw_p20 : lw_okq (⟨"SkyCuts$Rules", "readOfTwo", "(I)Z"⟩, 14) := ⟨⟨by decide +kernel, by decide +kernel⟩, List.mem_of_getElem? (i := 164) (by decide +kernel), List.mem_of_getElem? (i := 1048) (by decide +kernel), List.mem_of_getElem? (i := 1049) (by decide +kernel)⟩
theorem lw_p21 : lw_okq (⟨"SkyCuts$Rules", "codeOfName", "()I"⟩, 14) := ⟨⟨by decide +kernel, by decide +kernel⟩, List.mem_of_getElem? (i := 164) (by decide +kernel), List.mem_of_getElem? (i := 1052) (by decide +kernel), List.mem_of_getElem? (i := 1053) (by decide +kernel)⟩
theorem lw_p22 : lw_okq (⟨"SkyCuts$Rules", "readEither", "()Z"⟩, 14) := ⟨⟨by decide +kernel, by decide +kernel⟩, List.mem_of_getElem? (i := 164) (by decide +kernel), List.mem_of_getElem? (i := 1063) (by decide +kernel), List.mem_of_getElem? (i := 1064) (by decide +kernel)⟩
theorem lw_p23 : lw_okq (⟨"SkyCuts$Rules", "readBoth", "()Z"⟩, 14) := ⟨⟨by decide +kernel, by decide +kernel⟩, List.mem_of_getElem? (i := 164) (by decide +kernel), List.mem_of_getElem? (i := 1067) (by decide +kernel), List.mem_of_getElem? (i := 1068) (by decide +kernel)⟩
theorem lw_p24 : lw_okq (⟨"SkyCuts$Rules", "readTest", "()Z"⟩, 14) := ⟨⟨by decide +kernel, by decide +kernel⟩, List.mem_of_getElem? (i := 164) (by decide +kernel), List.mem_of_getElem? (i := 1071) (by decide +kernel), List.mem_of_getElem? (i := 1072) (by decide +kernel)⟩
theorem lw_p25 : lw_okq (⟨"SkyCuts", "needStream", "(I)V"⟩, 11) := ⟨⟨by decide +kernel, by decide +kernel⟩, List.mem_of_getElem? (i := 30) (by decide +kernel), List.mem_of_getElem? (i := 1086) (by decide +kernel), List.mem_of_getElem? (i := 1087) (by decide +kernel)⟩
theorem lw_p26 : lw_okq (⟨"SkyCuts", "needQuarter", "(I)V"⟩, 11) := ⟨⟨by decide +kernel, by decide +kernel⟩, List.mem_of_getElem? (i := 30) (by decide +kernel), List.mem_of_getElem? (i := 1117) (by decide +kernel), List.mem_of_getElem? (i := 1118) (by decide +kernel)⟩
theorem lw_p27 : lw_okq (⟨"SkyCuts", "needWithin", "(III)V"⟩, 11) := ⟨⟨by decide +kernel, by decide +kernel⟩, List.mem_of_getElem? (i := 30) (by decide +kernel), List.mem_of_getElem? (i := 1121) (by decide +kernel), List.mem_of_getElem? (i := 1122) (by decide +kernel)⟩
theorem lw_p28 : lw_okq (⟨"SkyCuts$Streams", "retell", "(I)V"⟩, 18) := ⟨⟨by decide +kernel, by decide +kernel⟩, List.mem_of_getElem? (i := 84) (by decide +kernel), List.mem_of_getElem? (i := 1131) (by decide +kernel), List.mem_of_getElem? (i := 1132) (by decide +kernel)⟩
theorem lw_p29 : lw_okq (⟨"SkyCuts$Streams", "mostIn", "(II)I"⟩, 18) := ⟨⟨by decide +kernel, by decide +kernel⟩, List.mem_of_getElem? (i := 84) (by decide +kernel), List.mem_of_getElem? (i := 1135) (by decide +kernel), List.mem_of_getElem? (i := 1136) (by decide +kernel)⟩
theorem lw_p30 : lw_okq (⟨"SkyCuts$Streams", "twinOf", "(I)I"⟩, 18) := ⟨⟨by decide +kernel, by decide +kernel⟩, List.mem_of_getElem? (i := 84) (by decide +kernel), List.mem_of_getElem? (i := 1140) (by decide +kernel), List.mem_of_getElem? (i := 1141) (by decide +kernel)⟩
theorem lw_p31 : lw_okq (⟨"SkyCuts", "needCell", "(I)V"⟩, 11) := ⟨⟨by decide +kernel, by decide +kernel⟩, List.mem_of_getElem? (i := 30) (by decide +kernel), List.mem_of_getElem? (i := 1170) (by decide +kernel), List.mem_of_getElem? (i := 1171) (by decide +kernel)⟩
def lw_privs_2 : List (MethodName × Nat) := [(⟨"SkyCuts$Rules", "readUnit", "()Z"⟩, 14), (⟨"SkyCuts$Rules", "put", "(I)V"⟩, 14), (⟨"SkyCuts$Rules", "enter", "()Z"⟩, 14), (⟨"SkyCuts$Rules", "pass", "(I)Z"⟩, 14), (⟨"SkyCuts$Rules", "readOfTwo", "(I)Z"⟩, 14), (⟨"SkyCuts$Rules", "codeOfName", "()I"⟩, 14), (⟨"SkyCuts$Rules", "readEither", "()Z"⟩, 14), (⟨"SkyCuts$Rules", "readBoth", "()Z"⟩, 14), (⟨"SkyCuts$Rules", "readTest", "()Z"⟩, 14), (⟨"SkyCuts", "needStream", "(I)V"⟩, 11), (⟨"SkyCuts", "needQuarter", "(I)V"⟩, 11), (⟨"SkyCuts", "needWithin", "(III)V"⟩, 11), (⟨"SkyCuts$Streams", "retell", "(I)V"⟩, 18), (⟨"SkyCuts$Streams", "mostIn", "(II)I"⟩, 18), (⟨"SkyCuts$Streams", "twinOf", "(I)I"⟩, 18), (⟨"SkyCuts", "needCell", "(I)V"⟩, 11)]
theorem lw_r2 : ∀ q ∈ lw_privs_2, lw_okq q := List.forall_mem_cons.mpr ⟨lw_p16, List.forall_mem_cons.mpr ⟨lw_p17, List.forall_mem_cons.mpr ⟨lw_p18, List.forall_mem_cons.mpr ⟨lw_p19, List.forall_mem_cons.mpr ⟨lw_p20, List.forall_mem_cons.mpr ⟨lw_p21, List.forall_mem_cons.mpr ⟨lw_p22, List.forall_mem_cons.mpr ⟨lw_p23, List.forall_mem_cons.mpr ⟨lw_p24, List.forall_mem_cons.mpr ⟨lw_p25, List.forall_mem_cons.mpr ⟨lw_p26, List.forall_mem_cons.mpr ⟨lw_p27, List.forall_mem_cons.mpr ⟨lw_p28, List.forall_mem_cons.mpr ⟨lw_p29, List.forall_mem_cons.mpr ⟨lw_p30, List.forall_mem_cons.mpr ⟨lw_p31, fun _ h => absurd h List.not_mem_nil⟩⟩⟩⟩⟩⟩⟩⟩⟩⟩⟩⟩⟩⟩⟩⟩
theorem lw_p32 : lw_okq (⟨"SkyCuts", "needPiece", "(I)V"⟩, 11) := ⟨⟨by decide +kernel, by decide +kernel⟩, List.mem_of_getElem? (i := 30) (by decide +kernel), List.mem_of_getElem? (i := 1210) (by decide +kernel), List.mem_of_getElem? (i := 1211) (by decide +kernel)⟩
theorem lw_p33 : lw_okq (⟨"SkyCuts", "listenTo", "(I)V"⟩, 11) := ⟨⟨by decide +kernel, by decide +kernel⟩, List.mem_of_getElem? (i := 30) (by decide +kernel), List.mem_of_getElem? (i := 1221) (by decide +kernel), List.mem_of_getElem? (i := 1222) (by decide +kernel)⟩
theorem lw_p34 : lw_okq (⟨"SkyCuts$Streams", "shortestStretch", "(IJJ)I"⟩, 18) := ⟨⟨by decide +kernel, by decide +kernel⟩, List.mem_of_getElem? (i := 84) (by decide +kernel), List.mem_of_getElem? (i := 1270) (by decide +kernel), List.mem_of_getElem? (i := 1271) (by decide +kernel)⟩
theorem lw_p35 : lw_okq (⟨"SkyCuts$Mover", "mayMatter", "(I)Z"⟩, 10) := ⟨⟨by decide +kernel, by decide +kernel⟩, List.mem_of_getElem? (i := 317) (by decide +kernel), List.mem_of_getElem? (i := 1309) (by decide +kernel), List.mem_of_getElem? (i := 1310) (by decide +kernel)⟩
theorem lw_p36 : lw_okq (⟨"SkyCuts$Streams", "comesTo", "(II)Z"⟩, 18) := ⟨⟨by decide +kernel, by decide +kernel⟩, List.mem_of_getElem? (i := 84) (by decide +kernel), List.mem_of_getElem? (i := 1317) (by decide +kernel), List.mem_of_getElem? (i := 1318) (by decide +kernel)⟩
theorem lw_p37 : lw_okq (⟨"SkyCuts$Mover", "tryCell", "(III)V"⟩, 10) := ⟨⟨by decide +kernel, by decide +kernel⟩, List.mem_of_getElem? (i := 317) (by decide +kernel), List.mem_of_getElem? (i := 1326) (by decide +kernel), List.mem_of_getElem? (i := 1327) (by decide +kernel)⟩
theorem lw_p38 : lw_okq (⟨"SkyCuts$Mover", "compare", "(III)V"⟩, 10) := ⟨⟨by decide +kernel, by decide +kernel⟩, List.mem_of_getElem? (i := 317) (by decide +kernel), List.mem_of_getElem? (i := 1332) (by decide +kernel), List.mem_of_getElem? (i := 1333) (by decide +kernel)⟩
theorem lw_p39 : lw_okq (⟨"SkyCuts$Region", "hearSubset", "(I)V"⟩, 13) := ⟨⟨by decide +kernel, by decide +kernel⟩, List.mem_of_getElem? (i := 358) (by decide +kernel), List.mem_of_getElem? (i := 1365) (by decide +kernel), List.mem_of_getElem? (i := 1366) (by decide +kernel)⟩
theorem lw_p40 : lw_okq (⟨"SkyCuts$Region", "place", "(III)V"⟩, 13) := ⟨⟨by decide +kernel, by decide +kernel⟩, List.mem_of_getElem? (i := 358) (by decide +kernel), List.mem_of_getElem? (i := 1377) (by decide +kernel), List.mem_of_getElem? (i := 1378) (by decide +kernel)⟩
theorem lw_p41 : lw_okq (⟨"SkyCuts$Region", "compare", "(I)V"⟩, 13) := ⟨⟨by decide +kernel, by decide +kernel⟩, List.mem_of_getElem? (i := 358) (by decide +kernel), List.mem_of_getElem? (i := 1381) (by decide +kernel), List.mem_of_getElem? (i := 1382) (by decide +kernel)⟩
theorem lw_p42 : lw_okq (⟨"SkyCuts$Plans", "judgeGroup", "(IIZ)V"⟩, 14) := ⟨⟨by decide +kernel, by decide +kernel⟩, List.mem_of_getElem? (i := 408) (by decide +kernel), List.mem_of_getElem? (i := 1414) (by decide +kernel), List.mem_of_getElem? (i := 1415) (by decide +kernel)⟩
theorem lw_p43 : lw_okq (⟨"SkyCuts$Plans", "addLoads", "()V"⟩, 14) := ⟨⟨by decide +kernel, by decide +kernel⟩, List.mem_of_getElem? (i := 408) (by decide +kernel), List.mem_of_getElem? (i := 1444) (by decide +kernel), List.mem_of_getElem? (i := 1445) (by decide +kernel)⟩
theorem lw_p44 : lw_okq (⟨"SkyCuts$Plans", "fewestBehind", "(III)I"⟩, 14) := ⟨⟨by decide +kernel, by decide +kernel⟩, List.mem_of_getElem? (i := 408) (by decide +kernel), List.mem_of_getElem? (i := 1449) (by decide +kernel), List.mem_of_getElem? (i := 1450) (by decide +kernel)⟩
theorem lw_p45 : lw_okq (⟨"SkyCuts$Plans", "choose", "(I)Z"⟩, 14) := ⟨⟨by decide +kernel, by decide +kernel⟩, List.mem_of_getElem? (i := 408) (by decide +kernel), List.mem_of_getElem? (i := 1458) (by decide +kernel), List.mem_of_getElem? (i := 1459) (by decide +kernel)⟩
theorem lw_p46 : lw_okq (⟨"SkyCuts$Plans", "nextOf", "(III)I"⟩, 14) := ⟨⟨by decide +kernel, by decide +kernel⟩, List.mem_of_getElem? (i := 408) (by decide +kernel), List.mem_of_getElem? (i := 1462) (by decide +kernel), List.mem_of_getElem? (i := 1463) (by decide +kernel)⟩
theorem lw_p47 : lw_okq (⟨"SkyCuts$Rota", "mayGoOn", "(II)I"⟩, 9) := ⟨⟨by decide +kernel, by decide +kernel⟩, List.mem_of_getElem? (i := 464) (by decide +kernel), List.mem_of_getElem? (i := 1504) (by decide +kernel), List.mem_of_getElem? (i := 1505) (by decide +kernel)⟩
def lw_privs_3 : List (MethodName × Nat) := [(⟨"SkyCuts", "needPiece", "(I)V"⟩, 11), (⟨"SkyCuts", "listenTo", "(I)V"⟩, 11), (⟨"SkyCuts$Streams", "shortestStretch", "(IJJ)I"⟩, 18), (⟨"SkyCuts$Mover", "mayMatter", "(I)Z"⟩, 10), (⟨"SkyCuts$Streams", "comesTo", "(II)Z"⟩, 18), (⟨"SkyCuts$Mover", "tryCell", "(III)V"⟩, 10), (⟨"SkyCuts$Mover", "compare", "(III)V"⟩, 10), (⟨"SkyCuts$Region", "hearSubset", "(I)V"⟩, 13), (⟨"SkyCuts$Region", "place", "(III)V"⟩, 13), (⟨"SkyCuts$Region", "compare", "(I)V"⟩, 13), (⟨"SkyCuts$Plans", "judgeGroup", "(IIZ)V"⟩, 14), (⟨"SkyCuts$Plans", "addLoads", "()V"⟩, 14), (⟨"SkyCuts$Plans", "fewestBehind", "(III)I"⟩, 14), (⟨"SkyCuts$Plans", "choose", "(I)Z"⟩, 14), (⟨"SkyCuts$Plans", "nextOf", "(III)I"⟩, 14), (⟨"SkyCuts$Rota", "mayGoOn", "(II)I"⟩, 9)]
theorem lw_r3 : ∀ q ∈ lw_privs_3, lw_okq q := List.forall_mem_cons.mpr ⟨lw_p32, List.forall_mem_cons.mpr ⟨lw_p33, List.forall_mem_cons.mpr ⟨lw_p34, List.forall_mem_cons.mpr ⟨lw_p35, List.forall_mem_cons.mpr ⟨lw_p36, List.forall_mem_cons.mpr ⟨lw_p37, List.forall_mem_cons.mpr ⟨lw_p38, List.forall_mem_cons.mpr ⟨lw_p39, List.forall_mem_cons.mpr ⟨lw_p40, List.forall_mem_cons.mpr ⟨lw_p41, List.forall_mem_cons.mpr ⟨lw_p42, List.forall_mem_cons.mpr ⟨lw_p43, List.forall_mem_cons.mpr ⟨lw_p44, List.forall_mem_cons.mpr ⟨lw_p45, List.forall_mem_cons.mpr ⟨lw_p46, List.forall_mem_cons.mpr ⟨lw_p47, fun _ h => absurd h List.not_mem_nil⟩⟩⟩⟩⟩⟩⟩⟩⟩⟩⟩⟩⟩⟩⟩⟩
theorem lw_p48 : lw_okq (⟨"SkyCuts$Rota", "fewestOf", "(II)I"⟩, 9) := ⟨⟨by decide +kernel, by decide +kernel⟩, List.mem_of_getElem? (i := 464) (by decide +kernel), List.mem_of_getElem? (i := 1508) (by decide +kernel), List.mem_of_getElem? (i := 1509) (by decide +kernel)⟩
theorem lw_p49 : lw_okq (⟨"SkyCuts$Rota", "mayBegin", "(II)I"⟩, 9) := ⟨⟨by decide +kernel, by decide +kernel⟩, List.mem_of_getElem? (i := 464) (by decide +kernel), List.mem_of_getElem? (i := 1512) (by decide +kernel), List.mem_of_getElem? (i := 1513) (by decide +kernel)⟩
theorem lw_p50 : lw_okq (⟨"SkyCuts$Rota", "settle", "(III)V"⟩, 9) := ⟨⟨by decide +kernel, by decide +kernel⟩, List.mem_of_getElem? (i := 464) (by decide +kernel), List.mem_of_getElem? (i := 1522) (by decide +kernel), List.mem_of_getElem? (i := 1523) (by decide +kernel)⟩
theorem lw_p51 : lw_okq (⟨"SkyCuts$Storm", "isShut", "(I)Z"⟩, 18) := ⟨⟨by decide +kernel, by decide +kernel⟩, List.mem_of_getElem? (i := 502) (by decide +kernel), List.mem_of_getElem? (i := 1551) (by decide +kernel), List.mem_of_getElem? (i := 1552) (by decide +kernel)⟩
theorem lw_p52 : lw_okq (⟨"SkyCuts$Storm", "layWays", "()V"⟩, 18) := ⟨⟨by decide +kernel, by decide +kernel⟩, List.mem_of_getElem? (i := 502) (by decide +kernel), List.mem_of_getElem? (i := 1570) (by decide +kernel), List.mem_of_getElem? (i := 1571) (by decide +kernel)⟩
theorem lw_p53 : lw_okq (⟨"SkyCuts$Storm", "findRound", "(II)I"⟩, 18) := ⟨⟨by decide +kernel, by decide +kernel⟩, List.mem_of_getElem? (i := 502) (by decide +kernel), List.mem_of_getElem? (i := 1576) (by decide +kernel), List.mem_of_getElem? (i := 1577) (by decide +kernel)⟩
theorem lw_p54 : lw_okq (⟨"SkyCuts$Storm", "spreadFrom", "(I)V"⟩, 18) := ⟨⟨by decide +kernel, by decide +kernel⟩, List.mem_of_getElem? (i := 502) (by decide +kernel), List.mem_of_getElem? (i := 1580) (by decide +kernel), List.mem_of_getElem? (i := 1581) (by decide +kernel)⟩
theorem lw_p55 : lw_okq (⟨"SkyCuts$Storm", "nearerThan", "(I)I"⟩, 18) := ⟨⟨by decide +kernel, by decide +kernel⟩, List.mem_of_getElem? (i := 502) (by decide +kernel), List.mem_of_getElem? (i := 1586) (by decide +kernel), List.mem_of_getElem? (i := 1587) (by decide +kernel)⟩
theorem lw_p56 : lw_okq (⟨"SkyCuts$Storm", "tryMends", "(IIIII)V"⟩, 18) := ⟨⟨by decide +kernel, by decide +kernel⟩, List.mem_of_getElem? (i := 502) (by decide +kernel), List.mem_of_getElem? (i := 1596) (by decide +kernel), List.mem_of_getElem? (i := 1597) (by decide +kernel)⟩
theorem lw_p57 : lw_okq (⟨"SkyCuts$Storm", "fits", "(I)Z"⟩, 18) := ⟨⟨by decide +kernel, by decide +kernel⟩, List.mem_of_getElem? (i := 502) (by decide +kernel), List.mem_of_getElem? (i := 1600) (by decide +kernel), List.mem_of_getElem? (i := 1601) (by decide +kernel)⟩
theorem lw_p58 : lw_okq (⟨"SkyCuts$Storm", "anyFull", "(I)Z"⟩, 18) := ⟨⟨by decide +kernel, by decide +kernel⟩, List.mem_of_getElem? (i := 502) (by decide +kernel), List.mem_of_getElem? (i := 1604) (by decide +kernel), List.mem_of_getElem? (i := 1605) (by decide +kernel)⟩
theorem lw_p59 : lw_okq (⟨"SkyCuts$Fits", "anyRow", "()Z"⟩, 8) := ⟨⟨by decide +kernel, by decide +kernel⟩, List.mem_of_getElem? (i := 572) (by decide +kernel), List.mem_of_getElem? (i := 1639) (by decide +kernel), List.mem_of_getElem? (i := 1640) (by decide +kernel)⟩
theorem lw_p60 : lw_okq (⟨"SkyCuts$Fits", "offOf", "([IZ)I"⟩, 8) := ⟨⟨by decide +kernel, by decide +kernel⟩, List.mem_of_getElem? (i := 572) (by decide +kernel), List.mem_of_getElem? (i := 1645) (by decide +kernel), List.mem_of_getElem? (i := 1646) (by decide +kernel)⟩
theorem lw_p61 : lw_okq (⟨"SkyCuts$Fits", "nextTrial", "()Z"⟩, 8) := ⟨⟨by decide +kernel, by decide +kernel⟩, List.mem_of_getElem? (i := 572) (by decide +kernel), List.mem_of_getElem? (i := 1652) (by decide +kernel), List.mem_of_getElem? (i := 1653) (by decide +kernel)⟩
theorem lw_p62 : lw_okq (⟨"SkyCuts$Ear", "aheadOf", "(I)I"⟩, 14) := ⟨⟨by decide +kernel, by decide +kernel⟩, List.mem_of_getElem? (i := 263) (by decide +kernel), List.mem_of_getElem? (i := 1671) (by decide +kernel), List.mem_of_getElem? (i := 1672) (by decide +kernel)⟩
theorem lw_p63 : lw_okq (⟨"SkyCutsModel", "bad", "(ZI)Z"⟩, 83) := ⟨⟨by decide +kernel, by decide +kernel⟩, List.mem_of_getElem? (i := 1694) (by decide +kernel), List.mem_of_getElem? (i := 1967) (by decide +kernel), List.mem_of_getElem? (i := 1968) (by decide +kernel)⟩
def lw_privs_4 : List (MethodName × Nat) := [(⟨"SkyCuts$Rota", "fewestOf", "(II)I"⟩, 9), (⟨"SkyCuts$Rota", "mayBegin", "(II)I"⟩, 9), (⟨"SkyCuts$Rota", "settle", "(III)V"⟩, 9), (⟨"SkyCuts$Storm", "isShut", "(I)Z"⟩, 18), (⟨"SkyCuts$Storm", "layWays", "()V"⟩, 18), (⟨"SkyCuts$Storm", "findRound", "(II)I"⟩, 18), (⟨"SkyCuts$Storm", "spreadFrom", "(I)V"⟩, 18), (⟨"SkyCuts$Storm", "nearerThan", "(I)I"⟩, 18), (⟨"SkyCuts$Storm", "tryMends", "(IIIII)V"⟩, 18), (⟨"SkyCuts$Storm", "fits", "(I)Z"⟩, 18), (⟨"SkyCuts$Storm", "anyFull", "(I)Z"⟩, 18), (⟨"SkyCuts$Fits", "anyRow", "()Z"⟩, 8), (⟨"SkyCuts$Fits", "offOf", "([IZ)I"⟩, 8), (⟨"SkyCuts$Fits", "nextTrial", "()Z"⟩, 8), (⟨"SkyCuts$Ear", "aheadOf", "(I)I"⟩, 14), (⟨"SkyCutsModel", "bad", "(ZI)Z"⟩, 83)]
theorem lw_r4 : ∀ q ∈ lw_privs_4, lw_okq q := List.forall_mem_cons.mpr ⟨lw_p48, List.forall_mem_cons.mpr ⟨lw_p49, List.forall_mem_cons.mpr ⟨lw_p50, List.forall_mem_cons.mpr ⟨lw_p51, List.forall_mem_cons.mpr ⟨lw_p52, List.forall_mem_cons.mpr ⟨lw_p53, List.forall_mem_cons.mpr ⟨lw_p54, List.forall_mem_cons.mpr ⟨lw_p55, List.forall_mem_cons.mpr ⟨lw_p56, List.forall_mem_cons.mpr ⟨lw_p57, List.forall_mem_cons.mpr ⟨lw_p58, List.forall_mem_cons.mpr ⟨lw_p59, List.forall_mem_cons.mpr ⟨lw_p60, List.forall_mem_cons.mpr ⟨lw_p61, List.forall_mem_cons.mpr ⟨lw_p62, List.forall_mem_cons.mpr ⟨lw_p63, fun _ h => absurd h List.not_mem_nil⟩⟩⟩⟩⟩⟩⟩⟩⟩⟩⟩⟩⟩⟩⟩⟩
theorem lw_p64 : lw_okq (⟨"SkyCutsModel", "beginText", "(I)V"⟩, 83) := ⟨⟨by decide +kernel, by decide +kernel⟩, List.mem_of_getElem? (i := 1694) (by decide +kernel), List.mem_of_getElem? (i := 1971) (by decide +kernel), List.mem_of_getElem? (i := 1972) (by decide +kernel)⟩
theorem lw_p65 : lw_okq (⟨"SkyCutsModel", "number", "(II)I"⟩, 83) := ⟨⟨by decide +kernel, by decide +kernel⟩, List.mem_of_getElem? (i := 1694) (by decide +kernel), List.mem_of_getElem? (i := 1975) (by decide +kernel), List.mem_of_getElem? (i := 1976) (by decide +kernel)⟩
theorem lw_p66 : lw_okq (⟨"SkyCutsModel", "blanks", "()V"⟩, 83) := ⟨⟨by decide +kernel, by decide +kernel⟩, List.mem_of_getElem? (i := 1694) (by decide +kernel), List.mem_of_getElem? (i := 1979) (by decide +kernel), List.mem_of_getElem? (i := 1980) (by decide +kernel)⟩
theorem lw_p67 : lw_okq (⟨"SkyCutsModel", "byteAt", "(I)I"⟩, 83) := ⟨⟨by decide +kernel, by decide +kernel⟩, List.mem_of_getElem? (i := 1694) (by decide +kernel), List.mem_of_getElem? (i := 1983) (by decide +kernel), List.mem_of_getElem? (i := 1984) (by decide +kernel)⟩
theorem lw_p68 : lw_okq (⟨"SkyCutsModel", "wrong", "(II)V"⟩, 83) := ⟨⟨by decide +kernel, by decide +kernel⟩, List.mem_of_getElem? (i := 1694) (by decide +kernel), List.mem_of_getElem? (i := 1990) (by decide +kernel), List.mem_of_getElem? (i := 1991) (by decide +kernel)⟩
theorem lw_p69 : lw_okq (⟨"SkyCutsModel", "move", "()V"⟩, 83) := ⟨⟨by decide +kernel, by decide +kernel⟩, List.mem_of_getElem? (i := 1694) (by decide +kernel), List.mem_of_getElem? (i := 1995) (by decide +kernel), List.mem_of_getElem? (i := 1996) (by decide +kernel)⟩
theorem lw_p70 : lw_okq (⟨"SkyCutsModel", "isTold", "(I)Z"⟩, 83) := ⟨⟨by decide +kernel, by decide +kernel⟩, List.mem_of_getElem? (i := 1694) (by decide +kernel), List.mem_of_getElem? (i := 2002) (by decide +kernel), List.mem_of_getElem? (i := 2003) (by decide +kernel)⟩
theorem lw_p71 : lw_okq (⟨"SkyCutsModel", "clause", "()V"⟩, 83) := ⟨⟨by decide +kernel, by decide +kernel⟩, List.mem_of_getElem? (i := 1694) (by decide +kernel), List.mem_of_getElem? (i := 2010) (by decide +kernel), List.mem_of_getElem? (i := 2011) (by decide +kernel)⟩
theorem lw_p72 : lw_okq (⟨"SkyCutsModel", "wordHere", "()I"⟩, 83) := ⟨⟨by decide +kernel, by decide +kernel⟩, List.mem_of_getElem? (i := 1694) (by decide +kernel), List.mem_of_getElem? (i := 2014) (by decide +kernel), List.mem_of_getElem? (i := 2015) (by decide +kernel)⟩
theorem lw_p73 : lw_okq (⟨"SkyCutsModel", "skipWord", "()V"⟩, 83) := ⟨⟨by decide +kernel, by decide +kernel⟩, List.mem_of_getElem? (i := 1694) (by decide +kernel), List.mem_of_getElem? (i := 2021) (by decide +kernel), List.mem_of_getElem? (i := 2022) (by decide +kernel)⟩
theorem lw_p74 : lw_okq (⟨"SkyCutsModel", "sum", "()I"⟩, 83) := ⟨⟨by decide +kernel, by decide +kernel⟩, List.mem_of_getElem? (i := 1694) (by decide +kernel), List.mem_of_getElem? (i := 2025) (by decide +kernel), List.mem_of_getElem? (i := 2026) (by decide +kernel)⟩
theorem lw_p75 : lw_okq (⟨"SkyCutsModel", "product", "()I"⟩, 83) := ⟨⟨by decide +kernel, by decide +kernel⟩, List.mem_of_getElem? (i := 1694) (by decide +kernel), List.mem_of_getElem? (i := 2029) (by decide +kernel), List.mem_of_getElem? (i := 2030) (by decide +kernel)⟩
theorem lw_p76 : lw_okq (⟨"SkyCutsModel", "unit", "()I"⟩, 83) := ⟨⟨by decide +kernel, by decide +kernel⟩, List.mem_of_getElem? (i := 1694) (by decide +kernel), List.mem_of_getElem? (i := 2033) (by decide +kernel), List.mem_of_getElem? (i := 2034) (by decide +kernel)⟩
theorem lw_p77 : lw_okq (⟨"SkyCutsModel", "nameHere", "()I"⟩, 83) := ⟨⟨by decide +kernel, by decide +kernel⟩, List.mem_of_getElem? (i := 1694) (by decide +kernel), List.mem_of_getElem? (i := 2037) (by decide +kernel), List.mem_of_getElem? (i := 2038) (by decide +kernel)⟩
theorem lw_p78 : lw_okq (⟨"SkyCutsModel", "opens", "(I)V"⟩, 83) := ⟨⟨by decide +kernel, by decide +kernel⟩, List.mem_of_getElem? (i := 1694) (by decide +kernel), List.mem_of_getElem? (i := 2041) (by decide +kernel), List.mem_of_getElem? (i := 2042) (by decide +kernel)⟩
theorem lw_p79 : lw_okq (⟨"SkyCutsModel", "sign", "(I)V"⟩, 83) := ⟨⟨by decide +kernel, by decide +kernel⟩, List.mem_of_getElem? (i := 1694) (by decide +kernel), List.mem_of_getElem? (i := 2045) (by decide +kernel), List.mem_of_getElem? (i := 2046) (by decide +kernel)⟩
def lw_privs_5 : List (MethodName × Nat) := [(⟨"SkyCutsModel", "beginText", "(I)V"⟩, 83), (⟨"SkyCutsModel", "number", "(II)I"⟩, 83), (⟨"SkyCutsModel", "blanks", "()V"⟩, 83), (⟨"SkyCutsModel", "byteAt", "(I)I"⟩, 83), (⟨"SkyCutsModel", "wrong", "(II)V"⟩, 83), (⟨"SkyCutsModel", "move", "()V"⟩, 83), (⟨"SkyCutsModel", "isTold", "(I)Z"⟩, 83), (⟨"SkyCutsModel", "clause", "()V"⟩, 83), (⟨"SkyCutsModel", "wordHere", "()I"⟩, 83), (⟨"SkyCutsModel", "skipWord", "()V"⟩, 83), (⟨"SkyCutsModel", "sum", "()I"⟩, 83), (⟨"SkyCutsModel", "product", "()I"⟩, 83), (⟨"SkyCutsModel", "unit", "()I"⟩, 83), (⟨"SkyCutsModel", "nameHere", "()I"⟩, 83), (⟨"SkyCutsModel", "opens", "(I)V"⟩, 83), (⟨"SkyCutsModel", "sign", "(I)V"⟩, 83)]
theorem lw_r5 : ∀ q ∈ lw_privs_5, lw_okq q := List.forall_mem_cons.mpr ⟨lw_p64, List.forall_mem_cons.mpr ⟨lw_p65, List.forall_mem_cons.mpr ⟨lw_p66, List.forall_mem_cons.mpr ⟨lw_p67, List.forall_mem_cons.mpr ⟨lw_p68, List.forall_mem_cons.mpr ⟨lw_p69, List.forall_mem_cons.mpr ⟨lw_p70, List.forall_mem_cons.mpr ⟨lw_p71, List.forall_mem_cons.mpr ⟨lw_p72, List.forall_mem_cons.mpr ⟨lw_p73, List.forall_mem_cons.mpr ⟨lw_p74, List.forall_mem_cons.mpr ⟨lw_p75, List.forall_mem_cons.mpr ⟨lw_p76, List.forall_mem_cons.mpr ⟨lw_p77, List.forall_mem_cons.mpr ⟨lw_p78, List.forall_mem_cons.mpr ⟨lw_p79, fun _ h => absurd h List.not_mem_nil⟩⟩⟩⟩⟩⟩⟩⟩⟩⟩⟩⟩⟩⟩⟩⟩
theorem lw_p80 : lw_okq (⟨"SkyCutsModel", "ors", "()Z"⟩, 83) := ⟨⟨by decide +kernel, by decide +kernel⟩, List.mem_of_getElem? (i := 1694) (by decide +kernel), List.mem_of_getElem? (i := 2049) (by decide +kernel), List.mem_of_getElem? (i := 2050) (by decide +kernel)⟩
theorem lw_p81 : lw_okq (⟨"SkyCutsModel", "ands", "()Z"⟩, 83) := ⟨⟨by decide +kernel, by decide +kernel⟩, List.mem_of_getElem? (i := 1694) (by decide +kernel), List.mem_of_getElem? (i := 2053) (by decide +kernel), List.mem_of_getElem? (i := 2054) (by decide +kernel)⟩
theorem lw_p82 : lw_okq (⟨"SkyCutsModel", "test", "()Z"⟩, 83) := ⟨⟨by decide +kernel, by decide +kernel⟩, List.mem_of_getElem? (i := 1694) (by decide +kernel), List.mem_of_getElem? (i := 2057) (by decide +kernel), List.mem_of_getElem? (i := 2058) (by decide +kernel)⟩
theorem lw_p83 : lw_okq (⟨"SkyCutsModel", "mostOf", "(II)I"⟩, 83) := ⟨⟨by decide +kernel, by decide +kernel⟩, List.mem_of_getElem? (i := 1694) (by decide +kernel), List.mem_of_getElem? (i := 2081) (by decide +kernel), List.mem_of_getElem? (i := 2082) (by decide +kernel)⟩
theorem lw_p84 : lw_okq (⟨"SkyCutsModel", "setOf", "(I)V"⟩, 83) := ⟨⟨by decide +kernel, by decide +kernel⟩, List.mem_of_getElem? (i := 1694) (by decide +kernel), List.mem_of_getElem? (i := 2101) (by decide +kernel), List.mem_of_getElem? (i := 2102) (by decide +kernel)⟩
theorem lw_p85 : lw_okq (⟨"SkyCutsModel", "asTold", "(I)V"⟩, 83) := ⟨⟨by decide +kernel, by decide +kernel⟩, List.mem_of_getElem? (i := 1694) (by decide +kernel), List.mem_of_getElem? (i := 2105) (by decide +kernel), List.mem_of_getElem? (i := 2106) (by decide +kernel)⟩
theorem lw_p86 : lw_okq (⟨"SkyCutsModel", "waysAsTold", "()V"⟩, 83) := ⟨⟨by decide +kernel, by decide +kernel⟩, List.mem_of_getElem? (i := 1694) (by decide +kernel), List.mem_of_getElem? (i := 2109) (by decide +kernel), List.mem_of_getElem? (i := 2110) (by decide +kernel)⟩
theorem lw_p87 : lw_okq (⟨"SkyCutsModel", "numbersIn", "(I)V"⟩, 83) := ⟨⟨by decide +kernel, by decide +kernel⟩, List.mem_of_getElem? (i := 1694) (by decide +kernel), List.mem_of_getElem? (i := 2113) (by decide +kernel), List.mem_of_getElem? (i := 2114) (by decide +kernel)⟩
theorem lw_p88 : lw_okq (⟨"SkyCutsModel", "load", "()I"⟩, 83) := ⟨⟨by decide +kernel, by decide +kernel⟩, List.mem_of_getElem? (i := 1694) (by decide +kernel), List.mem_of_getElem? (i := 2117) (by decide +kernel), List.mem_of_getElem? (i := 2118) (by decide +kernel)⟩
theorem lw_p89 : lw_okq (⟨"SkyCutsModel", "listen", "()V"⟩, 83) := ⟨⟨by decide +kernel, by decide +kernel⟩, List.mem_of_getElem? (i := 1694) (by decide +kernel), List.mem_of_getElem? (i := 2121) (by decide +kernel), List.mem_of_getElem? (i := 2122) (by decide +kernel)⟩
theorem lw_p90 : lw_okq (⟨"SkyCutsModel", "goes", "(II)I"⟩, 83) := ⟨⟨by decide +kernel, by decide +kernel⟩, List.mem_of_getElem? (i := 1694) (by decide +kernel), List.mem_of_getElem? (i := 2128) (by decide +kernel), List.mem_of_getElem? (i := 2129) (by decide +kernel)⟩
theorem lw_p91 : lw_okq (⟨"SkyCutsModel", "readsAt", "(I)V"⟩, 83) := ⟨⟨by decide +kernel, by decide +kernel⟩, List.mem_of_getElem? (i := 1694) (by decide +kernel), List.mem_of_getElem? (i := 2132) (by decide +kernel), List.mem_of_getElem? (i := 2133) (by decide +kernel)⟩
theorem lw_p92 : lw_okq (⟨"SkyCutsModel", "peakOfPiece", "(I)I"⟩, 83) := ⟨⟨by decide +kernel, by decide +kernel⟩, List.mem_of_getElem? (i := 1694) (by decide +kernel), List.mem_of_getElem? (i := 2140) (by decide +kernel), List.mem_of_getElem? (i := 2141) (by decide +kernel)⟩
theorem lw_p93 : lw_okq (⟨"SkyCutsModel", "peakOfSet", "()I"⟩, 83) := ⟨⟨by decide +kernel, by decide +kernel⟩, List.mem_of_getElem? (i := 1694) (by decide +kernel), List.mem_of_getElem? (i := 2144) (by decide +kernel), List.mem_of_getElem? (i := 2145) (by decide +kernel)⟩
theorem lw_p94 : lw_okq (⟨"SkyCutsModel", "isWhole", "(I)Z"⟩, 83) := ⟨⟨by decide +kernel, by decide +kernel⟩, List.mem_of_getElem? (i := 1694) (by decide +kernel), List.mem_of_getElem? (i := 2152) (by decide +kernel), List.mem_of_getElem? (i := 2153) (by decide +kernel)⟩
theorem lw_p95 : lw_okq (⟨"SkyCutsModel", "hangs", "()Z"⟩, 83) := ⟨⟨by decide +kernel, by decide +kernel⟩, List.mem_of_getElem? (i := 1694) (by decide +kernel), List.mem_of_getElem? (i := 2156) (by decide +kernel), List.mem_of_getElem? (i := 2157) (by decide +kernel)⟩
def lw_privs_6 : List (MethodName × Nat) := [(⟨"SkyCutsModel", "ors", "()Z"⟩, 83), (⟨"SkyCutsModel", "ands", "()Z"⟩, 83), (⟨"SkyCutsModel", "test", "()Z"⟩, 83), (⟨"SkyCutsModel", "mostOf", "(II)I"⟩, 83), (⟨"SkyCutsModel", "setOf", "(I)V"⟩, 83), (⟨"SkyCutsModel", "asTold", "(I)V"⟩, 83), (⟨"SkyCutsModel", "waysAsTold", "()V"⟩, 83), (⟨"SkyCutsModel", "numbersIn", "(I)V"⟩, 83), (⟨"SkyCutsModel", "load", "()I"⟩, 83), (⟨"SkyCutsModel", "listen", "()V"⟩, 83), (⟨"SkyCutsModel", "goes", "(II)I"⟩, 83), (⟨"SkyCutsModel", "readsAt", "(I)V"⟩, 83), (⟨"SkyCutsModel", "peakOfPiece", "(I)I"⟩, 83), (⟨"SkyCutsModel", "peakOfSet", "()I"⟩, 83), (⟨"SkyCutsModel", "isWhole", "(I)Z"⟩, 83), (⟨"SkyCutsModel", "hangs", "()Z"⟩, 83)]
theorem lw_r6 : ∀ q ∈ lw_privs_6, lw_okq q := List.forall_mem_cons.mpr ⟨lw_p80, List.forall_mem_cons.mpr ⟨lw_p81, List.forall_mem_cons.mpr ⟨lw_p82, List.forall_mem_cons.mpr ⟨lw_p83, List.forall_mem_cons.mpr ⟨lw_p84, List.forall_mem_cons.mpr ⟨lw_p85, List.forall_mem_cons.mpr ⟨lw_p86, List.forall_mem_cons.mpr ⟨lw_p87, List.forall_mem_cons.mpr ⟨lw_p88, List.forall_mem_cons.mpr ⟨lw_p89, List.forall_mem_cons.mpr ⟨lw_p90, List.forall_mem_cons.mpr ⟨lw_p91, List.forall_mem_cons.mpr ⟨lw_p92, List.forall_mem_cons.mpr ⟨lw_p93, List.forall_mem_cons.mpr ⟨lw_p94, List.forall_mem_cons.mpr ⟨lw_p95, fun _ h => absurd h List.not_mem_nil⟩⟩⟩⟩⟩⟩⟩⟩⟩⟩⟩⟩⟩⟩⟩⟩
theorem lw_p96 : lw_okq (⟨"SkyCutsModel", "isCrossing", "(I)Z"⟩, 83) := ⟨⟨by decide +kernel, by decide +kernel⟩, List.mem_of_getElem? (i := 1694) (by decide +kernel), List.mem_of_getElem? (i := 2176) (by decide +kernel), List.mem_of_getElem? (i := 2177) (by decide +kernel)⟩
theorem lw_p97 : lw_okq (⟨"SkyCutsModel", "hasCells", "(I)Z"⟩, 83) := ⟨⟨by decide +kernel, by decide +kernel⟩, List.mem_of_getElem? (i := 1694) (by decide +kernel), List.mem_of_getElem? (i := 2184) (by decide +kernel), List.mem_of_getElem? (i := 2185) (by decide +kernel)⟩
theorem lw_p98 : lw_okq (⟨"SkyCutsModel", "costOf", "()I"⟩, 83) := ⟨⟨by decide +kernel, by decide +kernel⟩, List.mem_of_getElem? (i := 1694) (by decide +kernel), List.mem_of_getElem? (i := 2192) (by decide +kernel), List.mem_of_getElem? (i := 2193) (by decide +kernel)⟩
theorem lw_p99 : lw_okq (⟨"SkyCutsModel", "findPeaks", "()V"⟩, 83) := ⟨⟨by decide +kernel, by decide +kernel⟩, List.mem_of_getElem? (i := 1694) (by decide +kernel), List.mem_of_getElem? (i := 2196) (by decide +kernel), List.mem_of_getElem? (i := 2197) (by decide +kernel)⟩
theorem lw_p100 : lw_okq (⟨"SkyCutsModel", "costByPeaks", "()I"⟩, 83) := ⟨⟨by decide +kernel, by decide +kernel⟩, List.mem_of_getElem? (i := 1694) (by decide +kernel), List.mem_of_getElem? (i := 2200) (by decide +kernel), List.mem_of_getElem? (i := 2201) (by decide +kernel)⟩
theorem lw_p101 : lw_okq (⟨"SkyCutsModel", "stepsCost", "()I"⟩, 83) := ⟨⟨by decide +kernel, by decide +kernel⟩, List.mem_of_getElem? (i := 1694) (by decide +kernel), List.mem_of_getElem? (i := 2204) (by decide +kernel), List.mem_of_getElem? (i := 2205) (by decide +kernel)⟩
theorem lw_p102 : lw_okq (⟨"SkyCutsModel", "total", "(I)I"⟩, 83) := ⟨⟨by decide +kernel, by decide +kernel⟩, List.mem_of_getElem? (i := 1694) (by decide +kernel), List.mem_of_getElem? (i := 2208) (by decide +kernel), List.mem_of_getElem? (i := 2209) (by decide +kernel)⟩
theorem lw_p103 : lw_okq (⟨"SkyCutsModel", "findMove", "()V"⟩, 83) := ⟨⟨by decide +kernel, by decide +kernel⟩, List.mem_of_getElem? (i := 1694) (by decide +kernel), List.mem_of_getElem? (i := 2216) (by decide +kernel), List.mem_of_getElem? (i := 2217) (by decide +kernel)⟩
theorem lw_p104 : lw_okq (⟨"SkyCutsModel", "tries", "(II)V"⟩, 83) := ⟨⟨by decide +kernel, by decide +kernel⟩, List.mem_of_getElem? (i := 1694) (by decide +kernel), List.mem_of_getElem? (i := 2220) (by decide +kernel), List.mem_of_getElem? (i := 2221) (by decide +kernel)⟩
theorem lw_p105 : lw_okq (⟨"SkyCutsModel", "findSets", "()V"⟩, 83) := ⟨⟨by decide +kernel, by decide +kernel⟩, List.mem_of_getElem? (i := 1694) (by decide +kernel), List.mem_of_getElem? (i := 2240) (by decide +kernel), List.mem_of_getElem? (i := 2241) (by decide +kernel)⟩
theorem lw_p106 : lw_okq (⟨"SkyCutsModel", "parts", "(III)V"⟩, 83) := ⟨⟨by decide +kernel, by decide +kernel⟩, List.mem_of_getElem? (i := 1694) (by decide +kernel), List.mem_of_getElem? (i := 2244) (by decide +kernel), List.mem_of_getElem? (i := 2245) (by decide +kernel)⟩
theorem lw_p107 : lw_okq (⟨"SkyCutsModel", "judges", "(I)V"⟩, 83) := ⟨⟨by decide +kernel, by decide +kernel⟩, List.mem_of_getElem? (i := 1694) (by decide +kernel), List.mem_of_getElem? (i := 2248) (by decide +kernel), List.mem_of_getElem? (i := 2249) (by decide +kernel)⟩
theorem lw_p108 : lw_okq (⟨"SkyCutsModel", "pairsOf", "(I)I"⟩, 83) := ⟨⟨by decide +kernel, by decide +kernel⟩, List.mem_of_getElem? (i := 1694) (by decide +kernel), List.mem_of_getElem? (i := 2261) (by decide +kernel), List.mem_of_getElem? (i := 2262) (by decide +kernel)⟩
theorem lw_p109 : lw_okq (⟨"SkyCutsModel", "groupOf", "(II)I"⟩, 83) := ⟨⟨by decide +kernel, by decide +kernel⟩, List.mem_of_getElem? (i := 1694) (by decide +kernel), List.mem_of_getElem? (i := 2265) (by decide +kernel), List.mem_of_getElem? (i := 2266) (by decide +kernel)⟩
theorem lw_p110 : lw_okq (⟨"SkyCutsModel", "joinsHold", "()Z"⟩, 83) := ⟨⟨by decide +kernel, by decide +kernel⟩, List.mem_of_getElem? (i := 1694) (by decide +kernel), List.mem_of_getElem? (i := 2269) (by decide +kernel), List.mem_of_getElem? (i := 2270) (by decide +kernel)⟩
theorem lw_p111 : lw_okq (⟨"SkyCutsModel", "findPlan", "(I)Z"⟩, 83) := ⟨⟨by decide +kernel, by decide +kernel⟩, List.mem_of_getElem? (i := 1694) (by decide +kernel), List.mem_of_getElem? (i := 2281) (by decide +kernel), List.mem_of_getElem? (i := 2282) (by decide +kernel)⟩
def lw_privs_7 : List (MethodName × Nat) := [(⟨"SkyCutsModel", "isCrossing", "(I)Z"⟩, 83), (⟨"SkyCutsModel", "hasCells", "(I)Z"⟩, 83), (⟨"SkyCutsModel", "costOf", "()I"⟩, 83), (⟨"SkyCutsModel", "findPeaks", "()V"⟩, 83), (⟨"SkyCutsModel", "costByPeaks", "()I"⟩, 83), (⟨"SkyCutsModel", "stepsCost", "()I"⟩, 83), (⟨"SkyCutsModel", "total", "(I)I"⟩, 83), (⟨"SkyCutsModel", "findMove", "()V"⟩, 83), (⟨"SkyCutsModel", "tries", "(II)V"⟩, 83), (⟨"SkyCutsModel", "findSets", "()V"⟩, 83), (⟨"SkyCutsModel", "parts", "(III)V"⟩, 83), (⟨"SkyCutsModel", "judges", "(I)V"⟩, 83), (⟨"SkyCutsModel", "pairsOf", "(I)I"⟩, 83), (⟨"SkyCutsModel", "groupOf", "(II)I"⟩, 83), (⟨"SkyCutsModel", "joinsHold", "()Z"⟩, 83), (⟨"SkyCutsModel", "findPlan", "(I)Z"⟩, 83)]
theorem lw_r7 : ∀ q ∈ lw_privs_7, lw_okq q := List.forall_mem_cons.mpr ⟨lw_p96, List.forall_mem_cons.mpr ⟨lw_p97, List.forall_mem_cons.mpr ⟨lw_p98, List.forall_mem_cons.mpr ⟨lw_p99, List.forall_mem_cons.mpr ⟨lw_p100, List.forall_mem_cons.mpr ⟨lw_p101, List.forall_mem_cons.mpr ⟨lw_p102, List.forall_mem_cons.mpr ⟨lw_p103, List.forall_mem_cons.mpr ⟨lw_p104, List.forall_mem_cons.mpr ⟨lw_p105, List.forall_mem_cons.mpr ⟨lw_p106, List.forall_mem_cons.mpr ⟨lw_p107, List.forall_mem_cons.mpr ⟨lw_p108, List.forall_mem_cons.mpr ⟨lw_p109, List.forall_mem_cons.mpr ⟨lw_p110, List.forall_mem_cons.mpr ⟨lw_p111, fun _ h => absurd h List.not_mem_nil⟩⟩⟩⟩⟩⟩⟩⟩⟩⟩⟩⟩⟩⟩⟩⟩
theorem lw_p112 : lw_okq (⟨"SkyCutsModel", "isBusy", "(I)Z"⟩, 83) := ⟨⟨by decide +kernel, by decide +kernel⟩, List.mem_of_getElem? (i := 1694) (by decide +kernel), List.mem_of_getElem? (i := 2285) (by decide +kernel), List.mem_of_getElem? (i := 2286) (by decide +kernel)⟩
theorem lw_p113 : lw_okq (⟨"SkyCutsModel", "tells", "(I)Z"⟩, 83) := ⟨⟨by decide +kernel, by decide +kernel⟩, List.mem_of_getElem? (i := 1694) (by decide +kernel), List.mem_of_getElem? (i := 2289) (by decide +kernel), List.mem_of_getElem? (i := 2290) (by decide +kernel)⟩
theorem lw_p114 : lw_okq (⟨"SkyCutsModel", "findRota", "(I)V"⟩, 83) := ⟨⟨by decide +kernel, by decide +kernel⟩, List.mem_of_getElem? (i := 1694) (by decide +kernel), List.mem_of_getElem? (i := 2305) (by decide +kernel), List.mem_of_getElem? (i := 2306) (by decide +kernel)⟩
theorem lw_p115 : lw_okq (⟨"SkyCutsModel", "isHit", "(II)Z"⟩, 83) := ⟨⟨by decide +kernel, by decide +kernel⟩, List.mem_of_getElem? (i := 1694) (by decide +kernel), List.mem_of_getElem? (i := 2325) (by decide +kernel), List.mem_of_getElem? (i := 2326) (by decide +kernel)⟩
theorem lw_p116 : lw_okq (⟨"SkyCutsModel", "findRound", "(I)V"⟩, 83) := ⟨⟨by decide +kernel, by decide +kernel⟩, List.mem_of_getElem? (i := 1694) (by decide +kernel), List.mem_of_getElem? (i := 2329) (by decide +kernel), List.mem_of_getElem? (i := 2330) (by decide +kernel)⟩
theorem lw_p117 : lw_okq (⟨"SkyCutsModel", "goThrough", "(IIIII)V"⟩, 83) := ⟨⟨by decide +kernel, by decide +kernel⟩, List.mem_of_getElem? (i := 1694) (by decide +kernel), List.mem_of_getElem? (i := 2333) (by decide +kernel), List.mem_of_getElem? (i := 2334) (by decide +kernel)⟩
theorem lw_p118 : lw_okq (⟨"SkyCutsModel", "asMended", "(I)V"⟩, 83) := ⟨⟨by decide +kernel, by decide +kernel⟩, List.mem_of_getElem? (i := 1694) (by decide +kernel), List.mem_of_getElem? (i := 2337) (by decide +kernel), List.mem_of_getElem? (i := 2338) (by decide +kernel)⟩
theorem lw_p119 : lw_okq (⟨"SkyCutsModel", "isNoneFull", "()Z"⟩, 83) := ⟨⟨by decide +kernel, by decide +kernel⟩, List.mem_of_getElem? (i := 1694) (by decide +kernel), List.mem_of_getElem? (i := 2341) (by decide +kernel), List.mem_of_getElem? (i := 2342) (by decide +kernel)⟩
theorem lw_p120 : lw_okq (⟨"SkyCutsModel", "minutesOf", "(III)I"⟩, 83) := ⟨⟨by decide +kernel, by decide +kernel⟩, List.mem_of_getElem? (i := 1694) (by decide +kernel), List.mem_of_getElem? (i := 2345) (by decide +kernel), List.mem_of_getElem? (i := 2346) (by decide +kernel)⟩
theorem lw_p121 : lw_okq (⟨"SkyCutsModel", "offOf", "(IZ)I"⟩, 83) := ⟨⟨by decide +kernel, by decide +kernel⟩, List.mem_of_getElem? (i := 1694) (by decide +kernel), List.mem_of_getElem? (i := 2357) (by decide +kernel), List.mem_of_getElem? (i := 2358) (by decide +kernel)⟩
def lw_privs_8 : List (MethodName × Nat) := [(⟨"SkyCutsModel", "isBusy", "(I)Z"⟩, 83), (⟨"SkyCutsModel", "tells", "(I)Z"⟩, 83), (⟨"SkyCutsModel", "findRota", "(I)V"⟩, 83), (⟨"SkyCutsModel", "isHit", "(II)Z"⟩, 83), (⟨"SkyCutsModel", "findRound", "(I)V"⟩, 83), (⟨"SkyCutsModel", "goThrough", "(IIIII)V"⟩, 83), (⟨"SkyCutsModel", "asMended", "(I)V"⟩, 83), (⟨"SkyCutsModel", "isNoneFull", "()Z"⟩, 83), (⟨"SkyCutsModel", "minutesOf", "(III)I"⟩, 83), (⟨"SkyCutsModel", "offOf", "(IZ)I"⟩, 83)]
theorem lw_r8 : ∀ q ∈ lw_privs_8, lw_okq q := List.forall_mem_cons.mpr ⟨lw_p112, List.forall_mem_cons.mpr ⟨lw_p113, List.forall_mem_cons.mpr ⟨lw_p114, List.forall_mem_cons.mpr ⟨lw_p115, List.forall_mem_cons.mpr ⟨lw_p116, List.forall_mem_cons.mpr ⟨lw_p117, List.forall_mem_cons.mpr ⟨lw_p118, List.forall_mem_cons.mpr ⟨lw_p119, List.forall_mem_cons.mpr ⟨lw_p120, List.forall_mem_cons.mpr ⟨lw_p121, fun _ h => absurd h List.not_mem_nil⟩⟩⟩⟩⟩⟩⟩⟩⟩⟩
def lw_privs : List (MethodName × Nat) := lw_privs_1 ++ (lw_privs_2 ++ (lw_privs_3 ++ (lw_privs_4 ++ (lw_privs_5 ++ (lw_privs_6 ++ (lw_privs_7 ++ (lw_privs_8)))))))
def lw_tbl : List Cond := k2_sels lw_privs ++ tables_1
theorem lw_privs_ok : ∀ q ∈ lw_privs, lw_okq q := by
  show ∀ q ∈ lw_privs_1 ++ (lw_privs_2 ++ (lw_privs_3 ++ (lw_privs_4 ++ (lw_privs_5 ++ (lw_privs_6 ++ (lw_privs_7 ++ (lw_privs_8))))))), lw_okq q
  exact List.forall_mem_append.mpr ⟨lw_r1, List.forall_mem_append.mpr ⟨lw_r2, List.forall_mem_append.mpr ⟨lw_r3, List.forall_mem_append.mpr ⟨lw_r4, List.forall_mem_append.mpr ⟨lw_r5, List.forall_mem_append.mpr ⟨lw_r6, List.forall_mem_append.mpr ⟨lw_r7, lw_r8⟩⟩⟩⟩⟩⟩⟩
end
section
/-! ===== BEGIN words of one list among another's, by their places ===== -/
theorem goodIn_r {big : List Cond} (ws : List Cond) (ps : List Nat) (hp : ws = ps.filterMap (fun i => big[i]?)) (h : ws.all goodWord = true) : GoodIn big ws := by
  intro w hw
  have h1 := List.all_eq_true.mp h w hw
  rw [hp] at hw
  obtain ⟨i, -, hi⟩ := List.mem_filterMap.mp hw
  have hm : w ∈ big := by first | exact List.mem_of_getElem? hi | exact List.getElem?_mem hi
  exact ⟨hm, good_of_word h1⟩
theorem goodIn_app {big a b : List Cond} (ha : GoodIn big a) (hb : GoodIn big b) : GoodIn big (a ++ b) := fun w h => (List.mem_append.mp h).elim (ha w) (hb w)
theorem goodIn_ca {big a b : List Cond} {c : Cond} (ha : GoodIn big (c :: a)) (hb : GoodIn big b) : GoodIn big (c :: (a ++ b)) := fun w h => (List.mem_cons.mp h).elim (fun e => ha w (List.mem_cons.mpr (Or.inl e))) (fun h => (List.mem_append.mp h).elim (fun h => ha w (List.mem_cons.mpr (Or.inr h))) (hb w))
theorem goodIn_sub {big ws : List Cond} (hm : ∀ w ∈ ws, w ∈ big) (h : ws.all goodWord = true) : GoodIn big ws := fun w hw => ⟨hm w hw, good_of_word (List.all_eq_true.mp h w hw)⟩
/-! ===== END ===== -/


/-! ===== BEGIN exceptions that leave a method, and their catching by the caller (launches without stack traces) ===== -/
section VXA
/-! The laws vx_back, vx_callV, vx_callS, vx_callSW, vx_throw0, vx_throwS follow proofs of the library, with one case more: JvmDerived/Free/Laws.lean (Back.of_free), Shelf42/LK1.lean (callV, callS), Shelf/KitTraced.lean (throwNew0V, throwNewS). -/
/-- where a method has thrown q: the class by its name, the cell, what was written, the world -/
def vx_T (XC : String → State → State → Prop) (st : State) (q : Addr) (t : State) (mc ms : Nat) (free : Addr → Prop) : Prop :=
  ∃ (E : String) (ce : Cell) (L : List Loc), XC E st t ∧ t.heap[q]? = some ce ∧ ce.vm = .none ∧ st.vm.findClass E = some ce.cls ∧ st.WarmedH t.vm ∧ st.sameButNew ({ t with vm := st.vm } : State) L mc ms ∧ ∀ z ∈ L, free z.base
def vx_Q (Qc : Array Value → State → Outcome → State → Prop) (XC : String → State → State → Prop) (mc ms : Nat) (free : Addr → Prop) : Array Value → State → Outcome → State → Prop := fun a st o t =>
  (Qc a st o t ∧ ∃ L, FrameEnd st o t L mc ms ∧ ∀ q ∈ L, free q.base) ∨ ∃ q, o = .threw q ∧ vx_T XC st q t mc ms free
/-- a callee that returns or throws -/
def vx_Met (l : Launch) (y : MethodName) (ws : List Cond) (rm : Room) (Pc : Array Value → State → Prop) (Qc : Array Value → State → Outcome → State → Prop) (XC : String → State → State → Prop) (mc ms : Nat) (free : Addr → Prop) : Prop :=
  MetFree l y (headSpec ws rm) Pc (fun _ _ _ _ _ => True) (vx_Q Qc XC mc ms free)
def vx_Post (XC : String → State → State → Prop) (mc ms : Nat) (free : Addr → Prop) : Pt → Array Value → Addr → Pt → Prop := fun A a q B =>
  ∃ (g : JFrame) (mk : MethodId) (t : State) (L : List Loc) (E : String) (ce : Cell), B.U.heap = t.heap ∧ B.U.vm = t.vm ∧ XC E (A.U.calling g mk a) t ∧ t.heap[q]? = some ce ∧ ce.vm = .none ∧ A.U.vm.findClass E = some ce.cls ∧ B.locs = A.locs ++ L ∧ (∀ z ∈ L, free z.base) ∧ B.cells = A.cells + mc ∧ B.slots = A.slots + ms
def vx_Back (l : Launch) (R : Room) (p : Program) (e : Env) (below : List Frame) (s : State) (sargs : Array Value) (y : MethodName) (len W9 : Nat)
    (Pre : Pt → Array Value → Prop) (Post : Pt → Array Value → Option Value → Pt → Prop) (PostX : Pt → Array Value → Addr → Pt → Prop) : Prop :=
  ∀ (m : MethodId) (meth : Method) (c : Code) (A : Pt) (g : JFrame) (ig : Instr) (mk : MethodId) (a : Array Value),
    Stand p l e R s m sargs below meth c A.U A.locs A.cells A.slots → g.method = m → g.locals.size = c.maxLocals → decode c.code g.pc = .ok (ig, len) →
    2 * g.monitorRoom + (g.stack.map fun v => v.category).sum ≤ W9 → A.U.methodNamed? y = some mk → Pre A a →
    (∃ (v : Option Value) (B : Pt), Stand p l e R s m sargs below meth c B.U B.locs B.cells B.slots ∧ Post A a v B ∧
      Steps p.tables e below (doInvoke e (A.U.setTop g) [] mk a).1 (B.U.setTop { g with pc := g.pc + len, stack := v.toList ++ g.stack })) ∨
    (∃ (q : Addr) (B : Pt), Stand p l e R s m sargs below meth c B.U B.locs B.cells B.slots ∧ PostX A a q B ∧
      Steps p.tables e below (doInvoke e (A.U.setTop g) [] mk a).1 ((B.U.setTop g).pushFrame (.throwing q)))
section Payer
variable {l : Launch} {R : Room} {p : Program} {e : Env} {below : List Frame} {s : State} {sargs : Array Value} {y : MethodName} {len W9 : Nat}
theorem vx_back {ws : List Cond} {rm : Room} {Pc : Array Value → State → Prop} {Qc : Array Value → State → Outcome → State → Prop} {XC : String → State → State → Prop} {mc ms : Nat} {free : Addr → Prop} {bytes : ByteArray} {maxL : Nat} {ret : Option FieldType}
    (hM : vx_Met l y ws rm Pc Qc XC mc ms free) (hblind : FrameBlind Pc) (hrc : rm.cells = mc) (hrs : rm.slots = ms)
    (hframes : rm.frames + 1 ≤ R.frames) (hlocals : W9 + (maxL + 11) + rm.locals ≤ R.locals)
    (hws : ∀ w ∈ ws, ∀ a' U, s.WarmedH U.vm → w.before a' U = true) (hcode : Cond.code y bytes maxL ret ∈ ws) (hinit : ∀ a' U, s.WarmedH U.vm → (Cond.initialized y.cls).before a' U = true) :
    vx_Back l R p e below s sargs y len W9 (PreOf R mc ms Pc) (PostOf Qc mc ms free) (vx_Post XC mc ms free) := by
  intro m meth c A g ig mk a X hg hsize hdg hW hn hp
  have h1 : (headSpec ws rm).pre.before a A.U = true := atoms_intro fun w hw => hws w hw _ _ X.warmed
  have h2 : (Cond.code y bytes maxL ret).before a A.U = true := hws _ hcode _ _ X.warmed
  have h3 : (Cond.initialized y.cls).before a A.U = true := hinit _ _ X.warmed
  have h4 : A.cells + (headSpec ws rm).room.cells ≤ R.cells := by rw [show (headSpec ws rm).room.cells = mc from hrc]; exact hp.1
  have h5 : A.slots + (headSpec ws rm).room.slots ≤ R.slots := by rw [show (headSpec ws rm).room.slots = ms from hrs]; exact hp.2.1
  have hPc : Pc a (A.U.calling g mk a) := hblind _ _ _ _ hp.2.2
  obtain ⟨U, Ls, c0, s0⟩ := A
  dsimp only [Pt.U, Pt.locs, Pt.cells, Pt.slots] at h1 h2 h3 h4 h5 X hn hPc ⊢
  obtain ⟨methY, cY, hmY, hcY, -, hlY, -, -, -, -⟩ := Cond.code_spec hn h2
  obtain ⟨kY, hkY, -⟩ := className_of_methodNamed hn
  have hinitY : kY.init = .initialized := Cond.initialized_spec (findClass_of_methodNamed hn) hkY h3
  have h : At U g.method c below := by rw [hg]; exact X.here
  have hlocals9 : W9 + (maxL + 11) + (headSpec ws rm).room.locals ≤ R.locals := hlocals
  have happ : (headSpec ws rm).appliesLoose y e.platform (U.calling g mk a) = true :=
    Spec.appliesLoose_calling (g := g) h hdg hn hkY hinitY
      (X.room_calling (g := g) (R' := (headSpec ws rm).room) hsize hmY hcY hframes (by rw [hlY]; omega) h4 h5) h1
  obtain ⟨mid, hmid⟩ := h.above
  have hfr : (U.setTop g).frames = (.java g :: mid) ++ below := by rw [State.frames_setTop' g h.top, hmid]; rfl
  obtain ⟨o, s₂, hsteps, -, hend, hq⟩ := Steps.callFree hM p X.admits X.cas X.clock (acts := []) hfr happ hPc trivial
  have hq' : vx_Q Qc XC mc ms free a (U.calling g mk a) o s₂ := hq
  rw [State.frames_setTop' g h.top] at hend
  obtain ⟨g₀, hg0⟩ := Option.isSome_iff_exists.mp h.top
  obtain ⟨r, hr⟩ := State.topJava?_eq_some.mp hg0
  have hr' : (({ U with heap := s₂.heap, slotsUsed := s₂.slotsUsed } : State).setVm s₂.vm).frames = .java g₀ :: r := hr
  rcases hq' with ⟨hqc, L, hfe, hL⟩ | ⟨q, rfl, E, ce, L, hx, hce, hcv, hcl, hW₂, hsm, hL⟩
  · obtain ⟨⟨v, rfl⟩, hW₂, e2, q2, q3, q4, q5, q6⟩ := id hfe
    have e3 : s₂ = ({ (U.calling g mk a).setFrames s₂.frames with heap := s₂.heap, slotsUsed := s₂.slotsUsed } : State).setVm s₂.vm := by
      have : s₂ = ({ s₂ with vm := (U.calling g mk a).vm } : State).setVm s₂.vm := rfl
      rw [e2] at this
      exact this
    obtain ⟨c₂, i₂, len₂, hc₂, hd₂, hf₂⟩ := hend
    have hW' : U.WarmedH s₂.vm := hW₂
    have hcc : c₂ = c := by
      have h1 : s₂.code? g.method = U.code? g.method := by
        rw [State.code?_eq, State.code?_eq, hW'.alike.method?]
      exact Option.some.inj (hc₂.symm.trans (h1.trans h.code))
    subst hcc
    have hlen : len₂ = len := by rw [hdg] at hd₂; cases hd₂; rfl
    subst hlen
    have hs₂ : s₂ = (({ U with heap := s₂.heap, slotsUsed := s₂.slotsUsed } : State).setVm s₂.vm).setTop { g with pc := g.pc + len₂, stack := v.toList ++ g.stack } := by
      refine e3.trans ?_
      rw [hf₂, State.calling_eq h.top, State.setFrames_setFrames, State.setTop_of_frames _ hr', hr]
      rfl
    have hsame : U.sameButNew ({ U with heap := s₂.heap, slotsUsed := s₂.slotsUsed } : State) L mc ms := by
      refine ⟨?_, q2, q3, q4, q5, q6⟩
      obtain ⟨t, ht, -⟩ := State.frames_cons hr
      show ({ U with heap := s₂.heap, slotsUsed := s₂.slotsUsed } : State) = { U.setFrames U.frames with heap := s₂.heap, slotsUsed := s₂.slotsUsed }
      rw [State.setFrames_self ht]
    subst hg
    refine Or.inl ⟨v, ⟨(({ U with heap := s₂.heap, slotsUsed := s₂.slotsUsed } : State).setVm s₂.vm), Ls ++ L, c0 + mc, s0 + ms⟩,
      ⟨X.admits, X.cas, X.clock, X.frames, X.room, X.hears, X.method, X.code, (X.here.setHeapUsed s₂.heap s₂.slotsUsed).setVm hW'.alike, X.tail, State.WarmedH.trans X.warmed hW', X.limits, X.bytes, X.same.trans (hsame.setVm s.vm)⟩,
      ⟨g, mk, s₂, L, rfl, rfl, hqc, rfl, hL, rfl, rfl⟩, ?_⟩
    show Steps p.tables e below _ ((({ U with heap := s₂.heap, slotsUsed := s₂.slotsUsed } : State).setVm s₂.vm).setTop { g with pc := g.pc + len₂, stack := v.toList ++ g.stack })
    rw [← hs₂]
    exact hsteps
  · obtain ⟨e2, q2, q3, q4, q5, q6⟩ := id hsm
    have e3 : s₂ = ({ (U.calling g mk a).setFrames s₂.frames with heap := s₂.heap, slotsUsed := s₂.slotsUsed } : State).setVm s₂.vm := by
      have : s₂ = ({ s₂ with vm := (U.calling g mk a).vm } : State).setVm s₂.vm := rfl
      rw [e2] at this
      exact this
    have hf₂ : s₂.frames = .throwing q :: .java g :: U.frames.tail := hend
    have hW' : U.WarmedH s₂.vm := hW₂
    have hs₂ : s₂ = ((({ U with heap := s₂.heap, slotsUsed := s₂.slotsUsed } : State).setVm s₂.vm).setTop g).pushFrame (.throwing q) := by
      refine e3.trans ?_
      rw [hf₂, State.calling_eq h.top, State.setFrames_setFrames, State.pushFrame, State.frames_setTop _ hr', State.setTop_of_frames _ hr', State.setFrames_setFrames, hr]
      rfl
    have hsame : U.sameButNew ({ U with heap := s₂.heap, slotsUsed := s₂.slotsUsed } : State) L mc ms := by
      refine ⟨?_, q2, q3, q4, q5, q6⟩
      obtain ⟨t, ht, -⟩ := State.frames_cons hr
      show ({ U with heap := s₂.heap, slotsUsed := s₂.slotsUsed } : State) = { U.setFrames U.frames with heap := s₂.heap, slotsUsed := s₂.slotsUsed }
      rw [State.setFrames_self ht]
    subst hg
    refine Or.inr ⟨q, ⟨(({ U with heap := s₂.heap, slotsUsed := s₂.slotsUsed } : State).setVm s₂.vm), Ls ++ L, c0 + mc, s0 + ms⟩,
      ⟨X.admits, X.cas, X.clock, X.frames, X.room, X.hears, X.method, X.code, (X.here.setHeapUsed s₂.heap s₂.slotsUsed).setVm hW'.alike, X.tail, State.WarmedH.trans X.warmed hW', X.limits, X.bytes, X.same.trans (hsame.setVm s.vm)⟩,
      ⟨g, mk, s₂, L, E, ce, rfl, rfl, hx, hce, hcv, hcl, rfl, hL, rfl, rfl⟩, ?_⟩
    show Steps p.tables e below _ (((({ U with heap := s₂.heap, slotsUsed := s₂.slotsUsed } : State).setVm s₂.vm).setTop g).pushFrame (.throwing q))
    rw [← hs₂]
    exact hsteps
end Payer
section Calls
variable {p : Program} {l : Launch} {e : Env} {R : Room} {s : State} {m : MethodId} {args : Array Value} {below : List Frame} {meth : Method} {c : Code} {T : State} {locs : List Loc} {cells slots : Nat}
theorem vx_callV (X : Stand p l e R s m args below meth c T locs cells slots) (hexec : p.tables.exec = Jvm.exec) {own C : String} {index : Nat} {y : MethodName} {bytes : ByteArray} {maxL : Nat} {ret : Option FieldType}
    (hown : s.vm.findClass own = some m.cls) (hlink : (Cond.methodLink own index y).before args s = true) (hinst : (Cond.instanceMethod y).before args s = true) (hsel : (Cond.selects C y y).before args s = true)
    (hcode : (Cond.code y bytes maxL ret).before args s = true) (hy : y.cls ≠ "java/lang/invoke/MethodHandle" ∧ y.cls ≠ "java/lang/invoke/VarHandle")
    {W9 : Nat} {Pre : Pt → Array Value → Prop} {Post : Pt → Array Value → Option Value → Pt → Prop} {PostX : Pt → Array Value → Addr → Pt → Prop} (hK : vx_Back l R p e below s args y 3 W9 Pre Post PostX)
    {b : Addr} {cellB : Cell} (hcell : T.heap[b]? = some cellB) (hobj : cellB.vm.isStatics = false) (hcls : s.vm.findClass C = some cellB.cls)
    {g : JFrame} (hg : g.method = m) (hsize : g.locals.size = c.maxLocals) {argsL rest : List Value} (hlen : ∀ sig, parseMethodDescriptor y.desc = some sig → argsL.length = sig.parameters.length)
    (hstack : g.stack = argsL.reverse ++ .ref b :: rest) (hW : 2 * g.monitorRoom + (rest.map fun v => v.category).sum ≤ W9) (hdg : decode c.code g.pc = .ok (.invokevirtual index, 3))
    (hpre : ∀ vm₁, s.WarmedH vm₁ → Pre ⟨T.setVm vm₁, locs, cells, slots⟩ (Value.ref b :: argsL).toArray) :
    (∃ (v : Option Value) (vm₁ : Vm) (B : Pt), s.WarmedH vm₁ ∧ Stand p l e R s m args below meth c B.U B.locs B.cells B.slots ∧ Post ⟨T.setVm vm₁, locs, cells, slots⟩ (Value.ref b :: argsL).toArray v B ∧
      ∀ target, Steps p.tables e below (B.U.setTop { g with pc := g.pc + 3, stack := v.toList ++ rest }) target → Steps p.tables e below (T.setTop g) target) ∨
    (∃ (q : Addr) (vm₁ : Vm) (B : Pt), s.WarmedH vm₁ ∧ Stand p l e R s m args below meth c B.U B.locs B.cells B.slots ∧ PostX ⟨T.setVm vm₁, locs, cells, slots⟩ (Value.ref b :: argsL).toArray q B ∧
      Steps p.tables e below (T.setTop g) ((B.U.setTop { g with stack := rest }).pushFrame (.throwing q))) := by
  obtain ⟨mk, methM, hnamed, hmethM, hstM, habM⟩ := Cond.instanceMethod_spec hinst
  obtain ⟨methM', cM, hmethM', -, -, -, -, -, -, hsigM⟩ := Cond.code_spec hnamed hcode
  cases hmethM.symm.trans hmethM'
  obtain ⟨c2, r2, m2, q1, q2, q3, q4, kP, hkP, hkPi⟩ := Cond.selects_spec hsel
  cases hcls.symm.trans q1
  cases (State.methodFound?_of_named hnamed hy).symm.trans q2
  cases hnamed.symm.trans q3
  have hselP : selectMethod e.platform s.vm cellB.cls mk = .method mk := by rw [Launch.admits_selectMethod X.admits]; exact q4
  obtain ⟨vm₁, X₁, hstep₁⟩ := X.invokevirtual hexec hown hlink hnamed hmethM hstM hkP hkPi hy (a := b) (cell := cellB) hcell
    (fun z h => by rw [h] at hobj; cases hobj) hselP hmethM habM hkP hkPi (g := g) hg (argsL := argsL) (rest := rest) (hlen _ hsigM) hstack hdg
  rcases hK m meth c ⟨T.setVm vm₁, locs, cells, slots⟩ { g with stack := rest } (.invokevirtual index) mk (Value.ref b :: argsL).toArray X₁ hg hsize hdg hW (X₁.named hnamed) (hpre vm₁ X₁.warmed) with ⟨v, B, X', hpost, hsteps⟩ | ⟨q, B, X', hpost, hsteps⟩
  · exact Or.inl ⟨v, vm₁, B, X₁.warmed, X', hpost, fun target h => hstep₁ _ fun acts => by rw [doInvoke_state]; exact hsteps.trans h⟩
  · exact Or.inr ⟨q, vm₁, B, X₁.warmed, X', hpost, hstep₁ _ fun acts => by rw [doInvoke_state]; exact hsteps⟩
theorem vx_callS (X : Stand p l e R s m args below meth c T locs cells slots) (hexec : p.tables.exec = Jvm.exec) {own : String} {index : Nat} {y : MethodName} {bytes : ByteArray} {maxL : Nat} {ret : Option FieldType}
    (hown : s.vm.findClass own = some m.cls) (hlink : (Cond.methodLink own index y).before args s = true) (hstat : (Cond.static y).before args s = true) (hinit : (Cond.initialized y.cls).before args s = true)
    (hcode : (Cond.code y bytes maxL ret).before args s = true) (hy : y.cls ≠ "java/lang/invoke/MethodHandle" ∧ y.cls ≠ "java/lang/invoke/VarHandle")
    {W9 : Nat} {Pre : Pt → Array Value → Prop} {Post : Pt → Array Value → Option Value → Pt → Prop} {PostX : Pt → Array Value → Addr → Pt → Prop} (hK : vx_Back l R p e below s args y 3 W9 Pre Post PostX)
    {g : JFrame} (hg : g.method = m) (hsize : g.locals.size = c.maxLocals) {argsL rest : List Value} (hlen : ∀ sig, parseMethodDescriptor y.desc = some sig → argsL.length = sig.parameters.length)
    (hstack : g.stack = argsL.reverse ++ rest) (hW : 2 * g.monitorRoom + (rest.map fun v => v.category).sum ≤ W9) (hdg : decode c.code g.pc = .ok (.invokestatic index, 3))
    (hpre : ∀ vm₁, s.WarmedH vm₁ → Pre ⟨T.setVm vm₁, locs, cells, slots⟩ argsL.toArray) :
    (∃ (v : Option Value) (vm₁ : Vm) (B : Pt), s.WarmedH vm₁ ∧ Stand p l e R s m args below meth c B.U B.locs B.cells B.slots ∧ Post ⟨T.setVm vm₁, locs, cells, slots⟩ argsL.toArray v B ∧
      ∀ target, Steps p.tables e below (B.U.setTop { g with pc := g.pc + 3, stack := v.toList ++ rest }) target → Steps p.tables e below (T.setTop g) target) ∨
    (∃ (q : Addr) (vm₁ : Vm) (B : Pt), s.WarmedH vm₁ ∧ Stand p l e R s m args below meth c B.U B.locs B.cells B.slots ∧ PostX ⟨T.setVm vm₁, locs, cells, slots⟩ argsL.toArray q B ∧
      Steps p.tables e below (T.setTop g) ((B.U.setTop { g with stack := rest }).pushFrame (.throwing q))) := by
  obtain ⟨mk, hnamed⟩ := Cond.code_named hcode
  obtain ⟨methM, cM, hmethM, -, -, -, -, -, -, hsigM⟩ := Cond.code_spec hnamed hcode
  have hstatic : methM.isStatic = true := Cond.static_spec hnamed hmethM hstat
  obtain ⟨kP, hkP, -⟩ := className_of_methodNamed hnamed
  have hinitP : kP.init = .initialized := Cond.initialized_spec (findClass_of_methodNamed hnamed) hkP hinit
  obtain ⟨vm₁, X₁, hstep₁⟩ := X.invokestatic hexec hown hlink hnamed hmethM hstatic hkP hinitP hy (g := g) hg (argsL := argsL) (rest := rest) (hlen _ hsigM) hstack hdg
  rcases hK m meth c ⟨T.setVm vm₁, locs, cells, slots⟩ { g with stack := rest } (.invokestatic index) mk argsL.toArray X₁ hg hsize hdg hW (X₁.named hnamed) (hpre vm₁ X₁.warmed) with ⟨v, B, X', hpost, hsteps⟩ | ⟨q, B, X', hpost, hsteps⟩
  · exact Or.inl ⟨v, vm₁, B, X₁.warmed, X', hpost, fun target h => hstep₁ _ fun acts => by rw [doInvoke_state]; exact hsteps.trans h⟩
  · exact Or.inr ⟨q, vm₁, B, X₁.warmed, X', hpost, hstep₁ _ fun acts => by rw [doInvoke_state]; exact hsteps⟩
end Calls
theorem vx_cls {s : State} {T : State} {vm₁ : Vm} {E : String} {k : ClassId} (hW : s.WarmedH vm₁) (h : (T.setVm vm₁).vm.findClass E = some k) : s.vm.findClass E = some k := by
  have h1 : vm₁.findClass E = some k := h
  rw [hW.alike.findClass] at h1
  exact h1
/-- the method's frame g, with q thrown over it -/
def vx_W (p : Program) (l : Launch) (e : Env) (R : Room) (s : State) (m : MethodId) (args : Array Value) (below : List Frame) (meth : Method) (c : Code) (H : Heap) (locs : List Loc) (cells slots : Nat) (Q : State → Prop) (g : JFrame) (q : Addr) : Prop :=
  ∀ T : State, T.heap = H → Stand p l e R s m args below meth c T locs cells slots → ∃ t, Steps p.tables e below ((T.setTop g).pushFrame (.throwing q)) t ∧ Q t
def vx_Run (p : Program) (l : Launch) (e : Env) (R : Room) (s : State) (m : MethodId) (args : Array Value) (below : List Frame) (meth : Method) (c : Code) (H : Heap) (locs : List Loc) (cells slots mc ms : Nat) (g : JFrame) (rest : List Value) (Qa : State → Outcome → State → Prop) (XC : String → State → State → Prop) (free : Addr → Prop) : Prop :=
  ∀ T : State, T.heap = H → Stand p l e R s m args below meth c T locs cells slots →
    (∃ (v : Option Value) (st₀ t T' : State) (L : List Loc), st₀.heap = H ∧ Stand p l e R s m args below meth c T' (locs ++ L) (cells + mc) (slots + ms) ∧ (∀ q ∈ L, free q.base) ∧ T'.heap = t.heap ∧ T'.vm = t.vm ∧ Qa st₀ (.returned v) t ∧
      Goes p e below T g T' { g with pc := g.pc + 3, stack := v.toList ++ rest }) ∨
    (∃ (q : Addr) (st₀ t T' : State) (L : List Loc) (E : String) (ce : Cell), st₀.heap = H ∧ Stand p l e R s m args below meth c T' (locs ++ L) (cells + mc) (slots + ms) ∧ (∀ z ∈ L, free z.base) ∧ T'.heap = t.heap ∧ T'.vm = t.vm ∧ XC E st₀ t ∧ t.heap[q]? = some ce ∧ ce.vm = .none ∧ s.vm.findClass E = some ce.cls ∧
      Steps p.tables e below (T.setTop g) ((T'.setTop { g with stack := rest }).pushFrame (.throwing q)))
def vx_X {S : Type} (px : S → Prop) (B : String → S → State → Prop) (A : Nat → Prop) : String → State → State → Prop := fun E st t => ∃ u : S, px u ∧ B E u t ∧ va_F A st t
section Runs
variable {p : Program} {l : Launch} {e : Env} {R : Room} {s : State} {m : MethodId} {args : Array Value} {below : List Frame} {meth : Method} {c : Code} {H : Heap} {locs : List Loc} {cells slots : Nat}
variable {y : MethodName} {bytes cc : ByteArray} {maxL nL mc ms n index : Nat} {ret : Option FieldType} {ws : List Cond} {rm : Room} {Pc : Array Value → State → Prop} {Qc : Array Value → State → Outcome → State → Prop} {XC : String → State → State → Prop} {free : Addr → Prop} {Ts : List Cond} {own C : String} {b : Addr} {As rest : List Value} {g : JFrame}
theorem vx_callBack (cb : CallB R s args own index y bytes maxL ret ws rm mc ms n) (hM : vx_Met l y ws rm Pc Qc XC mc ms free) (hbl : FrameBlind Pc) : vx_Back l R p e below s args y 3 8 (PreOf R mc ms Pc) (PostOf Qc mc ms free) (vx_Post XC mc ms free) := by
  obtain ⟨hrc, hrs, hfr, hlo, hws, hcw, -, hini, -⟩ := cb
  exact vx_back (bytes := bytes) (maxL := maxL) (ret := ret) hM hbl hrc hrs hfr hlo hws hcw (fun a' U hW => word_at hW (Or.inl (by first | rfl | simp [Cond.onTables, Cond.keeps, Cond.steady])) hini)
theorem vx_runV (S : CallFix p m c cc nL s args Ts own) (hM : vx_Met l y ws rm Pc Qc XC mc ms free) (cw : CallW R s args own C index y bytes maxL ret ws rm mc ms n) (hp : PreV s H C b Pc As)
    (hg : g.method = m) (hn : As.length = n) (hsize : g.locals.size = nL) (hstack : g.stack = As.reverse ++ .ref b :: rest) (hW : 2 * g.monitorRoom + (rest.map fun v => v.category).sum ≤ 8) (hdg : decode cc g.pc = .ok (.invokevirtual index, 3)) (hf : cells + mc ≤ R.cells ∧ slots + ms ≤ R.slots) :
    vx_Run p l e R s m args below meth c H locs cells slots mc ms g rest (Qc (Value.ref b :: As).toArray) XC free := by
  have hK : vx_Back l R p e below s args y 3 8 (PreOf R mc ms Pc) (PostOf Qc mc ms free) (vx_Post XC mc ms free) := vx_callBack cw.1 hM hp.1
  obtain ⟨⟨-, -, -, -, -, -, hcode, -, hy, hlen, hl⟩, hin, hse⟩ := cw
  obtain ⟨hx, hb, hml, ho, -⟩ := S
  obtain ⟨-, ⟨cellB, hcB, hoB, hclB⟩, hPc⟩ := hp
  intro T hT X
  rcases vx_callV X hx (C := C) (bytes := bytes) (maxL := maxL) (ret := ret) ho hl hin hse hcode hy hK (by rw [hT]; exact hcB) hoB hclB hg (hsize.trans hml.symm) (argsL := As) (rest := rest) (fun sig h => hn.trans (hlen sig h)) hstack hW (by rw [hb]; exact hdg)
    (fun vm₁ hW₁ => ⟨hf.1, hf.2, hPc (T.setVm vm₁) hT hW₁⟩) with ⟨v, vm₁, ⟨U', l2, c2, s2⟩, hW₁, X', ⟨g', mk, t, L, e1, e2, hq, h1, hL, h2, h3⟩, st⟩ | ⟨q, vm₁, ⟨U', l2, c2, s2⟩, hW₁, X', ⟨g', mk, t, L, E, ce, e1, e2, hq, hce, hcv, hcl, h1, hL, h2, h3⟩, st⟩
  · dsimp only [Pt.U, Pt.locs, Pt.cells, Pt.slots] at X' e1 e2 h1 h2 h3 st
    subst h1; subst h2; subst h3
    exact Or.inl ⟨v, (T.setVm vm₁).calling g' mk (Value.ref b :: As).toArray, t, U', L, hT, X', hL, e1, e2, hq, st⟩
  · dsimp only [Pt.U, Pt.locs, Pt.cells, Pt.slots] at X' e1 e2 h1 h2 h3 st hcl
    subst h1; subst h2; subst h3
    exact Or.inr ⟨q, (T.setVm vm₁).calling g' mk (Value.ref b :: As).toArray, t, U', L, E, ce, hT, X', hL, e1, e2, hq, hce, hcv, vx_cls hW₁ hcl, st⟩
theorem vx_runS (S : CallFix p m c cc nL s args Ts own) (hM : vx_Met l y ws rm Pc Qc XC mc ms free) (cw : CallB R s args own index y bytes maxL ret ws rm mc ms n ∧ (Cond.static y).before args s = true) (hp : PreS s H Pc As)
    (hg : g.method = m) (hn : As.length = n) (hsize : g.locals.size = nL) (hstack : g.stack = As.reverse ++ rest) (hW : 2 * g.monitorRoom + (rest.map fun v => v.category).sum ≤ 8) (hdg : decode cc g.pc = .ok (.invokestatic index, 3)) (hf : cells + mc ≤ R.cells ∧ slots + ms ≤ R.slots) :
    vx_Run p l e R s m args below meth c H locs cells slots mc ms g rest (Qc As.toArray) XC free := by
  have hK : vx_Back l R p e below s args y 3 8 (PreOf R mc ms Pc) (PostOf Qc mc ms free) (vx_Post XC mc ms free) := vx_callBack cw.1 hM hp.1
  obtain ⟨⟨-, -, -, -, -, -, hcode, hini, hy, hlen, hl⟩, hstt⟩ := cw
  obtain ⟨hx, hb, hml, ho, -⟩ := S
  intro T hT X
  rcases vx_callS X hx (bytes := bytes) (maxL := maxL) (ret := ret) ho hl hstt hini hcode hy hK hg (hsize.trans hml.symm) (argsL := As) (rest := rest) (fun sig h => hn.trans (hlen sig h)) hstack hW (by rw [hb]; exact hdg)
    (fun vm₁ hW₁ => ⟨hf.1, hf.2, hp.2 (T.setVm vm₁) hT hW₁⟩) with ⟨v, vm₁, ⟨U', l2, c2, s2⟩, hW₁, X', ⟨g', mk, t, L, e1, e2, hq, h1, hL, h2, h3⟩, st⟩ | ⟨q, vm₁, ⟨U', l2, c2, s2⟩, hW₁, X', ⟨g', mk, t, L, E, ce, e1, e2, hq, hce, hcv, hcl, h1, hL, h2, h3⟩, st⟩
  · dsimp only [Pt.U, Pt.locs, Pt.cells, Pt.slots] at X' e1 e2 h1 h2 h3 st
    subst h1; subst h2; subst h3
    exact Or.inl ⟨v, (T.setVm vm₁).calling g' mk As.toArray, t, U', L, hT, X', hL, e1, e2, hq, st⟩
  · dsimp only [Pt.U, Pt.locs, Pt.cells, Pt.slots] at X' e1 e2 h1 h2 h3 st hcl
    subst h1; subst h2; subst h3
    exact Or.inr ⟨q, (T.setVm vm₁).calling g' mk As.toArray, t, U', L, E, ce, hT, X', hL, e1, e2, hq, hce, hcv, vx_cls hW₁ hcl, st⟩
end Runs
section Rows
variable {p : Program} {l : Launch} {e : Env} {R : Room} {s : State} {m : MethodId} {args : Array Value} {below : List Frame} {meth : Method} {c : Code} {H : Heap} {locs : List Loc} {cells slots : Nat} {Q : State → Prop}
variable {mc ms : Nat} {free : Addr → Prop} {A0 A1 : Nat → Prop} {H0 : Heap} {a : Array Value} {pc : Nat} {ls : Array Slot} {st0 rest : List Value}
theorem vx_keep {st₀ t T' : State} {L : List Loc} (h0 : st₀.heap = H) (e1 : T'.heap = t.heap) (hS : va_S A0 H0 H locs) (hA : ∀ q, q < H.size → A1 q → A0 q) (hf : ∀ q, free q → A0 q) (hL : ∀ q ∈ L, free q.base) (hF : va_F A1 st₀ t) :
    H.size ≤ T'.heap.size ∧ (∀ q : Nat, q < H.size → ¬ A1 q → T'.heap[q]? = H[q]?) ∧ va_S A0 H0 T'.heap (locs ++ L) := by
  obtain ⟨hz, hk⟩ := hF
  rw [h0] at hz hk
  exact ⟨by rw [e1]; exact hz, fun q h1 h2 => by rw [e1]; exact hk q h1 h2,
    ⟨Nat.le_trans hS.1 (by rw [e1]; exact hz), fun q h1 h2 => by rw [e1, hk q (Nat.lt_of_lt_of_le h1 hS.1) (fun z => h2 (hA q (Nat.lt_of_lt_of_le h1 hS.1) z))]; exact hS.2.1 q h1 h2, fun q hq => by
      rcases List.mem_append.mp hq with h | h
      · exact hS.2.2 q h
      · exact hf _ (hL q h)⟩⟩
theorem vx_calli {S SX : Type} {post : Int32 → S → Prop} {px : SX → Prop} {B : S → State → Prop} {BX : String → SX → State → Prop} {AX : Nat → Prop} (hr : vx_Run p l e R s m args below meth c H locs cells slots mc ms (F0 m pc ls st0) rest (va_Qi post B A1 a) (vx_X px BX AX) free) (hS : va_S A0 H0 H locs) (hA : ∀ q, q < H.size → A1 q → A0 q) (hf : ∀ q, free q → A0 q) (hAX : ∀ q, q < H.size → AX q → A0 q)
    (kx : ∀ (E : String) (ce : Cell) (q9 : Addr) (u : SX) (t : State) (H1 : Heap) (locs1 : List Loc), t.heap = H1 → s.vm.Alike t.vm → px u → BX E u t → H.size ≤ H1.size → (∀ q : Nat, q < H.size → ¬ AX q → H1[q]? = H[q]?) → va_S A0 H0 H1 locs1 → H1[q9]? = some ce → ce.vm = .none → s.vm.findClass E = some ce.cls → vx_W p l e R s m args below meth c H1 locs1 (cells + mc) (slots + ms) Q (F0 m pc ls rest) q9)
    (kk : ∀ (r : Int32) (u : S) (t : State) (H1 : Heap) (locs1 : List Loc), t.heap = H1 → s.vm.Alike t.vm → post r u → B u t → H.size ≤ H1.size → (∀ q : Nat, q < H.size → ¬ A1 q → H1[q]? = H[q]?) → va_S A0 H0 H1 locs1 → W p l e R s m args below meth c H1 locs1 (cells + mc) (slots + ms) Q (F0 m (pc + 3) ls (.int r :: rest))) : W p l e R s m args below meth c H locs cells slots Q (F0 m pc ls st0) := by
  intro T hT X
  rcases hr T hT X with ⟨v, st₀, t, T', L, h0, X', hL, e1, e2, ⟨⟨r, u, hv, hp, hb⟩, hF⟩, st⟩ | ⟨q, st₀, t, T', L, E, ce, h0, X', hL, e1, e2, ⟨u, hp, hb, hF⟩, hce, hcv, hcl, st⟩
  · cases hv
    obtain ⟨k1, k2, k3⟩ := vx_keep h0 e1 hS hA hf hL hF
    obtain ⟨t2, a1, b1⟩ := kk r u t T'.heap (locs ++ L) e1.symm (by rw [← e2]; exact X'.warmed.alike) hp hb k1 k2 k3 T' rfl X'
    exact ⟨t2, st t2 a1, b1⟩
  · obtain ⟨k1, k2, k3⟩ := vx_keep h0 e1 hS hAX hf hL hF
    obtain ⟨t2, a1, b1⟩ := kx E ce q u t T'.heap (locs ++ L) e1.symm (by rw [← e2]; exact X'.warmed.alike) hp hb k1 k2 k3 (by rw [e1]; exact hce) hcv hcl T' rfl X'
    exact ⟨t2, st.trans a1, b1⟩
theorem vx_calll {S SX : Type} {post : Int64 → S → Prop} {px : SX → Prop} {B : S → State → Prop} {BX : String → SX → State → Prop} {AX : Nat → Prop} (hr : vx_Run p l e R s m args below meth c H locs cells slots mc ms (F0 m pc ls st0) rest (va_Ql post B A1 a) (vx_X px BX AX) free) (hS : va_S A0 H0 H locs) (hA : ∀ q, q < H.size → A1 q → A0 q) (hf : ∀ q, free q → A0 q) (hAX : ∀ q, q < H.size → AX q → A0 q)
    (kx : ∀ (E : String) (ce : Cell) (q9 : Addr) (u : SX) (t : State) (H1 : Heap) (locs1 : List Loc), t.heap = H1 → s.vm.Alike t.vm → px u → BX E u t → H.size ≤ H1.size → (∀ q : Nat, q < H.size → ¬ AX q → H1[q]? = H[q]?) → va_S A0 H0 H1 locs1 → H1[q9]? = some ce → ce.vm = .none → s.vm.findClass E = some ce.cls → vx_W p l e R s m args below meth c H1 locs1 (cells + mc) (slots + ms) Q (F0 m pc ls rest) q9)
    (kk : ∀ (r : Int64) (u : S) (t : State) (H1 : Heap) (locs1 : List Loc), t.heap = H1 → s.vm.Alike t.vm → post r u → B u t → H.size ≤ H1.size → (∀ q : Nat, q < H.size → ¬ A1 q → H1[q]? = H[q]?) → va_S A0 H0 H1 locs1 → W p l e R s m args below meth c H1 locs1 (cells + mc) (slots + ms) Q (F0 m (pc + 3) ls (.long r :: rest))) : W p l e R s m args below meth c H locs cells slots Q (F0 m pc ls st0) := by
  intro T hT X
  rcases hr T hT X with ⟨v, st₀, t, T', L, h0, X', hL, e1, e2, ⟨⟨r, u, hv, hp, hb⟩, hF⟩, st⟩ | ⟨q, st₀, t, T', L, E, ce, h0, X', hL, e1, e2, ⟨u, hp, hb, hF⟩, hce, hcv, hcl, st⟩
  · cases hv
    obtain ⟨k1, k2, k3⟩ := vx_keep h0 e1 hS hA hf hL hF
    obtain ⟨t2, a1, b1⟩ := kk r u t T'.heap (locs ++ L) e1.symm (by rw [← e2]; exact X'.warmed.alike) hp hb k1 k2 k3 T' rfl X'
    exact ⟨t2, st t2 a1, b1⟩
  · obtain ⟨k1, k2, k3⟩ := vx_keep h0 e1 hS hAX hf hL hF
    obtain ⟨t2, a1, b1⟩ := kx E ce q u t T'.heap (locs ++ L) e1.symm (by rw [← e2]; exact X'.warmed.alike) hp hb k1 k2 k3 (by rw [e1]; exact hce) hcv hcl T' rfl X'
    exact ⟨t2, st.trans a1, b1⟩
theorem vx_callf {S SX : Type} {post : UInt32 → S → Prop} {px : SX → Prop} {B : S → State → Prop} {BX : String → SX → State → Prop} {AX : Nat → Prop} (hr : vx_Run p l e R s m args below meth c H locs cells slots mc ms (F0 m pc ls st0) rest (va_Qf post B A1 a) (vx_X px BX AX) free) (hS : va_S A0 H0 H locs) (hA : ∀ q, q < H.size → A1 q → A0 q) (hf : ∀ q, free q → A0 q) (hAX : ∀ q, q < H.size → AX q → A0 q)
    (kx : ∀ (E : String) (ce : Cell) (q9 : Addr) (u : SX) (t : State) (H1 : Heap) (locs1 : List Loc), t.heap = H1 → s.vm.Alike t.vm → px u → BX E u t → H.size ≤ H1.size → (∀ q : Nat, q < H.size → ¬ AX q → H1[q]? = H[q]?) → va_S A0 H0 H1 locs1 → H1[q9]? = some ce → ce.vm = .none → s.vm.findClass E = some ce.cls → vx_W p l e R s m args below meth c H1 locs1 (cells + mc) (slots + ms) Q (F0 m pc ls rest) q9)
    (kk : ∀ (r : UInt32) (u : S) (t : State) (H1 : Heap) (locs1 : List Loc), t.heap = H1 → s.vm.Alike t.vm → post r u → B u t → H.size ≤ H1.size → (∀ q : Nat, q < H.size → ¬ A1 q → H1[q]? = H[q]?) → va_S A0 H0 H1 locs1 → W p l e R s m args below meth c H1 locs1 (cells + mc) (slots + ms) Q (F0 m (pc + 3) ls (.float r :: rest))) : W p l e R s m args below meth c H locs cells slots Q (F0 m pc ls st0) := by
  intro T hT X
  rcases hr T hT X with ⟨v, st₀, t, T', L, h0, X', hL, e1, e2, ⟨⟨r, u, hv, hp, hb⟩, hF⟩, st⟩ | ⟨q, st₀, t, T', L, E, ce, h0, X', hL, e1, e2, ⟨u, hp, hb, hF⟩, hce, hcv, hcl, st⟩
  · cases hv
    obtain ⟨k1, k2, k3⟩ := vx_keep h0 e1 hS hA hf hL hF
    obtain ⟨t2, a1, b1⟩ := kk r u t T'.heap (locs ++ L) e1.symm (by rw [← e2]; exact X'.warmed.alike) hp hb k1 k2 k3 T' rfl X'
    exact ⟨t2, st t2 a1, b1⟩
  · obtain ⟨k1, k2, k3⟩ := vx_keep h0 e1 hS hAX hf hL hF
    obtain ⟨t2, a1, b1⟩ := kx E ce q u t T'.heap (locs ++ L) e1.symm (by rw [← e2]; exact X'.warmed.alike) hp hb k1 k2 k3 (by rw [e1]; exact hce) hcv hcl T' rfl X'
    exact ⟨t2, st.trans a1, b1⟩
theorem vx_calld {S SX : Type} {post : UInt64 → S → Prop} {px : SX → Prop} {B : S → State → Prop} {BX : String → SX → State → Prop} {AX : Nat → Prop} (hr : vx_Run p l e R s m args below meth c H locs cells slots mc ms (F0 m pc ls st0) rest (va_Qd post B A1 a) (vx_X px BX AX) free) (hS : va_S A0 H0 H locs) (hA : ∀ q, q < H.size → A1 q → A0 q) (hf : ∀ q, free q → A0 q) (hAX : ∀ q, q < H.size → AX q → A0 q)
    (kx : ∀ (E : String) (ce : Cell) (q9 : Addr) (u : SX) (t : State) (H1 : Heap) (locs1 : List Loc), t.heap = H1 → s.vm.Alike t.vm → px u → BX E u t → H.size ≤ H1.size → (∀ q : Nat, q < H.size → ¬ AX q → H1[q]? = H[q]?) → va_S A0 H0 H1 locs1 → H1[q9]? = some ce → ce.vm = .none → s.vm.findClass E = some ce.cls → vx_W p l e R s m args below meth c H1 locs1 (cells + mc) (slots + ms) Q (F0 m pc ls rest) q9)
    (kk : ∀ (r : UInt64) (u : S) (t : State) (H1 : Heap) (locs1 : List Loc), t.heap = H1 → s.vm.Alike t.vm → post r u → B u t → H.size ≤ H1.size → (∀ q : Nat, q < H.size → ¬ A1 q → H1[q]? = H[q]?) → va_S A0 H0 H1 locs1 → W p l e R s m args below meth c H1 locs1 (cells + mc) (slots + ms) Q (F0 m (pc + 3) ls (.double r :: rest))) : W p l e R s m args below meth c H locs cells slots Q (F0 m pc ls st0) := by
  intro T hT X
  rcases hr T hT X with ⟨v, st₀, t, T', L, h0, X', hL, e1, e2, ⟨⟨r, u, hv, hp, hb⟩, hF⟩, st⟩ | ⟨q, st₀, t, T', L, E, ce, h0, X', hL, e1, e2, ⟨u, hp, hb, hF⟩, hce, hcv, hcl, st⟩
  · cases hv
    obtain ⟨k1, k2, k3⟩ := vx_keep h0 e1 hS hA hf hL hF
    obtain ⟨t2, a1, b1⟩ := kk r u t T'.heap (locs ++ L) e1.symm (by rw [← e2]; exact X'.warmed.alike) hp hb k1 k2 k3 T' rfl X'
    exact ⟨t2, st t2 a1, b1⟩
  · obtain ⟨k1, k2, k3⟩ := vx_keep h0 e1 hS hAX hf hL hF
    obtain ⟨t2, a1, b1⟩ := kx E ce q u t T'.heap (locs ++ L) e1.symm (by rw [← e2]; exact X'.warmed.alike) hp hb k1 k2 k3 (by rw [e1]; exact hce) hcv hcl T' rfl X'
    exact ⟨t2, st.trans a1, b1⟩
theorem vx_callv {S SX : Type} {post : S → Prop} {px : SX → Prop} {B : S → State → Prop} {BX : String → SX → State → Prop} {AX : Nat → Prop} (hr : vx_Run p l e R s m args below meth c H locs cells slots mc ms (F0 m pc ls st0) rest (va_Qv post B A1 a) (vx_X px BX AX) free) (hS : va_S A0 H0 H locs) (hA : ∀ q, q < H.size → A1 q → A0 q) (hf : ∀ q, free q → A0 q) (hAX : ∀ q, q < H.size → AX q → A0 q)
    (kx : ∀ (E : String) (ce : Cell) (q9 : Addr) (u : SX) (t : State) (H1 : Heap) (locs1 : List Loc), t.heap = H1 → s.vm.Alike t.vm → px u → BX E u t → H.size ≤ H1.size → (∀ q : Nat, q < H.size → ¬ AX q → H1[q]? = H[q]?) → va_S A0 H0 H1 locs1 → H1[q9]? = some ce → ce.vm = .none → s.vm.findClass E = some ce.cls → vx_W p l e R s m args below meth c H1 locs1 (cells + mc) (slots + ms) Q (F0 m pc ls rest) q9)
    (kk : ∀ (u : S) (t : State) (H1 : Heap) (locs1 : List Loc), t.heap = H1 → s.vm.Alike t.vm → post u → B u t → H.size ≤ H1.size → (∀ q : Nat, q < H.size → ¬ A1 q → H1[q]? = H[q]?) → va_S A0 H0 H1 locs1 → W p l e R s m args below meth c H1 locs1 (cells + mc) (slots + ms) Q (F0 m (pc + 3) ls (rest))) : W p l e R s m args below meth c H locs cells slots Q (F0 m pc ls st0) := by
  intro T hT X
  rcases hr T hT X with ⟨v, st₀, t, T', L, h0, X', hL, e1, e2, ⟨⟨u, hv, hp, hb⟩, hF⟩, st⟩ | ⟨q, st₀, t, T', L, E, ce, h0, X', hL, e1, e2, ⟨u, hp, hb, hF⟩, hce, hcv, hcl, st⟩
  · cases hv
    obtain ⟨k1, k2, k3⟩ := vx_keep h0 e1 hS hA hf hL hF
    obtain ⟨t2, a1, b1⟩ := kk u t T'.heap (locs ++ L) e1.symm (by rw [← e2]; exact X'.warmed.alike) hp hb k1 k2 k3 T' rfl X'
    exact ⟨t2, st t2 a1, b1⟩
  · obtain ⟨k1, k2, k3⟩ := vx_keep h0 e1 hS hAX hf hL hF
    obtain ⟨t2, a1, b1⟩ := kx E ce q u t T'.heap (locs ++ L) e1.symm (by rw [← e2]; exact X'.warmed.alike) hp hb k1 k2 k3 (by rw [e1]; exact hce) hcv hcl T' rfl X'
    exact ⟨t2, st.trans a1, b1⟩
/-- caught by the row x of this method's table; the rows ahead don't take it -/
theorem vx_catch {own name : String} {E : String} {ce : Cell} {q : Addr} (hown : s.vm.findClass own = some m.cls) (pre : List ExceptionTableEntry) (x : ExceptionTableEntry) (suf : List ExceptionTableEntry) (hsplit : c.exceptionTable.toList = pre ++ x :: suf)
    (hpass : ∀ z ∈ pre, covers z pc = false ∨ (z.catchType ≠ 0 ∧ ∃ nm : String, (Cond.classLink own z.catchType nm).before args s = true ∧ va_Nc E nm s)) (hx : covers x pc = true) (h0 : x.catchType ≠ 0)
    (hlink : (Cond.classLink own x.catchType name).before args s = true) (hcast : (Cond.castable E name).before args s = true) (hcell : H[q]? = some ce) (hv : ce.vm = .none) (hcl : s.vm.findClass E = some ce.cls)
    (kk : W p l e R s m args below meth c H locs cells slots Q (F0 m x.handlerPc ls [.ref q])) : vx_W p l e R s m args below meth c H locs cells slots Q (F0 m pc ls rest) q := by
  intro T hT X
  have hpl : e.platform.magicAccessors = ({} : Platform).magicAccessors := by rw [X.admits.platform]
  obtain ⟨c3, c4, hc3, hc4, hasg⟩ := Cond.castable_spec hcast
  cases Option.some.inj (hc3.symm.trans hcl)
  obtain ⟨c5, hc5, hcl5⟩ := Cond.classLink_spec hown hlink e.platform hpl
  cases Option.some.inj (hc4.symm.trans hc5)
  obtain ⟨vm', X', st⟩ := X.thenCaughtThrough q (g := F0 m pc ls rest) rfl (Steps.refl _) (by rw [hT]; exact hcell) (by rw [hv]; rfl) (by obtain ⟨k9, h9, -⟩ := Vm.findClass_spec hcl; exact ⟨k9, h9⟩) pre x suf hsplit
    (fun z hz => by
      rcases hpass z hz with h | ⟨hz0, nm, hl1, hn1⟩
      · exact Or.inl h
      · obtain ⟨c6, hc6, hcl6⟩ := Cond.classLink_spec hown hl1 e.platform hpl
        obtain ⟨a8, b8, h1, h2, h3⟩ := hn1
        cases Option.some.inj (h1.symm.trans hcl)
        cases Option.some.inj (h2.symm.trans hc6)
        exact Or.inr ⟨hz0, _, hcl6, h3⟩) hx (Or.inr ⟨h0, c4, hcl5, hasg⟩)
  obtain ⟨t, a1, b1⟩ := kk (T.setVm vm') hT X'
  exact ⟨t, st.trans a1, b1⟩
end Rows
section Ends
variable {p : Program} {l : Launch} {e : Env} {R : Room} {s : State} {m : MethodId} {args : Array Value} {below : List Frame} {meth : Method} {c : Code} {H : Heap} {locs : List Loc} {cells slots : Nat} {Q : State → Prop}
variable {mc ms : Nat} {free : Addr → Prop} {A0 A1 : Nat → Prop} {H0 : Heap} {a : Array Value} {ls : Array Slot} {st0 rest : List Value}
variable {Qc : Array Value → State → Outcome → State → Prop} {XC : String → State → State → Prop}
/-- what a body that may throw owes at its end -/
def vx_MQ (below : List Frame) (Qc : Array Value → State → Outcome → State → Prop) (XC : String → State → State → Prop) (a : Array Value) (s : State) (mc ms : Nat) (free : Addr → Prop) : State → Prop := fun t =>
  ∃ o, t.status = .running ∧ Ended t below o ∧ vx_Q Qc XC mc ms free a s o t
theorem vx_ret {g : JFrame} {mc ms : Nat} (k : W p l e R s m args below meth c H locs cells slots (MQ below Qc args s mc ms free) g) : W p l e R s m args below meth c H locs cells slots (vx_MQ below Qc XC args s mc ms free) g := by
  intro T hT X
  obtain ⟨t, a1, o, b1, b2, b3, b4⟩ := k T hT X
  exact ⟨t, a1, o, b1, b2, Or.inl ⟨b3, b4⟩⟩
/-- not caught here: it goes on to the caller -/
theorem vx_widen {g : JFrame} {q : Addr} {k n : Nat} (h1 : cells ≤ k) (h2 : slots ≤ n) (kk : vx_W p l e R s m args below meth c H locs k n Q g q) : vx_W p l e R s m args below meth c H locs cells slots Q g q := fun T hT X => kk T hT (stand_widen X h1 h2)
theorem vx_out {pc : Nat} {E : String} {ce : Cell} {q : Addr} {mc ms : Nat} (hout : ∀ x ∈ c.exceptionTable.toList, covers x pc = false) (hlocks : meth.locks = false) (hcell : H[q]? = some ce) (hv : ce.vm = .none) (hcl : s.vm.findClass E = some ce.cls)
    (hx : ∀ t : State, t.heap = H → s.vm.Alike t.vm → XC E s t) (hf : ∀ z ∈ locs, free z.base) (hc : cells ≤ mc) (hs : slots ≤ ms) :
    vx_W p l e R s m args below meth c H locs cells slots (vx_MQ below Qc XC args s mc ms free) (F0 m pc ls rest) q := by
  intro T hT X
  obtain ⟨st1, hrun, hend, hW, hsm⟩ := X.leaveThrown q (g := F0 m pc ls rest) rfl rfl rfl hout hlocks
  have hcell9 : (T.setFrames (.throwing q :: below)).heap[q]? = some ce := by
    show T.heap[q]? = some ce
    rw [hT]; exact hcell
  exact ⟨_, st1, .threw q, hrun, hend, Or.inr ⟨q, rfl, E, ce, locs, hx _ hT hW.alike, hcell9, hv, hcl, hW, hsm.mono hc hs, hf⟩⟩
theorem vx_frame {U : State} {k n : Nat} (h : s.sameButNew ({ U with vm := s.vm } : State) locs k n) : s.heap.size ≤ U.heap.size ∧ ∀ q : Nat, q < s.heap.size → (∀ z ∈ locs, z.base ≠ q) → U.heap[q]? = s.heap[q]? := by
  obtain ⟨-, h2, -, -, -, h6⟩ := h
  refine ⟨h2, fun q hq hz => ?_⟩
  obtain ⟨c9, e1, e2, e3, e4⟩ := h6 q _ (Array.getElem?_eq_getElem hq)
  have hs : c9.slots = (s.heap[q]).slots := Array.ext_getElem? fun i => e4 i fun hm => hz _ hm rfl
  have h9 : c9 = s.heap[q] := by
    rw [hs] at e2
    exact e2
  have e5 : U.heap[q]? = some c9 := e1
  rw [e5, h9, Array.getElem?_eq_getElem hq]
/-- the words of a throw but the four that speak of the heap -/
def vx_no (w : Cond) : Bool := decide (w ≠ .isRef (.static Bundle.tN "UNASSIGNED_STACK" Bundle.steD)) && decide (w ≠ .isRef (.static Bundle.tN "SUPPRESSED_SENTINEL" Bundle.listD)) && decide (w ≠ .laysStatic Bundle.tN "UNASSIGNED_STACK" Bundle.steD) && decide (w ≠ .laysStatic Bundle.tN "SUPPRESSED_SENTINEL" Bundle.listD)
def vx_at0 (own : String) (ic : Nat) (X : String) (names : List String) : List Cond := (Bundle.ownAtoms0 own ic X names).filter vx_no
def vx_atS (own : String) (ic : Nat) (X : String) (names : List String) : List Cond := (Bundle.ownAtoms own ic X names).filter vx_no
/-- a word that the tables alone decide, or a good one -/
def vx_ot (w : Cond) : Bool := w.onTables || goodWord w
theorem vx_ot_at {args a' : Array Value} {s U : State} {w : Cond} (hW : s.WarmedH U.vm) (hvm : s.vm = U.vm) (hg : vx_ot w = true) (h : w.before args s = true) : w.before a' U = true := by
  simp only [vx_ot, Bool.or_eq_true] at hg
  rcases hg with hg | hg
  · exact va_tabs hg hvm h
  · exact word_at hW (good_of_word hg) h
/-- a list's words: the good ones out of the method's own list, the others by premises of their own -/
theorem vx_hat {args : Array Value} {s : State} {L B : List Cond} (h1 : ∀ w ∈ L.filter goodWord, w.before args s = true) (h2 : ∀ w ∈ L.filter (fun w => !goodWord w), w ∈ B) (h3 : ∀ w ∈ B, w.before args s = true) : ∀ w ∈ L, w.before args s = true := by
  intro w hw
  by_cases g : goodWord w = true
  · exact h1 w (List.mem_filter.mpr ⟨hw, g⟩)
  · refine h3 w (h2 w (List.mem_filter.mpr ⟨hw, ?_⟩))
    show (!goodWord w) = true
    cases hgw : goodWord w
    · rfl
    · exact absurd hgw g
theorem vx_c {args : Array Value} {s : State} {w : Cond} {B : List Cond} (h : w.before args s = true) (t : ∀ w ∈ B, w.before args s = true) : ∀ w' ∈ w :: B, w'.before args s = true := fun w' h' => (List.mem_cons.mp h').elim (fun e => by rw [e]; exact h) (t w')
theorem vx_n {args : Array Value} {s : State} : ∀ w ∈ ([] : List Cond), w.before args s = true := fun _ h => nomatch h
theorem vx_own {args : Array Value} {s : State} {L : List Cond} (h1 : ∀ w ∈ L.filter vx_no, w.before args s = true)
    (hU : (Cond.isRef (.static Bundle.tN "UNASSIGNED_STACK" Bundle.steD)).before args s = true) (hN : (Cond.isRef (.static Bundle.tN "SUPPRESSED_SENTINEL" Bundle.listD)).before args s = true)
    (lU : (Cond.laysStatic Bundle.tN "UNASSIGNED_STACK" Bundle.steD).before args s = true) (lN : (Cond.laysStatic Bundle.tN "SUPPRESSED_SENTINEL" Bundle.listD).before args s = true) : ∀ w ∈ L, w.before args s = true := by
  intro w hw
  by_cases e1 : w = .isRef (.static Bundle.tN "UNASSIGNED_STACK" Bundle.steD)
  · rw [e1]; exact hU
  · by_cases e2 : w = .isRef (.static Bundle.tN "SUPPRESSED_SENTINEL" Bundle.listD)
    · rw [e2]; exact hN
    · by_cases e3 : w = .laysStatic Bundle.tN "UNASSIGNED_STACK" Bundle.steD
      · rw [e3]; exact lU
      · by_cases e4 : w = .laysStatic Bundle.tN "SUPPRESSED_SENTINEL" Bundle.listD
        · rw [e4]; exact lN
        · exact h1 w (List.mem_filter.mpr ⟨hw, by unfold vx_no; rw [decide_eq_true e1, decide_eq_true e2, decide_eq_true e3, decide_eq_true e4]; rfl⟩)
/-- where a static field lies, its class's statics cell in H -/
def vx_L (C n d : String) (A : Nat → Prop) (U : State) (H : Heap) : Prop := ∃ (c : ClassId) (k : Class) (i : Nat) (f : Field) (a : Nat) (cell : Cell), U.vm.findClass C = some c ∧ U.fieldFound? C n d = some (c, k, i, f) ∧ f.isStatic = true ∧ k.statics = some a ∧ H[a]? = some cell ∧ cell.vm.isStatics = true ∧ cell.cls = c ∧ f.slot < cell.slots.size ∧ k.staticTypes[f.slot]? = some f.type ∧ ¬ A a
theorem vx_L.moved {C n d : String} {A : Nat → Prop} {u U : State} {H : Heap} (hvm : u.vm.Alike U.vm) (h : vx_L C n d A u H) : vx_L C n d A U H := by
  obtain ⟨c, k, i, f, a, cell, h1, h2, h3, h4, h5, h6, h7, h8, h9, h10⟩ := h
  obtain ⟨k', hi', he⟩ := State.fieldFound?_setVm hvm h2
  exact ⟨c, k', i, f, a, cell, by rw [hvm.findClass]; exact h1, hi', h3, by rw [he]; exact h4, h5, h6, h7, h8, by rw [he]; exact h9, h10⟩
theorem vx_L.kept {C n d : String} {A : Nat → Prop} {U : State} {H H1 : Heap} (h : vx_L C n d A U H) (hq : ∀ a : Nat, a < H.size → ¬ A a → H1[a]? = H[a]?) : vx_L C n d A U H1 := by
  obtain ⟨c, k, i, f, a, cell, h1, h2, h3, h4, h5, h6, h7, h8, h9, h10⟩ := h
  exact ⟨c, k, i, f, a, cell, h1, h2, h3, h4, by rw [hq a (Array.getElem?_eq_some_iff.mp h5).1 h10]; exact h5, h6, h7, h8, h9, h10⟩
theorem vx_L.narrow {C n d : String} {A B : Nat → Prop} {U : State} {H : Heap} (h : vx_L C n d A U H) (hAB : ∀ q, B q → A q) : vx_L C n d B U H := by
  obtain ⟨c, k, i, f, a, cell, h1, h2, h3, h4, h5, h6, h7, h8, h9, h10⟩ := h
  exact ⟨c, k, i, f, a, cell, h1, h2, h3, h4, h5, h6, h7, h8, h9, fun z => h10 (hAB _ z)⟩
theorem vx_L.word {C n d : String} {A : Nat → Prop} {s : State} {args : Array Value} (h : vx_L C n d A s s.heap) : (Cond.laysStatic C n d).before args s = true := by
  obtain ⟨c, k, i, f, a, cell, h1, h2, h3, h4, h5, h6, h7, h8, h9, -⟩ := h
  show (Cond.laysStatic C n d).holds args s none s [] = true
  exact Cond.laysStatic_of h1 h2 h3 h4 h5 h6 h7 h8 h9
/-- .. and what it holds: null or some reference -/
def vx_Zq (C n d : String) (A : Nat → Prop) (U : State) (H : Heap) : Prop := va_Zq C n d A U H ∧ vx_L C n d A U H
theorem vx_Zq.moved {C n d : String} {A : Nat → Prop} {u U : State} {H : Heap} (hvm : u.vm.Alike U.vm) (h : vx_Zq C n d A u H) : vx_Zq C n d A U H := ⟨va_Zq.moved hvm h.1, vx_L.moved hvm h.2⟩
theorem vx_Zq.kept {C n d : String} {A : Nat → Prop} {U : State} {H H1 : Heap} (h : vx_Zq C n d A U H) (hq : ∀ a : Nat, a < H.size → ¬ A a → H1[a]? = H[a]?) : vx_Zq C n d A U H1 := ⟨va_Zq.kept h.1 hq, vx_L.kept h.2 hq⟩
theorem vx_Zq.narrow {C n d : String} {A B : Nat → Prop} {U : State} {H : Heap} (h : vx_Zq C n d A U H) (hAB : ∀ q, B q → A q) : vx_Zq C n d B U H := ⟨va_Zq.narrow h.1 hAB, vx_L.narrow h.2 hAB⟩
theorem vx_Zqof {args : Array Value} {s : State} {C n d : String} {A : Nat → Prop} (hl : (Cond.laysStatic C n d).before args s = true) (hini : (Cond.initialized C).before args s = true) (h : (Cond.isRef (.static C n d)).before args s = true) (hA : ∀ a : Nat, a < s.heap.size → ¬ A a) : vx_Zq C n d A s s.heap := by
  refine ⟨va_Zqof hl hini h hA, ?_⟩
  obtain ⟨c, k, i, f, a, cell, h1, h2, h3, h4, h5, h6, h7, h8, h9⟩ := Cond.laysStatic_spec hl
  exact ⟨c, k, i, f, a, cell, h1, h2, h3, h4, h5, h6, h7, h8, h9, hA a (Array.getElem?_eq_some_iff.mp h5).1⟩
theorem vx_isRef {C n d : String} {v : Value} {A : Nat → Prop} {s : State} {args : Array Value} (h : va_Z C n d v A s s.heap) (hv : v.isRef = true) : (Cond.isRef (.static C n d)).before args s = true := by
  obtain ⟨cf, kf, fi, f, a, cell, h1, h2, h3, h4, h5, h6, h7, -⟩ := h
  have he : (Term.static C n d).eval args s none [] s = some v := by
    simp [Term.eval, State.fieldNamed?, h1, h2, h4, h5, h6, h7]
  simp only [Cond.before, Cond.holds, Cond.value, he]
  cases v <;> simp_all [Value.isRef]
theorem vx_isRefq {C n d : String} {A : Nat → Prop} {s : State} {args : Array Value} (h : va_Zq C n d A s s.heap) : (Cond.isRef (.static C n d)).before args s = true := by
  rcases h with h | ⟨t, h⟩
  · exact vx_isRef h rfl
  · exact vx_isRef h rfl
/-- the same frame, seen from here: as if the method were called anew in this heap -/
theorem vx_rebase {T : State} (X : Stand p l e R s m args below meth c T locs cells slots) {R' : Room} (hf : R'.frames ≤ R.frames) (hl : R'.locals ≤ R.locals) (hc : cells + R'.cells ≤ R.cells) (hs : slots + R'.slots ≤ R.slots) :
    Stand p l e R' ((T.setVm s.vm).setFrames (.invoking m args :: below)) m args below meth c T [] 0 0 := by
  have htop : (T.setVm s.vm).topJava?.isSome := X.here.top
  have hF : ((T.setVm s.vm).setFrames (.invoking m args :: below)).frames = .invoking m args :: below := State.frames_setFrames _ (State.cur_lt_of_top htop)
  obtain ⟨g₀, hg0⟩ := Option.isSome_iff_exists.mp htop
  obtain ⟨r, hr⟩ := State.topJava?_eq_some.mp hg0
  have hl9 : e.platform.stackLimits (T.setVm s.vm).me = e.platform.stackLimits s.me := X.limits
  have hb9 : (T.setVm s.vm).me.stackBytes = s.me.stackBytes := X.bytes
  refine ⟨X.admits, X.cas, X.clock, hF, ?_, X.hears, X.method, X.code, X.here, X.tail, X.warmed, ?_, ?_, ?_⟩
  · have h := X.room
    have hU : ((T.setVm s.vm).setFrames (.invoking m args :: below)).localsInUse = s.localsInUse := by
      rw [State.localsInUse_invoking hF (meth := meth) (c := c) X.method X.code, State.localsInUse_invoking X.frames X.method X.code]
    simp only [State.hasRoom, Bool.and_eq_true, decide_eq_true_eq] at h ⊢
    obtain ⟨⟨⟨⟨h1, h2, h3, h4, h5, h6⟩, h7⟩, h8⟩, h9⟩ := h
    rw [X.frames, List.length_cons] at h2 h3
    have q1 := X.heapSize
    have q2 := X.used
    simp only [hF, hU, List.length_cons, State.stackLimits_setFrames, State.stackBytes_setFrames, hl9, hb9]
    refine ⟨⟨⟨⟨by omega, by omega, by omega, by omega, by omega, h6⟩, ?_⟩, ?_⟩, X.book⟩
    · show T.heap.size + R'.cells ≤ e.platform.maxCells
      omega
    · show T.slotsUsed + R'.slots ≤ e.platform.maxSlots
      omega
  · rw [State.stackLimits_setFrames]; rfl
  · rw [State.stackBytes_setFrames]; rfl
  · refine ⟨?_, Nat.le_refl _, Nat.le_refl _, ?_, ?_, fun a c9 h9 => ⟨c9, h9, rfl, rfl, fun _ _ => rfl⟩⟩
    · obtain ⟨t, ht, -⟩ := State.frames_cons hr
      show T.setVm s.vm = { ((T.setVm s.vm).setFrames (.invoking m args :: below)).setFrames (T.setVm s.vm).frames with heap := T.heap, slotsUsed := T.slotsUsed }
      rw [State.setFrames_setFrames, State.setFrames_self ht]
      rfl
    · show T.slotsUsed = T.slotsUsed + ((T.heap.toList.drop T.heap.size).map (·.slots.size)).sum
      rw [List.drop_eq_nil_of_le (Nat.le_of_eq Array.length_toList)]
      rfl
    · show ((T.heap.toList.drop T.heap.size).map (·.slots.size)).sum ≤ 0
      rw [List.drop_eq_nil_of_le (Nat.le_of_eq Array.length_toList)]
      exact Nat.le_refl _
/-- 'throw new E()': new; dup; invokespecial; athrow -/
theorem vx_throw0 {cc : ByteArray} {pc : Nat} (hexec : p.tables.exec = Jvm.exec) (hb : c.code = cc) (hl : l.stackTraces = false) {own cls : String} {names : List String} {ik ic mc ms : Nat} {A : Nat → Prop}
    (hown : s.vm.findClass own = some m.cls) (hcls : Bundle.fit cls = true) (hnames : ∀ n ∈ names, Bundle.fit n = true)
    (hk : (Cond.classLink own ik cls).before args s = true) (hini : (Cond.initialized cls).before args s = true) (hat : ∀ w ∈ vx_at0 own ic cls names, w.before args s = true)
    (hgood : ∀ w ∈ Cond.classLink own ik cls :: Cond.initialized cls :: vx_at0 own ic cls names, vx_ot w = true)
    (hU : vx_Zq Bundle.tN "UNASSIGNED_STACK" Bundle.steD A s s.heap) (hN : vx_Zq Bundle.tN "SUPPRESSED_SENTINEL" Bundle.listD A s s.heap) (hS : va_S A s.heap H locs) (hsize : ls.size = c.maxLocals)
    (d0 : decode cc pc = .ok (.new ik, 3)) (d3 : decode cc (pc + 3) = .ok (.dup, 1)) (d4 : decode cc (pc + 4) = .ok (.invokespecial ic, 3)) (d7 : decode cc (pc + 7) = .ok (.athrow, 1))
    (hout : ∀ x ∈ c.exceptionTable.toList, covers x (pc + 7) = false)
    (hRframes : names.length + 3 < R.frames) (hRlocals : (rest.map fun v => v.category).sum + (13 * (names.length + 1) + 42) ≤ R.locals) (hRcells : cells + 1 ≤ R.cells) (hRslots : slots + 6 ≤ R.slots) (hlocks : meth.locks = false)
    (hx : ∀ t : State, s.vm.Alike t.vm → H.size ≤ t.heap.size → (∀ q : Nat, q < H.size → t.heap[q]? = H[q]?) → XC cls s t)
    (hf : ∀ z ∈ locs, free z.base) (hc : cells + 1 ≤ mc) (hs : slots + 6 ≤ ms) :
    W p l e R s m args below meth c H locs cells slots (vx_MQ below Qc XC args s mc ms free) (F0 m pc ls rest) := by
  intro T hT X
  have htr : e.platform.stackTraces = false := (show e.platform.stackTraces = l.stackTraces by rw [X.admits.platform]).trans hl
  have Y := vx_rebase X (R' := { frames := R.frames, locals := R.locals, cells := 1, slots := 6 }) (Nat.le_refl _) (Nat.le_refl _) hRcells hRslots
  obtain ⟨s', hA⟩ : ∃ z, z = (T.setVm s.vm).setFrames (.invoking m args :: below) := ⟨_, rfl⟩
  rw [← hA] at Y
  have hvm : s'.vm = s.vm := by rw [hA]; rfl
  have hhp : s'.heap = H := by rw [hA]; exact hT
  have hW0 : s.WarmedH s'.vm := by rw [hvm]; exact State.WarmedH.refl s
  have hat' : ∀ w ∈ vx_at0 own ic cls names, w.before args s' = true := fun w hw => vx_ot_at hW0 hvm.symm (hgood w (List.mem_cons_of_mem _ (List.mem_cons_of_mem _ hw))) (hat w hw)
  have hk' : (Cond.classLink own ik cls).before args s' = true := vx_ot_at hW0 hvm.symm (hgood _ List.mem_cons_self) hk
  have hini' : (Cond.initialized cls).before args s' = true := vx_ot_at hW0 hvm.symm (hgood _ (List.mem_cons_of_mem _ List.mem_cons_self)) hini
  have hU' : vx_Zq Bundle.tN "UNASSIGNED_STACK" Bundle.steD A s' s'.heap := by rw [hhp]; exact vx_Zq.moved hW0.alike (hU.kept hS.2.1)
  have hN' : vx_Zq Bundle.tN "SUPPRESSED_SENTINEL" Bundle.listD A s' s'.heap := by rw [hhp]; exact vx_Zq.moved hW0.alike (hN.kept hS.2.1)
  have h : ∀ w ∈ Bundle.ownAtoms0 own ic cls names, w.before args s' = true := vx_own hat' (vx_isRefq hU'.1) (vx_isRefq hN'.1) hU'.2.word hN'.2.word
  have hown' : s'.vm.findClass own = some m.cls := by rw [hvm]; exact hown
  have hins : (Cond.instantiable cls 6).before args s' = true := h _ (by simp [Bundle.ownAtoms0])
  obtain ⟨vm₁, cX, kX, hfX, hkX, -, -, X₁, st1⟩ := Y.newCold hexec (own := own) (C := cls) (index := ik) (n := 6) hown' hk' hins hini'
    (g := F0 m pc ls rest) rfl (by rw [hb]; exact d0) (Nat.le_refl _) (Nat.le_refl _)
  generalize hT1 : (T.setVm vm₁).pushCell { cls := cX, slots := kX.instanceTypes.map defaultValue, vm := .none } = T1 at X₁ st1
  have hcat : (Value.ref T.heap.size).category = 1 := rfl
  have hcellA : T1.heap[T.heap.size]? = some (freshCell cX kX) := by rw [← hT1]; exact State.heap_pushCell_size _ _
  have d3' : decode c.code (pc + 3) = .ok (.dup, 1) := by rw [hb]; exact d3
  obtain ⟨U, hsteps, hrun, hend, hW, hsame, ce, hce, hO⟩ := X₁.ctorThrow0 hexec htr (own := own) (cls := cls) (names := names) (ic := ic) hown' hcls hnames h (fun x hx => nomatch hx) hfX hkX hcellA (by rw [hhp, hT]; exact Nat.le_refl _)
    (g := { method := m, pc := pc + 4, locals := ls, stack := .ref T.heap.size :: .ref T.heap.size :: rest, locked := none }) rfl hsize rfl rfl (rest := rest) rfl
    (by rw [hb]; exact d4) (by rw [hb]; exact d7) hout hRframes (by simp only [List.map_cons, List.sum_cons, hcat]; omega) hlocks
  obtain ⟨f1, f2⟩ := vx_frame hsame
  rw [hhp] at f1 f2
  have hWs : s.WarmedH U.vm := State.WarmedH.trans hW0 hW
  have hcl : s.vm.findClass cls = some ce.cls := by
    have h9 := hO.cls
    rw [hvm] at h9
    exact h9
  have hall : s.sameButNew ({ U with vm := s.vm } : State) locs mc ms := by
    subst hA
    obtain ⟨e1, e2⟩ := hsame
    rw [State.setFrames_setFrames] at e1
    have h2 : (T.setVm s.vm).sameButNew ({ U with vm := s.vm } : State) [] (0 + 1) (0 + 6) := ⟨e1, e2⟩
    have h3 := X.same.trans h2
    rw [List.append_nil] at h3
    exact h3.mono hc hs
  refine ⟨U, ?_, .threw T.heap.size, hrun, hend, Or.inr ⟨T.heap.size, rfl, cls, ce, locs, hx U hWs.alike f1 (fun q hq => f2 q hq (fun z hz => nomatch hz)), hce, hO.vm, hcl, hWs, hall, hf⟩⟩
  refine st1 _ ?_
  show Steps p.tables e below (T1.setTop { method := m, pc := pc + 3, locals := ls, stack := .ref T.heap.size :: rest, locked := none }) _
  jvm_step X₁.here [X₁.here.top, hexec, d3', Value.category]
  exact hsteps
/-- 'throw new E("text")': new; dup; ldc; invokespecial; athrow -/
theorem vx_throwS {cc : ByteArray} {pc : Nat} (hexec : p.tables.exec = Jvm.exec) (hb : c.code = cc) (hl : l.stackTraces = false) {own cls text : String} {names : List String} {ik is ic mc ms sa : Nat} {A : Nat → Prop}
    (hown : s.vm.findClass own = some m.cls) (hcls : Bundle.fit cls = true) (hnames : ∀ n ∈ names, Bundle.fit n = true)
    (hk : (Cond.classLink own ik cls).before args s = true) (hini : (Cond.initialized cls).before args s = true) (hstr : vk_R own is text sa s) (hat : ∀ w ∈ vx_atS own ic cls names, w.before args s = true)
    (hgood : ∀ w ∈ Cond.classLink own ik cls :: Cond.initialized cls :: vx_atS own ic cls names, vx_ot w = true)
    (hU : vx_Zq Bundle.tN "UNASSIGNED_STACK" Bundle.steD A s s.heap) (hN : vx_Zq Bundle.tN "SUPPRESSED_SENTINEL" Bundle.listD A s s.heap) (hS : va_S A s.heap H locs) (hsize : ls.size = c.maxLocals)
    (d0 : decode cc pc = .ok (.new ik, 3)) (d3 : decode cc (pc + 3) = .ok (.dup, 1)) (d4 : decode cc (pc + 4) = .ok (.ldc is, 2)) (d6 : decode cc (pc + 6) = .ok (.invokespecial ic, 3)) (d9 : decode cc (pc + 9) = .ok (.athrow, 1))
    (hout : ∀ x ∈ c.exceptionTable.toList, covers x (pc + 9) = false)
    (hRframes : names.length + 3 < R.frames) (hRlocals : (rest.map fun v => v.category).sum + (13 * (names.length + 1) + 43) ≤ R.locals) (hRcells : cells + 1 ≤ R.cells) (hRslots : slots + 6 ≤ R.slots) (hlocks : meth.locks = false)
    (hx : ∀ t : State, s.vm.Alike t.vm → H.size ≤ t.heap.size → (∀ q : Nat, q < H.size → t.heap[q]? = H[q]?) → XC cls s t)
    (hf : ∀ z ∈ locs, free z.base) (hc : cells + 1 ≤ mc) (hs : slots + 6 ≤ ms) :
    W p l e R s m args below meth c H locs cells slots (vx_MQ below Qc XC args s mc ms free) (F0 m pc ls rest) := by
  intro T hT X
  have htr : e.platform.stackTraces = false := (show e.platform.stackTraces = l.stackTraces by rw [X.admits.platform]).trans hl
  have Y := vx_rebase X (R' := { frames := R.frames, locals := R.locals, cells := 1, slots := 6 }) (Nat.le_refl _) (Nat.le_refl _) hRcells hRslots
  obtain ⟨s', hA⟩ : ∃ z, z = (T.setVm s.vm).setFrames (.invoking m args :: below) := ⟨_, rfl⟩
  rw [← hA] at Y
  have hvm : s'.vm = s.vm := by rw [hA]; rfl
  have hhp : s'.heap = H := by rw [hA]; exact hT
  have hW0 : s.WarmedH s'.vm := by rw [hvm]; exact State.WarmedH.refl s
  have hat' : ∀ w ∈ vx_atS own ic cls names, w.before args s' = true := fun w hw => vx_ot_at hW0 hvm.symm (hgood w (List.mem_cons_of_mem _ (List.mem_cons_of_mem _ hw))) (hat w hw)
  have hk' : (Cond.classLink own ik cls).before args s' = true := vx_ot_at hW0 hvm.symm (hgood _ List.mem_cons_self) hk
  have hini' : (Cond.initialized cls).before args s' = true := vx_ot_at hW0 hvm.symm (hgood _ (List.mem_cons_of_mem _ List.mem_cons_self)) hini
  have hU' : vx_Zq Bundle.tN "UNASSIGNED_STACK" Bundle.steD A s' s'.heap := by rw [hhp]; exact vx_Zq.moved hW0.alike (hU.kept hS.2.1)
  have hN' : vx_Zq Bundle.tN "SUPPRESSED_SENTINEL" Bundle.listD A s' s'.heap := by rw [hhp]; exact vx_Zq.moved hW0.alike (hN.kept hS.2.1)
  have h : ∀ w ∈ Bundle.ownAtoms own ic cls names, w.before args s' = true := vx_own hat' (vx_isRefq hU'.1) (vx_isRefq hN'.1) hU'.2.word hN'.2.word
  have hown' : s'.vm.findClass own = some m.cls := by rw [hvm]; exact hown
  have hins : (Cond.instantiable cls 6).before args s' = true := h _ (by simp [Bundle.ownAtoms])
  obtain ⟨vm₁, cX, kX, hfX, hkX, -, -, X₁, st1⟩ := Y.newCold hexec (own := own) (C := cls) (index := ik) (n := 6) hown' hk' hins hini'
    (g := F0 m pc ls rest) rfl (by rw [hb]; exact d0) (Nat.le_refl _) (Nat.le_refl _)
  generalize hT1 : (T.setVm vm₁).pushCell { cls := cX, slots := kX.instanceTypes.map defaultValue, vm := .none } = T1 at X₁ st1
  have hcat : (Value.ref T.heap.size).category = 1 := rfl
  have hcellA : T1.heap[T.heap.size]? = some (freshCell cX kX) := by rw [← hT1]; exact State.heap_pushCell_size _ _
  have d3' : decode c.code (pc + 3) = .ok (.dup, 1) := by rw [hb]; exact d3
  have d4' : decode c.code (pc + 4) = .ok (.ldc is, 2) := by rw [hb]; exact d4
  have hstr' : vk_R own is text sa s' := vk_R.warm hW0 hstr
  obtain ⟨U, hsteps, hrun, hend, hW, hsame, ce, hce, hO⟩ := X₁.ctorThrowS hexec htr (own := own) (cls := cls) (names := names) (ic := ic) hown' hcls hnames h (fun x hx => nomatch hx) hfX hkX hcellA (by rw [hhp, hT]; exact Nat.le_refl _) (msg := .ref sa) rfl
    (g := { method := m, pc := pc + 6, locals := ls, stack := .ref sa :: .ref T.heap.size :: .ref T.heap.size :: rest, locked := none }) rfl hsize rfl rfl (rest := rest) rfl
    (by rw [hb]; exact d6) (by rw [hb]; exact d9) hout hRframes (by simp only [List.map_cons, List.sum_cons, hcat]; omega) hlocks
  obtain ⟨f1, f2⟩ := vx_frame hsame
  rw [hhp] at f1 f2
  have hWs : s.WarmedH U.vm := State.WarmedH.trans hW0 hW
  have hcl : s.vm.findClass cls = some ce.cls := by
    have h9 := hO.cls
    rw [hvm] at h9
    exact h9
  have hall : s.sameButNew ({ U with vm := s.vm } : State) locs mc ms := by
    subst hA
    obtain ⟨e1, e2⟩ := hsame
    rw [State.setFrames_setFrames] at e1
    have h2 : (T.setVm s.vm).sameButNew ({ U with vm := s.vm } : State) [] (0 + 1) (0 + 6) := ⟨e1, e2⟩
    have h3 := X.same.trans h2
    rw [List.append_nil] at h3
    exact h3.mono hc hs
  refine ⟨U, ?_, .threw T.heap.size, hrun, hend, Or.inr ⟨T.heap.size, rfl, cls, ce, locs, hx U hWs.alike f1 (fun q hq => f2 q hq (fun z hz => nomatch hz)), hce, hO.vm, hcl, hWs, hall, hf⟩⟩
  refine st1 _ ?_
  show Steps p.tables e below (T1.setTop { method := m, pc := pc + 3, locals := ls, stack := .ref T.heap.size :: rest, locked := none }) _
  jvm_step X₁.here [X₁.here.top, hexec, d3', Value.category]
  exact X₁.ldcString hexec (own := own) (text := text) (index := is) (a := sa) hown' hstr'.1 hstr'.2
    (g := { method := m, pc := pc + 4, locals := ls, stack := .ref T.heap.size :: .ref T.heap.size :: rest, locked := none }) rfl d4' _ hsteps
/-- 'throw new E("text")', the text by a wide index -/
theorem vx_throwSW {cc : ByteArray} {pc : Nat} (hexec : p.tables.exec = Jvm.exec) (hb : c.code = cc) (hl : l.stackTraces = false) {own cls text : String} {names : List String} {ik is ic mc ms sa : Nat} {A : Nat → Prop}
    (hown : s.vm.findClass own = some m.cls) (hcls : Bundle.fit cls = true) (hnames : ∀ n ∈ names, Bundle.fit n = true)
    (hk : (Cond.classLink own ik cls).before args s = true) (hini : (Cond.initialized cls).before args s = true) (hstr : vk_R own is text sa s) (hat : ∀ w ∈ vx_atS own ic cls names, w.before args s = true)
    (hgood : ∀ w ∈ Cond.classLink own ik cls :: Cond.initialized cls :: vx_atS own ic cls names, vx_ot w = true)
    (hU : vx_Zq Bundle.tN "UNASSIGNED_STACK" Bundle.steD A s s.heap) (hN : vx_Zq Bundle.tN "SUPPRESSED_SENTINEL" Bundle.listD A s s.heap) (hS : va_S A s.heap H locs) (hsize : ls.size = c.maxLocals)
    (d0 : decode cc pc = .ok (.new ik, 3)) (d3 : decode cc (pc + 3) = .ok (.dup, 1)) (d4 : decode cc (pc + 4) = .ok (.ldc_w is, 3)) (d7 : decode cc (pc + 7) = .ok (.invokespecial ic, 3)) (d10 : decode cc (pc + 10) = .ok (.athrow, 1))
    (hout : ∀ x ∈ c.exceptionTable.toList, covers x (pc + 10) = false)
    (hRframes : names.length + 3 < R.frames) (hRlocals : (rest.map fun v => v.category).sum + (13 * (names.length + 1) + 43) ≤ R.locals) (hRcells : cells + 1 ≤ R.cells) (hRslots : slots + 6 ≤ R.slots) (hlocks : meth.locks = false)
    (hx : ∀ t : State, s.vm.Alike t.vm → H.size ≤ t.heap.size → (∀ q : Nat, q < H.size → t.heap[q]? = H[q]?) → XC cls s t)
    (hf : ∀ z ∈ locs, free z.base) (hc : cells + 1 ≤ mc) (hs : slots + 6 ≤ ms) :
    W p l e R s m args below meth c H locs cells slots (vx_MQ below Qc XC args s mc ms free) (F0 m pc ls rest) := by
  intro T hT X
  have htr : e.platform.stackTraces = false := (show e.platform.stackTraces = l.stackTraces by rw [X.admits.platform]).trans hl
  have Y := vx_rebase X (R' := { frames := R.frames, locals := R.locals, cells := 1, slots := 6 }) (Nat.le_refl _) (Nat.le_refl _) hRcells hRslots
  obtain ⟨s', hA⟩ : ∃ z, z = (T.setVm s.vm).setFrames (.invoking m args :: below) := ⟨_, rfl⟩
  rw [← hA] at Y
  have hvm : s'.vm = s.vm := by rw [hA]; rfl
  have hhp : s'.heap = H := by rw [hA]; exact hT
  have hW0 : s.WarmedH s'.vm := by rw [hvm]; exact State.WarmedH.refl s
  have hat' : ∀ w ∈ vx_atS own ic cls names, w.before args s' = true := fun w hw => vx_ot_at hW0 hvm.symm (hgood w (List.mem_cons_of_mem _ (List.mem_cons_of_mem _ hw))) (hat w hw)
  have hk' : (Cond.classLink own ik cls).before args s' = true := vx_ot_at hW0 hvm.symm (hgood _ List.mem_cons_self) hk
  have hini' : (Cond.initialized cls).before args s' = true := vx_ot_at hW0 hvm.symm (hgood _ (List.mem_cons_of_mem _ List.mem_cons_self)) hini
  have hU' : vx_Zq Bundle.tN "UNASSIGNED_STACK" Bundle.steD A s' s'.heap := by rw [hhp]; exact vx_Zq.moved hW0.alike (hU.kept hS.2.1)
  have hN' : vx_Zq Bundle.tN "SUPPRESSED_SENTINEL" Bundle.listD A s' s'.heap := by rw [hhp]; exact vx_Zq.moved hW0.alike (hN.kept hS.2.1)
  have h : ∀ w ∈ Bundle.ownAtoms own ic cls names, w.before args s' = true := vx_own hat' (vx_isRefq hU'.1) (vx_isRefq hN'.1) hU'.2.word hN'.2.word
  have hown' : s'.vm.findClass own = some m.cls := by rw [hvm]; exact hown
  have hins : (Cond.instantiable cls 6).before args s' = true := h _ (by simp [Bundle.ownAtoms])
  obtain ⟨vm₁, cX, kX, hfX, hkX, -, -, X₁, st1⟩ := Y.newCold hexec (own := own) (C := cls) (index := ik) (n := 6) hown' hk' hins hini'
    (g := F0 m pc ls rest) rfl (by rw [hb]; exact d0) (Nat.le_refl _) (Nat.le_refl _)
  generalize hT1 : (T.setVm vm₁).pushCell { cls := cX, slots := kX.instanceTypes.map defaultValue, vm := .none } = T1 at X₁ st1
  have hcat : (Value.ref T.heap.size).category = 1 := rfl
  have hcellA : T1.heap[T.heap.size]? = some (freshCell cX kX) := by rw [← hT1]; exact State.heap_pushCell_size _ _
  have d3' : decode c.code (pc + 3) = .ok (.dup, 1) := by rw [hb]; exact d3
  have d4' : decode c.code (pc + 4) = .ok (.ldc_w is, 3) := by rw [hb]; exact d4
  have hstr' : vk_R own is text sa s' := vk_R.warm hW0 hstr
  obtain ⟨U, hsteps, hrun, hend, hW, hsame, ce, hce, hO⟩ := X₁.ctorThrowS hexec htr (own := own) (cls := cls) (names := names) (ic := ic) hown' hcls hnames h (fun x hx => nomatch hx) hfX hkX hcellA (by rw [hhp, hT]; exact Nat.le_refl _) (msg := .ref sa) rfl
    (g := { method := m, pc := pc + 7, locals := ls, stack := .ref sa :: .ref T.heap.size :: .ref T.heap.size :: rest, locked := none }) rfl hsize rfl rfl (rest := rest) rfl
    (by rw [hb]; exact d7) (by rw [hb]; exact d10) hout hRframes (by simp only [List.map_cons, List.sum_cons, hcat]; omega) hlocks
  obtain ⟨f1, f2⟩ := vx_frame hsame
  rw [hhp] at f1 f2
  have hWs : s.WarmedH U.vm := State.WarmedH.trans hW0 hW
  have hcl : s.vm.findClass cls = some ce.cls := by
    have h9 := hO.cls
    rw [hvm] at h9
    exact h9
  have hall : s.sameButNew ({ U with vm := s.vm } : State) locs mc ms := by
    subst hA
    obtain ⟨e1, e2⟩ := hsame
    rw [State.setFrames_setFrames] at e1
    have h2 : (T.setVm s.vm).sameButNew ({ U with vm := s.vm } : State) [] (0 + 1) (0 + 6) := ⟨e1, e2⟩
    have h3 := X.same.trans h2
    rw [List.append_nil] at h3
    exact h3.mono hc hs
  refine ⟨U, ?_, .threw T.heap.size, hrun, hend, Or.inr ⟨T.heap.size, rfl, cls, ce, locs, hx U hWs.alike f1 (fun q hq => f2 q hq (fun z hz => nomatch hz)), hce, hO.vm, hcl, hWs, hall, hf⟩⟩
  refine st1 _ ?_
  show Steps p.tables e below (T1.setTop { method := m, pc := pc + 3, locals := ls, stack := .ref T.heap.size :: rest, locked := none }) _
  jvm_step X₁.here [X₁.here.top, hexec, d3', Value.category]
  exact X₁.ldcStringW hexec (own := own) (text := text) (index := is) (a := sa) hown' hstr'.1 hstr'.2
    (g := { method := m, pc := pc + 4, locals := ls, stack := .ref T.heap.size :: .ref T.heap.size :: rest, locked := none }) rfl d4' _ hsteps
end Ends
section Bodies
variable {l : Launch}
theorem vx_ofW {y : MethodName} {ws ws' : List Cond} {rm : Room} {Pc : Array Value → State → Prop} {Qc : Array Value → State → Outcome → State → Prop} {XC : String → State → State → Prop} {mc ms : Nat} {free : Addr → Prop} {cc : ByteArray} {maxL : Nat} {ret : Option FieldType}
    (hy : plainName y.cls = true) (hw : ws = Cond.code y cc maxL ret :: ws')
    (body : ∀ p e s m args below meth c s₁, BodyLoose p l y (headSpec ws rm) cc maxL ret e s m args below meth c s₁ → c.maxLocals = maxL → (∀ x ∈ c.exceptionTable.toList, False) → Pc args s →
      W p l e (headSpec ws rm).room s m args below meth c s.heap [] 0 0 (vx_MQ below Qc XC args s mc ms free) (entryFrame m args maxL)) : vx_Met l y ws rm Pc Qc XC mc ms free := by
  refine MetFree.of_bodyS (code := cc) (maxLocals := maxL) (ret := ret) hy ?_ ?_
  · intro args s m h hn
    obtain ⟨meth, c, h1, h2, h3, h4, h5, h6, -, -⟩ := Cond.code_spec hn (atoms_spec (ws := ws) h _ (by rw [hw]; exact List.mem_cons_self))
    exact ⟨meth, c, h1, h2, h3, h4, h5, h6⟩
  · intro p e s m args below meth c s₁ B hml hP _
    have hh0 : s₁.heap = s.heap := by rw [B.state]; rfl
    have ht : ∀ x ∈ c.exceptionTable.toList, False := by
      obtain ⟨meth9, c9, h1, h2, -, -, -, -, h7, -⟩ := Cond.code_spec B.named (atoms_spec (ws := ws) B.pre _ (by rw [hw]; exact List.mem_cons_self))
      cases Option.some.inj (h1.symm.trans B.method)
      cases Option.some.inj (h2.symm.trans (Stand.of_body B).code)
      intro x hx
      rw [Array.isEmpty_iff.mp h7] at hx
      cases hx
    obtain ⟨t, a1, o, b1, b2, b3⟩ := body p e s m args below meth c s₁ B hml ht hP s₁ hh0 (Stand.of_body B)
    exact ⟨t, o, a1, b1, b2, b3⟩
/-- the table of a body with handlers -/
theorem vx_table {p : Program} {x y : MethodName} {S : Spec} {cc bytes : ByteArray} {maxL maxL' : Nat} {ret ret' : Option FieldType} {e : Env} {s s₁ : State} {m : MethodId} {args : Array Value} {below : List Frame} {meth : Method} {c : Code} {hh : List (Nat × Nat × Nat × Nat)}
    (B : BodyLoose p l y S cc maxL ret e s m args below meth c s₁) (h : (Cond.codeWith y bytes maxL' ret' hh).before args s = true) : c.exceptionTable.toList = tableOf hh := by
  obtain ⟨m9, meth9, c9, hn9, h1, h2, -, -, h6, -⟩ := Cond.codeWith_spec h
  cases Option.some.inj (hn9.symm.trans B.named)
  cases Option.some.inj (h1.symm.trans B.method)
  cases Option.some.inj (h2.symm.trans (Stand.of_body B).code)
  rw [← h6, table_eq]
end Bodies
end VXA
/-! ===== END ===== -/
/-! ===== BEGIN a static call of a method with an exception table ===== -/
section VXS
variable {p : Program} {l : Launch} {e : Env} {R : Room} {s : State} {m : MethodId} {args : Array Value} {below : List Frame} {meth : Method} {c : Code} {T : State} {H : Heap} {locs : List Loc} {cells slots : Nat}
abbrev vx_CSW (R : Room) (s : State) (args : Array Value) (own : String) (index : Nat) (y : MethodName) (bytes : ByteArray) (maxL : Nat) (ret : Option FieldType) (hh : List (Nat × Nat × Nat × Nat)) (ws : List Cond) (rm : Room) (mc ms n : Nat) : Prop :=
  (rm.cells = mc ∧ rm.slots = ms ∧ rm.frames + 1 ≤ R.frames ∧ 8 + (maxL + 11) + rm.locals ≤ R.locals ∧ (∀ w ∈ ws, ∀ (a' : Array Value) (U : State), s.WarmedH U.vm → w.before a' U = true) ∧ Cond.codeWith y bytes maxL ret hh ∈ ws) ∧
  (Cond.codeWith y bytes maxL ret hh).before args s = true ∧ (Cond.initialized y.cls).before args s = true ∧ (y.cls ≠ "java/lang/invoke/MethodHandle" ∧ y.cls ≠ "java/lang/invoke/VarHandle") ∧
  (∀ sig, parseMethodDescriptor y.desc = some sig → n = sig.parameters.length) ∧ (Cond.methodLink own index y).before args s = true ∧ (Cond.static y).before args s = true
theorem vx_cwSW {own : String} {index maxL mc ms : Nat} {y : MethodName} {bytes : ByteArray} {ret : Option FieldType} {hh : List (Nat × Nat × Nat × Nat)} {Ts ws ws' : List Cond} {rm : Room} (n : Nat) (ht : ∀ w ∈ Ts, w.before args s = true) (hT : GoodIn Ts (va_wsS own index y ws)) (hw : ws = Cond.codeWith y bytes maxL ret hh :: ws') (hrc : rm.cells = mc) (hrs : rm.slots = ms)
    (hd : y.cls ≠ "java/lang/invoke/MethodHandle" ∧ y.cls ≠ "java/lang/invoke/VarHandle" ∧ (parseMethodDescriptor y.desc).map (fun d => d.parameters.length) = some n) (hR : rm.frames + 1 ≤ R.frames ∧ 8 + (maxL + 11) + rm.locals ≤ R.locals) :
    vx_CSW R s args own index y bytes maxL ret hh ws rm mc ms n := by
  have ok : ∀ w ∈ va_wsS own index y ws, w.before args s = true := fun w h => ht w (hT w h).1
  have hG : GoodIn Ts ws := fun w h => hT w (by unfold va_wsS; exact List.mem_append_right _ h)
  have hc : Cond.codeWith y bytes maxL ret hh ∈ ws := by rw [hw]; exact List.mem_cons_self
  refine ⟨⟨hrc, hrs, hR.1, hR.2, pay_in ht hG, hc⟩, ht _ (hG _ hc).1, ok _ (by simp [va_wsS]), ⟨hd.1, hd.2.1⟩, fun sig h => ?_, ok _ (by simp [va_wsS]), ok _ (by simp [va_wsS])⟩
  have h2 := hd.2.2
  rw [h] at h2
  exact (Option.some.inj h2).symm
theorem vx_callSW (X : Stand p l e R s m args below meth c T locs cells slots) (hexec : p.tables.exec = Jvm.exec) {own : String} {index : Nat} {y : MethodName} {bytes : ByteArray} {maxL : Nat} {ret : Option FieldType} {hh : List (Nat × Nat × Nat × Nat)}
    (hown : s.vm.findClass own = some m.cls) (hlink : (Cond.methodLink own index y).before args s = true) (hstat : (Cond.static y).before args s = true) (hinit : (Cond.initialized y.cls).before args s = true)
    (hcode : (Cond.codeWith y bytes maxL ret hh).before args s = true) (hy : y.cls ≠ "java/lang/invoke/MethodHandle" ∧ y.cls ≠ "java/lang/invoke/VarHandle")
    {W9 : Nat} {Pre : Pt → Array Value → Prop} {Post : Pt → Array Value → Option Value → Pt → Prop} (hK : Back l R p e below s args y 3 W9 Pre Post)
    {g : JFrame} (hg : g.method = m) (hsize : g.locals.size = c.maxLocals) {argsL rest : List Value} (hlen : ∀ sig, parseMethodDescriptor y.desc = some sig → argsL.length = sig.parameters.length)
    (hstack : g.stack = argsL.reverse ++ rest) (hW : 2 * g.monitorRoom + (rest.map fun v => v.category).sum ≤ W9) (hdg : decode c.code g.pc = .ok (.invokestatic index, 3))
    (hpre : ∀ vm₁, s.WarmedH vm₁ → Pre ⟨T.setVm vm₁, locs, cells, slots⟩ argsL.toArray) :
    ∃ (v : Option Value) (vm₁ : Vm) (B : Pt), s.WarmedH vm₁ ∧ Stand p l e R s m args below meth c B.U B.locs B.cells B.slots ∧ Post ⟨T.setVm vm₁, locs, cells, slots⟩ argsL.toArray v B ∧
      ∀ target, Steps p.tables e below (B.U.setTop { g with pc := g.pc + 3, stack := v.toList ++ rest }) target → Steps p.tables e below (T.setTop g) target := by
  obtain ⟨mk, methM, cM, hnamed, hmethM, -, -, -, -, -, -, hsigM⟩ := Cond.codeWith_spec hcode
  have hstatic : methM.isStatic = true := Cond.static_spec hnamed hmethM hstat
  obtain ⟨kP, hkP, -⟩ := className_of_methodNamed hnamed
  have hinitP : kP.init = .initialized := Cond.initialized_spec (findClass_of_methodNamed hnamed) hkP hinit
  obtain ⟨vm₁, X₁, hstep₁⟩ := X.invokestatic hexec hown hlink hnamed hmethM hstatic hkP hinitP hy (g := g) hg (argsL := argsL) (rest := rest) (hlen _ hsigM) hstack hdg
  obtain ⟨v, B, X', hpost, hsteps⟩ := hK m meth c ⟨T.setVm vm₁, locs, cells, slots⟩ { g with stack := rest } (.invokestatic index) mk argsL.toArray X₁ hg hsize hdg hW (X₁.named hnamed) (hpre vm₁ X₁.warmed)
  exact ⟨v, vm₁, B, X₁.warmed, X', hpost, fun target h => hstep₁ _ fun acts => by rw [doInvoke_state]; exact hsteps.trans h⟩
theorem vx_runSW {y : MethodName} {bytes cc : ByteArray} {maxL nL mc ms n index : Nat} {ret : Option FieldType} {hh : List (Nat × Nat × Nat × Nat)} {ws : List Cond} {rm : Room} {Pc : Array Value → State → Prop} {Qc : Array Value → State → Outcome → State → Prop} {free : Addr → Prop} {Ts : List Cond} {own : String} {As rest : List Value} {g : JFrame}
    (S : CallFix p m c cc nL s args Ts own) (hM : Met l y ws rm Pc Qc mc ms free) (cw : vx_CSW R s args own index y bytes maxL ret hh ws rm mc ms n) (hp : PreS s H Pc As)
    (hg : g.method = m) (hn : As.length = n) (hsize : g.locals.size = nL) (hstack : g.stack = As.reverse ++ rest) (hW : 2 * g.monitorRoom + (rest.map fun v => v.category).sum ≤ 8) (hdg : decode cc g.pc = .ok (.invokestatic index, 3)) (hf : cells + mc ≤ R.cells ∧ slots + ms ≤ R.slots) :
    va_Run p l e R s m args below meth c H locs cells slots mc ms g rest (Qc As.toArray) (free) := by
  obtain ⟨⟨hrc, hrs, hfr, hlo, hws, hcw⟩, hcode, hini, hy, hlen, hl, hstt⟩ := cw
  have hK : Back l R p e below s args y 3 8 (PreOf R mc ms Pc) (PostOf Qc mc ms free) := va_backW (hh := hh) (bytes := bytes) (maxL := maxL) (ret := ret) hM hp.1 hrc hrs hfr hlo hws hcw (fun a' U hW => word_at hW (Or.inl (by first | rfl | simp [Cond.onTables, Cond.keeps, Cond.steady])) hini)
  obtain ⟨hx, hb, hml, ho, -⟩ := S
  intro T hT X
  obtain ⟨v, vm₁, ⟨U', l2, c2, s2⟩, hW₁, X', ⟨g', mk, t, L, e1, e2, hq, h1, hL, h2, h3⟩, st⟩ := vx_callSW X hx (hh := hh) (bytes := bytes) (maxL := maxL) (ret := ret) ho hl hstt hini hcode hy hK hg (hsize.trans hml.symm) (argsL := As) (rest := rest) (fun sig h => hn.trans (hlen sig h)) hstack hW (by rw [hb]; exact hdg)
    (fun vm₁ hW₁ => ⟨hf.1, hf.2, hp.2 (T.setVm vm₁) hT hW₁⟩)
  dsimp only [Pt.U, Pt.locs, Pt.cells, Pt.slots] at X' e1 e2 h1 h2 h3 st
  subst h1; subst h2; subst h3
  exact ⟨v, (T.setVm vm₁).calling g' mk As.toArray, t, U', L, hT, X', hL, e1, e2, hq, st⟩
/-- not caught here, past rows that name other classes: it goes on to the caller -/
theorem vx_outP {p : Program} {l : Launch} {e : Env} {R : Room} {s : State} {m : MethodId} {args : Array Value} {below : List Frame} {meth : Method} {c : Code} {H : Heap} {locs : List Loc} {cells slots : Nat} {free : Addr → Prop} {ls : Array Slot} {rest : List Value} {Qc : Array Value → State → Outcome → State → Prop} {XC : String → State → State → Prop}
    {pc : Nat} {own E : String} {ce : Cell} {q : Addr} {mc ms : Nat} (hown : s.vm.findClass own = some m.cls) (hlocks : meth.locks = false)
    (hpass : ∀ z ∈ c.exceptionTable.toList, covers z pc = false ∨ (z.catchType ≠ 0 ∧ ∃ nm : String, (Cond.classLink own z.catchType nm).before args s = true ∧ va_Nc E nm s)) (hcell : H[q]? = some ce) (hv : ce.vm = .none) (hcl : s.vm.findClass E = some ce.cls)
    (hx : ∀ t : State, t.heap = H → s.vm.Alike t.vm → XC E s t) (hf : ∀ z ∈ locs, free z.base) (hc : cells ≤ mc) (hs : slots ≤ ms) :
    vx_W p l e R s m args below meth c H locs cells slots (vx_MQ below Qc XC args s mc ms free) (F0 m pc ls rest) q := by
  intro T hT X
  have hpl : e.platform.magicAccessors = ({} : Platform).magicAccessors := by rw [X.admits.platform]
  obtain ⟨vm', hW', X', st⟩ := X.outThrough hlocks q (g := F0 m pc ls rest) rfl rfl rfl (cell := ce) (by rw [hT]; exact hcell) (by rw [hv]; rfl)
    (by obtain ⟨k9, h9, -⟩ := Vm.findClass_spec hcl; exact ⟨k9, h9⟩) (fun z hz => by
      rcases hpass z hz with h | ⟨hz0, nm, hl1, hn1⟩
      · exact Or.inl h
      · obtain ⟨c6, hc6, hcl6⟩ := Cond.classLink_spec hown hl1 e.platform hpl
        obtain ⟨a8, b8, h1, h2, h3⟩ := hn1
        cases Option.some.inj (h1.symm.trans hcl)
        cases Option.some.inj (h2.symm.trans hc6)
        exact Or.inr ⟨hz0, _, hcl6, h3⟩)
  obtain ⟨g₀, hfr⟩ := X'.frames_eq
  have hcell9 : ((T.setVm vm').setFrames (.throwing q :: below)).heap[q]? = some ce := by
    show T.heap[q]? = some ce
    rw [hT]; exact hcell
  have hend : Ended ((T.setVm vm').setFrames (.throwing q :: below)) below (.threw q) := State.frames_setFrames _ (State.cur_lt_of_frames hfr)
  refine ⟨(T.setVm vm').setFrames (.throwing q :: below), ?_, .threw q, X'.here.running, hend, Or.inr ⟨q, rfl, E, ce, locs, hx _ hT (X'.ends _).1.alike, hcell9, hv, hcl, (X'.ends _).1, (X'.ends _).2.mono hc hs, hf⟩⟩
  rw [X.pushThrowing_eq]
  exact st
/-- a thing of a world lies in the heap -/
theorem vx_lt {D : va_G} {cl : List vw_C} {ws : va_W} {H1 : Heap} (h : va_P D cl ws H1) {k : Nat} {q : Nat × va_E} (hk : ws[k]? = some q) : q.1 < H1.size := (h k q hk).lt
end VXS
/-! ===== END ===== -/
/-! ===== BEGIN methods with a table of their own: called by a name, returning or throwing ===== -/
section VXH
/-! vx_backW, vx_callVX, vx_callSX, vx_callVW, vx_runVW, vx_runVX, vx_runSX, vx_ofWH follow the same proofs as their sisters above (Free/Laws.lean, Shelf42/LK1.lean); vx_outP calls Shelf42/NT130.lean (outThrough). -/
section
variable {l : Launch} {R : Room} {p : Program} {e : Env} {below : List Frame} {s : State} {sargs : Array Value} {y : MethodName} {len W9 : Nat}
theorem vx_backW {ws : List Cond} {rm : Room} {Pc : Array Value → State → Prop} {Qc : Array Value → State → Outcome → State → Prop} {XC : String → State → State → Prop} {mc ms : Nat} {free : Addr → Prop} {bytes : ByteArray} {maxL : Nat} {ret : Option FieldType} {hh : List (Nat × Nat × Nat × Nat)}
    (hM : vx_Met l y ws rm Pc Qc XC mc ms free) (hblind : FrameBlind Pc) (hrc : rm.cells = mc) (hrs : rm.slots = ms)
    (hframes : rm.frames + 1 ≤ R.frames) (hlocals : W9 + (maxL + 11) + rm.locals ≤ R.locals)
    (hws : ∀ w ∈ ws, ∀ a' U, s.WarmedH U.vm → w.before a' U = true) (hcode : Cond.codeWith y bytes maxL ret hh ∈ ws) (hinit : ∀ a' U, s.WarmedH U.vm → (Cond.initialized y.cls).before a' U = true) :
    vx_Back l R p e below s sargs y len W9 (PreOf R mc ms Pc) (PostOf Qc mc ms free) (vx_Post XC mc ms free) := by
  intro m meth c A g ig mk a X hg hsize hdg hW hn hp
  have h1 : (headSpec ws rm).pre.before a A.U = true := atoms_intro fun w hw => hws w hw _ _ X.warmed
  have h2 : (Cond.codeWith y bytes maxL ret hh).before a A.U = true := hws _ hcode _ _ X.warmed
  have h3 : (Cond.initialized y.cls).before a A.U = true := hinit _ _ X.warmed
  have h4 : A.cells + (headSpec ws rm).room.cells ≤ R.cells := by rw [show (headSpec ws rm).room.cells = mc from hrc]; exact hp.1
  have h5 : A.slots + (headSpec ws rm).room.slots ≤ R.slots := by rw [show (headSpec ws rm).room.slots = ms from hrs]; exact hp.2.1
  have hPc : Pc a (A.U.calling g mk a) := hblind _ _ _ _ hp.2.2
  obtain ⟨U, Ls, c0, s0⟩ := A
  dsimp only [Pt.U, Pt.locs, Pt.cells, Pt.slots] at h1 h2 h3 h4 h5 X hn hPc ⊢
  obtain ⟨m9, methY, cY, hn9, hmY, hcY, -, hlY, -⟩ := Cond.codeWith_spec h2
  cases Option.some.inj (hn9.symm.trans hn)
  obtain ⟨kY, hkY, -⟩ := className_of_methodNamed hn
  have hinitY : kY.init = .initialized := Cond.initialized_spec (findClass_of_methodNamed hn) hkY h3
  have h : At U g.method c below := by rw [hg]; exact X.here
  have hlocals9 : W9 + (maxL + 11) + (headSpec ws rm).room.locals ≤ R.locals := hlocals
  have happ : (headSpec ws rm).appliesLoose y e.platform (U.calling g mk a) = true :=
    Spec.appliesLoose_calling (g := g) h hdg hn hkY hinitY
      (X.room_calling (g := g) (R' := (headSpec ws rm).room) hsize hmY hcY hframes (by rw [hlY]; omega) h4 h5) h1
  obtain ⟨mid, hmid⟩ := h.above
  have hfr : (U.setTop g).frames = (.java g :: mid) ++ below := by rw [State.frames_setTop' g h.top, hmid]; rfl
  obtain ⟨o, s₂, hsteps, -, hend, hq⟩ := Steps.callFree hM p X.admits X.cas X.clock (acts := []) hfr happ hPc trivial
  have hq' : vx_Q Qc XC mc ms free a (U.calling g mk a) o s₂ := hq
  rw [State.frames_setTop' g h.top] at hend
  obtain ⟨g₀, hg0⟩ := Option.isSome_iff_exists.mp h.top
  obtain ⟨r, hr⟩ := State.topJava?_eq_some.mp hg0
  have hr' : (({ U with heap := s₂.heap, slotsUsed := s₂.slotsUsed } : State).setVm s₂.vm).frames = .java g₀ :: r := hr
  rcases hq' with ⟨hqc, L, hfe, hL⟩ | ⟨q, rfl, E, ce, L, hx, hce, hcv, hcl, hW₂, hsm, hL⟩
  · obtain ⟨⟨v, rfl⟩, hW₂, e2, q2, q3, q4, q5, q6⟩ := id hfe
    have e3 : s₂ = ({ (U.calling g mk a).setFrames s₂.frames with heap := s₂.heap, slotsUsed := s₂.slotsUsed } : State).setVm s₂.vm := by
      have : s₂ = ({ s₂ with vm := (U.calling g mk a).vm } : State).setVm s₂.vm := rfl
      rw [e2] at this
      exact this
    obtain ⟨c₂, i₂, len₂, hc₂, hd₂, hf₂⟩ := hend
    have hW' : U.WarmedH s₂.vm := hW₂
    have hcc : c₂ = c := by
      have h1 : s₂.code? g.method = U.code? g.method := by
        rw [State.code?_eq, State.code?_eq, hW'.alike.method?]
      exact Option.some.inj (hc₂.symm.trans (h1.trans h.code))
    subst hcc
    have hlen : len₂ = len := by rw [hdg] at hd₂; cases hd₂; rfl
    subst hlen
    have hs₂ : s₂ = (({ U with heap := s₂.heap, slotsUsed := s₂.slotsUsed } : State).setVm s₂.vm).setTop { g with pc := g.pc + len₂, stack := v.toList ++ g.stack } := by
      refine e3.trans ?_
      rw [hf₂, State.calling_eq h.top, State.setFrames_setFrames, State.setTop_of_frames _ hr', hr]
      rfl
    have hsame : U.sameButNew ({ U with heap := s₂.heap, slotsUsed := s₂.slotsUsed } : State) L mc ms := by
      refine ⟨?_, q2, q3, q4, q5, q6⟩
      obtain ⟨t, ht, -⟩ := State.frames_cons hr
      show ({ U with heap := s₂.heap, slotsUsed := s₂.slotsUsed } : State) = { U.setFrames U.frames with heap := s₂.heap, slotsUsed := s₂.slotsUsed }
      rw [State.setFrames_self ht]
    subst hg
    refine Or.inl ⟨v, ⟨(({ U with heap := s₂.heap, slotsUsed := s₂.slotsUsed } : State).setVm s₂.vm), Ls ++ L, c0 + mc, s0 + ms⟩,
      ⟨X.admits, X.cas, X.clock, X.frames, X.room, X.hears, X.method, X.code, (X.here.setHeapUsed s₂.heap s₂.slotsUsed).setVm hW'.alike, X.tail, State.WarmedH.trans X.warmed hW', X.limits, X.bytes, X.same.trans (hsame.setVm s.vm)⟩,
      ⟨g, mk, s₂, L, rfl, rfl, hqc, rfl, hL, rfl, rfl⟩, ?_⟩
    show Steps p.tables e below _ ((({ U with heap := s₂.heap, slotsUsed := s₂.slotsUsed } : State).setVm s₂.vm).setTop { g with pc := g.pc + len₂, stack := v.toList ++ g.stack })
    rw [← hs₂]
    exact hsteps
  · obtain ⟨e2, q2, q3, q4, q5, q6⟩ := id hsm
    have e3 : s₂ = ({ (U.calling g mk a).setFrames s₂.frames with heap := s₂.heap, slotsUsed := s₂.slotsUsed } : State).setVm s₂.vm := by
      have : s₂ = ({ s₂ with vm := (U.calling g mk a).vm } : State).setVm s₂.vm := rfl
      rw [e2] at this
      exact this
    have hf₂ : s₂.frames = .throwing q :: .java g :: U.frames.tail := hend
    have hW' : U.WarmedH s₂.vm := hW₂
    have hs₂ : s₂ = ((({ U with heap := s₂.heap, slotsUsed := s₂.slotsUsed } : State).setVm s₂.vm).setTop g).pushFrame (.throwing q) := by
      refine e3.trans ?_
      rw [hf₂, State.calling_eq h.top, State.setFrames_setFrames, State.pushFrame, State.frames_setTop _ hr', State.setTop_of_frames _ hr', State.setFrames_setFrames, hr]
      rfl
    have hsame : U.sameButNew ({ U with heap := s₂.heap, slotsUsed := s₂.slotsUsed } : State) L mc ms := by
      refine ⟨?_, q2, q3, q4, q5, q6⟩
      obtain ⟨t, ht, -⟩ := State.frames_cons hr
      show ({ U with heap := s₂.heap, slotsUsed := s₂.slotsUsed } : State) = { U.setFrames U.frames with heap := s₂.heap, slotsUsed := s₂.slotsUsed }
      rw [State.setFrames_self ht]
    subst hg
    refine Or.inr ⟨q, ⟨(({ U with heap := s₂.heap, slotsUsed := s₂.slotsUsed } : State).setVm s₂.vm), Ls ++ L, c0 + mc, s0 + ms⟩,
      ⟨X.admits, X.cas, X.clock, X.frames, X.room, X.hears, X.method, X.code, (X.here.setHeapUsed s₂.heap s₂.slotsUsed).setVm hW'.alike, X.tail, State.WarmedH.trans X.warmed hW', X.limits, X.bytes, X.same.trans (hsame.setVm s.vm)⟩,
      ⟨g, mk, s₂, L, E, ce, rfl, rfl, hx, hce, hcv, hcl, rfl, hL, rfl, rfl⟩, ?_⟩
    show Steps p.tables e below _ (((({ U with heap := s₂.heap, slotsUsed := s₂.slotsUsed } : State).setVm s₂.vm).setTop g).pushFrame (.throwing q))
    rw [← hs₂]
    exact hsteps
end
variable {p : Program} {l : Launch} {e : Env} {R : Room} {s : State} {m : MethodId} {args : Array Value} {below : List Frame} {meth : Method} {c : Code} {T : State} {H : Heap} {locs : List Loc} {cells slots : Nat}
theorem vx_callVX (X : Stand p l e R s m args below meth c T locs cells slots) (hexec : p.tables.exec = Jvm.exec) {own C : String} {index : Nat} {y : MethodName} {bytes : ByteArray} {maxL : Nat} {ret : Option FieldType} {hh : List (Nat × Nat × Nat × Nat)}
    (hown : s.vm.findClass own = some m.cls) (hlink : (Cond.methodLink own index y).before args s = true) (hinst : (Cond.instanceMethod y).before args s = true) (hsel : (Cond.selects C y y).before args s = true)
    (hcode : (Cond.codeWith y bytes maxL ret hh).before args s = true) (hy : y.cls ≠ "java/lang/invoke/MethodHandle" ∧ y.cls ≠ "java/lang/invoke/VarHandle")
    {W9 : Nat} {Pre : Pt → Array Value → Prop} {Post : Pt → Array Value → Option Value → Pt → Prop} {PostX : Pt → Array Value → Addr → Pt → Prop} (hK : vx_Back l R p e below s args y 3 W9 Pre Post PostX)
    {b : Addr} {cellB : Cell} (hcell : T.heap[b]? = some cellB) (hobj : cellB.vm.isStatics = false) (hcls : s.vm.findClass C = some cellB.cls)
    {g : JFrame} (hg : g.method = m) (hsize : g.locals.size = c.maxLocals) {argsL rest : List Value} (hlen : ∀ sig, parseMethodDescriptor y.desc = some sig → argsL.length = sig.parameters.length)
    (hstack : g.stack = argsL.reverse ++ .ref b :: rest) (hW : 2 * g.monitorRoom + (rest.map fun v => v.category).sum ≤ W9) (hdg : decode c.code g.pc = .ok (.invokevirtual index, 3))
    (hpre : ∀ vm₁, s.WarmedH vm₁ → Pre ⟨T.setVm vm₁, locs, cells, slots⟩ (Value.ref b :: argsL).toArray) :
    (∃ (v : Option Value) (vm₁ : Vm) (B : Pt), s.WarmedH vm₁ ∧ Stand p l e R s m args below meth c B.U B.locs B.cells B.slots ∧ Post ⟨T.setVm vm₁, locs, cells, slots⟩ (Value.ref b :: argsL).toArray v B ∧
      ∀ target, Steps p.tables e below (B.U.setTop { g with pc := g.pc + 3, stack := v.toList ++ rest }) target → Steps p.tables e below (T.setTop g) target) ∨
    (∃ (q : Addr) (vm₁ : Vm) (B : Pt), s.WarmedH vm₁ ∧ Stand p l e R s m args below meth c B.U B.locs B.cells B.slots ∧ PostX ⟨T.setVm vm₁, locs, cells, slots⟩ (Value.ref b :: argsL).toArray q B ∧
      Steps p.tables e below (T.setTop g) ((B.U.setTop { g with stack := rest }).pushFrame (.throwing q))) := by
  obtain ⟨mk, methM, hnamed, hmethM, hstM, habM⟩ := Cond.instanceMethod_spec hinst
  obtain ⟨m8, methM', cM, hn8, hmethM', -, -, -, -, -, -, hsigM⟩ := Cond.codeWith_spec hcode
  cases Option.some.inj (hn8.symm.trans hnamed)
  cases hmethM.symm.trans hmethM'
  obtain ⟨c2, r2, m2, q1, q2, q3, q4, kP, hkP, hkPi⟩ := Cond.selects_spec hsel
  cases hcls.symm.trans q1
  cases (State.methodFound?_of_named hnamed hy).symm.trans q2
  cases hnamed.symm.trans q3
  have hselP : selectMethod e.platform s.vm cellB.cls mk = .method mk := by rw [Launch.admits_selectMethod X.admits]; exact q4
  obtain ⟨vm₁, X₁, hstep₁⟩ := X.invokevirtual hexec hown hlink hnamed hmethM hstM hkP hkPi hy (a := b) (cell := cellB) hcell
    (fun z h => by rw [h] at hobj; cases hobj) hselP hmethM habM hkP hkPi (g := g) hg (argsL := argsL) (rest := rest) (hlen _ hsigM) hstack hdg
  rcases hK m meth c ⟨T.setVm vm₁, locs, cells, slots⟩ { g with stack := rest } (.invokevirtual index) mk (Value.ref b :: argsL).toArray X₁ hg hsize hdg hW (X₁.named hnamed) (hpre vm₁ X₁.warmed) with ⟨v, B, X', hpost, hsteps⟩ | ⟨q, B, X', hpost, hsteps⟩
  · exact Or.inl ⟨v, vm₁, B, X₁.warmed, X', hpost, fun target h => hstep₁ _ fun acts => by rw [doInvoke_state]; exact hsteps.trans h⟩
  · exact Or.inr ⟨q, vm₁, B, X₁.warmed, X', hpost, hstep₁ _ fun acts => by rw [doInvoke_state]; exact hsteps⟩
theorem vx_callSX (X : Stand p l e R s m args below meth c T locs cells slots) (hexec : p.tables.exec = Jvm.exec) {own : String} {index : Nat} {y : MethodName} {bytes : ByteArray} {maxL : Nat} {ret : Option FieldType} {hh : List (Nat × Nat × Nat × Nat)}
    (hown : s.vm.findClass own = some m.cls) (hlink : (Cond.methodLink own index y).before args s = true) (hstat : (Cond.static y).before args s = true) (hinit : (Cond.initialized y.cls).before args s = true)
    (hcode : (Cond.codeWith y bytes maxL ret hh).before args s = true) (hy : y.cls ≠ "java/lang/invoke/MethodHandle" ∧ y.cls ≠ "java/lang/invoke/VarHandle")
    {W9 : Nat} {Pre : Pt → Array Value → Prop} {Post : Pt → Array Value → Option Value → Pt → Prop} {PostX : Pt → Array Value → Addr → Pt → Prop} (hK : vx_Back l R p e below s args y 3 W9 Pre Post PostX)
    {g : JFrame} (hg : g.method = m) (hsize : g.locals.size = c.maxLocals) {argsL rest : List Value} (hlen : ∀ sig, parseMethodDescriptor y.desc = some sig → argsL.length = sig.parameters.length)
    (hstack : g.stack = argsL.reverse ++ rest) (hW : 2 * g.monitorRoom + (rest.map fun v => v.category).sum ≤ W9) (hdg : decode c.code g.pc = .ok (.invokestatic index, 3))
    (hpre : ∀ vm₁, s.WarmedH vm₁ → Pre ⟨T.setVm vm₁, locs, cells, slots⟩ argsL.toArray) :
    (∃ (v : Option Value) (vm₁ : Vm) (B : Pt), s.WarmedH vm₁ ∧ Stand p l e R s m args below meth c B.U B.locs B.cells B.slots ∧ Post ⟨T.setVm vm₁, locs, cells, slots⟩ argsL.toArray v B ∧
      ∀ target, Steps p.tables e below (B.U.setTop { g with pc := g.pc + 3, stack := v.toList ++ rest }) target → Steps p.tables e below (T.setTop g) target) ∨
    (∃ (q : Addr) (vm₁ : Vm) (B : Pt), s.WarmedH vm₁ ∧ Stand p l e R s m args below meth c B.U B.locs B.cells B.slots ∧ PostX ⟨T.setVm vm₁, locs, cells, slots⟩ argsL.toArray q B ∧
      Steps p.tables e below (T.setTop g) ((B.U.setTop { g with stack := rest }).pushFrame (.throwing q))) := by
  obtain ⟨mk, methM, cM, hnamed, hmethM, -, -, -, -, -, -, hsigM⟩ := Cond.codeWith_spec hcode
  have hstatic : methM.isStatic = true := Cond.static_spec hnamed hmethM hstat
  obtain ⟨kP, hkP, -⟩ := className_of_methodNamed hnamed
  have hinitP : kP.init = .initialized := Cond.initialized_spec (findClass_of_methodNamed hnamed) hkP hinit
  obtain ⟨vm₁, X₁, hstep₁⟩ := X.invokestatic hexec hown hlink hnamed hmethM hstatic hkP hinitP hy (g := g) hg (argsL := argsL) (rest := rest) (hlen _ hsigM) hstack hdg
  rcases hK m meth c ⟨T.setVm vm₁, locs, cells, slots⟩ { g with stack := rest } (.invokestatic index) mk argsL.toArray X₁ hg hsize hdg hW (X₁.named hnamed) (hpre vm₁ X₁.warmed) with ⟨v, B, X', hpost, hsteps⟩ | ⟨q, B, X', hpost, hsteps⟩
  · exact Or.inl ⟨v, vm₁, B, X₁.warmed, X', hpost, fun target h => hstep₁ _ fun acts => by rw [doInvoke_state]; exact hsteps.trans h⟩
  · exact Or.inr ⟨q, vm₁, B, X₁.warmed, X', hpost, hstep₁ _ fun acts => by rw [doInvoke_state]; exact hsteps⟩
theorem vx_callVW (X : Stand p l e R s m args below meth c T locs cells slots) (hexec : p.tables.exec = Jvm.exec) {own C : String} {index : Nat} {y : MethodName} {bytes : ByteArray} {maxL : Nat} {ret : Option FieldType} {hh : List (Nat × Nat × Nat × Nat)}
    (hown : s.vm.findClass own = some m.cls) (hlink : (Cond.methodLink own index y).before args s = true) (hinst : (Cond.instanceMethod y).before args s = true) (hsel : (Cond.selects C y y).before args s = true)
    (hcode : (Cond.codeWith y bytes maxL ret hh).before args s = true) (hy : y.cls ≠ "java/lang/invoke/MethodHandle" ∧ y.cls ≠ "java/lang/invoke/VarHandle")
    {W9 : Nat} {Pre : Pt → Array Value → Prop} {Post : Pt → Array Value → Option Value → Pt → Prop} (hK : Back l R p e below s args y 3 W9 Pre Post)
    {b : Addr} {cellB : Cell} (hcell : T.heap[b]? = some cellB) (hobj : cellB.vm.isStatics = false) (hcls : s.vm.findClass C = some cellB.cls)
    {g : JFrame} (hg : g.method = m) (hsize : g.locals.size = c.maxLocals) {argsL rest : List Value} (hlen : ∀ sig, parseMethodDescriptor y.desc = some sig → argsL.length = sig.parameters.length)
    (hstack : g.stack = argsL.reverse ++ .ref b :: rest) (hW : 2 * g.monitorRoom + (rest.map fun v => v.category).sum ≤ W9) (hdg : decode c.code g.pc = .ok (.invokevirtual index, 3))
    (hpre : ∀ vm₁, s.WarmedH vm₁ → Pre ⟨T.setVm vm₁, locs, cells, slots⟩ (Value.ref b :: argsL).toArray) :
    ∃ (v : Option Value) (vm₁ : Vm) (B : Pt), s.WarmedH vm₁ ∧ Stand p l e R s m args below meth c B.U B.locs B.cells B.slots ∧ Post ⟨T.setVm vm₁, locs, cells, slots⟩ (Value.ref b :: argsL).toArray v B ∧
      ∀ target, Steps p.tables e below (B.U.setTop { g with pc := g.pc + 3, stack := v.toList ++ rest }) target → Steps p.tables e below (T.setTop g) target := by
  obtain ⟨mk, methM, hnamed, hmethM, hstM, habM⟩ := Cond.instanceMethod_spec hinst
  obtain ⟨m8, methM', cM, hn8, hmethM', -, -, -, -, -, -, hsigM⟩ := Cond.codeWith_spec hcode
  cases Option.some.inj (hn8.symm.trans hnamed)
  cases hmethM.symm.trans hmethM'
  obtain ⟨c2, r2, m2, q1, q2, q3, q4, kP, hkP, hkPi⟩ := Cond.selects_spec hsel
  cases hcls.symm.trans q1
  cases (State.methodFound?_of_named hnamed hy).symm.trans q2
  cases hnamed.symm.trans q3
  have hselP : selectMethod e.platform s.vm cellB.cls mk = .method mk := by rw [Launch.admits_selectMethod X.admits]; exact q4
  obtain ⟨vm₁, X₁, hstep₁⟩ := X.invokevirtual hexec hown hlink hnamed hmethM hstM hkP hkPi hy (a := b) (cell := cellB) hcell
    (fun z h => by rw [h] at hobj; cases hobj) hselP hmethM habM hkP hkPi (g := g) hg (argsL := argsL) (rest := rest) (hlen _ hsigM) hstack hdg
  obtain ⟨v, B, X', hpost, hsteps⟩ := hK m meth c ⟨T.setVm vm₁, locs, cells, slots⟩ { g with stack := rest } (.invokevirtual index) mk (Value.ref b :: argsL).toArray X₁ hg hsize hdg hW (X₁.named hnamed) (hpre vm₁ X₁.warmed)
  exact ⟨v, vm₁, B, X₁.warmed, X', hpost, fun target h => hstep₁ _ fun acts => by rw [doInvoke_state]; exact hsteps.trans h⟩
abbrev vx_CVW (R : Room) (s : State) (args : Array Value) (own C : String) (index : Nat) (y : MethodName) (bytes : ByteArray) (maxL : Nat) (ret : Option FieldType) (hh : List (Nat × Nat × Nat × Nat)) (ws : List Cond) (rm : Room) (mc ms n : Nat) : Prop :=
  (rm.cells = mc ∧ rm.slots = ms ∧ rm.frames + 1 ≤ R.frames ∧ 8 + (maxL + 11) + rm.locals ≤ R.locals ∧ (∀ w ∈ ws, ∀ (a' : Array Value) (U : State), s.WarmedH U.vm → w.before a' U = true) ∧ Cond.codeWith y bytes maxL ret hh ∈ ws) ∧
  (Cond.codeWith y bytes maxL ret hh).before args s = true ∧ (Cond.initialized y.cls).before args s = true ∧ (y.cls ≠ "java/lang/invoke/MethodHandle" ∧ y.cls ≠ "java/lang/invoke/VarHandle") ∧
  (∀ sig, parseMethodDescriptor y.desc = some sig → n = sig.parameters.length) ∧ (Cond.methodLink own index y).before args s = true ∧ (Cond.instanceMethod y).before args s = true ∧ (Cond.selects C y y).before args s = true
theorem vx_cwVW {own C : String} {index maxL mc ms : Nat} {y : MethodName} {bytes : ByteArray} {ret : Option FieldType} {hh : List (Nat × Nat × Nat × Nat)} {Ts ws ws' : List Cond} {rm : Room} (n : Nat) (ht : ∀ w ∈ Ts, w.before args s = true) (hT : GoodIn Ts (wsV own index C y ws)) (hw : ws = Cond.codeWith y bytes maxL ret hh :: ws') (hrc : rm.cells = mc) (hrs : rm.slots = ms)
    (hd : y.cls = C ∧ y.cls ≠ "java/lang/invoke/MethodHandle" ∧ y.cls ≠ "java/lang/invoke/VarHandle" ∧ (parseMethodDescriptor y.desc).map (fun d => d.parameters.length) = some n) (hR : rm.frames + 1 ≤ R.frames ∧ 8 + (maxL + 11) + rm.locals ≤ R.locals) :
    vx_CVW R s args own C index y bytes maxL ret hh ws rm mc ms n := by
  obtain ⟨hC, hd⟩ := hd
  subst hC
  have ok : ∀ w ∈ wsV own index y.cls y ws, w.before args s = true := fun w h => ht w (hT w h).1
  have hG : GoodIn Ts ws := fun w h => hT w (by unfold wsV; exact List.mem_append_right _ h)
  have hc : Cond.codeWith y bytes maxL ret hh ∈ ws := by rw [hw]; exact List.mem_cons_self
  refine ⟨⟨hrc, hrs, hR.1, hR.2, pay_in ht hG, hc⟩, ht _ (hG _ hc).1, ok _ (by simp [wsV]), ⟨hd.1, hd.2.1⟩, fun sig h => ?_, ok _ (by simp [wsV]), ok _ (by simp [wsV]), ok _ (by simp [wsV])⟩
  have h2 := hd.2.2
  rw [h] at h2
  exact (Option.some.inj h2).symm
theorem vx_runVW {y : MethodName} {bytes cc : ByteArray} {maxL nL mc ms n index : Nat} {ret : Option FieldType} {hh : List (Nat × Nat × Nat × Nat)} {ws : List Cond} {rm : Room} {Pc : Array Value → State → Prop} {Qc : Array Value → State → Outcome → State → Prop} {free : Addr → Prop} {Ts : List Cond} {own C : String} {b : Addr} {As rest : List Value} {g : JFrame}
    (S : CallFix p m c cc nL s args Ts own) (hM : Met l y ws rm Pc Qc mc ms free) (cw : vx_CVW R s args own C index y bytes maxL ret hh ws rm mc ms n) (hp : PreV s H C b Pc As)
    (hg : g.method = m) (hn : As.length = n) (hsize : g.locals.size = nL) (hstack : g.stack = As.reverse ++ .ref b :: rest) (hW : 2 * g.monitorRoom + (rest.map fun v => v.category).sum ≤ 8) (hdg : decode cc g.pc = .ok (.invokevirtual index, 3)) (hf : cells + mc ≤ R.cells ∧ slots + ms ≤ R.slots) :
    va_Run p l e R s m args below meth c H locs cells slots mc ms g rest (Qc (Value.ref b :: As).toArray) free := by
  obtain ⟨⟨hrc, hrs, hfr, hlo, hws, hcw⟩, hcode, hini, hy, hlen, hl, hin, hse⟩ := cw
  have hK : Back l R p e below s args y 3 8 (PreOf R mc ms Pc) (PostOf Qc mc ms free) := va_backW (hh := hh) (bytes := bytes) (maxL := maxL) (ret := ret) hM hp.1 hrc hrs hfr hlo hws hcw (fun a' U hW => word_at hW (Or.inl (by first | rfl | simp [Cond.onTables, Cond.keeps, Cond.steady])) hini)
  obtain ⟨hx, hb, hml, ho, -⟩ := S
  obtain ⟨-, ⟨cellB, hcB, hoB, hclB⟩, hPc⟩ := hp
  intro T hT X
  obtain ⟨v, vm₁, ⟨U', l2, c2, s2⟩, hW₁, X', ⟨g', mk, t, L, e1, e2, hq, h1, hL, h2, h3⟩, st⟩ := vx_callVW X hx (C := C) (hh := hh) (bytes := bytes) (maxL := maxL) (ret := ret) ho hl hin hse hcode hy hK (by rw [hT]; exact hcB) hoB hclB hg (hsize.trans hml.symm) (argsL := As) (rest := rest) (fun sig h => hn.trans (hlen sig h)) hstack hW (by rw [hb]; exact hdg)
    (fun vm₁ hW₁ => ⟨hf.1, hf.2, hPc (T.setVm vm₁) hT hW₁⟩)
  dsimp only [Pt.U, Pt.locs, Pt.cells, Pt.slots] at X' e1 e2 h1 h2 h3 st
  subst h1; subst h2; subst h3
  exact ⟨v, (T.setVm vm₁).calling g' mk (Value.ref b :: As).toArray, t, U', L, hT, X', hL, e1, e2, hq, st⟩
section
variable {y : MethodName} {bytes cc : ByteArray} {maxL nL mc ms n index : Nat} {ret : Option FieldType} {ws : List Cond} {rm : Room} {Pc : Array Value → State → Prop} {Qc : Array Value → State → Outcome → State → Prop} {XC : String → State → State → Prop} {free : Addr → Prop} {Ts : List Cond} {own C : String} {b : Addr} {As rest : List Value} {g : JFrame}
theorem vx_runVX {hh : List (Nat × Nat × Nat × Nat)} (S : CallFix p m c cc nL s args Ts own) (hM : vx_Met l y ws rm Pc Qc XC mc ms free) (cw : vx_CVW R s args own C index y bytes maxL ret hh ws rm mc ms n) (hp : PreV s H C b Pc As)
    (hg : g.method = m) (hn : As.length = n) (hsize : g.locals.size = nL) (hstack : g.stack = As.reverse ++ .ref b :: rest) (hW : 2 * g.monitorRoom + (rest.map fun v => v.category).sum ≤ 8) (hdg : decode cc g.pc = .ok (.invokevirtual index, 3)) (hf : cells + mc ≤ R.cells ∧ slots + ms ≤ R.slots) :
    vx_Run p l e R s m args below meth c H locs cells slots mc ms g rest (Qc (Value.ref b :: As).toArray) XC free := by
  obtain ⟨⟨hrc, hrs, hfr, hlo, hws, hcw⟩, hcode, hini, hy, hlen, hl, hin, hse⟩ := cw
  have hK : vx_Back l R p e below s args y 3 8 (PreOf R mc ms Pc) (PostOf Qc mc ms free) (vx_Post XC mc ms free) := vx_backW (hh := hh) (bytes := bytes) (maxL := maxL) (ret := ret) hM hp.1 hrc hrs hfr hlo hws hcw (fun a' U hW => word_at hW (Or.inl (by first | rfl | simp [Cond.onTables, Cond.keeps, Cond.steady])) hini)
  obtain ⟨hx, hb, hml, ho, -⟩ := S
  obtain ⟨-, ⟨cellB, hcB, hoB, hclB⟩, hPc⟩ := hp
  intro T hT X
  rcases vx_callVX X hx (C := C) (hh := hh) (bytes := bytes) (maxL := maxL) (ret := ret) ho hl hin hse hcode hy hK (by rw [hT]; exact hcB) hoB hclB hg (hsize.trans hml.symm) (argsL := As) (rest := rest) (fun sig h => hn.trans (hlen sig h)) hstack hW (by rw [hb]; exact hdg)
    (fun vm₁ hW₁ => ⟨hf.1, hf.2, hPc (T.setVm vm₁) hT hW₁⟩) with ⟨v, vm₁, ⟨U', l2, c2, s2⟩, hW₁, X', ⟨g', mk, t, L, e1, e2, hq, h1, hL, h2, h3⟩, st⟩ | ⟨q, vm₁, ⟨U', l2, c2, s2⟩, hW₁, X', ⟨g', mk, t, L, E, ce, e1, e2, hq, hce, hcv, hcl, h1, hL, h2, h3⟩, st⟩
  · dsimp only [Pt.U, Pt.locs, Pt.cells, Pt.slots] at X' e1 e2 h1 h2 h3 st
    subst h1; subst h2; subst h3
    exact Or.inl ⟨v, (T.setVm vm₁).calling g' mk (Value.ref b :: As).toArray, t, U', L, hT, X', hL, e1, e2, hq, st⟩
  · dsimp only [Pt.U, Pt.locs, Pt.cells, Pt.slots] at X' e1 e2 h1 h2 h3 st hcl
    subst h1; subst h2; subst h3
    exact Or.inr ⟨q, (T.setVm vm₁).calling g' mk (Value.ref b :: As).toArray, t, U', L, E, ce, hT, X', hL, e1, e2, hq, hce, hcv, vx_cls hW₁ hcl, st⟩
theorem vx_runSX {hh : List (Nat × Nat × Nat × Nat)} (S : CallFix p m c cc nL s args Ts own) (hM : vx_Met l y ws rm Pc Qc XC mc ms free) (cw : vx_CSW R s args own index y bytes maxL ret hh ws rm mc ms n) (hp : PreS s H Pc As)
    (hg : g.method = m) (hn : As.length = n) (hsize : g.locals.size = nL) (hstack : g.stack = As.reverse ++ rest) (hW : 2 * g.monitorRoom + (rest.map fun v => v.category).sum ≤ 8) (hdg : decode cc g.pc = .ok (.invokestatic index, 3)) (hf : cells + mc ≤ R.cells ∧ slots + ms ≤ R.slots) :
    vx_Run p l e R s m args below meth c H locs cells slots mc ms g rest (Qc As.toArray) XC free := by
  obtain ⟨⟨hrc, hrs, hfr, hlo, hws, hcw⟩, hcode, hini, hy, hlen, hl, hstt⟩ := cw
  have hK : vx_Back l R p e below s args y 3 8 (PreOf R mc ms Pc) (PostOf Qc mc ms free) (vx_Post XC mc ms free) := vx_backW (hh := hh) (bytes := bytes) (maxL := maxL) (ret := ret) hM hp.1 hrc hrs hfr hlo hws hcw (fun a' U hW => word_at hW (Or.inl (by first | rfl | simp [Cond.onTables, Cond.keeps, Cond.steady])) hini)
  obtain ⟨hx, hb, hml, ho, -⟩ := S
  intro T hT X
  rcases vx_callSX X hx (hh := hh) (bytes := bytes) (maxL := maxL) (ret := ret) ho hl hstt hini hcode hy hK hg (hsize.trans hml.symm) (argsL := As) (rest := rest) (fun sig h => hn.trans (hlen sig h)) hstack hW (by rw [hb]; exact hdg)
    (fun vm₁ hW₁ => ⟨hf.1, hf.2, hp.2 (T.setVm vm₁) hT hW₁⟩) with ⟨v, vm₁, ⟨U', l2, c2, s2⟩, hW₁, X', ⟨g', mk, t, L, e1, e2, hq, h1, hL, h2, h3⟩, st⟩ | ⟨q, vm₁, ⟨U', l2, c2, s2⟩, hW₁, X', ⟨g', mk, t, L, E, ce, e1, e2, hq, hce, hcv, hcl, h1, hL, h2, h3⟩, st⟩
  · dsimp only [Pt.U, Pt.locs, Pt.cells, Pt.slots] at X' e1 e2 h1 h2 h3 st
    subst h1; subst h2; subst h3
    exact Or.inl ⟨v, (T.setVm vm₁).calling g' mk As.toArray, t, U', L, hT, X', hL, e1, e2, hq, st⟩
  · dsimp only [Pt.U, Pt.locs, Pt.cells, Pt.slots] at X' e1 e2 h1 h2 h3 st hcl
    subst h1; subst h2; subst h3
    exact Or.inr ⟨q, (T.setVm vm₁).calling g' mk As.toArray, t, U', L, E, ce, hT, X', hL, e1, e2, hq, hce, hcv, vx_cls hW₁ hcl, st⟩
end
end VXH
theorem vx_ofWH {l : Launch} {y : MethodName} {ws ws' : List Cond} {rm : Room} {Pc : Array Value → State → Prop} {Qc : Array Value → State → Outcome → State → Prop} {XC : String → State → State → Prop} {mc ms : Nat} {free : Addr → Prop} {cc : ByteArray} {maxL : Nat} {ret : Option FieldType} {hh : List (Nat × Nat × Nat × Nat)}
    (hy : plainName y.cls = true) (hw : ws = Cond.codeWith y cc maxL ret hh :: ws')
    (body : ∀ p e s m args below meth c s₁, BodyLoose p l y (headSpec ws rm) cc maxL ret e s m args below meth c s₁ → c.maxLocals = maxL → Pc args s →
      W p l e (headSpec ws rm).room s m args below meth c s.heap [] 0 0 (vx_MQ below Qc XC args s mc ms free) (entryFrame m args maxL)) : vx_Met l y ws rm Pc Qc XC mc ms free := by
  refine MetFree.of_bodyS (code := cc) (maxLocals := maxL) (ret := ret) hy ?_ ?_
  · intro args s m h hn
    obtain ⟨m9, meth, c, hn9, h1, h2, h3, h4, -, h5, h6, -⟩ := Cond.codeWith_spec (atoms_spec (ws := ws) h _ (by rw [hw]; exact List.mem_cons_self))
    cases hn.symm.trans hn9
    exact ⟨meth, c, h1, h2, h3, h4, h5, h6⟩
  · intro p e s m args below meth c s₁ B hml hP _
    have hh0 : s₁.heap = s.heap := by rw [B.state]; rfl
    obtain ⟨t, a1, o, b1, b2, b3⟩ := body p e s m args below meth c s₁ B hml hP s₁ hh0 (Stand.of_body B)
    exact ⟨t, o, a1, b1, b2, b3⟩
/-! ===== END ===== -/
end
section
/-! ===== BEGIN printed: names, fields, word lists, decode rows ===== -/
def RX0 : String := "SkyCuts$Ear"
def TX0 : u_T := fun k => match k with
  | 0 => ("SkyCuts$Ear", "air", "LSkyCuts$Streams;", true)
  | 1 => ("SkyCuts$Ear", "book", "LSkyCuts$Rules;", true)
  | 2 => ("SkyCuts$Ear", "visitors", "I", false)
  | 3 => ("SkyCuts$Ear", "visiting", "[I", true)
  | 4 => ("SkyCuts$Ear", "overs", "[I", true)
  | 5 => ("SkyCuts$Ear", "inner", "[I", true)
  | 6 => ("SkyCuts$Ear", "climbs", "[I", true)
  | 7 => ("SkyCuts$Ear", "meetings", "I", false)
  | 8 => ("SkyCuts$Ear", "firsts", "[I", true)
  | 9 => ("SkyCuts$Ear", "seconds", "[I", true)
  | 10 => ("SkyCuts$Ear", "often", "[I", true)
  | 11 => ("SkyCuts$Ear", "heard", "[I", true)
  | 12 => ("SkyCuts$Ear", "peakQuarter", "I", false)
  | _ => ("SkyCuts$Ear", "parts", "[I", true)
def tyX0 : Nat → FieldType := fun k => match k with
  | 0 => .object "SkyCuts$Streams"
  | 1 => .object "SkyCuts$Rules"
  | 2 => .int
  | 3 => .array .int
  | 4 => .array .int
  | 5 => .array .int
  | 6 => .array .int
  | 7 => .int
  | 8 => .array .int
  | 9 => .array .int
  | 10 => .array .int
  | 11 => .array .int
  | 12 => .int
  | _ => .array .int
abbrev wsX00 : List Cond := u_ws RX0 TX0 14
theorem nmX0 : ∀ a, a < 14 → ∀ b, b < 14 → a ≠ b → (TX0 a).2.1 ≠ (TX0 b).2.1 := by decide +kernel
theorem tyX0_ok : ∀ k, k < 14 → parseFieldDescriptor (TX0 k).2.2.1 = some (tyX0 k) := by decide +kernel
abbrev cX0_init : ByteArray := prog_2_method_1_code
def yX0_init : MethodName := ⟨RX0, "<init>", "(LSkyCuts$Streams;LSkyCuts$Rules;)V"⟩
abbrev cX0_listen : ByteArray := prog_2_method_2_code
def yX0_listen : MethodName := ⟨RX0, "listen", "(JJI)V"⟩
abbrev cX0_followSteps : ByteArray := prog_2_method_3_code
def yX0_followSteps : MethodName := ⟨RX0, "followSteps", "(IJJ)V"⟩
abbrev cX0_hear : ByteArray := prog_2_method_4_code
def yX0_hear : MethodName := ⟨RX0, "hear", "(II)V"⟩
abbrev cX0_loadAt : ByteArray := prog_2_method_5_code
def yX0_loadAt : MethodName := ⟨RX0, "loadAt", "(II)I"⟩
abbrev cX0_findPeak : ByteArray := prog_2_method_6_code
def yX0_findPeak : MethodName := ⟨RX0, "findPeak", "()I"⟩
abbrev cX0_keptCounts : ByteArray := prog_2_method_7_code
def yX0_keptCounts : MethodName := ⟨RX0, "keptCounts", "()I"⟩
abbrev cX0_overInAll : ByteArray := prog_2_method_8_code
def yX0_overInAll : MethodName := ⟨RX0, "overInAll", "()I"⟩
abbrev cX0_leadAt : ByteArray := prog_2_method_9_code
def yX0_leadAt : MethodName := ⟨RX0, "leadAt", "(II)I"⟩
abbrev cX0_aheadOf : ByteArray := prog_2_method_10_code
def yX0_aheadOf : MethodName := ⟨RX0, "aheadOf", "(I)I"⟩
def RX1 : String := "SkyCuts$Fits"
def TX1 : u_T := fun k => match k with
  | 0 => ("SkyCuts$Fits", "heard", "[I", true)
  | 1 => ("SkyCuts$Fits", "works", "[I", true)
  | 2 => ("SkyCuts$Fits", "backs", "[Z", true)
  | 3 => ("SkyCuts$Fits", "size", "I", false)
  | 4 => ("SkyCuts$Fits", "fitted", "I", false)
  | 5 => ("SkyCuts$Fits", "weights", "[I", true)
  | 6 => ("SkyCuts$Fits", "trial", "[I", true)
  | _ => ("SkyCuts$Fits", "off", "I", false)
def tyX1 : Nat → FieldType := fun k => match k with
  | 0 => .array .int
  | 1 => .array .int
  | 2 => .array .boolean
  | 3 => .int
  | 4 => .int
  | 5 => .array .int
  | 6 => .array .int
  | _ => .int
abbrev wsX10 : List Cond := u_ws RX1 TX1 8
theorem nmX1 : ∀ a, a < 8 → ∀ b, b < 8 → a ≠ b → (TX1 a).2.1 ≠ (TX1 b).2.1 := by decide +kernel
theorem tyX1_ok : ∀ k, k < 8 → parseFieldDescriptor (TX1 k).2.2.1 = some (tyX1 k) := by decide +kernel
abbrev cX1_init : ByteArray := prog_3_method_1_code
def yX1_init : MethodName := ⟨RX1, "<init>", "()V"⟩
abbrev cX1_add : ByteArray := prog_3_method_2_code
def yX1_add : MethodName := ⟨RX1, "add", "([IIZ)I"⟩
abbrev cX1_solve : ByteArray := prog_3_method_3_code
def yX1_solve : MethodName := ⟨RX1, "solve", "()Z"⟩
abbrev cX1_offBack : ByteArray := prog_3_method_4_code
def yX1_offBack : MethodName := ⟨RX1, "offBack", "()I"⟩
abbrev cX1_anyRow : ByteArray := prog_3_method_5_code
def yX1_anyRow : MethodName := ⟨RX1, "anyRow", "()Z"⟩
abbrev cX1_nextTrial : ByteArray := prog_3_method_6_code
def yX1_nextTrial : MethodName := ⟨RX1, "nextTrial", "()Z"⟩
abbrev cX1_offOf : ByteArray := prog_3_method_7_code
def yX1_offOf : MethodName := ⟨RX1, "offOf", "([IZ)I"⟩
def RX2 : String := "SkyCuts$Mover"
def TX2 : u_T := fun k => match k with
  | 0 => ("SkyCuts$Mover", "air", "LSkyCuts$Streams;", true)
  | 1 => ("SkyCuts$Mover", "parting", "LSkyCuts$Parting;", true)
  | 2 => ("SkyCuts$Mover", "ear", "LSkyCuts$Ear;", true)
  | 3 => ("SkyCuts$Mover", "present", "[Z", true)
  | 4 => ("SkyCuts$Mover", "peaks", "[I", true)
  | 5 => ("SkyCuts$Mover", "kept", "[I", true)
  | 6 => ("SkyCuts$Mover", "wholes", "[Z", true)
  | 7 => ("SkyCuts$Mover", "bestCell", "I", false)
  | 8 => ("SkyCuts$Mover", "bestPiece", "I", false)
  | _ => ("SkyCuts$Mover", "bestPrice", "I", false)
def tyX2 : Nat → FieldType := fun k => match k with
  | 0 => .object "SkyCuts$Streams"
  | 1 => .object "SkyCuts$Parting"
  | 2 => .object "SkyCuts$Ear"
  | 3 => .array .boolean
  | 4 => .array .int
  | 5 => .array .int
  | 6 => .array .boolean
  | 7 => .int
  | 8 => .int
  | _ => .int
abbrev wsX20 : List Cond := u_ws RX2 TX2 10
theorem nmX2 : ∀ a, a < 10 → ∀ b, b < 10 → a ≠ b → (TX2 a).2.1 ≠ (TX2 b).2.1 := by decide +kernel
theorem tyX2_ok : ∀ k, k < 10 → parseFieldDescriptor (TX2 k).2.2.1 = some (tyX2 k) := by decide +kernel
abbrev cX2_init : ByteArray := prog_4_method_1_code
def yX2_init : MethodName := ⟨RX2, "<init>", "(LSkyCuts$Streams;LSkyCuts$Parting;LSkyCuts$Ear;)V"⟩
abbrev cX2_stands : ByteArray := prog_4_method_2_code
def yX2_stands : MethodName := ⟨RX2, "stands", "(I)Z"⟩
abbrev cX2_isWhole : ByteArray := prog_4_method_3_code
def yX2_isWhole : MethodName := ⟨RX2, "isWhole", "(I)Z"⟩
abbrev cX2_measure : ByteArray := prog_4_method_4_code
def yX2_measure : MethodName := ⟨RX2, "measure", "()V"⟩
abbrev cX2_weigh : ByteArray := prog_4_method_5_code
def yX2_weigh : MethodName := ⟨RX2, "weigh", "(I)Z"⟩
abbrev cX2_priceNow : ByteArray := prog_4_method_6_code
def yX2_priceNow : MethodName := ⟨RX2, "priceNow", "()I"⟩
abbrev cX2_seek : ByteArray := prog_4_method_7_code
def yX2_seek : MethodName := ⟨RX2, "seek", "()Z"⟩
abbrev cX2_mayMatter : ByteArray := prog_4_method_8_code
def yX2_mayMatter : MethodName := ⟨RX2, "mayMatter", "(I)Z"⟩
abbrev cX2_tryCell : ByteArray := prog_4_method_9_code
def yX2_tryCell : MethodName := ⟨RX2, "tryCell", "(III)V"⟩
abbrev cX2_compare : ByteArray := prog_4_method_10_code
def yX2_compare : MethodName := ⟨RX2, "compare", "(III)V"⟩
def RX3 : String := "SkyCuts$Parting"
def TX3 : u_T := fun k => match k with
  | 0 => ("SkyCuts$Parting", "pieceOf", "[I", true)
  | 1 => ("SkyCuts$Parting", "lo", "[J", true)
  | 2 => ("SkyCuts$Parting", "hi", "[J", true)
  | 3 => ("SkyCuts$Parting", "limits", "[I", true)
  | 4 => ("SkyCuts$Parting", "marks", "[I", true)
  | 5 => ("SkyCuts$Parting", "markCount", "I", false)
  | _ => ("SkyCuts$Parting", "stretch", "I", false)
def tyX3 : Nat → FieldType := fun k => match k with
  | 0 => .array .int
  | 1 => .array .long
  | 2 => .array .long
  | 3 => .array .int
  | 4 => .array .int
  | 5 => .int
  | _ => .int
abbrev wsX30 : List Cond := u_ws RX3 TX3 7
theorem nmX3 : ∀ a, a < 7 → ∀ b, b < 7 → a ≠ b → (TX3 a).2.1 ≠ (TX3 b).2.1 := by decide +kernel
theorem tyX3_ok : ∀ k, k < 7 → parseFieldDescriptor (TX3 k).2.2.1 = some (tyX3 k) := by decide +kernel
abbrev cX3_init : ByteArray := prog_5_method_1_code
def yX3_init : MethodName := ⟨RX3, "<init>", "()V"⟩
abbrev cX3_put : ByteArray := prog_5_method_2_code
def yX3_put : MethodName := ⟨RX3, "put", "(II)I"⟩
abbrev cX3_putAll : ByteArray := prog_5_method_3_code
def yX3_putAll : MethodName := ⟨RX3, "putAll", "(III)I"⟩
abbrev cX3_hasCells : ByteArray := prog_5_method_4_code
def yX3_hasCells : MethodName := ⟨RX3, "hasCells", "(I)Z"⟩
abbrev cX3_countPieces : ByteArray := prog_5_method_5_code
def yX3_countPieces : MethodName := ⟨RX3, "countPieces", "()I"⟩
abbrev cX3_countShut : ByteArray := prog_5_method_6_code
def yX3_countShut : MethodName := ⟨RX3, "countShut", "()I"⟩
abbrev cX3_beside : ByteArray := prog_5_method_7_code
def yX3_beside : MethodName := ⟨RX3, "beside", "(JJ)J"⟩
abbrev cX3_hangs : ByteArray := prog_5_method_8_code
def yX3_hangs : MethodName := ⟨RX3, "hangs", "(JJ)Z"⟩
abbrev cX3_reaches : ByteArray := prog_5_method_9_code
def yX3_reaches : MethodName := ⟨RX3, "reaches", "(JJJJ)Z"⟩
abbrev cX3_neckAt : ByteArray := prog_5_method_10_code
def yX3_neckAt : MethodName := ⟨RX3, "neckAt", "(II)I"⟩
abbrev cX3_hangsWithout : ByteArray := prog_5_method_11_code
def yX3_hangsWithout : MethodName := ⟨RX3, "hangsWithout", "(II)Z"⟩
abbrev cX3_countAtEdge : ByteArray := prog_5_method_12_code
def yX3_countAtEdge : MethodName := ⟨RX3, "countAtEdge", "(IJJ)I"⟩
abbrev cX3_piecesBeside : ByteArray := prog_5_method_13_code
def yX3_piecesBeside : MethodName := ⟨RX3, "piecesBeside", "(I)I"⟩
abbrev cX3_keepMark : ByteArray := prog_5_method_14_code
def yX3_keepMark : MethodName := ⟨RX3, "keepMark", "()I"⟩
abbrev cX3_goBack : ByteArray := prog_5_method_15_code
def yX3_goBack : MethodName := ⟨RX3, "goBack", "()I"⟩
def RX4 : String := "SkyCuts$Plans"
def TX4 : u_T := fun k => match k with
  | 0 => ("SkyCuts$Plans", "air", "LSkyCuts$Streams;", true)
  | 1 => ("SkyCuts$Plans", "book", "LSkyCuts$Rules;", true)
  | 2 => ("SkyCuts$Plans", "parting", "LSkyCuts$Parting;", true)
  | 3 => ("SkyCuts$Plans", "ear", "LSkyCuts$Ear;", true)
  | 4 => ("SkyCuts$Plans", "groups", "[I", true)
  | 5 => ("SkyCuts$Plans", "size", "I", false)
  | 6 => ("SkyCuts$Plans", "busySum", "I", false)
  | 7 => ("SkyCuts$Plans", "needs", "[I", true)
  | 8 => ("SkyCuts$Plans", "can", "[Z", true)
  | 9 => ("SkyCuts$Plans", "loads", "[I", true)
  | 10 => ("SkyCuts$Plans", "fewest", "[I", true)
  | 11 => ("SkyCuts$Plans", "line", "[I", true)
  | 12 => ("SkyCuts$Plans", "bestPairs", "I", false)
  | _ => ("SkyCuts$Plans", "bestChanges", "I", false)
def tyX4 : Nat → FieldType := fun k => match k with
  | 0 => .object "SkyCuts$Streams"
  | 1 => .object "SkyCuts$Rules"
  | 2 => .object "SkyCuts$Parting"
  | 3 => .object "SkyCuts$Ear"
  | 4 => .array .int
  | 5 => .int
  | 6 => .int
  | 7 => .array .int
  | 8 => .array .boolean
  | 9 => .array .int
  | 10 => .array .int
  | 11 => .array .int
  | 12 => .int
  | _ => .int
abbrev wsX40 : List Cond := u_ws RX4 TX4 14
theorem nmX4 : ∀ a, a < 14 → ∀ b, b < 14 → a ≠ b → (TX4 a).2.1 ≠ (TX4 b).2.1 := by decide +kernel
theorem tyX4_ok : ∀ k, k < 14 → parseFieldDescriptor (TX4 k).2.2.1 = some (tyX4 k) := by decide +kernel
abbrev cX4_init : ByteArray := prog_6_method_1_code
def yX4_init : MethodName := ⟨RX4, "<init>", "(LSkyCuts$Streams;LSkyCuts$Rules;LSkyCuts$Parting;LSkyCuts$Ear;)V"⟩
abbrev cX4_add : ByteArray := prog_6_method_2_code
def yX4_add : MethodName := ⟨RX4, "add", "(I)I"⟩
abbrev cX4_needAt : ByteArray := prog_6_method_3_code
def yX4_needAt : MethodName := ⟨RX4, "needAt", "(I)I"⟩
abbrev cX4_judge : ByteArray := prog_6_method_4_code
def yX4_judge : MethodName := ⟨RX4, "judge", "(I)V"⟩
abbrev cX4_judgeGroup : ByteArray := prog_6_method_5_code
def yX4_judgeGroup : MethodName := ⟨RX4, "judgeGroup", "(IIZ)V"⟩
abbrev cX4_addLoads : ByteArray := prog_6_method_6_code
def yX4_addLoads : MethodName := ⟨RX4, "addLoads", "()V"⟩
abbrev cX4_solve : ByteArray := prog_6_method_7_code
def yX4_solve : MethodName := ⟨RX4, "solve", "(I)Z"⟩
abbrev cX4_placeOf : ByteArray := prog_6_method_8_code
def yX4_placeOf : MethodName := ⟨RX4, "placeOf", "(III)I"⟩
abbrev cX4_fewestBehind : ByteArray := prog_6_method_9_code
def yX4_fewestBehind : MethodName := ⟨RX4, "fewestBehind", "(III)I"⟩
abbrev cX4_choose : ByteArray := prog_6_method_10_code
def yX4_choose : MethodName := ⟨RX4, "choose", "(I)Z"⟩
abbrev cX4_nextOf : ByteArray := prog_6_method_11_code
def yX4_nextOf : MethodName := ⟨RX4, "nextOf", "(III)I"⟩
def RX5 : String := "SkyCuts$Region"
def TX5 : u_T := fun k => match k with
  | 0 => ("SkyCuts$Region", "air", "LSkyCuts$Streams;", true)
  | 1 => ("SkyCuts$Region", "ear", "LSkyCuts$Ear;", true)
  | 2 => ("SkyCuts$Region", "cells", "[I", true)
  | 3 => ("SkyCuts$Region", "size", "I", false)
  | 4 => ("SkyCuts$Region", "hanging", "[Z", true)
  | 5 => ("SkyCuts$Region", "peaks", "[I", true)
  | 6 => ("SkyCuts$Region", "overs", "[I", true)
  | 7 => ("SkyCuts$Region", "heaps", "[I", true)
  | 8 => ("SkyCuts$Region", "subsets", "[I", true)
  | 9 => ("SkyCuts$Region", "bestHeaps", "[I", true)
  | 10 => ("SkyCuts$Region", "bestPeak", "I", false)
  | 11 => ("SkyCuts$Region", "bestOver", "I", false)
  | _ => ("SkyCuts$Region", "found", "Z", false)
def tyX5 : Nat → FieldType := fun k => match k with
  | 0 => .object "SkyCuts$Streams"
  | 1 => .object "SkyCuts$Ear"
  | 2 => .array .int
  | 3 => .int
  | 4 => .array .boolean
  | 5 => .array .int
  | 6 => .array .int
  | 7 => .array .int
  | 8 => .array .int
  | 9 => .array .int
  | 10 => .int
  | 11 => .int
  | _ => .boolean
abbrev wsX50 : List Cond := u_ws RX5 TX5 13
theorem nmX5 : ∀ a, a < 13 → ∀ b, b < 13 → a ≠ b → (TX5 a).2.1 ≠ (TX5 b).2.1 := by decide +kernel
theorem tyX5_ok : ∀ k, k < 13 → parseFieldDescriptor (TX5 k).2.2.1 = some (tyX5 k) := by decide +kernel
abbrev cX5_init : ByteArray := prog_7_method_1_code
def yX5_init : MethodName := ⟨RX5, "<init>", "(LSkyCuts$Streams;LSkyCuts$Ear;)V"⟩
abbrev cX5_add : ByteArray := prog_7_method_2_code
def yX5_add : MethodName := ⟨RX5, "add", "(I)I"⟩
abbrev cX5_solve : ByteArray := prog_7_method_3_code
def yX5_solve : MethodName := ⟨RX5, "solve", "(I)Z"⟩
abbrev cX5_hearSubset : ByteArray := prog_7_method_4_code
def yX5_hearSubset : MethodName := ⟨RX5, "hearSubset", "(I)V"⟩
abbrev cX5_place : ByteArray := prog_7_method_5_code
def yX5_place : MethodName := ⟨RX5, "place", "(III)V"⟩
abbrev cX5_compare : ByteArray := prog_7_method_6_code
def yX5_compare : MethodName := ⟨RX5, "compare", "(I)V"⟩
def RX6 : String := "SkyCuts$Rota"
def TX6 : u_T := fun k => match k with
  | 0 => ("SkyCuts$Rota", "plans", "LSkyCuts$Plans;", true)
  | 1 => ("SkyCuts$Rota", "work", "I", false)
  | 2 => ("SkyCuts$Rota", "rest", "I", false)
  | 3 => ("SkyCuts$Rota", "illFrom", "[I", true)
  | 4 => ("SkyCuts$Rota", "onEnd", "[I", true)
  | 5 => ("SkyCuts$Rota", "freeFrom", "[I", true)
  | 6 => ("SkyCuts$Rota", "watched", "[I", true)
  | 7 => ("SkyCuts$Rota", "watching", "[I", true)
  | _ => ("SkyCuts$Rota", "wanting", "I", false)
def tyX6 : Nat → FieldType := fun k => match k with
  | 0 => .object "SkyCuts$Plans"
  | 1 => .int
  | 2 => .int
  | 3 => .array .int
  | 4 => .array .int
  | 5 => .array .int
  | 6 => .array .int
  | 7 => .array .int
  | _ => .int
abbrev wsX60 : List Cond := u_ws RX6 TX6 9
theorem nmX6 : ∀ a, a < 9 → ∀ b, b < 9 → a ≠ b → (TX6 a).2.1 ≠ (TX6 b).2.1 := by decide +kernel
theorem tyX6_ok : ∀ k, k < 9 → parseFieldDescriptor (TX6 k).2.2.1 = some (tyX6 k) := by decide +kernel
abbrev cX6_init : ByteArray := prog_8_method_1_code
def yX6_init : MethodName := ⟨RX6, "<init>", "(LSkyCuts$Plans;)V"⟩
abbrev cX6_setWork : ByteArray := prog_8_method_2_code
def yX6_setWork : MethodName := ⟨RX6, "setWork", "(I)I"⟩
abbrev cX6_setRest : ByteArray := prog_8_method_3_code
def yX6_setRest : MethodName := ⟨RX6, "setRest", "(I)I"⟩
abbrev cX6_run : ByteArray := prog_8_method_4_code
def yX6_run : MethodName := ⟨RX6, "run", "(I)V"⟩
abbrev cX6_mayGoOn : ByteArray := prog_8_method_5_code
def yX6_mayGoOn : MethodName := ⟨RX6, "mayGoOn", "(II)I"⟩
abbrev cX6_mayBegin : ByteArray := prog_8_method_6_code
def yX6_mayBegin : MethodName := ⟨RX6, "mayBegin", "(II)I"⟩
abbrev cX6_fewestOf : ByteArray := prog_8_method_7_code
def yX6_fewestOf : MethodName := ⟨RX6, "fewestOf", "(II)I"⟩
abbrev cX6_settle : ByteArray := prog_8_method_8_code
def yX6_settle : MethodName := ⟨RX6, "settle", "(III)V"⟩
def RX7 : String := "SkyCuts$Rules"
def TX7 : u_T := fun k => match k with
  | 0 => ("SkyCuts$Rules", "text", "LSkyCuts$Text;", true)
  | 1 => ("SkyCuts$Rules", "codes", "[I", false)
  | 2 => ("SkyCuts$Rules", "ends", "[I", false)
  | 3 => ("SkyCuts$Rules", "clauses", "I", false)
  | 4 => ("SkyCuts$Rules", "loadClause", "I", false)
  | 5 => ("SkyCuts$Rules", "joinBits", "I", false)
  | 6 => ("SkyCuts$Rules", "countsCells", "Z", false)
  | 7 => ("SkyCuts$Rules", "draft", "[I", false)
  | 8 => ("SkyCuts$Rules", "draftEnds", "[I", false)
  | 9 => ("SkyCuts$Rules", "draftSize", "I", false)
  | 10 => ("SkyCuts$Rules", "draftLoad", "I", false)
  | 11 => ("SkyCuts$Rules", "draftJoins", "I", false)
  | 12 => ("SkyCuts$Rules", "open", "I", false)
  | _ => ("SkyCuts$Rules", "stack", "[I", true)
def tyX7 : Nat → FieldType := fun k => match k with
  | 0 => .object "SkyCuts$Text"
  | 1 => .array .int
  | 2 => .array .int
  | 3 => .int
  | 4 => .int
  | 5 => .int
  | 6 => .boolean
  | 7 => .array .int
  | 8 => .array .int
  | 9 => .int
  | 10 => .int
  | 11 => .int
  | 12 => .int
  | _ => .array .int
abbrev wsX70 : List Cond := u_ws RX7 TX7 14
theorem nmX7 : ∀ a, a < 14 → ∀ b, b < 14 → a ≠ b → (TX7 a).2.1 ≠ (TX7 b).2.1 := by decide +kernel
theorem tyX7_ok : ∀ k, k < 14 → parseFieldDescriptor (TX7 k).2.2.1 = some (tyX7 k) := by decide +kernel
abbrev cX7_init : ByteArray := prog_9_method_1_code
def yX7_init : MethodName := ⟨RX7, "<init>", "(LSkyCuts$Text;)V"⟩
abbrev cX7_read : ByteArray := prog_9_method_2_code
def yX7_read : MethodName := ⟨RX7, "read", "()Z"⟩
abbrev cX7_adopt : ByteArray := prog_9_method_3_code
def yX7_adopt : MethodName := ⟨RX7, "adopt", "(I)V"⟩
abbrev cX7_beginOf : ByteArray := prog_9_method_4_code
def yX7_beginOf : MethodName := ⟨RX7, "beginOf", "(I)I"⟩
abbrev cX7_readClause : ByteArray := prog_9_method_5_code
def yX7_readClause : MethodName := ⟨RX7, "readClause", "(I)Z"⟩
abbrev cX7_readEither : ByteArray := prog_9_method_6_code
def yX7_readEither : MethodName := ⟨RX7, "readEither", "()Z"⟩
abbrev cX7_readBoth : ByteArray := prog_9_method_7_code
def yX7_readBoth : MethodName := ⟨RX7, "readBoth", "()Z"⟩
abbrev cX7_readTest : ByteArray := prog_9_method_8_code
def yX7_readTest : MethodName := ⟨RX7, "readTest", "()Z"⟩
abbrev cX7_readSum : ByteArray := prog_9_method_9_code
def yX7_readSum : MethodName := ⟨RX7, "readSum", "()Z"⟩
abbrev cX7_readProduct : ByteArray := prog_9_method_10_code
def yX7_readProduct : MethodName := ⟨RX7, "readProduct", "()Z"⟩
abbrev cX7_readUnit : ByteArray := prog_9_method_11_code
def yX7_readUnit : MethodName := ⟨RX7, "readUnit", "()Z"⟩
abbrev cX7_readOfTwo : ByteArray := prog_9_method_12_code
def yX7_readOfTwo : MethodName := ⟨RX7, "readOfTwo", "(I)Z"⟩
abbrev cX7_codeOfName : ByteArray := prog_9_method_13_code
def yX7_codeOfName : MethodName := ⟨RX7, "codeOfName", "()I"⟩
abbrev cX7_enter : ByteArray := prog_9_method_14_code
def yX7_enter : MethodName := ⟨RX7, "enter", "()Z"⟩
abbrev cX7_pass : ByteArray := prog_9_method_15_code
def yX7_pass : MethodName := ⟨RX7, "pass", "(I)Z"⟩
abbrev cX7_put : ByteArray := prog_9_method_16_code
def yX7_put : MethodName := ⟨RX7, "put", "(I)V"⟩
abbrev cX7_joinsHold : ByteArray := prog_9_method_17_code
def yX7_joinsHold : MethodName := ⟨RX7, "joinsHold", "([I)Z"⟩
abbrev cX7_work : ByteArray := prog_9_method_18_code
def yX7_work : MethodName := ⟨RX7, "work", "(I[I)I"⟩
abbrev cX7_joined : ByteArray := prog_9_method_19_code
def yX7_joined : MethodName := ⟨RX7, "joined", "(III)I"⟩
def RX8 : String := "SkyCuts$Storm"
def TX8 : u_T := fun k => match k with
  | 0 => ("SkyCuts$Storm", "air", "LSkyCuts$Streams;", true)
  | 1 => ("SkyCuts$Storm", "mended", "LSkyCuts$Streams;", true)
  | 2 => ("SkyCuts$Storm", "parting", "LSkyCuts$Parting;", true)
  | 3 => ("SkyCuts$Storm", "ears", "[LSkyCuts$Ear;", true)
  | 4 => ("SkyCuts$Storm", "lo", "J", false)
  | 5 => ("SkyCuts$Storm", "hi", "J", false)
  | 6 => ("SkyCuts$Storm", "quarter", "I", false)
  | 7 => ("SkyCuts$Storm", "hitBits", "I", false)
  | 8 => ("SkyCuts$Storm", "hits", "[I", true)
  | 9 => ("SkyCuts$Storm", "hitCount", "I", false)
  | 10 => ("SkyCuts$Storm", "rounds", "[I", true)
  | 11 => ("SkyCuts$Storm", "mends", "[I", true)
  | 12 => ("SkyCuts$Storm", "bestMends", "[I", true)
  | 13 => ("SkyCuts$Storm", "bestMinutes", "I", false)
  | 14 => ("SkyCuts$Storm", "known", "[I", true)
  | 15 => ("SkyCuts$Storm", "far", "[I", true)
  | 16 => ("SkyCuts$Storm", "queue", "[I", true)
  | _ => ("SkyCuts$Storm", "path", "[I", true)
def tyX8 : Nat → FieldType := fun k => match k with
  | 0 => .object "SkyCuts$Streams"
  | 1 => .object "SkyCuts$Streams"
  | 2 => .object "SkyCuts$Parting"
  | 3 => .array (.object "SkyCuts$Ear")
  | 4 => .long
  | 5 => .long
  | 6 => .int
  | 7 => .int
  | 8 => .array .int
  | 9 => .int
  | 10 => .array .int
  | 11 => .array .int
  | 12 => .array .int
  | 13 => .int
  | 14 => .array .int
  | 15 => .array .int
  | 16 => .array .int
  | _ => .array .int
abbrev wsX80 : List Cond := u_ws RX8 TX8 18
theorem nmX8 : ∀ a, a < 18 → ∀ b, b < 18 → a ≠ b → (TX8 a).2.1 ≠ (TX8 b).2.1 := by decide +kernel
theorem tyX8_ok : ∀ k, k < 18 → parseFieldDescriptor (TX8 k).2.2.1 = some (tyX8 k) := by decide +kernel
abbrev cX8_init : ByteArray := prog_10_method_1_code
def yX8_init : MethodName := ⟨RX8, "<init>", "(LSkyCuts$Streams;LSkyCuts$Rules;LSkyCuts$Parting;)V"⟩
abbrev cX8_shut : ByteArray := prog_10_method_2_code
def yX8_shut : MethodName := ⟨RX8, "shut", "(IZ)Z"⟩
abbrev cX8_isShut : ByteArray := prog_10_method_3_code
def yX8_isShut : MethodName := ⟨RX8, "isShut", "(I)Z"⟩
abbrev cX8_findHits : ByteArray := prog_10_method_4_code
def yX8_findHits : MethodName := ⟨RX8, "findHits", "(I)V"⟩
abbrev cX8_mendOf : ByteArray := prog_10_method_5_code
def yX8_mendOf : MethodName := ⟨RX8, "mendOf", "(I)I"⟩
abbrev cX8_solve : ByteArray := prog_10_method_6_code
def yX8_solve : MethodName := ⟨RX8, "solve", "(II)Z"⟩
abbrev cX8_layWays : ByteArray := prog_10_method_7_code
def yX8_layWays : MethodName := ⟨RX8, "layWays", "()V"⟩
abbrev cX8_findRound : ByteArray := prog_10_method_8_code
def yX8_findRound : MethodName := ⟨RX8, "findRound", "(II)I"⟩
abbrev cX8_spreadFrom : ByteArray := prog_10_method_9_code
def yX8_spreadFrom : MethodName := ⟨RX8, "spreadFrom", "(I)V"⟩
abbrev cX8_nearerThan : ByteArray := prog_10_method_10_code
def yX8_nearerThan : MethodName := ⟨RX8, "nearerThan", "(I)I"⟩
abbrev cX8_tryMends : ByteArray := prog_10_method_11_code
def yX8_tryMends : MethodName := ⟨RX8, "tryMends", "(IIIII)V"⟩
abbrev cX8_fits : ByteArray := prog_10_method_12_code
def yX8_fits : MethodName := ⟨RX8, "fits", "(I)Z"⟩
abbrev cX8_anyFull : ByteArray := prog_10_method_13_code
def yX8_anyFull : MethodName := ⟨RX8, "anyFull", "(I)Z"⟩
def RX9 : String := "SkyCuts$Streams"
def TX9 : u_T := fun k => match k with
  | 0 => ("SkyCuts$Streams", "count", "I", false)
  | 1 => ("SkyCuts$Streams", "cells", "[I", true)
  | 2 => ("SkyCuts$Streams", "sizes", "[I", true)
  | 3 => ("SkyCuts$Streams", "masks", "[J", true)
  | 4 => ("SkyCuts$Streams", "goMasks", "[J", true)
  | 5 => ("SkyCuts$Streams", "steps", "[J", true)
  | 6 => ("SkyCuts$Streams", "couples", "[I", true)
  | 7 => ("SkyCuts$Streams", "meets", "[J", true)
  | 8 => ("SkyCuts$Streams", "coupleCount", "I", false)
  | 9 => ("SkyCuts$Streams", "counts", "[I", true)
  | 10 => ("SkyCuts$Streams", "early", "[I", true)
  | 11 => ("SkyCuts$Streams", "late", "[I", true)
  | 12 => ("SkyCuts$Streams", "mosts", "[I", true)
  | 13 => ("SkyCuts$Streams", "totals", "[I", true)
  | 14 => ("SkyCuts$Streams", "mostTotals", "[I", true)
  | 15 => ("SkyCuts$Streams", "twins", "[I", true)
  | 16 => ("SkyCuts$Streams", "trial", "[I", true)
  | _ => ("SkyCuts$Streams", "trialSize", "I", false)
def tyX9 : Nat → FieldType := fun k => match k with
  | 0 => .int
  | 1 => .array .int
  | 2 => .array .int
  | 3 => .array .long
  | 4 => .array .long
  | 5 => .array .long
  | 6 => .array .int
  | 7 => .array .long
  | 8 => .int
  | 9 => .array .int
  | 10 => .array .int
  | 11 => .array .int
  | 12 => .array .int
  | 13 => .array .int
  | 14 => .array .int
  | 15 => .array .int
  | 16 => .array .int
  | _ => .int
abbrev wsX90 : List Cond := u_ws RX9 TX9 18
theorem nmX9 : ∀ a, a < 18 → ∀ b, b < 18 → a ≠ b → (TX9 a).2.1 ≠ (TX9 b).2.1 := by decide +kernel
theorem tyX9_ok : ∀ k, k < 18 → parseFieldDescriptor (TX9 k).2.2.1 = some (tyX9 k) := by decide +kernel
abbrev cX9_init : ByteArray := prog_11_method_1_code
def yX9_init : MethodName := ⟨RX9, "<init>", "()V"⟩
abbrev cX9_stepFrom : ByteArray := prog_11_method_2_code
def yX9_stepFrom : MethodName := ⟨RX9, "stepFrom", "(II)I"⟩
abbrev cX9_goOf : ByteArray := prog_11_method_3_code
def yX9_goOf : MethodName := ⟨RX9, "goOf", "(I)I"⟩
abbrev cX9_goBetween : ByteArray := prog_11_method_4_code
def yX9_goBetween : MethodName := ⟨RX9, "goBetween", "(II)I"⟩
abbrev cX9_readWay : ByteArray := prog_11_method_5_code
def yX9_readWay : MethodName := ⟨RX9, "readWay", "(LSkyCuts$Text;)Z"⟩
abbrev cX9_readMove : ByteArray := prog_11_method_6_code
def yX9_readMove : MethodName := ⟨RX9, "readMove", "(LSkyCuts$Text;)Z"⟩
abbrev cX9_lengthen : ByteArray := prog_11_method_7_code
def yX9_lengthen : MethodName := ⟨RX9, "lengthen", "(I)I"⟩
abbrev cX9_addTrial : ByteArray := prog_11_method_8_code
def yX9_addTrial : MethodName := ⟨RX9, "addTrial", "()I"⟩
abbrev cX9_setWay : ByteArray := prog_11_method_9_code
def yX9_setWay : MethodName := ⟨RX9, "setWay", "(I[III)V"⟩
abbrev cX9_wipe : ByteArray := prog_11_method_10_code
def yX9_wipe : MethodName := ⟨RX9, "wipe", "(I)V"⟩
abbrev cX9_setStep : ByteArray := prog_11_method_11_code
def yX9_setStep : MethodName := ⟨RX9, "setStep", "(III)V"⟩
abbrev cX9_pairUp : ByteArray := prog_11_method_12_code
def yX9_pairUp : MethodName := ⟨RX9, "pairUp", "()V"⟩
abbrev cX9_meetsOf : ByteArray := prog_11_method_13_code
def yX9_meetsOf : MethodName := ⟨RX9, "meetsOf", "(III)J"⟩
abbrev cX9_allMeets : ByteArray := prog_11_method_14_code
def yX9_allMeets : MethodName := ⟨RX9, "allMeets", "(I)J"⟩
abbrev cX9_cellAt : ByteArray := prog_11_method_15_code
def yX9_cellAt : MethodName := ⟨RX9, "cellAt", "(II)I"⟩
abbrev cX9_setCounts : ByteArray := prog_11_method_16_code
def yX9_setCounts : MethodName := ⟨RX9, "setCounts", "(IIII)V"⟩
abbrev cX9_setSpan : ByteArray := prog_11_method_17_code
def yX9_setSpan : MethodName := ⟨RX9, "setSpan", "(III)V"⟩
abbrev cX9_retell : ByteArray := prog_11_method_18_code
def yX9_retell : MethodName := ⟨RX9, "retell", "(I)V"⟩
abbrev cX9_mostIn : ByteArray := prog_11_method_19_code
def yX9_mostIn : MethodName := ⟨RX9, "mostIn", "(II)I"⟩
abbrev cX9_twinOf : ByteArray := prog_11_method_20_code
def yX9_twinOf : MethodName := ⟨RX9, "twinOf", "(I)I"⟩
abbrev cX9_shorterThan : ByteArray := prog_11_method_21_code
def yX9_shorterThan : MethodName := ⟨RX9, "shorterThan", "(IJJ)I"⟩
abbrev cX9_shortestStretch : ByteArray := prog_11_method_22_code
def yX9_shortestStretch : MethodName := ⟨RX9, "shortestStretch", "(IJJ)I"⟩
abbrev cX9_countsAt : ByteArray := prog_11_method_23_code
def yX9_countsAt : MethodName := ⟨RX9, "countsAt", "(I)I"⟩
abbrev cX9_isVisited : ByteArray := prog_11_method_24_code
def yX9_isVisited : MethodName := ⟨RX9, "isVisited", "(I)Z"⟩
abbrev cX9_comesTo : ByteArray := prog_11_method_25_code
def yX9_comesTo : MethodName := ⟨RX9, "comesTo", "(II)Z"⟩
abbrev cX9_countsOfSteps : ByteArray := prog_11_method_26_code
def yX9_countsOfSteps : MethodName := ⟨RX9, "countsOfSteps", "()I"⟩
def RX10 : String := "SkyCuts$Text"
def TX10 : u_T := fun k => match k with
  | 0 => ("SkyCuts$Text", "bytes", "[I", true)
  | 1 => ("SkyCuts$Text", "size", "I", false)
  | 2 => ("SkyCuts$Text", "end", "I", false)
  | 3 => ("SkyCuts$Text", "at", "I", false)
  | 4 => ("SkyCuts$Text", "words", "Z", false)
  | 5 => ("SkyCuts$Text", "start", "I", false)
  | 6 => ("SkyCuts$Text", "kind", "I", false)
  | 7 => ("SkyCuts$Text", "value", "I", false)
  | 8 => ("SkyCuts$Text", "faultKind", "I", false)
  | _ => ("SkyCuts$Text", "faultPlace", "I", false)
def tyX10 : Nat → FieldType := fun k => match k with
  | 0 => .array .int
  | 1 => .int
  | 2 => .int
  | 3 => .int
  | 4 => .boolean
  | 5 => .int
  | 6 => .int
  | 7 => .int
  | 8 => .int
  | _ => .int
abbrev wsX100 : List Cond := u_ws RX10 TX10 10
theorem nmX10 : ∀ a, a < 10 → ∀ b, b < 10 → a ≠ b → (TX10 a).2.1 ≠ (TX10 b).2.1 := by decide +kernel
theorem tyX10_ok : ∀ k, k < 10 → parseFieldDescriptor (TX10 k).2.2.1 = some (tyX10 k) := by decide +kernel
abbrev cX10_init : ByteArray := prog_12_method_1_code
def yX10_init : MethodName := ⟨RX10, "<init>", "()V"⟩
abbrev cX10_takeAll : ByteArray := prog_12_method_2_code
def yX10_takeAll : MethodName := ⟨RX10, "takeAll", "(IIIII)I"⟩
abbrev cX10_take : ByteArray := prog_12_method_3_code
def yX10_take : MethodName := ⟨RX10, "take", "(I)V"⟩
abbrev cX10_open : ByteArray := prog_12_method_4_code
def yX10_open : MethodName := ⟨RX10, "open", "(IZ)V"⟩
abbrev cX10_step : ByteArray := prog_12_method_5_code
def yX10_step : MethodName := ⟨RX10, "step", "()V"⟩
abbrev cX10_kindOf : ByteArray := prog_12_method_6_code
def yX10_kindOf : MethodName := ⟨RX10, "kindOf", "(I)I"⟩
abbrev cX10_says : ByteArray := prog_12_method_7_code
def yX10_says : MethodName := ⟨RX10, "says", "(Ljava/lang/String;)Z"⟩
abbrev cX10_refuse : ByteArray := prog_12_method_8_code
def yX10_refuse : MethodName := ⟨RX10, "refuse", "(I)Z"⟩
abbrev cX10_refuseAt : ByteArray := prog_12_method_9_code
def yX10_refuseAt : MethodName := ⟨RX10, "refuseAt", "(II)Z"⟩
def RX11 : String := "SkyCuts"
def TX11 : u_T := fun k => match k with
  | 0 => ("SkyCuts", "tape", "LSkyCuts$Text;", true)
  | 1 => ("SkyCuts", "air", "LSkyCuts$Streams;", true)
  | 2 => ("SkyCuts", "book", "LSkyCuts$Rules;", true)
  | 3 => ("SkyCuts", "parting", "LSkyCuts$Parting;", true)
  | 4 => ("SkyCuts", "ear", "LSkyCuts$Ear;", true)
  | 5 => ("SkyCuts", "mover", "LSkyCuts$Mover;", true)
  | 6 => ("SkyCuts", "patch", "LSkyCuts$Region;", true)
  | 7 => ("SkyCuts", "plans", "LSkyCuts$Plans;", true)
  | 8 => ("SkyCuts", "watches", "LSkyCuts$Rota;", true)
  | 9 => ("SkyCuts", "tempest", "LSkyCuts$Storm;", true)
  | _ => ("SkyCuts", "fits", "LSkyCuts$Fits;", true)
def tyX11 : Nat → FieldType := fun k => match k with
  | 0 => .object "SkyCuts$Text"
  | 1 => .object "SkyCuts$Streams"
  | 2 => .object "SkyCuts$Rules"
  | 3 => .object "SkyCuts$Parting"
  | 4 => .object "SkyCuts$Ear"
  | 5 => .object "SkyCuts$Mover"
  | 6 => .object "SkyCuts$Region"
  | 7 => .object "SkyCuts$Plans"
  | 8 => .object "SkyCuts$Rota"
  | 9 => .object "SkyCuts$Storm"
  | _ => .object "SkyCuts$Fits"
abbrev wsX110 : List Cond := u_ws RX11 TX11 11
theorem nmX11 : ∀ a, a < 11 → ∀ b, b < 11 → a ≠ b → (TX11 a).2.1 ≠ (TX11 b).2.1 := by decide +kernel
theorem tyX11_ok : ∀ k, k < 11 → parseFieldDescriptor (TX11 k).2.2.1 = some (tyX11 k) := by decide +kernel
abbrev cX11_init : ByteArray := prog_1_method_1_code
def yX11_init : MethodName := ⟨RX11, "<init>", "()V"⟩
abbrev cX11_feed : ByteArray := prog_1_method_2_code
def yX11_feed : MethodName := ⟨RX11, "feed", "(IIIII)I"⟩
abbrev cX11_stream : ByteArray := prog_1_method_3_code
def yX11_stream : MethodName := ⟨RX11, "stream", "(I)I"⟩
abbrev cX11_rules : ByteArray := prog_1_method_4_code
def yX11_rules : MethodName := ⟨RX11, "rules", "(I)I"⟩
abbrev cX11_fault : ByteArray := prog_1_method_5_code
def yX11_fault : MethodName := ⟨RX11, "fault", "()I"⟩
abbrev cX11_way : ByteArray := prog_1_method_6_code
def yX11_way : MethodName := ⟨RX11, "way", "(II)I"⟩
abbrev cX11_flow : ByteArray := prog_1_method_7_code
def yX11_flow : MethodName := ⟨RX11, "flow", "(IIII)V"⟩
abbrev cX11_span : ByteArray := prog_1_method_8_code
def yX11_span : MethodName := ⟨RX11, "span", "(III)V"⟩
abbrev cX11_most : ByteArray := prog_1_method_9_code
def yX11_most : MethodName := ⟨RX11, "most", "(II)I"⟩
abbrev cX11_assign : ByteArray := prog_1_method_10_code
def yX11_assign : MethodName := ⟨RX11, "assign", "(II)I"⟩
abbrev cX11_paint : ByteArray := prog_1_method_11_code
def yX11_paint : MethodName := ⟨RX11, "paint", "(III)I"⟩
abbrev cX11_limit : ByteArray := prog_1_method_12_code
def yX11_limit : MethodName := ⟨RX11, "limit", "(II)I"⟩
abbrev cX11_hears : ByteArray := prog_1_method_13_code
def yX11_hears : MethodName := ⟨RX11, "hears", "(III)I"⟩
abbrev cX11_peak : ByteArray := prog_1_method_14_code
def yX11_peak : MethodName := ⟨RX11, "peak", "(II)I"⟩
abbrev cX11_whole : ByteArray := prog_1_method_15_code
def yX11_whole : MethodName := ⟨RX11, "whole", "(I)Z"⟩
abbrev cX11_neck : ByteArray := prog_1_method_16_code
def yX11_neck : MethodName := ⟨RX11, "neck", "(II)I"⟩
abbrev cX11_shorts : ByteArray := prog_1_method_17_code
def yX11_shorts : MethodName := ⟨RX11, "shorts", "(I)I"⟩
abbrev cX11_length : ByteArray := prog_1_method_18_code
def yX11_length : MethodName := ⟨RX11, "length", "(I)I"⟩
abbrev cX11_edge : ByteArray := prog_1_method_19_code
def yX11_edge : MethodName := ⟨RX11, "edge", "(I)I"⟩
abbrev cX11_holds : ByteArray := prog_1_method_20_code
def yX11_holds : MethodName := ⟨RX11, "holds", "()Z"⟩
abbrev cX11_cost : ByteArray := prog_1_method_21_code
def yX11_cost : MethodName := ⟨RX11, "cost", "()I"⟩
abbrev cX11_better : ByteArray := prog_1_method_22_code
def yX11_better : MethodName := ⟨RX11, "better", "(I)I"⟩
abbrev cX11_grow : ByteArray := prog_1_method_23_code
def yX11_grow : MethodName := ⟨RX11, "grow", "(I)I"⟩
abbrev cX11_region : ByteArray := prog_1_method_24_code
def yX11_region : MethodName := ⟨RX11, "region", "(I)I"⟩
abbrev cX11_parted : ByteArray := prog_1_method_25_code
def yX11_parted : MethodName := ⟨RX11, "parted", "(II)I"⟩
abbrev cX11_clear : ByteArray := prog_1_method_26_code
def yX11_clear : MethodName := ⟨RX11, "clear", "()I"⟩
abbrev cX11_configure : ByteArray := prog_1_method_27_code
def yX11_configure : MethodName := ⟨RX11, "configure", "(I)I"⟩
abbrev cX11_pairs : ByteArray := prog_1_method_28_code
def yX11_pairs : MethodName := ⟨RX11, "pairs", "(II)I"⟩
abbrev cX11_busy : ByteArray := prog_1_method_29_code
def yX11_busy : MethodName := ⟨RX11, "busy", "(I)I"⟩
abbrev cX11_plan : ByteArray := prog_1_method_30_code
def yX11_plan : MethodName := ⟨RX11, "plan", "(II)I"⟩
abbrev cX11_hours : ByteArray := prog_1_method_31_code
def yX11_hours : MethodName := ⟨RX11, "hours", "(II)I"⟩
abbrev cX11_ill : ByteArray := prog_1_method_32_code
def yX11_ill : MethodName := ⟨RX11, "ill", "(II)I"⟩
abbrev cX11_rota : ByteArray := prog_1_method_33_code
def yX11_rota : MethodName := ⟨RX11, "rota", "(III)I"⟩
abbrev cX11_lacks : ByteArray := prog_1_method_34_code
def yX11_lacks : MethodName := ⟨RX11, "lacks", "(II)I"⟩
abbrev cX11_enough : ByteArray := prog_1_method_35_code
def yX11_enough : MethodName := ⟨RX11, "enough", "(I)I"⟩
abbrev cX11_storm : ByteArray := prog_1_method_36_code
def yX11_storm : MethodName := ⟨RX11, "storm", "(IZ)Z"⟩
abbrev cX11_mends : ByteArray := prog_1_method_37_code
def yX11_mends : MethodName := ⟨RX11, "mends", "(IIII)I"⟩
abbrev cX11_did : ByteArray := prog_1_method_38_code
def yX11_did : MethodName := ⟨RX11, "did", "(IIIZ)I"⟩
abbrev cX11_fit : ByteArray := prog_1_method_39_code
def yX11_fit : MethodName := ⟨RX11, "fit", "(I)I"⟩
abbrev cX11_lead : ByteArray := prog_1_method_40_code
def yX11_lead : MethodName := ⟨RX11, "lead", "(IIIZ)I"⟩
abbrev cX11_worth : ByteArray := prog_1_method_41_code
def yX11_worth : MethodName := ⟨RX11, "worth", "(II)I"⟩
abbrev cX11_quiet : ByteArray := prog_1_method_42_code
def yX11_quiet : MethodName := ⟨RX11, "quiet", "(I)I"⟩
abbrev cX11_mark : ByteArray := prog_1_method_43_code
def yX11_mark : MethodName := ⟨RX11, "mark", "()I"⟩
abbrev cX11_back : ByteArray := prog_1_method_44_code
def yX11_back : MethodName := ⟨RX11, "back", "()I"⟩
abbrev cX11_count : ByteArray := prog_1_method_45_code
def yX11_count : MethodName := ⟨RX11, "count", "(I)I"⟩
abbrev cX11_listenTo : ByteArray := prog_1_method_46_code
def yX11_listenTo : MethodName := ⟨RX11, "listenTo", "(I)V"⟩
abbrev cX11_needStream : ByteArray := prog_1_method_47_code
def yX11_needStream : MethodName := ⟨RX11, "needStream", "(I)V"⟩
abbrev cX11_needCell : ByteArray := prog_1_method_48_code
def yX11_needCell : MethodName := ⟨RX11, "needCell", "(I)V"⟩
abbrev cX11_needPiece : ByteArray := prog_1_method_49_code
def yX11_needPiece : MethodName := ⟨RX11, "needPiece", "(I)V"⟩
abbrev cX11_needQuarter : ByteArray := prog_1_method_50_code
def yX11_needQuarter : MethodName := ⟨RX11, "needQuarter", "(I)V"⟩
abbrev cX11_needWithin : ByteArray := prog_1_method_51_code
def yX11_needWithin : MethodName := ⟨RX11, "needWithin", "(III)V"⟩
def RX12 : String := "SkyCutsModel"
def TX12 : u_T := fun k => match k with
  | 0 => ("SkyCutsModel", "thrown", "I", false)
  | 1 => ("SkyCutsModel", "tape", "I", false)
  | 2 => ("SkyCutsModel", "size", "I", false)
  | 3 => ("SkyCutsModel", "place", "I", false)
  | 4 => ("SkyCutsModel", "at", "I", false)
  | 5 => ("SkyCutsModel", "open", "I", false)
  | 6 => ("SkyCutsModel", "fault", "I", false)
  | 7 => ("SkyCutsModel", "faultAt", "I", false)
  | 8 => ("SkyCutsModel", "which", "I", false)
  | 9 => ("SkyCutsModel", "fed", "[I", true)
  | 10 => ("SkyCutsModel", "rules", "[I", true)
  | 11 => ("SkyCutsModel", "ruleSize", "I", false)
  | 12 => ("SkyCutsModel", "clauses", "I", false)
  | 13 => ("SkyCutsModel", "joins", "I", false)
  | 14 => ("SkyCutsModel", "loadAt", "I", false)
  | 15 => ("SkyCutsModel", "joinAt", "[I", true)
  | 16 => ("SkyCutsModel", "foundClauses", "I", false)
  | 17 => ("SkyCutsModel", "foundJoins", "I", false)
  | 18 => ("SkyCutsModel", "foundLoad", "I", false)
  | 19 => ("SkyCutsModel", "madeOf", "I", false)
  | 20 => ("SkyCutsModel", "foundJoinAt", "[I", true)
  | 21 => ("SkyCutsModel", "names", "[I", true)
  | 22 => ("SkyCutsModel", "streams", "I", false)
  | 23 => ("SkyCutsModel", "many", "[I", true)
  | 24 => ("SkyCutsModel", "early", "[I", true)
  | 25 => ("SkyCutsModel", "late", "[I", true)
  | 26 => ("SkyCutsModel", "told", "[I", true)
  | 27 => ("SkyCutsModel", "toldMany", "I", false)
  | 28 => ("SkyCutsModel", "way", "[[I", true)
  | 29 => ("SkyCutsModel", "lies", "[[I", true)
  | 30 => ("SkyCutsModel", "count", "[[I", true)
  | 31 => ("SkyCutsModel", "nowMany", "[I", true)
  | 32 => ("SkyCutsModel", "nowMost", "[I", true)
  | 33 => ("SkyCutsModel", "nowWay", "[[I", true)
  | 34 => ("SkyCutsModel", "nowLies", "[[I", true)
  | 35 => ("SkyCutsModel", "piece", "[I", true)
  | 36 => ("SkyCutsModel", "limit", "[I", true)
  | 37 => ("SkyCutsModel", "set", "[Z", true)
  | 38 => ("SkyCutsModel", "met", "[Z", true)
  | 39 => ("SkyCutsModel", "heap", "[I", true)
  | 40 => ("SkyCutsModel", "peaks", "[I", true)
  | 41 => ("SkyCutsModel", "moveCell", "I", false)
  | 42 => ("SkyCutsModel", "movePiece", "I", false)
  | 43 => ("SkyCutsModel", "moveCost", "I", false)
  | 44 => ("SkyCutsModel", "length", "I", false)
  | 45 => ("SkyCutsModel", "busy", "I", false)
  | 46 => ("SkyCutsModel", "regions", "I", false)
  | 47 => ("SkyCutsModel", "markMany", "I", false)
  | 48 => ("SkyCutsModel", "configurations", "I", false)
  | 49 => ("SkyCutsModel", "region", "[I", true)
  | 50 => ("SkyCutsModel", "parting", "[I", true)
  | 51 => ("SkyCutsModel", "bestParting", "[I", true)
  | 52 => ("SkyCutsModel", "groups", "[I", true)
  | 53 => ("SkyCutsModel", "peakOf", "[I", true)
  | 54 => ("SkyCutsModel", "overOf", "[I", true)
  | 55 => ("SkyCutsModel", "isWholeOf", "[Z", true)
  | 56 => ("SkyCutsModel", "bestPeak", "I", false)
  | 57 => ("SkyCutsModel", "bestOver", "I", false)
  | 58 => ("SkyCutsModel", "marks", "[[I", true)
  | 59 => ("SkyCutsModel", "planned", "[[[I", true)
  | 60 => ("SkyCutsModel", "plan", "[I", true)
  | 61 => ("SkyCutsModel", "needs", "[I", true)
  | 62 => ("SkyCutsModel", "watch", "[I", true)
  | 63 => ("SkyCutsModel", "work", "I", false)
  | 64 => ("SkyCutsModel", "rest", "I", false)
  | 65 => ("SkyCutsModel", "lacking", "I", false)
  | 66 => ("SkyCutsModel", "ill", "[I", true)
  | 67 => ("SkyCutsModel", "isStorm", "[Z", true)
  | 68 => ("SkyCutsModel", "hits", "[I", true)
  | 69 => ("SkyCutsModel", "mend", "[I", true)
  | 70 => ("SkyCutsModel", "bestMend", "[I", true)
  | 71 => ("SkyCutsModel", "roundMany", "[I", true)
  | 72 => ("SkyCutsModel", "from", "[I", true)
  | 73 => ("SkyCutsModel", "round", "[[I", true)
  | 74 => ("SkyCutsModel", "hitMany", "I", false)
  | 75 => ("SkyCutsModel", "leastMinutes", "I", false)
  | 76 => ("SkyCutsModel", "rows", "I", false)
  | 77 => ("SkyCutsModel", "heard", "[[I", true)
  | 78 => ("SkyCutsModel", "did", "[I", true)
  | 79 => ("SkyCutsModel", "weights", "[I", true)
  | 80 => ("SkyCutsModel", "isBack", "[Z", true)
  | 81 => ("SkyCutsModel", "off", "I", false)
  | _ => ("SkyCutsModel", "offBack", "I", false)
def tyX12 : Nat → FieldType := fun k => match k with
  | 0 => .int
  | 1 => .int
  | 2 => .int
  | 3 => .int
  | 4 => .int
  | 5 => .int
  | 6 => .int
  | 7 => .int
  | 8 => .int
  | 9 => .array .int
  | 10 => .array .int
  | 11 => .int
  | 12 => .int
  | 13 => .int
  | 14 => .int
  | 15 => .array .int
  | 16 => .int
  | 17 => .int
  | 18 => .int
  | 19 => .int
  | 20 => .array .int
  | 21 => .array .int
  | 22 => .int
  | 23 => .array .int
  | 24 => .array .int
  | 25 => .array .int
  | 26 => .array .int
  | 27 => .int
  | 28 => .array (.array .int)
  | 29 => .array (.array .int)
  | 30 => .array (.array .int)
  | 31 => .array .int
  | 32 => .array .int
  | 33 => .array (.array .int)
  | 34 => .array (.array .int)
  | 35 => .array .int
  | 36 => .array .int
  | 37 => .array .boolean
  | 38 => .array .boolean
  | 39 => .array .int
  | 40 => .array .int
  | 41 => .int
  | 42 => .int
  | 43 => .int
  | 44 => .int
  | 45 => .int
  | 46 => .int
  | 47 => .int
  | 48 => .int
  | 49 => .array .int
  | 50 => .array .int
  | 51 => .array .int
  | 52 => .array .int
  | 53 => .array .int
  | 54 => .array .int
  | 55 => .array .boolean
  | 56 => .int
  | 57 => .int
  | 58 => .array (.array .int)
  | 59 => .array (.array (.array .int))
  | 60 => .array .int
  | 61 => .array .int
  | 62 => .array .int
  | 63 => .int
  | 64 => .int
  | 65 => .int
  | 66 => .array .int
  | 67 => .array .boolean
  | 68 => .array .int
  | 69 => .array .int
  | 70 => .array .int
  | 71 => .array .int
  | 72 => .array .int
  | 73 => .array (.array .int)
  | 74 => .int
  | 75 => .int
  | 76 => .int
  | 77 => .array (.array .int)
  | 78 => .array .int
  | 79 => .array .int
  | 80 => .array .boolean
  | 81 => .int
  | _ => .int
abbrev wsX120 : List Cond := u_ws RX12 TX12 83
theorem nmX12 : ∀ a, a < 83 → ∀ b, b < 83 → a ≠ b → (TX12 a).2.1 ≠ (TX12 b).2.1 := by decide +kernel
theorem tyX12_ok : ∀ k, k < 83 → parseFieldDescriptor (TX12 k).2.2.1 = some (tyX12 k) := by decide +kernel
abbrev cX12_init : ByteArray := prog_14_method_1_code
def yX12_init : MethodName := ⟨RX12, "<init>", "()V"⟩
abbrev cX12_thrown : ByteArray := prog_14_method_2_code
def yX12_thrown : MethodName := ⟨RX12, "thrown", "()I"⟩
abbrev cX12_bad : ByteArray := prog_14_method_3_code
def yX12_bad : MethodName := ⟨RX12, "bad", "(ZI)Z"⟩
abbrev cX12_in : ByteArray := prog_14_method_4_code
def yX12_in : MethodName := ⟨RX12, "in", "(III)Z"⟩
abbrev cX12_amount : ByteArray := prog_14_method_5_code
def yX12_amount : MethodName := ⟨RX12, "amount", "(I)I"⟩
abbrev cX12_beside : ByteArray := prog_14_method_6_code
def yX12_beside : MethodName := ⟨RX12, "beside", "(II)I"⟩
abbrev cX12_feed : ByteArray := prog_14_method_7_code
def yX12_feed : MethodName := ⟨RX12, "feed", "(IIIII)I"⟩
abbrev cX12_byteAt : ByteArray := prog_14_method_8_code
def yX12_byteAt : MethodName := ⟨RX12, "byteAt", "(I)I"⟩
abbrev cX12_blanks : ByteArray := prog_14_method_9_code
def yX12_blanks : MethodName := ⟨RX12, "blanks", "()V"⟩
abbrev cX12_wrong : ByteArray := prog_14_method_10_code
def yX12_wrong : MethodName := ⟨RX12, "wrong", "(II)V"⟩
abbrev cX12_isDigit : ByteArray := prog_14_method_11_code
def yX12_isDigit : MethodName := ⟨RX12, "isDigit", "(I)Z"⟩
abbrev cX12_number : ByteArray := prog_14_method_12_code
def yX12_number : MethodName := ⟨RX12, "number", "(II)I"⟩
abbrev cX12_beginText : ByteArray := prog_14_method_13_code
def yX12_beginText : MethodName := ⟨RX12, "beginText", "(I)V"⟩
abbrev cX12_isTold : ByteArray := prog_14_method_14_code
def yX12_isTold : MethodName := ⟨RX12, "isTold", "(I)Z"⟩
abbrev cX12_move : ByteArray := prog_14_method_15_code
def yX12_move : MethodName := ⟨RX12, "move", "()V"⟩
abbrev cX12_stream : ByteArray := prog_14_method_16_code
def yX12_stream : MethodName := ⟨RX12, "stream", "(I)I"⟩
abbrev cX12_wordHere : ByteArray := prog_14_method_17_code
def yX12_wordHere : MethodName := ⟨RX12, "wordHere", "()I"⟩
abbrev cX12_word : ByteArray := prog_14_method_18_code
def yX12_word : MethodName := ⟨RX12, "word", "(IIIIII)I"⟩
abbrev cX12_skipWord : ByteArray := prog_14_method_19_code
def yX12_skipWord : MethodName := ⟨RX12, "skipWord", "()V"⟩
abbrev cX12_sign : ByteArray := prog_14_method_20_code
def yX12_sign : MethodName := ⟨RX12, "sign", "(I)V"⟩
abbrev cX12_opens : ByteArray := prog_14_method_21_code
def yX12_opens : MethodName := ⟨RX12, "opens", "(I)V"⟩
abbrev cX12_nameHere : ByteArray := prog_14_method_22_code
def yX12_nameHere : MethodName := ⟨RX12, "nameHere", "()I"⟩
abbrev cX12_unit : ByteArray := prog_14_method_23_code
def yX12_unit : MethodName := ⟨RX12, "unit", "()I"⟩
abbrev cX12_product : ByteArray := prog_14_method_24_code
def yX12_product : MethodName := ⟨RX12, "product", "()I"⟩
abbrev cX12_sum : ByteArray := prog_14_method_25_code
def yX12_sum : MethodName := ⟨RX12, "sum", "()I"⟩
abbrev cX12_test : ByteArray := prog_14_method_26_code
def yX12_test : MethodName := ⟨RX12, "test", "()Z"⟩
abbrev cX12_ands : ByteArray := prog_14_method_27_code
def yX12_ands : MethodName := ⟨RX12, "ands", "()Z"⟩
abbrev cX12_ors : ByteArray := prog_14_method_28_code
def yX12_ors : MethodName := ⟨RX12, "ors", "()Z"⟩
abbrev cX12_clause : ByteArray := prog_14_method_29_code
def yX12_clause : MethodName := ⟨RX12, "clause", "()V"⟩
abbrev cX12_rules : ByteArray := prog_14_method_30_code
def yX12_rules : MethodName := ⟨RX12, "rules", "(I)I"⟩
abbrev cX12_fault : ByteArray := prog_14_method_31_code
def yX12_fault : MethodName := ⟨RX12, "fault", "()I"⟩
abbrev cX12_readsAt : ByteArray := prog_14_method_32_code
def yX12_readsAt : MethodName := ⟨RX12, "readsAt", "(I)V"⟩
abbrev cX12_way : ByteArray := prog_14_method_33_code
def yX12_way : MethodName := ⟨RX12, "way", "(II)I"⟩
abbrev cX12_flow : ByteArray := prog_14_method_34_code
def yX12_flow : MethodName := ⟨RX12, "flow", "(IIII)V"⟩
abbrev cX12_span : ByteArray := prog_14_method_35_code
def yX12_span : MethodName := ⟨RX12, "span", "(III)V"⟩
abbrev cX12_mostOf : ByteArray := prog_14_method_36_code
def yX12_mostOf : MethodName := ⟨RX12, "mostOf", "(II)I"⟩
abbrev cX12_most : ByteArray := prog_14_method_37_code
def yX12_most : MethodName := ⟨RX12, "most", "(II)I"⟩
abbrev cX12_asTold : ByteArray := prog_14_method_38_code
def yX12_asTold : MethodName := ⟨RX12, "asTold", "(I)V"⟩
abbrev cX12_waysAsTold : ByteArray := prog_14_method_39_code
def yX12_waysAsTold : MethodName := ⟨RX12, "waysAsTold", "()V"⟩
abbrev cX12_numbersIn : ByteArray := prog_14_method_40_code
def yX12_numbersIn : MethodName := ⟨RX12, "numbersIn", "(I)V"⟩
abbrev cX12_stepOf : ByteArray := prog_14_method_41_code
def yX12_stepOf : MethodName := ⟨RX12, "stepOf", "(II)I"⟩
abbrev cX12_goes : ByteArray := prog_14_method_42_code
def yX12_goes : MethodName := ⟨RX12, "goes", "(II)I"⟩
abbrev cX12_listen : ByteArray := prog_14_method_43_code
def yX12_listen : MethodName := ⟨RX12, "listen", "()V"⟩
abbrev cX12_load : ByteArray := prog_14_method_44_code
def yX12_load : MethodName := ⟨RX12, "load", "()I"⟩
abbrev cX12_joinsHold : ByteArray := prog_14_method_45_code
def yX12_joinsHold : MethodName := ⟨RX12, "joinsHold", "()Z"⟩
abbrev cX12_setOf : ByteArray := prog_14_method_46_code
def yX12_setOf : MethodName := ⟨RX12, "setOf", "(I)V"⟩
abbrev cX12_peakOfSet : ByteArray := prog_14_method_47_code
def yX12_peakOfSet : MethodName := ⟨RX12, "peakOfSet", "()I"⟩
abbrev cX12_peakOfPiece : ByteArray := prog_14_method_48_code
def yX12_peakOfPiece : MethodName := ⟨RX12, "peakOfPiece", "(I)I"⟩
abbrev cX12_hasCells : ByteArray := prog_14_method_49_code
def yX12_hasCells : MethodName := ⟨RX12, "hasCells", "(I)Z"⟩
abbrev cX12_assign : ByteArray := prog_14_method_50_code
def yX12_assign : MethodName := ⟨RX12, "assign", "(II)I"⟩
abbrev cX12_paint : ByteArray := prog_14_method_51_code
def yX12_paint : MethodName := ⟨RX12, "paint", "(III)I"⟩
abbrev cX12_limit : ByteArray := prog_14_method_52_code
def yX12_limit : MethodName := ⟨RX12, "limit", "(II)I"⟩
abbrev cX12_hears : ByteArray := prog_14_method_53_code
def yX12_hears : MethodName := ⟨RX12, "hears", "(III)I"⟩
abbrev cX12_peak : ByteArray := prog_14_method_54_code
def yX12_peak : MethodName := ⟨RX12, "peak", "(II)I"⟩
abbrev cX12_hangs : ByteArray := prog_14_method_55_code
def yX12_hangs : MethodName := ⟨RX12, "hangs", "()Z"⟩
abbrev cX12_isWhole : ByteArray := prog_14_method_56_code
def yX12_isWhole : MethodName := ⟨RX12, "isWhole", "(I)Z"⟩
abbrev cX12_whole : ByteArray := prog_14_method_57_code
def yX12_whole : MethodName := ⟨RX12, "whole", "(I)Z"⟩
abbrev cX12_neck : ByteArray := prog_14_method_58_code
def yX12_neck : MethodName := ⟨RX12, "neck", "(II)I"⟩
abbrev cX12_shorts : ByteArray := prog_14_method_59_code
def yX12_shorts : MethodName := ⟨RX12, "shorts", "(I)I"⟩
abbrev cX12_length : ByteArray := prog_14_method_60_code
def yX12_length : MethodName := ⟨RX12, "length", "(I)I"⟩
abbrev cX12_isCrossing : ByteArray := prog_14_method_61_code
def yX12_isCrossing : MethodName := ⟨RX12, "isCrossing", "(I)Z"⟩
abbrev cX12_edge : ByteArray := prog_14_method_62_code
def yX12_edge : MethodName := ⟨RX12, "edge", "(I)I"⟩
abbrev cX12_holds : ByteArray := prog_14_method_63_code
def yX12_holds : MethodName := ⟨RX12, "holds", "()Z"⟩
abbrev cX12_total : ByteArray := prog_14_method_64_code
def yX12_total : MethodName := ⟨RX12, "total", "(I)I"⟩
abbrev cX12_stepsCost : ByteArray := prog_14_method_65_code
def yX12_stepsCost : MethodName := ⟨RX12, "stepsCost", "()I"⟩
abbrev cX12_findPeaks : ByteArray := prog_14_method_66_code
def yX12_findPeaks : MethodName := ⟨RX12, "findPeaks", "()V"⟩
abbrev cX12_costByPeaks : ByteArray := prog_14_method_67_code
def yX12_costByPeaks : MethodName := ⟨RX12, "costByPeaks", "()I"⟩
abbrev cX12_costOf : ByteArray := prog_14_method_68_code
def yX12_costOf : MethodName := ⟨RX12, "costOf", "()I"⟩
abbrev cX12_cost : ByteArray := prog_14_method_69_code
def yX12_cost : MethodName := ⟨RX12, "cost", "()I"⟩
abbrev cX12_findMove : ByteArray := prog_14_method_70_code
def yX12_findMove : MethodName := ⟨RX12, "findMove", "()V"⟩
abbrev cX12_tries : ByteArray := prog_14_method_71_code
def yX12_tries : MethodName := ⟨RX12, "tries", "(II)V"⟩
abbrev cX12_better : ByteArray := prog_14_method_72_code
def yX12_better : MethodName := ⟨RX12, "better", "(I)I"⟩
abbrev cX12_grow : ByteArray := prog_14_method_73_code
def yX12_grow : MethodName := ⟨RX12, "grow", "(I)I"⟩
abbrev cX12_region : ByteArray := prog_14_method_74_code
def yX12_region : MethodName := ⟨RX12, "region", "(I)I"⟩
abbrev cX12_clear : ByteArray := prog_14_method_75_code
def yX12_clear : MethodName := ⟨RX12, "clear", "()I"⟩
abbrev cX12_findSets : ByteArray := prog_14_method_76_code
def yX12_findSets : MethodName := ⟨RX12, "findSets", "()V"⟩
abbrev cX12_parts : ByteArray := prog_14_method_77_code
def yX12_parts : MethodName := ⟨RX12, "parts", "(III)V"⟩
abbrev cX12_judges : ByteArray := prog_14_method_78_code
def yX12_judges : MethodName := ⟨RX12, "judges", "(I)V"⟩
abbrev cX12_parted : ByteArray := prog_14_method_79_code
def yX12_parted : MethodName := ⟨RX12, "parted", "(II)I"⟩
abbrev cX12_configure : ByteArray := prog_14_method_80_code
def yX12_configure : MethodName := ⟨RX12, "configure", "(I)I"⟩
abbrev cX12_groupOf : ByteArray := prog_14_method_81_code
def yX12_groupOf : MethodName := ⟨RX12, "groupOf", "(II)I"⟩
abbrev cX12_pairsOf : ByteArray := prog_14_method_82_code
def yX12_pairsOf : MethodName := ⟨RX12, "pairsOf", "(I)I"⟩
abbrev cX12_pairs : ByteArray := prog_14_method_83_code
def yX12_pairs : MethodName := ⟨RX12, "pairs", "(II)I"⟩
abbrev cX12_busy : ByteArray := prog_14_method_84_code
def yX12_busy : MethodName := ⟨RX12, "busy", "(I)I"⟩
abbrev cX12_isBusy : ByteArray := prog_14_method_85_code
def yX12_isBusy : MethodName := ⟨RX12, "isBusy", "(I)Z"⟩
abbrev cX12_findPlan : ByteArray := prog_14_method_86_code
def yX12_findPlan : MethodName := ⟨RX12, "findPlan", "(I)Z"⟩
abbrev cX12_tells : ByteArray := prog_14_method_87_code
def yX12_tells : MethodName := ⟨RX12, "tells", "(I)Z"⟩
abbrev cX12_plan : ByteArray := prog_14_method_88_code
def yX12_plan : MethodName := ⟨RX12, "plan", "(II)I"⟩
abbrev cX12_hours : ByteArray := prog_14_method_89_code
def yX12_hours : MethodName := ⟨RX12, "hours", "(II)I"⟩
abbrev cX12_ill : ByteArray := prog_14_method_90_code
def yX12_ill : MethodName := ⟨RX12, "ill", "(II)I"⟩
abbrev cX12_findRota : ByteArray := prog_14_method_91_code
def yX12_findRota : MethodName := ⟨RX12, "findRota", "(I)V"⟩
abbrev cX12_rota : ByteArray := prog_14_method_92_code
def yX12_rota : MethodName := ⟨RX12, "rota", "(III)I"⟩
abbrev cX12_lacks : ByteArray := prog_14_method_93_code
def yX12_lacks : MethodName := ⟨RX12, "lacks", "(II)I"⟩
abbrev cX12_enough : ByteArray := prog_14_method_94_code
def yX12_enough : MethodName := ⟨RX12, "enough", "(I)I"⟩
abbrev cX12_storm : ByteArray := prog_14_method_95_code
def yX12_storm : MethodName := ⟨RX12, "storm", "(IZ)Z"⟩
abbrev cX12_isHit : ByteArray := prog_14_method_96_code
def yX12_isHit : MethodName := ⟨RX12, "isHit", "(II)Z"⟩
abbrev cX12_findRound : ByteArray := prog_14_method_97_code
def yX12_findRound : MethodName := ⟨RX12, "findRound", "(I)V"⟩
abbrev cX12_minutesOf : ByteArray := prog_14_method_98_code
def yX12_minutesOf : MethodName := ⟨RX12, "minutesOf", "(III)I"⟩
abbrev cX12_isNoneFull : ByteArray := prog_14_method_99_code
def yX12_isNoneFull : MethodName := ⟨RX12, "isNoneFull", "()Z"⟩
abbrev cX12_asMended : ByteArray := prog_14_method_100_code
def yX12_asMended : MethodName := ⟨RX12, "asMended", "(I)V"⟩
abbrev cX12_goThrough : ByteArray := prog_14_method_101_code
def yX12_goThrough : MethodName := ⟨RX12, "goThrough", "(IIIII)V"⟩
abbrev cX12_mends : ByteArray := prog_14_method_102_code
def yX12_mends : MethodName := ⟨RX12, "mends", "(IIII)I"⟩
abbrev cX12_did : ByteArray := prog_14_method_103_code
def yX12_did : MethodName := ⟨RX12, "did", "(IIIZ)I"⟩
abbrev cX12_offOf : ByteArray := prog_14_method_104_code
def yX12_offOf : MethodName := ⟨RX12, "offOf", "(IZ)I"⟩
abbrev cX12_fit : ByteArray := prog_14_method_105_code
def yX12_fit : MethodName := ⟨RX12, "fit", "(I)I"⟩
abbrev cX12_lead : ByteArray := prog_14_method_106_code
def yX12_lead : MethodName := ⟨RX12, "lead", "(IIIZ)I"⟩
abbrev cX12_worth : ByteArray := prog_14_method_107_code
def yX12_worth : MethodName := ⟨RX12, "worth", "(II)I"⟩
abbrev cX12_quiet : ByteArray := prog_14_method_108_code
def yX12_quiet : MethodName := ⟨RX12, "quiet", "(I)I"⟩
abbrev cX12_mark : ByteArray := prog_14_method_109_code
def yX12_mark : MethodName := ⟨RX12, "mark", "()I"⟩
abbrev cX12_back : ByteArray := prog_14_method_110_code
def yX12_back : MethodName := ⟨RX12, "back", "()I"⟩
abbrev cX12_count : ByteArray := prog_14_method_111_code
def yX12_count : MethodName := ⟨RX12, "count", "(I)I"⟩
def RJ6 : String := "java/lang/Integer"
def TJ6 : u_T := fun k => match k with
  | _ => ("", "", "", false)
def tyJ6 : Nat → FieldType := fun k => match k with
  | _ => .int
abbrev wsJ60 : List Cond := u_ws RJ6 TJ6 0
theorem nmJ6 : ∀ a, a < 0 → ∀ b, b < 0 → a ≠ b → (TJ6 a).2.1 ≠ (TJ6 b).2.1 := by decide +kernel
theorem tyJ6_ok : ∀ k, k < 0 → parseFieldDescriptor (TJ6 k).2.2.1 = some (tyJ6 k) := by decide +kernel
abbrev cJ6_bitCount_0f7a4 : ByteArray := prog_18_method_49_code
def yJ6_bitCount_0f7a4 : MethodName := ⟨RJ6, "bitCount", "(I)I"⟩
def RJ13 : String := "java/lang/Long"
def TJ13 : u_T := fun k => match k with
  | _ => ("", "", "", false)
def tyJ13 : Nat → FieldType := fun k => match k with
  | _ => .int
abbrev wsJ130 : List Cond := u_ws RJ13 TJ13 0
theorem nmJ13 : ∀ a, a < 0 → ∀ b, b < 0 → a ≠ b → (TJ13 a).2.1 ≠ (TJ13 b).2.1 := by decide +kernel
theorem tyJ13_ok : ∀ k, k < 0 → parseFieldDescriptor (TJ13 k).2.2.1 = some (tyJ13 k) := by decide +kernel
abbrev cJ13_lowestOneBit_067f4 : ByteArray := prog_19_method_47_code
def yJ13_lowestOneBit_067f4 : MethodName := ⟨RJ13, "lowestOneBit", "(J)J"⟩
abbrev cJ13_bitCount_95d88 : ByteArray := prog_19_method_50_code
def yJ13_bitCount_95d88 : MethodName := ⟨RJ13, "bitCount", "(J)I"⟩
def RJ9 : String := "java/lang/Math"
def TJ9 : u_T := fun k => match k with
  | _ => ("", "", "", false)
def tyJ9 : Nat → FieldType := fun k => match k with
  | _ => .int
abbrev wsJ90 : List Cond := u_ws RJ9 TJ9 0
theorem nmJ9 : ∀ a, a < 0 → ∀ b, b < 0 → a ≠ b → (TJ9 a).2.1 ≠ (TJ9 b).2.1 := by decide +kernel
theorem tyJ9_ok : ∀ k, k < 0 → parseFieldDescriptor (TJ9 k).2.2.1 = some (tyJ9 k) := by decide +kernel
abbrev cJ9_abs_0f7a4 : ByteArray := prog_20_method_59_code
def yJ9_abs_0f7a4 : MethodName := ⟨RJ9, "abs", "(I)I"⟩
abbrev cJ9_max_7cf53 : ByteArray := prog_20_method_65_code
def yJ9_max_7cf53 : MethodName := ⟨RJ9, "max", "(II)I"⟩
abbrev cJ9_min_7cf53 : ByteArray := prog_20_method_69_code
def yJ9_min_7cf53 : MethodName := ⟨RJ9, "min", "(II)I"⟩
def RJ0 : String := "java/lang/String"
def TJ0 : u_T := fun k => match k with
  | _ => ("", "", "", false)
def tyJ0 : Nat → FieldType := fun k => match k with
  | _ => .int
abbrev wsJ00 : List Cond := u_ws RJ0 TJ0 0
theorem nmJ0 : ∀ a, a < 0 → ∀ b, b < 0 → a ≠ b → (TJ0 a).2.1 ≠ (TJ0 b).2.1 := by decide +kernel
theorem tyJ0_ok : ∀ k, k < 0 → parseFieldDescriptor (TJ0 k).2.2.1 = some (tyJ0 k) := by decide +kernel
abbrev cJ0_length_8abf5 : ByteArray := prog_22_method_54_code
def yJ0_length_8abf5 : MethodName := ⟨RJ0, "length", "()I"⟩
abbrev cJ0_charAt_5068e : ByteArray := prog_22_method_56_code
def yJ0_charAt_5068e : MethodName := ⟨RJ0, "charAt", "(I)C"⟩
abbrev cJ0_coder_7d493 : ByteArray := prog_22_method_152_code
def yJ0_coder_7d493 : MethodName := ⟨RJ0, "coder", "()B"⟩
abbrev cJ0_isLatin1_aae02 : ByteArray := prog_22_method_154_code
def yJ0_isLatin1_aae02 : MethodName := ⟨RJ0, "isLatin1", "()Z"⟩
abbrev cJ0_checkIndex_df160 : ByteArray := prog_22_method_155_code
def yJ0_checkIndex_df160 : MethodName := ⟨RJ0, "checkIndex", "(II)V"⟩
def RJ1 : String := "java/lang/StringLatin1"
def TJ1 : u_T := fun k => match k with
  | _ => ("", "", "", false)
def tyJ1 : Nat → FieldType := fun k => match k with
  | _ => .int
abbrev wsJ10 : List Cond := u_ws RJ1 TJ1 0
theorem nmJ1 : ∀ a, a < 0 → ∀ b, b < 0 → a ≠ b → (TJ1 a).2.1 ≠ (TJ1 b).2.1 := by decide +kernel
theorem tyJ1_ok : ∀ k, k < 0 → parseFieldDescriptor (TJ1 k).2.2.1 = some (tyJ1 k) := by decide +kernel
abbrev cJ1_charAt_3b067 : ByteArray := prog_23_method_2_code
def yJ1_charAt_3b067 : MethodName := ⟨RJ1, "charAt", "([BI)C"⟩
def RJ2 : String := "java/lang/StringUTF16"
def TJ2 : u_T := fun k => match k with
  | _ => ("", "", "", false)
def tyJ2 : Nat → FieldType := fun k => match k with
  | _ => .int
abbrev wsJ20 : List Cond := u_ws RJ2 TJ2 0
theorem nmJ2 : ∀ a, a < 0 → ∀ b, b < 0 → a ≠ b → (TJ2 a).2.1 ≠ (TJ2 b).2.1 := by decide +kernel
theorem tyJ2_ok : ∀ k, k < 0 → parseFieldDescriptor (TJ2 k).2.2.1 = some (tyJ2 k) := by decide +kernel
abbrev cJ2_getChar_3b067 : ByteArray := prog_24_method_5_code
def yJ2_getChar_3b067 : MethodName := ⟨RJ2, "getChar", "([BI)C"⟩
abbrev cJ2_length_9d52b : ByteArray := prog_24_method_6_code
def yJ2_length_9d52b : MethodName := ⟨RJ2, "length", "([B)I"⟩
abbrev cJ2_charAt_3b067 : ByteArray := prog_24_method_83_code
def yJ2_charAt_3b067 : MethodName := ⟨RJ2, "charAt", "([BI)C"⟩
abbrev cJ2_checkIndex_2214a : ByteArray := prog_24_method_91_code
def yJ2_checkIndex_2214a : MethodName := ⟨RJ2, "checkIndex", "(I[B)V"⟩
def RJ10 : String := "java/lang/System"
def TJ10 : u_T := fun k => match k with
  | _ => ("", "", "", false)
def tyJ10 : Nat → FieldType := fun k => match k with
  | _ => .int
abbrev wsJ100 : List Cond := u_ws RJ10 TJ10 0
theorem nmJ10 : ∀ a, a < 0 → ∀ b, b < 0 → a ≠ b → (TJ10 a).2.1 ≠ (TJ10 b).2.1 := by decide +kernel
theorem tyJ10_ok : ∀ k, k < 0 → parseFieldDescriptor (TJ10 k).2.2.1 = some (tyJ10 k) := by decide +kernel
def RJ7 : String := "java/util/Arrays"
def TJ7 : u_T := fun k => match k with
  | _ => ("", "", "", false)
def tyJ7 : Nat → FieldType := fun k => match k with
  | _ => .int
abbrev wsJ70 : List Cond := u_ws RJ7 TJ7 0
theorem nmJ7 : ∀ a, a < 0 → ∀ b, b < 0 → a ≠ b → (TJ7 a).2.1 ≠ (TJ7 b).2.1 := by decide +kernel
theorem tyJ7_ok : ∀ k, k < 0 → parseFieldDescriptor (TJ7 k).2.2.1 = some (tyJ7 k) := by decide +kernel
abbrev cJ7_fill_53178 : ByteArray := prog_27_method_103_code
def yJ7_fill_53178 : MethodName := ⟨RJ7, "fill", "([II)V"⟩
def RJ3 : String := "jdk/internal/util/Preconditions"
def TJ3 : u_T := fun k => match k with
  | _ => ("", "", "", false)
def tyJ3 : Nat → FieldType := fun k => match k with
  | _ => .int
abbrev wsJ30 : List Cond := u_ws RJ3 TJ3 0
theorem nmJ3 : ∀ a, a < 0 → ∀ b, b < 0 → a ≠ b → (TJ3 a).2.1 ≠ (TJ3 b).2.1 := by decide +kernel
theorem tyJ3_ok : ∀ k, k < 0 → parseFieldDescriptor (TJ3 k).2.2.1 = some (tyJ3 k) := by decide +kernel
abbrev cJ3_checkIndex_8e157 : ByteArray := prog_29_method_11_code
def yJ3_checkIndex_8e157 : MethodName := ⟨RJ3, "checkIndex", "(IILjava/util/function/BiFunction;)I"⟩
def RL : String := "SkyCutsLaw"
abbrev cL_stream : ByteArray := method_3_code
def yL_stream : MethodName := ⟨RL, "stream", "(LSkyCuts;I[J)I"⟩
abbrev cL_rules : ByteArray := method_4_code
def yL_rules : MethodName := ⟨RL, "rules", "(LSkyCuts;I[J)I"⟩
abbrev cL_way : ByteArray := method_5_code
def yL_way : MethodName := ⟨RL, "way", "(LSkyCuts;II[J)I"⟩
abbrev cL_flow : ByteArray := method_6_code
def yL_flow : MethodName := ⟨RL, "flow", "(LSkyCuts;IIII)I"⟩
abbrev cL_span : ByteArray := method_7_code
def yL_span : MethodName := ⟨RL, "span", "(LSkyCuts;III)I"⟩
abbrev cL_most : ByteArray := method_8_code
def yL_most : MethodName := ⟨RL, "most", "(LSkyCuts;II[J)I"⟩
abbrev cL_assign : ByteArray := method_9_code
def yL_assign : MethodName := ⟨RL, "assign", "(LSkyCuts;II[J)I"⟩
abbrev cL_paint : ByteArray := method_10_code
def yL_paint : MethodName := ⟨RL, "paint", "(LSkyCuts;III[J)I"⟩
abbrev cL_limit : ByteArray := method_11_code
def yL_limit : MethodName := ⟨RL, "limit", "(LSkyCuts;II[J)I"⟩
abbrev cL_hears : ByteArray := method_12_code
def yL_hears : MethodName := ⟨RL, "hears", "(LSkyCuts;III[J)I"⟩
abbrev cL_peak : ByteArray := method_13_code
def yL_peak : MethodName := ⟨RL, "peak", "(LSkyCuts;II[J)I"⟩
abbrev cL_whole : ByteArray := method_14_code
def yL_whole : MethodName := ⟨RL, "whole", "(LSkyCuts;I[J)I"⟩
abbrev cL_neck : ByteArray := method_15_code
def yL_neck : MethodName := ⟨RL, "neck", "(LSkyCuts;II[J)I"⟩
abbrev cL_shorts : ByteArray := method_16_code
def yL_shorts : MethodName := ⟨RL, "shorts", "(LSkyCuts;I[J)I"⟩
abbrev cL_length : ByteArray := method_17_code
def yL_length : MethodName := ⟨RL, "length", "(LSkyCuts;I[J)I"⟩
abbrev cL_edge : ByteArray := method_18_code
def yL_edge : MethodName := ⟨RL, "edge", "(LSkyCuts;I[J)I"⟩
abbrev cL_better : ByteArray := method_19_code
def yL_better : MethodName := ⟨RL, "better", "(LSkyCuts;I[J)I"⟩
abbrev cL_grow : ByteArray := method_20_code
def yL_grow : MethodName := ⟨RL, "grow", "(LSkyCuts;I[J)I"⟩
abbrev cL_region : ByteArray := method_21_code
def yL_region : MethodName := ⟨RL, "region", "(LSkyCuts;I[J)I"⟩
abbrev cL_parted : ByteArray := method_22_code
def yL_parted : MethodName := ⟨RL, "parted", "(LSkyCuts;II[J)I"⟩
abbrev cL_configure : ByteArray := method_23_code
def yL_configure : MethodName := ⟨RL, "configure", "(LSkyCuts;I[J)I"⟩
abbrev cL_pairs : ByteArray := method_24_code
def yL_pairs : MethodName := ⟨RL, "pairs", "(LSkyCuts;II[J)I"⟩
abbrev cL_busy : ByteArray := method_25_code
def yL_busy : MethodName := ⟨RL, "busy", "(LSkyCuts;I[J)I"⟩
abbrev cL_plan : ByteArray := method_26_code
def yL_plan : MethodName := ⟨RL, "plan", "(LSkyCuts;II[J)I"⟩
abbrev cL_hours : ByteArray := method_27_code
def yL_hours : MethodName := ⟨RL, "hours", "(LSkyCuts;II[J)I"⟩
abbrev cL_ill : ByteArray := method_28_code
def yL_ill : MethodName := ⟨RL, "ill", "(LSkyCuts;II[J)I"⟩
abbrev cL_rota : ByteArray := method_29_code
def yL_rota : MethodName := ⟨RL, "rota", "(LSkyCuts;III[J)I"⟩
abbrev cL_lacks : ByteArray := method_30_code
def yL_lacks : MethodName := ⟨RL, "lacks", "(LSkyCuts;II[J)I"⟩
abbrev cL_enough : ByteArray := method_31_code
def yL_enough : MethodName := ⟨RL, "enough", "(LSkyCuts;I[J)I"⟩
abbrev cL_storm : ByteArray := method_32_code
def yL_storm : MethodName := ⟨RL, "storm", "(LSkyCuts;IZ[J)I"⟩
abbrev cL_mends : ByteArray := method_33_code
def yL_mends : MethodName := ⟨RL, "mends", "(LSkyCuts;IIII[J)I"⟩
abbrev cL_did : ByteArray := method_34_code
def yL_did : MethodName := ⟨RL, "did", "(LSkyCuts;IIIZ[J)I"⟩
abbrev cL_fit : ByteArray := method_35_code
def yL_fit : MethodName := ⟨RL, "fit", "(LSkyCuts;I[J)I"⟩
abbrev cL_lead : ByteArray := method_36_code
def yL_lead : MethodName := ⟨RL, "lead", "(LSkyCuts;IIIZ[J)I"⟩
abbrev cL_worth : ByteArray := method_37_code
def yL_worth : MethodName := ⟨RL, "worth", "(LSkyCuts;II[J)I"⟩
abbrev cL_quiet : ByteArray := method_38_code
def yL_quiet : MethodName := ⟨RL, "quiet", "(LSkyCuts;I[J)I"⟩
abbrev cL_law : ByteArray := code
def yL_law : MethodName := ⟨RL, "law", "([I)Z"⟩
abbrev vwCl : List vw_C := [(RX0, TX0, 14), (RX1, TX1, 8), (RX2, TX2, 10), (RX3, TX3, 7), (RX4, TX4, 14), (RX5, TX5, 13), (RX6, TX6, 9), (RX7, TX7, 14), (RX8, TX8, 18), (RX9, TX9, 18), (RX10, TX10, 10), (RX11, TX11, 11), (RX12, TX12, 83)]
end
section
/-! Layer 1: the kit's rows over one world (a list of cells by number), all that is fixed in an activation held in one thing k. -/
abbrev kx_T : Type := (Program × Launch × Env × Room × State × MethodId × Array Value × List Frame × Method × Code × (State → Prop)) × (State × va_G × List (ClassId × FieldType) × String × ByteArray × Nat)
abbrev kP (k : kx_T) : Program := k.1.1
abbrev kL (k : kx_T) : Launch := k.1.2.1
abbrev kE (k : kx_T) : Env := k.1.2.2.1
abbrev kR (k : kx_T) : Room := k.1.2.2.2.1
abbrev kS (k : kx_T) : State := k.1.2.2.2.2.1
abbrev kM (k : kx_T) : MethodId := k.1.2.2.2.2.2.1
abbrev kA (k : kx_T) : Array Value := k.1.2.2.2.2.2.2.1
abbrev kB (k : kx_T) : List Frame := k.1.2.2.2.2.2.2.2.1
abbrev kMe (k : kx_T) : Method := k.1.2.2.2.2.2.2.2.2.1
abbrev kC (k : kx_T) : Code := k.1.2.2.2.2.2.2.2.2.2.1
abbrev kQ (k : kx_T) : State → Prop := k.1.2.2.2.2.2.2.2.2.2.2
abbrev kS0 (k : kx_T) : State := k.2.1
abbrev kD (k : kx_T) : va_G := k.2.2.1
abbrev kTy (k : kx_T) : List (ClassId × FieldType) := k.2.2.2.1
abbrev kOwn (k : kx_T) : String := k.2.2.2.2.1
abbrev kCc (k : kx_T) : ByteArray := k.2.2.2.2.2.1
abbrev kN (k : kx_T) : Nat := k.2.2.2.2.2.2
/-- the words that stay true while tables grow warm -/
def gT : List Cond := lw_tbl.filter goodWord
theorem gT_of {w : Cond} (h : w ∈ lw_tbl) (g : goodWord w = true) : w ∈ gT := List.mem_filter.mpr ⟨h, g⟩
/-- the cells that may change: all from the law's first heap on -/
abbrev kF (k : kx_T) : Nat → Prop := fun q => (kS0 k).heap.size ≤ q
/-- what holds all through an activation -/
def kx_ok (k : kx_T) : Prop :=
  (kP k).tables.exec = Jvm.exec ∧ (kC k).code = kCc k ∧ (kC k).maxLocals = kN k ∧ (kS k).vm.findClass (kOwn k) = some (kM k).cls ∧ (kS0 k).WarmedH (kS k).vm ∧
  va_K (kD k) vwCl (kTy k) (kS k) ∧ (kS0 k).heap.size ≤ (kS k).heap.size ∧ (∀ q : Nat, q < (kS0 k).heap.size → (kS k).heap[q]? = (kS0 k).heap[q]?) ∧ (kMe k).locks = false ∧ ∀ w ∈ gT, w.before (kA k) (kS k) = true
abbrev kx_W (k : kx_T) (H : Heap) (locs : List Loc) (ce sl : Nat) (g : JFrame) : Prop := W (kP k) (kL k) (kE k) (kR k) (kS k) (kM k) (kA k) (kB k) (kMe k) (kC k) H locs ce sl (kQ k) g
/-- from every heap that holds the world ws, every row of locals that holds lv: the machine comes to its goal -/
def WS (k : kx_T) (pc : Nat) (lv : List (Nat × Value)) (st : List Value) (ws : va_W) (ce sl : Nat) : Prop :=
  ∀ (H : Heap) (locs : List Loc) (ls : Array Slot), va_P (kD k) vwCl ws H → va_D (kF k) ws → va_S (kF k) (kS k).heap H locs → lv_has ls (kN k) lv → kx_W k H locs ce sl (F0 (kM k) pc ls st)
section L1
variable {k : kx_T} {pc : Nat} {lv : List (Nat × Value)} {st : List Value} {ws : va_W} {ce sl : Nat}
theorem kx_wd (C : kx_ok k) : ∀ w ∈ gT, w.before (kA k) (kS k) = true := C.2.2.2.2.2.2.2.2.2
theorem kx_K (C : kx_ok k) : va_K (kD k) vwCl (kTy k) (kS k) := C.2.2.2.2.2.1
theorem kx_new (C : kx_ok k) : ∀ q, (kS k).heap.size ≤ q → kF k q := fun _ h => Nat.le_trans C.2.2.2.2.2.2.1 h
theorem lv_mono {ls : Array Slot} {n : Nat} {l l' : List (Nat × Value)} (h : lv_has ls n l) (hs : ∀ q ∈ l', q ∈ l) : lv_has ls n l' := ⟨h.1, h.2.1, fun q hq => h.2.2 q (hs q hq)⟩
theorem lv_mem {ls : Array Slot} {n i : Nat} {v : Value} {l : List (Nat × Value)} (h : lv_has ls n l) (hm : (i, v) ∈ l) : ls[i]? = some (.val v) := h.2.2 (i, v) hm
theorem w_iconst (C : kx_ok k) {n : Int} (d : decode (kCc k) pc = .ok (.iconst n, 1)) (h : WS k (pc + 1) lv (.int (Int32.ofInt n) :: st) ws ce sl) : WS k pc lv st ws ce sl :=
  fun H locs ls hP hD hS hl => lv_iconst C.1 C.2.1 d rfl (h H locs ls hP hD hS hl)
theorem w_bipush (C : kx_ok k) {n : Int} (d : decode (kCc k) pc = .ok (.bipush n, 2)) {z : Int32} (hz : (Int8.ofInt n).toInt32 = z) (h : WS k (pc + 2) lv (.int z :: st) ws ce sl) : WS k pc lv st ws ce sl :=
  fun H locs ls hP hD hS hl => lv_bipush C.1 C.2.1 d hz (h H locs ls hP hD hS hl)
theorem w_sipush (C : kx_ok k) {n : Int} (d : decode (kCc k) pc = .ok (.sipush n, 3)) {z : Int32} (hz : (Int16.ofInt n).toInt32 = z) (h : WS k (pc + 3) lv (.int z :: st) ws ce sl) : WS k pc lv st ws ce sl :=
  fun H locs ls hP hD hS hl => lv_sipush C.1 C.2.1 d hz (h H locs ls hP hD hS hl)
theorem w_lconst (C : kx_ok k) {n : Fin 2} (d : decode (kCc k) pc = .ok (.lconst n, 1)) {z : Int64} (hz : Int64.ofNat (n : Nat) = z) (h : WS k (pc + 1) lv (.long z :: st) ws ce sl) : WS k pc lv st ws ce sl :=
  fun H locs ls hP hD hS hl => lv_lconst C.1 C.2.1 d hz (h H locs ls hP hD hS hl)
theorem w_iload_n (C : kx_ok k) {i : Fin 4} (d : decode (kCc k) pc = .ok (.iload_n i, 1)) {x : Int32} (hm : ((i : Nat), Value.int x) ∈ lv) (h : WS k (pc + 1) lv (.int x :: st) ws ce sl) : WS k pc lv st ws ce sl :=
  fun H locs ls hP hD hS hl => lv_iload_n C.1 C.2.1 d rfl (lv_mem hl hm) (h H locs ls hP hD hS hl)
theorem w_iload (C : kx_ok k) {i : Nat} (d : decode (kCc k) pc = .ok (.iload i, 2)) {x : Int32} (hm : (i, Value.int x) ∈ lv) (h : WS k (pc + 2) lv (.int x :: st) ws ce sl) : WS k pc lv st ws ce sl :=
  fun H locs ls hP hD hS hl => lv_iload C.1 C.2.1 d (lv_mem hl hm) (h H locs ls hP hD hS hl)
theorem w_lload_n (C : kx_ok k) {i : Fin 4} (d : decode (kCc k) pc = .ok (.lload_n i, 1)) {x : Int64} (hm : ((i : Nat), Value.long x) ∈ lv) (h : WS k (pc + 1) lv (.long x :: st) ws ce sl) : WS k pc lv st ws ce sl :=
  fun H locs ls hP hD hS hl => lv_lload_n C.1 C.2.1 d rfl (lv_mem hl hm) (h H locs ls hP hD hS hl)
theorem w_lload (C : kx_ok k) {i : Nat} (d : decode (kCc k) pc = .ok (.lload i, 2)) {x : Int64} (hm : (i, Value.long x) ∈ lv) (h : WS k (pc + 2) lv (.long x :: st) ws ce sl) : WS k pc lv st ws ce sl :=
  fun H locs ls hP hD hS hl => lv_lload C.1 C.2.1 d (lv_mem hl hm) (h H locs ls hP hD hS hl)
theorem w_aload_n (C : kx_ok k) {i : Fin 4} (d : decode (kCc k) pc = .ok (.aload_n i, 1)) {x : Nat} (hm : ((i : Nat), Value.ref x) ∈ lv) (h : WS k (pc + 1) lv (.ref x :: st) ws ce sl) : WS k pc lv st ws ce sl :=
  fun H locs ls hP hD hS hl => lv_aload_n C.1 C.2.1 d rfl (lv_mem hl hm) (h H locs ls hP hD hS hl)
theorem w_aload (C : kx_ok k) {i : Nat} (d : decode (kCc k) pc = .ok (.aload i, 2)) {x : Nat} (hm : (i, Value.ref x) ∈ lv) (h : WS k (pc + 2) lv (.ref x :: st) ws ce sl) : WS k pc lv st ws ce sl :=
  fun H locs ls hP hD hS hl => lv_aload C.1 C.2.1 d (lv_mem hl hm) (h H locs ls hP hD hS hl)
/-- what stays of the locals behind a store at i -/
def lv_but (i : Nat) (lv : List (Nat × Value)) : List (Nat × Value) := lv.filter (fun q => !(q.1 == i) && !(q.1 + 1 == i && q.2.category == 2))
def lv_but2 (i : Nat) (lv : List (Nat × Value)) : List (Nat × Value) := lv.filter (fun q => !(q.1 == i) && (!(q.1 == i + 1) && !(q.1 + 1 == i && q.2.category == 2)))
theorem w_istore_n (C : kx_ok k) {i : Fin 4} {x : Int32} {lv' : List (Nat × Value)} (d : decode (kCc k) pc = .ok (.istore_n i, 1)) (hn : (i : Nat) < kN k) (hs : ∀ q ∈ lv', q ∈ ((i : Nat), Value.int x) :: lv_but i lv) (h : WS k (pc + 1) lv' st ws ce sl) : WS k pc lv (.int x :: st) ws ce sl :=
  fun H locs ls hP hD hS hl => lv_istore_n C.1 C.2.1 d rfl hl hn rfl (fun ls' hl' => h H locs ls' hP hD hS (lv_mono hl' hs))
theorem w_istore (C : kx_ok k) {i : Nat} {x : Int32} {lv' : List (Nat × Value)} (d : decode (kCc k) pc = .ok (.istore i, 2)) (hn : i < kN k) (hs : ∀ q ∈ lv', q ∈ (i, Value.int x) :: lv_but i lv) (h : WS k (pc + 2) lv' st ws ce sl) : WS k pc lv (.int x :: st) ws ce sl :=
  fun H locs ls hP hD hS hl => lv_istore C.1 C.2.1 d hl hn rfl (fun ls' hl' => h H locs ls' hP hD hS (lv_mono hl' hs))
theorem w_lstore_n (C : kx_ok k) {i : Fin 4} {x : Int64} {lv' : List (Nat × Value)} (d : decode (kCc k) pc = .ok (.lstore_n i, 1)) (hn : (i : Nat) + 1 < kN k) (hs : ∀ q ∈ lv', q ∈ ((i : Nat), Value.long x) :: lv_but2 i lv) (h : WS k (pc + 1) lv' st ws ce sl) : WS k pc lv (.long x :: st) ws ce sl :=
  fun H locs ls hP hD hS hl => lv_lstore_n C.1 C.2.1 d rfl hl hn rfl (fun ls' hl' => h H locs ls' hP hD hS (lv_mono hl' hs))
theorem w_lstore (C : kx_ok k) {i : Nat} {x : Int64} {lv' : List (Nat × Value)} (d : decode (kCc k) pc = .ok (.lstore i, 2)) (hn : i + 1 < kN k) (hs : ∀ q ∈ lv', q ∈ (i, Value.long x) :: lv_but2 i lv) (h : WS k (pc + 2) lv' st ws ce sl) : WS k pc lv (.long x :: st) ws ce sl :=
  fun H locs ls hP hD hS hl => lv_lstore C.1 C.2.1 d hl hn rfl (fun ls' hl' => h H locs ls' hP hD hS (lv_mono hl' hs))
theorem w_astore_n (C : kx_ok k) {i : Fin 4} {x : Nat} {lv' : List (Nat × Value)} (d : decode (kCc k) pc = .ok (.astore_n i, 1)) (hn : (i : Nat) < kN k) (hs : ∀ q ∈ lv', q ∈ ((i : Nat), Value.ref x) :: lv_but i lv) (h : WS k (pc + 1) lv' st ws ce sl) : WS k pc lv (.ref x :: st) ws ce sl :=
  fun H locs ls hP hD hS hl => lv_astore_n C.1 C.2.1 d rfl hl hn rfl (fun ls' hl' => h H locs ls' hP hD hS (lv_mono hl' hs))
theorem w_astore (C : kx_ok k) {i : Nat} {x : Nat} {lv' : List (Nat × Value)} (d : decode (kCc k) pc = .ok (.astore i, 2)) (hn : i < kN k) (hs : ∀ q ∈ lv', q ∈ (i, Value.ref x) :: lv_but i lv) (h : WS k (pc + 2) lv' st ws ce sl) : WS k pc lv (.ref x :: st) ws ce sl :=
  fun H locs ls hP hD hS hl => lv_astore C.1 C.2.1 d hl hn rfl (fun ls' hl' => h H locs ls' hP hD hS (lv_mono hl' hs))
theorem w_iinc (C : kx_ok k) {i : Nat} {n : Int} {x : Int32} {lv' : List (Nat × Value)} (d : decode (kCc k) pc = .ok (.iinc i n, 3)) (hn : i < kN k) (hm : (i, Value.int x) ∈ lv) (hs : ∀ q ∈ lv', q ∈ (i, Value.int (x + Int32.ofInt n)) :: lv_but i lv) (h : WS k (pc + 3) lv' st ws ce sl) : WS k pc lv st ws ce sl := by
  intro H locs ls hP hD hS hl
  obtain ⟨j, hj⟩ := List.mem_iff_getElem?.mp hm
  exact lv_iinc C.1 C.2.1 d hl hj rfl hn rfl (fun ls' hl' => h H locs ls' hP hD hS (lv_mono hl' hs))
theorem w_iadd (C : kx_ok k) {x y : Int32} (d : decode (kCc k) pc = .ok (.iadd, 1)) (h : WS k (pc + 1) lv (.int (x + y) :: st) ws ce sl) : WS k pc lv (.int y :: .int x :: st) ws ce sl :=
  fun H locs ls hP hD hS hl => lv_iadd C.1 C.2.1 d (h H locs ls hP hD hS hl)
theorem w_isub (C : kx_ok k) {x y : Int32} (d : decode (kCc k) pc = .ok (.isub, 1)) (h : WS k (pc + 1) lv (.int (x - y) :: st) ws ce sl) : WS k pc lv (.int y :: .int x :: st) ws ce sl :=
  fun H locs ls hP hD hS hl => lv_isub C.1 C.2.1 d (h H locs ls hP hD hS hl)
theorem w_imul (C : kx_ok k) {x y : Int32} (d : decode (kCc k) pc = .ok (.imul, 1)) (h : WS k (pc + 1) lv (.int (x * y) :: st) ws ce sl) : WS k pc lv (.int y :: .int x :: st) ws ce sl :=
  fun H locs ls hP hD hS hl => lv_imul C.1 C.2.1 d (h H locs ls hP hD hS hl)
theorem w_iand (C : kx_ok k) {x y : Int32} (d : decode (kCc k) pc = .ok (.iand, 1)) (h : WS k (pc + 1) lv (.int (x &&& y) :: st) ws ce sl) : WS k pc lv (.int y :: .int x :: st) ws ce sl :=
  fun H locs ls hP hD hS hl => lv_iand C.1 C.2.1 d (h H locs ls hP hD hS hl)
theorem w_ior (C : kx_ok k) {x y : Int32} (d : decode (kCc k) pc = .ok (.ior, 1)) (h : WS k (pc + 1) lv (.int (x ||| y) :: st) ws ce sl) : WS k pc lv (.int y :: .int x :: st) ws ce sl :=
  fun H locs ls hP hD hS hl => lv_ior C.1 C.2.1 d (h H locs ls hP hD hS hl)
theorem w_ixor (C : kx_ok k) {x y : Int32} (d : decode (kCc k) pc = .ok (.ixor, 1)) (h : WS k (pc + 1) lv (.int (x ^^^ y) :: st) ws ce sl) : WS k pc lv (.int y :: .int x :: st) ws ce sl :=
  fun H locs ls hP hD hS hl => lv_ixor C.1 C.2.1 d (h H locs ls hP hD hS hl)
theorem w_ishl (C : kx_ok k) {x y : Int32} (d : decode (kCc k) pc = .ok (.ishl, 1)) (h : WS k (pc + 1) lv (.int (x <<< (y &&& 31)) :: st) ws ce sl) : WS k pc lv (.int y :: .int x :: st) ws ce sl :=
  fun H locs ls hP hD hS hl => lv_ishl C.1 C.2.1 d (h H locs ls hP hD hS hl)
theorem w_ishr (C : kx_ok k) {x y : Int32} (d : decode (kCc k) pc = .ok (.ishr, 1)) (h : WS k (pc + 1) lv (.int (x >>> (y &&& 31)) :: st) ws ce sl) : WS k pc lv (.int y :: .int x :: st) ws ce sl :=
  fun H locs ls hP hD hS hl => lv_ishr C.1 C.2.1 d (h H locs ls hP hD hS hl)
theorem w_ladd (C : kx_ok k) {x y : Int64} (d : decode (kCc k) pc = .ok (.ladd, 1)) (h : WS k (pc + 1) lv (.long (x + y) :: st) ws ce sl) : WS k pc lv (.long y :: .long x :: st) ws ce sl :=
  fun H locs ls hP hD hS hl => lv_ladd C.1 C.2.1 d (h H locs ls hP hD hS hl)
theorem w_lsub (C : kx_ok k) {x y : Int64} (d : decode (kCc k) pc = .ok (.lsub, 1)) (h : WS k (pc + 1) lv (.long (x - y) :: st) ws ce sl) : WS k pc lv (.long y :: .long x :: st) ws ce sl :=
  fun H locs ls hP hD hS hl => lv_lsub C.1 C.2.1 d (h H locs ls hP hD hS hl)
theorem w_land (C : kx_ok k) {x y : Int64} (d : decode (kCc k) pc = .ok (.land, 1)) (h : WS k (pc + 1) lv (.long (x &&& y) :: st) ws ce sl) : WS k pc lv (.long y :: .long x :: st) ws ce sl :=
  fun H locs ls hP hD hS hl => lv_land C.1 C.2.1 d (h H locs ls hP hD hS hl)
theorem w_lor (C : kx_ok k) {x y : Int64} (d : decode (kCc k) pc = .ok (.lor, 1)) (h : WS k (pc + 1) lv (.long (x ||| y) :: st) ws ce sl) : WS k pc lv (.long y :: .long x :: st) ws ce sl :=
  fun H locs ls hP hD hS hl => lv_lor C.1 C.2.1 d (h H locs ls hP hD hS hl)
theorem w_lxor (C : kx_ok k) {x y : Int64} (d : decode (kCc k) pc = .ok (.lxor, 1)) (h : WS k (pc + 1) lv (.long (x ^^^ y) :: st) ws ce sl) : WS k pc lv (.long y :: .long x :: st) ws ce sl :=
  fun H locs ls hP hD hS hl => lv_lxor C.1 C.2.1 d (h H locs ls hP hD hS hl)
theorem w_ineg (C : kx_ok k) {x : Int32} (d : decode (kCc k) pc = .ok (.ineg, 1)) (h : WS k (pc + 1) lv (.int (-x) :: st) ws ce sl) : WS k pc lv (.int x :: st) ws ce sl :=
  fun H locs ls hP hD hS hl => lv_ineg C.1 C.2.1 d (h H locs ls hP hD hS hl)
theorem w_lneg (C : kx_ok k) {x : Int64} (d : decode (kCc k) pc = .ok (.lneg, 1)) (h : WS k (pc + 1) lv (.long (-x) :: st) ws ce sl) : WS k pc lv (.long x :: st) ws ce sl :=
  fun H locs ls hP hD hS hl => lv_lneg C.1 C.2.1 d (h H locs ls hP hD hS hl)
theorem w_idiv (C : kx_ok k) {x y : Int32} (d : decode (kCc k) pc = .ok (.idiv, 1)) (hne : ¬ y = 0) (h : WS k (pc + 1) lv (.int (x / y) :: st) ws ce sl) : WS k pc lv (.int y :: .int x :: st) ws ce sl :=
  fun H locs ls hP hD hS hl => lv_idiv C.1 C.2.1 d hne (h H locs ls hP hD hS hl)
theorem w_irem (C : kx_ok k) {x y : Int32} (d : decode (kCc k) pc = .ok (.irem, 1)) (hne : ¬ y = 0) (h : WS k (pc + 1) lv (.int (x - x / y * y) :: st) ws ce sl) : WS k pc lv (.int y :: .int x :: st) ws ce sl :=
  fun H locs ls hP hD hS hl => lv_irem C.1 C.2.1 d hne (h H locs ls hP hD hS hl)
theorem w_iushr (C : kx_ok k) {x y : Int32} (d : decode (kCc k) pc = .ok (.iushr, 1)) (h : WS k (pc + 1) lv (.int ((x.toUInt32 >>> (y.toUInt32 &&& Int32.toUInt32 31)).toInt32) :: st) ws ce sl) : WS k pc lv (.int y :: .int x :: st) ws ce sl :=
  fun H locs ls hP hD hS hl => lv_iushr C.1 C.2.1 d rfl (h H locs ls hP hD hS hl)
theorem w_lushr (C : kx_ok k) {x : Int64} {y : Int32} (d : decode (kCc k) pc = .ok (.lushr, 1)) (h : WS k (pc + 1) lv (.long ((x.toUInt64 >>> (y.toInt64.toUInt64 &&& Int64.toUInt64 63)).toInt64) :: st) ws ce sl) : WS k pc lv (.int y :: .long x :: st) ws ce sl :=
  fun H locs ls hP hD hS hl => lv_lushr C.1 C.2.1 d rfl (h H locs ls hP hD hS hl)
theorem w_lshl (C : kx_ok k) {x : Int64} {y : Int32} (d : decode (kCc k) pc = .ok (.lshl, 1)) (h : WS k (pc + 1) lv (.long (x <<< (y.toInt64 &&& 63)) :: st) ws ce sl) : WS k pc lv (.int y :: .long x :: st) ws ce sl :=
  fun H locs ls hP hD hS hl => lv_lshl C.1 C.2.1 d rfl (h H locs ls hP hD hS hl)
theorem w_lcmp (C : kx_ok k) {x y : Int64} (d : decode (kCc k) pc = .ok (.lcmp, 1)) (h : WS k (pc + 1) lv (.int (lg_cmp x y) :: st) ws ce sl) : WS k pc lv (.long y :: .long x :: st) ws ce sl :=
  fun H locs ls hP hD hS hl => W.lcmp C.1 C.2.1 d (h H locs ls hP hD hS hl)
theorem w_i2l (C : kx_ok k) {x : Int32} (d : decode (kCc k) pc = .ok (.i2l, 1)) (h : WS k (pc + 1) lv (.long x.toInt64 :: st) ws ce sl) : WS k pc lv (.int x :: st) ws ce sl :=
  fun H locs ls hP hD hS hl => lv_i2l C.1 C.2.1 d rfl (h H locs ls hP hD hS hl)
theorem w_l2i (C : kx_ok k) {x : Int64} (d : decode (kCc k) pc = .ok (.l2i, 1)) (h : WS k (pc + 1) lv (.int x.toInt32 :: st) ws ce sl) : WS k pc lv (.long x :: st) ws ce sl :=
  fun H locs ls hP hD hS hl => lv_l2i C.1 C.2.1 d rfl (h H locs ls hP hD hS hl)
theorem w_dup (C : kx_ok k) {x : Value} (d : decode (kCc k) pc = .ok (.dup, 1)) (hx : x.category = 1) (h : WS k (pc + 1) lv (x :: x :: st) ws ce sl) : WS k pc lv (x :: st) ws ce sl :=
  fun H locs ls hP hD hS hl => lv_dup C.1 C.2.1 d hx (h H locs ls hP hD hS hl)
theorem w_pop (C : kx_ok k) {x : Value} (d : decode (kCc k) pc = .ok (.pop, 1)) (hx : x.category = 1) (h : WS k (pc + 1) lv st ws ce sl) : WS k pc lv (x :: st) ws ce sl :=
  fun H locs ls hP hD hS hl => lv_pop C.1 C.2.1 d hx (h H locs ls hP hD hS hl)
theorem w_dup2_11 (C : kx_ok k) {x y : Value} (d : decode (kCc k) pc = .ok (.dup2, 1)) (hx : x.category = 1) (hy : y.category = 1) (h : WS k (pc + 1) lv (x :: y :: x :: y :: st) ws ce sl) : WS k pc lv (x :: y :: st) ws ce sl :=
  fun H locs ls hP hD hS hl => lv_dup2_11 C.1 C.2.1 d hx hy (h H locs ls hP hD hS hl)
theorem w_dup2_2 (C : kx_ok k) {x : Value} (d : decode (kCc k) pc = .ok (.dup2, 1)) (hx : x.category = 2) (h : WS k (pc + 1) lv (x :: x :: st) ws ce sl) : WS k pc lv (x :: st) ws ce sl :=
  fun H locs ls hP hD hS hl => lv_dup2_2 C.1 C.2.1 d hx (h H locs ls hP hD hS hl)
theorem w_icmp_eq (C : kx_ok k) {x y : Int32} {off : Int} {t : Nat} (d : decode (kCc k) pc = .ok (.if_icmp .eq off, 3)) (ht : (pc : Int) + off = (t : Int)) (h1 : x = y → WS k t lv st ws ce sl) (h2 : ¬ (x = y) → WS k (pc + 3) lv st ws ce sl) : WS k pc lv (.int y :: .int x :: st) ws ce sl :=
  fun H locs ls hP hD hS hl => lv_icmp_eq C.1 C.2.1 d ht (fun q => h1 q H locs ls hP hD hS hl) (fun q => h2 q H locs ls hP hD hS hl)
theorem w_if_eq (C : kx_ok k) {x : Int32} {off : Int} {t : Nat} (d : decode (kCc k) pc = .ok (.ifCond .eq off, 3)) (ht : (pc : Int) + off = (t : Int)) (h1 : x = 0 → WS k t lv st ws ce sl) (h2 : ¬ (x = 0) → WS k (pc + 3) lv st ws ce sl) : WS k pc lv (.int x :: st) ws ce sl :=
  fun H locs ls hP hD hS hl => lv_if_eq C.1 C.2.1 d ht (fun q => h1 q H locs ls hP hD hS hl) (fun q => h2 q H locs ls hP hD hS hl)
theorem w_icmp_ne (C : kx_ok k) {x y : Int32} {off : Int} {t : Nat} (d : decode (kCc k) pc = .ok (.if_icmp .ne off, 3)) (ht : (pc : Int) + off = (t : Int)) (h1 : x ≠ y → WS k t lv st ws ce sl) (h2 : x = y → WS k (pc + 3) lv st ws ce sl) : WS k pc lv (.int y :: .int x :: st) ws ce sl :=
  fun H locs ls hP hD hS hl => lv_icmp_ne C.1 C.2.1 d ht (fun q => h1 q H locs ls hP hD hS hl) (fun q => h2 q H locs ls hP hD hS hl)
theorem w_if_ne (C : kx_ok k) {x : Int32} {off : Int} {t : Nat} (d : decode (kCc k) pc = .ok (.ifCond .ne off, 3)) (ht : (pc : Int) + off = (t : Int)) (h1 : x ≠ 0 → WS k t lv st ws ce sl) (h2 : x = 0 → WS k (pc + 3) lv st ws ce sl) : WS k pc lv (.int x :: st) ws ce sl :=
  fun H locs ls hP hD hS hl => lv_if_ne C.1 C.2.1 d ht (fun q => h1 q H locs ls hP hD hS hl) (fun q => h2 q H locs ls hP hD hS hl)
theorem w_icmp_lt (C : kx_ok k) {x y : Int32} {off : Int} {t : Nat} (d : decode (kCc k) pc = .ok (.if_icmp .lt off, 3)) (ht : (pc : Int) + off = (t : Int)) (h1 : x < y → WS k t lv st ws ce sl) (h2 : ¬ (x < y) → WS k (pc + 3) lv st ws ce sl) : WS k pc lv (.int y :: .int x :: st) ws ce sl :=
  fun H locs ls hP hD hS hl => lv_icmp_lt C.1 C.2.1 d ht (fun q => h1 q H locs ls hP hD hS hl) (fun q => h2 q H locs ls hP hD hS hl)
theorem w_if_lt (C : kx_ok k) {x : Int32} {off : Int} {t : Nat} (d : decode (kCc k) pc = .ok (.ifCond .lt off, 3)) (ht : (pc : Int) + off = (t : Int)) (h1 : x < 0 → WS k t lv st ws ce sl) (h2 : ¬ (x < 0) → WS k (pc + 3) lv st ws ce sl) : WS k pc lv (.int x :: st) ws ce sl :=
  fun H locs ls hP hD hS hl => lv_if_lt C.1 C.2.1 d ht (fun q => h1 q H locs ls hP hD hS hl) (fun q => h2 q H locs ls hP hD hS hl)
theorem w_icmp_ge (C : kx_ok k) {x y : Int32} {off : Int} {t : Nat} (d : decode (kCc k) pc = .ok (.if_icmp .ge off, 3)) (ht : (pc : Int) + off = (t : Int)) (h1 : y ≤ x → WS k t lv st ws ce sl) (h2 : ¬ (y ≤ x) → WS k (pc + 3) lv st ws ce sl) : WS k pc lv (.int y :: .int x :: st) ws ce sl :=
  fun H locs ls hP hD hS hl => lv_icmp_ge C.1 C.2.1 d ht (fun q => h1 q H locs ls hP hD hS hl) (fun q => h2 q H locs ls hP hD hS hl)
theorem w_if_ge (C : kx_ok k) {x : Int32} {off : Int} {t : Nat} (d : decode (kCc k) pc = .ok (.ifCond .ge off, 3)) (ht : (pc : Int) + off = (t : Int)) (h1 : 0 ≤ x → WS k t lv st ws ce sl) (h2 : ¬ (0 ≤ x) → WS k (pc + 3) lv st ws ce sl) : WS k pc lv (.int x :: st) ws ce sl :=
  fun H locs ls hP hD hS hl => lv_if_ge C.1 C.2.1 d ht (fun q => h1 q H locs ls hP hD hS hl) (fun q => h2 q H locs ls hP hD hS hl)
theorem w_icmp_gt (C : kx_ok k) {x y : Int32} {off : Int} {t : Nat} (d : decode (kCc k) pc = .ok (.if_icmp .gt off, 3)) (ht : (pc : Int) + off = (t : Int)) (h1 : y < x → WS k t lv st ws ce sl) (h2 : ¬ (y < x) → WS k (pc + 3) lv st ws ce sl) : WS k pc lv (.int y :: .int x :: st) ws ce sl :=
  fun H locs ls hP hD hS hl => lv_icmp_gt C.1 C.2.1 d ht (fun q => h1 q H locs ls hP hD hS hl) (fun q => h2 q H locs ls hP hD hS hl)
theorem w_if_gt (C : kx_ok k) {x : Int32} {off : Int} {t : Nat} (d : decode (kCc k) pc = .ok (.ifCond .gt off, 3)) (ht : (pc : Int) + off = (t : Int)) (h1 : 0 < x → WS k t lv st ws ce sl) (h2 : ¬ (0 < x) → WS k (pc + 3) lv st ws ce sl) : WS k pc lv (.int x :: st) ws ce sl :=
  fun H locs ls hP hD hS hl => lv_if_gt C.1 C.2.1 d ht (fun q => h1 q H locs ls hP hD hS hl) (fun q => h2 q H locs ls hP hD hS hl)
theorem w_icmp_le (C : kx_ok k) {x y : Int32} {off : Int} {t : Nat} (d : decode (kCc k) pc = .ok (.if_icmp .le off, 3)) (ht : (pc : Int) + off = (t : Int)) (h1 : x ≤ y → WS k t lv st ws ce sl) (h2 : ¬ (x ≤ y) → WS k (pc + 3) lv st ws ce sl) : WS k pc lv (.int y :: .int x :: st) ws ce sl :=
  fun H locs ls hP hD hS hl => lv_icmp_le C.1 C.2.1 d ht (fun q => h1 q H locs ls hP hD hS hl) (fun q => h2 q H locs ls hP hD hS hl)
theorem w_if_le (C : kx_ok k) {x : Int32} {off : Int} {t : Nat} (d : decode (kCc k) pc = .ok (.ifCond .le off, 3)) (ht : (pc : Int) + off = (t : Int)) (h1 : x ≤ 0 → WS k t lv st ws ce sl) (h2 : ¬ (x ≤ 0) → WS k (pc + 3) lv st ws ce sl) : WS k pc lv (.int x :: st) ws ce sl :=
  fun H locs ls hP hD hS hl => lv_if_le C.1 C.2.1 d ht (fun q => h1 q H locs ls hP hD hS hl) (fun q => h2 q H locs ls hP hD hS hl)
theorem w_goto (C : kx_ok k) {off : Int} {t : Nat} (d : decode (kCc k) pc = .ok (.goto off, 3)) (ht : (pc : Int) + off = (t : Int)) (h : WS k t lv st ws ce sl) : WS k pc lv st ws ce sl :=
  fun H locs ls hP hD hS hl => lv_goto C.1 C.2.1 d ht (h H locs ls hP hD hS hl)
theorem w_tabOut (C : kx_ok k) {dflt lo hi : Int} {offs : Array Int} {len : Nat} {x : Int32} {t : Nat} (d : decode (kCc k) pc = .ok (.tableswitch dflt lo hi offs, len)) (hx : x.toInt < lo ∨ hi < x.toInt) (ht : (pc : Int) + dflt = (t : Int)) (h : WS k t lv st ws ce sl) : WS k pc lv (.int x :: st) ws ce sl :=
  fun H locs ls hP hD hS hl => lv_tableOut C.1 C.2.1 d hx ht (h H locs ls hP hD hS hl)
theorem w_tabIn (C : kx_ok k) {dflt lo hi off : Int} {offs : Array Int} {len : Nat} {x : Int32} {t : Nat} (d : decode (kCc k) pc = .ok (.tableswitch dflt lo hi offs, len)) (h1 : ¬ x.toInt < lo) (h2 : ¬ hi < x.toInt) (ho : offs[(x.toInt - lo).toNat]? = some off) (ht : (pc : Int) + off = (t : Int)) (h : WS k t lv st ws ce sl) : WS k pc lv (.int x :: st) ws ce sl :=
  fun H locs ls hP hD hS hl => lv_tableIn C.1 C.2.1 d h1 h2 ho ht (h H locs ls hP hD hS hl)
end L1
end
section
/-! Layer 1: fields, arrays, new things -/
/-- what is known of class ci: its name, fields, their types -/
def cl_ok (ci : Nat) (N : Nat) (C : String) (T : u_T) (ty : Nat → FieldType) : Prop :=
  vwCl[ci]? = some (C, T, N) ∧ (∀ w ∈ u_ws C T N, w ∈ gT) ∧ (∀ j, j < N → parseFieldDescriptor (T j).2.2.1 = some (ty j)) ∧ (∀ a, a < N → ∀ b, b < N → a ≠ b → (T a).2.1 ≠ (T b).2.1)
section L2
variable {k : kx_T} {pc : Nat} {lv : List (Nat × Value)} {st : List Value} {ws : va_W} {ce sl : Nat}
theorem w_get (C : kx_ok k) {idx ci f N a : Nat} {Cn : String} {T : u_T} {ty : Nat → FieldType} {fs : List Value} {v : Value} (q0 : Nat) (hc : cl_ok ci N Cn T ty) (he : ws[q0]? = some (a, .inr (ci, fs))) (hf : f < N) (hl : Cond.fieldLink (kOwn k) idx (T f).1 (T f).2.1 (T f).2.2.1 ∈ gT) (hv : fs[f]? = some v)
    (d : decode (kCc k) pc = .ok (.getfield idx, 3)) (h : WS k (pc + 3) lv (v :: st) ws ce sl) : WS k pc lv (.ref a :: st) ws ce sl :=
  fun H locs ls hP hD hS hlv => va_get C.1 C.2.1 (kx_wd C) hc.2.1 C.2.2.2.1 (kx_K C) hP q0 he hc.1 f hf (kx_wd C _ hl) (fun _ q => q) hv d (h H locs ls hP hD hS hlv)
theorem w_put (C : kx_ok k) {idx ci f N a : Nat} {Cn : String} {T : u_T} {ty : Nat → FieldType} {fs : List Value} {v : Value} (q0 : Nat) (hc : cl_ok ci N Cn T ty) (he : ws[q0]? = some (a, .inr (ci, fs))) (hf : f < N) (hl : Cond.fieldLink (kOwn k) idx (T f).1 (T f).2.1 (T f).2.2.1 ∈ gT) (hn : narrow (ty f) v = v) (hfit : fits (ty f) v = true) (hfs : f < fs.length)
    (hfin : (T f).2.2.2 = false ∨ ((T f).2.2.2 = true ∧ (kMe k).name = "<init>" ∧ (T f).1 = kOwn k))
    (d : decode (kCc k) pc = .ok (.putfield idx, 3)) (h : WS k (pc + 3) lv st (ws.set q0 (a, .inr (ci, fs.set f v))) ce sl) : WS k pc lv (v :: .ref a :: st) ws ce sl := by
  intro H locs ls hP hD hS hlv
  rcases hfin with h1 | ⟨h1, h2, h3⟩
  · exact va_put C.1 C.2.1 (kx_wd C) hc.2.1 ty hc.2.2.1 hc.2.2.2 C.2.2.2.1 (kx_K C) hP hD hS q0 he hc.1 f hf (kx_wd C _ hl) (fun _ q => q) h1 (hc.2.2.1 f hf) hn hfit hfs d (fun H1 l1 p1 p2 p3 => h H1 l1 ls p1 p2 p3 hlv)
  · exact va_putF C.1 C.2.1 (kx_wd C) hc.2.1 ty hc.2.2.1 hc.2.2.2 C.2.2.2.1 (kx_K C) hP hD hS q0 he hc.1 f hf (kx_wd C _ hl) (fun _ q => q) h1 h2 h3 (hc.2.2.1 f hf) hn hfit hfs d (fun H1 l1 p1 p2 p3 => h H1 l1 ls p1 p2 p3 hlv)
theorem w_iald (C : kx_ok k) {a n t0 : Nat} {cA : ClassId} {f : Nat → Int32} {i : Int32} (q0 : Nat) (he : ws[q0]? = some (a, .inl (cA, n, .inl f))) (ht : (kTy k)[t0]? = some (cA, .int)) (hi : vp_in i n) (d : decode (kCc k) pc = .ok (.iaload, 1)) (h : WS k (pc + 1) lv (.int (f i.toNatClampNeg) :: st) ws ce sl) : WS k pc lv (.int i :: .ref a :: st) ws ce sl :=
  fun H locs ls hP hD hS hlv => va_iald C.1 C.2.1 (kx_K C) hP q0 t0 he ht hi d (h H locs ls hP hD hS hlv)
theorem w_zald (C : kx_ok k) {a n t0 : Nat} {cA : ClassId} {f : Nat → Int32} {i : Int32} (q0 : Nat) (he : ws[q0]? = some (a, .inl (cA, n, .inl f))) (ht : (kTy k)[t0]? = some (cA, .boolean)) (hi : vp_in i n) (d : decode (kCc k) pc = .ok (.baload, 1)) (h : WS k (pc + 1) lv (.int (f i.toNatClampNeg) :: st) ws ce sl) : WS k pc lv (.int i :: .ref a :: st) ws ce sl :=
  fun H locs ls hP hD hS hlv => va_zald C.1 C.2.1 (kx_K C) hP q0 t0 he ht hi d (h H locs ls hP hD hS hlv)
theorem w_lald (C : kx_ok k) {a n t0 : Nat} {cA : ClassId} {f : Nat → Int64} {i : Int32} (q0 : Nat) (he : ws[q0]? = some (a, .inl (cA, n, .inr (.inl f)))) (ht : (kTy k)[t0]? = some (cA, .long)) (hi : vp_in i n) (d : decode (kCc k) pc = .ok (.laload, 1)) (h : WS k (pc + 1) lv (.long (f i.toNatClampNeg) :: st) ws ce sl) : WS k pc lv (.int i :: .ref a :: st) ws ce sl :=
  fun H locs ls hP hD hS hlv => va_lald C.1 C.2.1 (kx_K C) hP q0 t0 he ht hi d (h H locs ls hP hD hS hlv)
theorem w_aald (C : kx_ok k) {a n t0 : Nat} {cA : ClassId} {ty : FieldType} {f : Nat → Option Nat} {i : Int32} (q0 : Nat) (he : ws[q0]? = some (a, .inl (cA, n, .inr (.inr (.inr (.inr f)))))) (ht : (kTy k)[t0]? = some (cA, ty)) (hr : refKind ty = true) (hi : vp_in i n) (d : decode (kCc k) pc = .ok (.aaload, 1)) (h : WS k (pc + 1) lv (va_rf (f i.toNatClampNeg) :: st) ws ce sl) : WS k pc lv (.int i :: .ref a :: st) ws ce sl := by
  intro H locs ls hP hD hS hlv
  have hlt : i.toNatClampNeg < n := Nat.not_le.mp fun q => hi (Or.inr q)
  exact W.aald (v := va_rf (f i.toNatClampNeg)) (ty := ty) C.1 C.2.1 (hP q0 _ he) (((kx_K C).2 t0 _ ht).1 n (fun j => va_rf (f j))) hr (fun q => by cases q) (by show ¬ (i < 0 ∨ (arrV _ _ _).slots.size ≤ _); rw [arrV_size]; exact hi) (by show (arrV _ _ _).slots[_]? = _; rw [arrV_read _ _ hlt]) rfl rfl d (h H locs ls hP hD hS hlv)
theorem w_iast (C : kx_ok k) {a n t0 : Nat} {cA : ClassId} {f : Nat → Int32} {i x : Int32} (q0 : Nat) (he : ws[q0]? = some (a, .inl (cA, n, .inl f))) (ht : (kTy k)[t0]? = some (cA, .int)) (hi : vp_in i n) (d : decode (kCc k) pc = .ok (.iastore, 1)) (h : WS k (pc + 1) lv st (ws.set q0 (a, .inl (cA, n, .inl (upd f i.toNatClampNeg x)))) ce sl) : WS k pc lv (.int x :: .int i :: .ref a :: st) ws ce sl :=
  fun H locs ls hP hD hS hlv => va_iast C.1 C.2.1 (kx_K C) hP hD hS q0 t0 he ht hi d (fun H1 l1 p1 p2 p3 => h H1 l1 ls p1 p2 p3 hlv)
theorem w_zast (C : kx_ok k) {a n t0 : Nat} {cA : ClassId} {f : Nat → Int32} {i x : Int32} (q0 : Nat) (he : ws[q0]? = some (a, .inl (cA, n, .inl f))) (ht : (kTy k)[t0]? = some (cA, .boolean)) (hi : vp_in i n) (d : decode (kCc k) pc = .ok (.bastore, 1)) (h : WS k (pc + 1) lv st (ws.set q0 (a, .inl (cA, n, .inl (upd f i.toNatClampNeg (vp_nar .boolean x))))) ce sl) : WS k pc lv (.int x :: .int i :: .ref a :: st) ws ce sl :=
  fun H locs ls hP hD hS hlv => va_zast C.1 C.2.1 (kx_K C) hP hD hS q0 t0 he ht hi d (fun H1 l1 p1 p2 p3 => h H1 l1 ls p1 p2 p3 hlv)
theorem w_last (C : kx_ok k) {a n t0 : Nat} {cA : ClassId} {f : Nat → Int64} {i : Int32} {x : Int64} (q0 : Nat) (he : ws[q0]? = some (a, .inl (cA, n, .inr (.inl f)))) (ht : (kTy k)[t0]? = some (cA, .long)) (hi : vp_in i n) (d : decode (kCc k) pc = .ok (.lastore, 1)) (h : WS k (pc + 1) lv st (ws.set q0 (a, .inl (cA, n, .inr (.inl (vp_updL f i.toNatClampNeg x))))) ce sl) : WS k pc lv (.long x :: .int i :: .ref a :: st) ws ce sl :=
  fun H locs ls hP hD hS hlv => va_last C.1 C.2.1 (kx_K C) hP hD hS q0 t0 he ht hi d (fun H1 l1 p1 p2 p3 => h H1 l1 ls p1 p2 p3 hlv)
theorem w_aast (C : kx_ok k) {a n t0 ci v N : Nat} {cA : ClassId} {Cn : String} {T : u_T} {vs : List Value} {f : Nat → Option Nat} {i : Int32} (q0 qk : Nat) (he : ws[q0]? = some (a, .inl (cA, n, .inr (.inr (.inr (.inr f)))))) (ht : (kTy k)[t0]? = some (cA, .object Cn)) (hv : ws[qk]? = some (v, .inr (ci, vs))) (hc : vwCl[ci]? = some (Cn, T, N)) (hi : vp_in i n) (d : decode (kCc k) pc = .ok (.aastore, 1)) (h : WS k (pc + 1) lv st (ws.set q0 (a, .inl (cA, n, .inr (.inr (.inr (.inr (va_up f i.toNatClampNeg (some v)))))))) ce sl) : WS k pc lv (.ref v :: .int i :: .ref a :: st) ws ce sl :=
  fun H locs ls hP hD hS hlv => va_astq C.1 C.2.1 (kx_K C) hP hD hS q0 t0 qk ci he ht hv hc hi d (fun H1 l1 p1 p2 p3 => h H1 l1 ls p1 p2 p3 hlv)
theorem w_alen (C : kx_ok k) {a t0 : Nat} {cA : ClassId} {x : vp_A} {ty : FieldType} (q0 : Nat) (he : ws[q0]? = some (a, .inl (cA, x))) (ht : (kTy k)[t0]? = some (cA, ty)) (d : decode (kCc k) pc = .ok (.arraylength, 1)) (h : WS k (pc + 1) lv (.int (Int32.ofNat x.1) :: st) ws ce sl) : WS k pc lv (.ref a :: st) ws ce sl :=
  fun H locs ls hP hD hS hlv => va_alen C.1 C.2.1 (kx_K C) hP q0 t0 he ht rfl d (h H locs ls hP hD hS hlv)
theorem w_new (C : kx_ok k) {idx ci N : Nat} {Cn : String} {T : u_T} {ty : Nat → FieldType} {fs : List Value} (hc : cl_ok ci N Cn T ty) (hcl : Cond.classLink (kOwn k) idx Cn ∈ gT) (hins : Cond.instantiable Cn N ∈ gT) (hini : Cond.initialized Cn ∈ gT) (hfs : ∀ j, j < N → defaultValue (ty j) = vp_V fs j) (h1 : ce + 1 ≤ (kR k).cells) (h2 : sl + N ≤ (kR k).slots) (d : decode (kCc k) pc = .ok (.new idx, 3))
    (h : ∀ q : Nat, WS k (pc + 3) lv (.ref q :: st) (ws ++ [(q, .inr (ci, fs))]) (ce + 1) (sl + N)) : WS k pc lv st ws ce sl :=
  fun H locs ls hP hD hS hlv => va_new C.1 C.2.1 (kx_wd C) hc.2.1 ty hc.2.2.1 C.2.2.2.1 (kx_wd C _ hcl) (kx_wd C _ hins) (kx_wd C _ hini) (kx_K C) hP hD hS (kx_new C) hc.1 hfs h1 h2 d (fun q H1 p1 p2 p3 => h q H1 locs ls p1 p2 p3 hlv)
/-- the array's class of type t, as the tables have it -/
theorem kx_ty (C : kx_ok k) {t0 : Nat} {cA cB : ClassId} {ty : FieldType} (hno : ∀ n, ty ≠ .object n) (ht : (kTy k)[t0]? = some (cA, ty)) (h : va_RA (kS k) cB ty) : cB = cA := by
  have h1 := ((kx_K C).2 t0 _ ht).2
  cases ty with
  | object n => exact absurd rfl (hno n)
  | _ => exact Option.some.inj (Eq.trans (Eq.symm h) h1)
theorem kx_tyo (C : kx_ok k) {t0 : Nat} {cA cB : ClassId} {n : String} (ht : (kTy k)[t0]? = some (cA, .object n)) (h : va_RA (kS k) cB (.object n)) : cB = cA := by
  obtain ⟨_, _, -, -, -, h1⟩ := ((kx_K C).2 t0 _ ht).2
  obtain ⟨_, _, -, -, -, h2⟩ := h
  exact Option.some.inj (h2.symm.trans h1)
theorem w_newa (C : kx_ok k) {atype : ArrayType} {ty : FieldType} {n : Int32} {N t0 : Nat} {cA : ClassId} {a0 : vp_A} (harr : Cond.arrayClass ty ∈ gT) (hty : newarray.typeOf atype = ty) (hno : ∀ n, ty ≠ .object n) (ht : (kTy k)[t0]? = some (cA, ty)) (ha : vp_cell cA a0 = arrV cA N (fun _ => defaultValue ty)) (ha2 : ∀ c : ClassId, vp_cell c a0 = arrV c N (fun _ => defaultValue ty)) (hn : ¬ n < 0) (hN : n.toNatClampNeg = N) (hb : N * componentBytes ty ≤ 536870912) (h1 : ce + 1 ≤ (kR k).cells) (h2 : sl + N ≤ (kR k).slots) (d : decode (kCc k) pc = .ok (.newarray atype, 2))
    (h : ∀ q : Nat, WS k (pc + 2) lv (.ref q :: st) (ws ++ [(q, .inl (cA, a0))]) (ce + 1) (sl + N)) : WS k pc lv (.int n :: st) ws ce sl := by
  intro H locs ls hP hD hS hlv
  refine va_newa C.1 C.2.1 (by rw [hty]; exact kx_wd C _ harr) hty (kx_K C) hP hD hS (kx_new C) ha2 hn hN hb h1 h2 d (fun q cB H1 hK p1 p2 p3 => ?_)
  have e : cB = cA := kx_ty C hno ht (hK.2 (kTy k).length (cB, ty) (by simp)).2
  subst e
  exact h q H1 locs ls p1 p2 p3 hlv
theorem w_newq (C : kx_ok k) {idx t0 N : Nat} {Cn : String} {n : Int32} {cA : ClassId} (hcl : Cond.classLink (kOwn k) idx Cn ∈ gT) (hov : va_AO Cn (kS k)) (ht : (kTy k)[t0]? = some (cA, .object Cn)) (hn : ¬ n < 0) (hN : n.toNatClampNeg = N) (hb : N * 4 ≤ 536870912) (h1 : ce + 1 ≤ (kR k).cells) (h2 : sl + N ≤ (kR k).slots) (d : decode (kCc k) pc = .ok (.anewarray idx, 3))
    (h : ∀ q : Nat, WS k (pc + 3) lv (.ref q :: st) (ws ++ [(q, .inl (cA, N, .inr (.inr (.inr (.inr (fun _ => none))))))]) (ce + 1) (sl + N)) : WS k pc lv (.int n :: st) ws ce sl := by
  intro H locs ls hP hD hS hlv
  refine va_newq C.1 C.2.1 C.2.2.2.1 (kx_wd C _ hcl) hov (kx_K C) hP hD hS (kx_new C) hn hN hb h1 h2 d (fun q cB H1 hK p1 p2 p3 => ?_)
  have e : cB = cA := kx_tyo C ht (hK.2 (kTy k).length (cB, .object Cn) (by simp)).2
  subst e
  exact h q H1 locs ls p1 p2 p3 hlv
theorem w_objInit (C : kx_ok k) {idx a : Nat} (hl : Cond.methodLink (kOwn k) idx Lib.objectInit ∈ gT) (hi : Cond.instanceMethod Lib.objectInit ∈ gT) (hc : Cond.code Lib.objectInit ⟨#[0xb1]⟩ 1 none ∈ gT) (d : decode (kCc k) pc = .ok (.invokespecial idx, 3)) (h1 : 1 ≤ (kR k).frames) (h2 : (st.map fun v => v.category).sum + 12 ≤ (kR k).locals) (h : WS k (pc + 3) lv st ws ce sl) : WS k pc lv (.ref a :: st) ws ce sl :=
  fun H locs ls hP hD hS hlv => W.objInit C.1 C.2.1 C.2.2.2.1 (kx_wd C _ hl) (kx_wd C _ hi) (kx_wd C _ hc) rfl (hlv.1.trans C.2.2.1.symm) rfl d h1 (by simpa using h2) (h H locs ls hP hD hS hlv)
theorem w_widen {ce' sl' : Nat} (h1 : ce ≤ ce') (h2 : sl ≤ sl') (h : WS k pc lv st ws ce' sl') : WS k pc lv st ws ce sl :=
  fun H locs ls hP hD hS hlv => W.widen h1 h2 (h H locs ls hP hD hS hlv)
end L2
end
section
/-! Layer 1: methods by their whole run, calls, returns, throws -/
/-- how a method ends: with a value (or none), or by an exception of a class -/
abbrev mb_O : Type := Option Value ⊕ String
abbrev mb_F (s0 : State) : Nat → Prop := fun q => s0.heap.size ≤ q
def mb_Q (s0 : State) (D : va_G) (K : mb_O → va_W → Prop) : Array Value → State → Outcome → State → Prop := fun _ st oc t =>
  ∃ (v : Option Value) (ws : va_W), oc = .returned v ∧ K (.inl v) ws ∧ va_P D vwCl ws t.heap ∧ va_D (mb_F s0) ws ∧ va_F (mb_F s0) st t
def mb_X (s0 : State) (D : va_G) (K : mb_O → va_W → Prop) : String → State → State → Prop := fun E st t =>
  ∃ ws : va_W, K (.inr E) ws ∧ va_P D vwCl ws t.heap ∧ va_D (mb_F s0) ws ∧ va_F (mb_F s0) st t
def mb_B (s0 : State) (D : va_G) (ws : va_W) : State → Prop := fun U =>
  s0.WarmedH U.vm ∧ s0.heap.size ≤ U.heap.size ∧ (∀ q : Nat, q < s0.heap.size → U.heap[q]? = s0.heap[q]?) ∧ va_P D vwCl ws U.heap ∧ va_D (mb_F s0) ws
/-- the method y, called with vals in the world ws, ends in one of the ways K -/
def MB (l : Launch) (s0 : State) (D : va_G) (y : MethodName) (wd : Cond) (rm : Room) (vals : List Value) (ws : va_W) (K : mb_O → va_W → Prop) : Prop :=
  vx_Met l y [wd] rm (va_Pc vals (mb_B s0 D ws)) (mb_Q s0 D K) (mb_X s0 D K) rm.cells rm.slots (mb_F s0)
theorem mb_blind {s0 : State} {D : va_G} {ws : va_W} {vals : List Value} : FrameBlind (va_Pc vals (mb_B s0 D ws)) := fun _ _ _ _ q => q
/-- thrown over the frame: an exception of class E -/
def WX (k : kx_T) (pc : Nat) (lv : List (Nat × Value)) (st : List Value) (ws : va_W) (E : String) (ce sl : Nat) : Prop :=
  ∀ (H : Heap) (locs : List Loc) (ls : Array Slot) (q : Addr) (cell : Cell), va_P (kD k) vwCl ws H → va_D (kF k) ws → va_S (kF k) (kS k).heap H locs → lv_has ls (kN k) lv → H[q]? = some cell → cell.vm = .none → (kS k).vm.findClass E = some cell.cls →
    vx_W (kP k) (kL k) (kE k) (kR k) (kS k) (kM k) (kA k) (kB k) (kMe k) (kC k) H locs ce sl (kQ k) (F0 (kM k) pc ls st) q
section L3
variable {k : kx_T} {pc : Nat} {lv : List (Nat × Value)} {st : List Value} {ws : va_W} {ce sl : Nat} {K : mb_O → va_W → Prop} {y : MethodName} {rm : Room} {bytes : ByteArray} {maxL : Nat} {ret : Option FieldType}
/-- behind a call, whatever it brought -/
theorem w_run {H : Heap} {locs : List Loc} {ls : Array Slot} {st0 rest : List Value} {mc ms : Nat} {a : Array Value} (hl : lv_has ls (kN k) lv) (hS : va_S (kF k) (kS k).heap H locs)
    (hr : vx_Run (kP k) (kL k) (kE k) (kR k) (kS k) (kM k) (kA k) (kB k) (kMe k) (kC k) H locs ce sl mc ms (F0 (kM k) pc ls st0) rest (mb_Q (kS0 k) (kD k) K a) (mb_X (kS0 k) (kD k) K) (mb_F (kS0 k)))
    (h1 : ∀ v ws', K (.inl v) ws' → WS k (pc + 3) lv (v.toList ++ rest) ws' (ce + mc) (sl + ms)) (h2 : ∀ E ws', K (.inr E) ws' → WX k pc lv rest ws' E (ce + mc) (sl + ms)) :
    kx_W k H locs ce sl (F0 (kM k) pc ls st0) := by
  intro T hT X
  rcases hr T hT X with ⟨v, st₀, t, T', L, h0, X', hL, e1, e2, ⟨v', ws', hv, hK, hP', hD', hF⟩, stp⟩ | ⟨q, st₀, t, T', L, E, cx, h0, X', hL, e1, e2, ⟨ws', hK, hP', hD', hF⟩, hce, hcv, hcl, stp⟩
  · cases hv
    obtain ⟨-, -, k3⟩ := vx_keep (A0 := kF k) (A1 := kF k) h0 e1 hS (fun _ _ q => q) (fun _ q => q) hL hF
    obtain ⟨t2, a1, b1⟩ := h1 v ws' hK T'.heap (locs ++ L) ls (by rw [e1]; exact hP') hD' k3 hl T' rfl X'
    exact ⟨t2, stp t2 a1, b1⟩
  · obtain ⟨-, -, k3⟩ := vx_keep (A0 := kF k) (A1 := kF k) h0 e1 hS (fun _ _ q => q) (fun _ q => q) hL hF
    obtain ⟨t2, a1, b1⟩ := h2 E ws' hK T'.heap (locs ++ L) ls q cx (by rw [e1]; exact hP') hD' k3 hl (by rw [e1]; exact hce) hcv hcl T' rfl X'
    exact ⟨t2, stp.trans a1, b1⟩
theorem kx_B (C : kx_ok k) {H : Heap} {locs : List Loc} (hP : va_P (kD k) vwCl ws H) (hD : va_D (kF k) ws) (hS : va_S (kF k) (kS k).heap H locs) : ∀ U : State, U.heap = H → (kS k).WarmedH U.vm → mb_B (kS0 k) (kD k) ws U := by
  intro U hU hW
  have h7 := C.2.2.2.2.2.2.1
  refine ⟨State.WarmedH.trans C.2.2.2.2.1 hW, by rw [hU]; exact Nat.le_trans h7 hS.1, fun q hq => ?_, by rw [hU]; exact hP, hD⟩
  rw [hU, hS.2.1 q (Nat.lt_of_lt_of_le hq h7) (Nat.not_le.mpr hq)]
  exact C.2.2.2.2.2.2.2.1 q hq
/-- what a call of y wants of words and room -/
def cb_ok (k : kx_T) (idx : Nat) (y : MethodName) (bytes : ByteArray) (maxL : Nat) (ret : Option FieldType) (rm : Room) (n : Nat) : Prop :=
  Cond.methodLink (kOwn k) idx y ∈ gT ∧ Cond.code y bytes maxL ret ∈ gT ∧ Cond.initialized y.cls ∈ gT ∧ (y.cls ≠ "java/lang/invoke/MethodHandle" ∧ y.cls ≠ "java/lang/invoke/VarHandle" ∧ (parseMethodDescriptor y.desc).map (fun d => d.parameters.length) = some n) ∧
  rm.frames + 1 ≤ (kR k).frames ∧ 8 + (maxL + 11) + rm.locals ≤ (kR k).locals
theorem cb_B (C : kx_ok k) {idx n : Nat} (h : cb_ok k idx y bytes maxL ret rm n) : CallB (kR k) (kS k) (kA k) (kOwn k) idx y bytes maxL ret [Cond.code y bytes maxL ret] rm rm.cells rm.slots n := by
  obtain ⟨h1, h2, h3, h4, h5, h6⟩ := h
  exact callB_of n (kx_wd C) (fun w hw => by
    rw [List.mem_singleton.mp hw]
    exact ⟨h2, good_of_word (List.mem_filter.mp h2).2⟩) rfl rfl rfl (kx_wd C _ h3) (kx_wd C _ h1) h4 ⟨h5, h6⟩
theorem w_callV (C : kx_ok k) {idx n q0 ci N b : Nat} {T : u_T} {fs As : List Value} (cb : cb_ok k idx y bytes maxL ret rm n) (hi : Cond.instanceMethod y ∈ gT) (hse : Cond.selects y.cls y y ∈ gT) (hM : MB (kL k) (kS0 k) (kD k) y (.code y bytes maxL ret) rm (.ref b :: As) ws K)
    (he : ws[q0]? = some (b, .inr (ci, fs))) (hc : vwCl[ci]? = some (y.cls, T, N)) (hn : As.length = n) (hw : (st.map fun v => v.category).sum ≤ 8) (hf : ce + rm.cells ≤ (kR k).cells ∧ sl + rm.slots ≤ (kR k).slots) (d : decode (kCc k) pc = .ok (.invokevirtual idx, 3))
    (h1 : ∀ v ws', K (.inl v) ws' → WS k (pc + 3) lv (v.toList ++ st) ws' (ce + rm.cells) (sl + rm.slots)) (h2 : ∀ E ws', K (.inr E) ws' → WX k pc lv st ws' E (ce + rm.cells) (sl + rm.slots)) : WS k pc lv (As.reverse ++ .ref b :: st) ws ce sl := by
  intro H locs ls hP hD hS hl
  refine w_run (K := K) hl hS (vx_runV (C := y.cls) (As := As) (rest := st) ⟨C.1, C.2.1, C.2.2.1, C.2.2.2.1, kx_wd C⟩ hM ⟨cb_B C cb, kx_wd C _ hi, kx_wd C _ hse⟩ ⟨mb_blind, va_recv (kx_K C) hP hc he, fun U hU hW => ⟨rfl, kx_B C hP hD hS U hU hW⟩⟩ rfl hn hl.1 rfl ?_ d hf) h1 h2
  simpa using hw
theorem w_callS (C : kx_ok k) {idx n : Nat} {As : List Value} (cb : cb_ok k idx y bytes maxL ret rm n) (hi : Cond.static y ∈ gT) (hM : MB (kL k) (kS0 k) (kD k) y (.code y bytes maxL ret) rm As ws K)
    (hn : As.length = n) (hw : (st.map fun v => v.category).sum ≤ 8) (hf : ce + rm.cells ≤ (kR k).cells ∧ sl + rm.slots ≤ (kR k).slots) (d : decode (kCc k) pc = .ok (.invokestatic idx, 3))
    (h1 : ∀ v ws', K (.inl v) ws' → WS k (pc + 3) lv (v.toList ++ st) ws' (ce + rm.cells) (sl + rm.slots)) (h2 : ∀ E ws', K (.inr E) ws' → WX k pc lv st ws' E (ce + rm.cells) (sl + rm.slots)) : WS k pc lv (As.reverse ++ st) ws ce sl := by
  intro H locs ls hP hD hS hl
  refine w_run (K := K) hl hS (vx_runS (As := As) (rest := st) ⟨C.1, C.2.1, C.2.2.1, C.2.2.2.1, kx_wd C⟩ hM ⟨cb_B C cb, kx_wd C _ hi⟩ ⟨mb_blind, fun U hU hW => ⟨rfl, kx_B C hP hD hS U hU hW⟩⟩ rfl hn hl.1 rfl ?_ d hf) h1 h2
  simpa using hw
/-- a method that never throws -/
theorem mb_noX {l : Launch} {s0 : State} {D : va_G} {wd : Cond} {vals : List Value} (h : MB l s0 D y wd rm vals ws K) (hx : ∀ E ws', ¬ K (.inr E) ws') : Met l y [wd] rm (va_Pc vals (mb_B s0 D ws)) (mb_Q s0 D K) rm.cells rm.slots (mb_F s0) := by
  intro p e h1 h2 h3 s m args below hf ha hP hK
  obtain ⟨n, o, a1, a2, a3, a4⟩ := h p e h1 h2 h3 s m args below hf ha hP hK
  refine ⟨n, o, a1, a2, a3, ?_⟩
  rcases a4 with a4 | ⟨q, -, E, ce, L, ⟨ws', hk, -⟩, -⟩
  · exact a4
  · exact absurd hk (hx E ws')
/-- a call by Met, run -/
theorem w_runM {H : Heap} {locs : List Loc} {ls : Array Slot} {st0 rest : List Value} {mc ms : Nat} {a : Array Value} (hl : lv_has ls (kN k) lv) (hS : va_S (kF k) (kS k).heap H locs)
    (hr : va_Run (kP k) (kL k) (kE k) (kR k) (kS k) (kM k) (kA k) (kB k) (kMe k) (kC k) H locs ce sl mc ms (F0 (kM k) pc ls st0) rest (mb_Q (kS0 k) (kD k) K a) (mb_F (kS0 k)))
    (h1 : ∀ v ws', K (.inl v) ws' → WS k (pc + 3) lv (v.toList ++ rest) ws' (ce + mc) (sl + ms)) :
    kx_W k H locs ce sl (F0 (kM k) pc ls st0) := by
  intro T hT X
  obtain ⟨v, st₀, t, T', L, h0, X', hL, e1, e2, ⟨v', ws', hv, hK, hP', hD', hF⟩, stp⟩ := hr T hT X
  cases hv
  obtain ⟨-, -, k3⟩ := vx_keep (A0 := kF k) (A1 := kF k) h0 e1 hS (fun _ _ q => q) (fun _ q => q) hL hF
  obtain ⟨t2, a1, b1⟩ := h1 v ws' hK T'.heap (locs ++ L) ls (by rw [e1]; exact hP') hD' k3 hl T' rfl X'
  exact ⟨t2, stp t2 a1, b1⟩
theorem w_callI (C : kx_ok k) {idx n b : Nat} {As : List Value} (cb : cb_ok k idx y bytes maxL none rm n) (hy : y.name = "<init>") (hi : Cond.instanceMethod y ∈ gT) (hM : MB (kL k) (kS0 k) (kD k) y (.code y bytes maxL none) rm (.ref b :: As) ws K) (hx : ∀ E ws', ¬ K (.inr E) ws')
    (hn : As.length = n) (hw : (st.map fun v => v.category).sum ≤ 8) (hf : ce + rm.cells ≤ (kR k).cells ∧ sl + rm.slots ≤ (kR k).slots) (d : decode (kCc k) pc = .ok (.invokespecial idx, 3))
    (h1 : ∀ v ws', K (.inl v) ws' → WS k (pc + 3) lv (v.toList ++ st) ws' (ce + rm.cells) (sl + rm.slots)) : WS k pc lv (As.reverse ++ .ref b :: st) ws ce sl := by
  intro H locs ls hP hD hS hl
  refine w_runM (K := K) hl hS (va_runI (As := As) (rest := st) ⟨C.1, C.2.1, C.2.2.1, C.2.2.2.1, kx_wd C⟩ (mb_noX hM hx) ⟨cb_B C cb, hy, kx_wd C _ hi⟩ ⟨mb_blind, fun U hU hW => ⟨rfl, kx_B C hP hD hS U hU hW⟩⟩ rfl hn hl.1 rfl ?_ d hf) h1
  simpa using hw
/-- how an activation is to end: the ways K, room mc ms -/
def kx_end (k : kx_T) (K : mb_O → va_W → Prop) (mc ms : Nat) : Prop := kQ k = vx_MQ (kB k) (mb_Q (kS0 k) (kD k) K) (mb_X (kS0 k) (kD k) K) (kA k) (kS k) mc ms (mb_F (kS0 k))
theorem w_vret (C : kx_ok k) {mc ms : Nat} (q : kx_end k K mc ms) (hr : (kMe k).sig.returnType = none) (d : decode (kCc k) pc = .ok (.return_, 1)) (h1 : ce ≤ mc) (h2 : sl ≤ ms) (h : K (.inl none) ws) : WS k pc lv [] ws ce sl := by
  intro H locs ls hP hD hS hl
  show W _ _ _ _ _ _ _ _ _ _ _ _ _ _ (kQ k) _
  rw [q]
  refine vx_ret (W.widen h1 h2 (W.vret C.1 C.2.1 hr (fun t ht hW => ?_) (fun z hz => hS.2.2 z hz) d C.2.2.2.2.2.2.2.2.1))
  exact ⟨none, ws, rfl, h, by rw [ht]; exact hP, hD, hS.F ht⟩
theorem w_iret (C : kx_ok k) {mc ms : Nat} {x : Int32} {ty : FieldType} (q : kx_end k K mc ms) (hr : (kMe k).sig.returnType = some ty) (hn : narrow ty (.int x) = .int x) (d : decode (kCc k) pc = .ok (.ireturn, 1)) (h1 : ce ≤ mc) (h2 : sl ≤ ms) (h : K (.inl (some (.int x))) ws) : WS k pc lv [.int x] ws ce sl := by
  intro H locs ls hP hD hS hl
  show W _ _ _ _ _ _ _ _ _ _ _ _ _ _ (kQ k) _
  rw [q]
  refine vx_ret (W.widen h1 h2 (W.zret C.1 C.2.1 hr hn (fun t ht hW => ?_) (fun z hz => hS.2.2 z hz) d C.2.2.2.2.2.2.2.2.1))
  exact ⟨some (.int x), ws, rfl, h, by rw [ht]; exact hP, hD, hS.F ht⟩
theorem w_lret (C : kx_ok k) {mc ms : Nat} {x : Int64} (q : kx_end k K mc ms) (hr : (kMe k).sig.returnType = some .long) (d : decode (kCc k) pc = .ok (.lreturn, 1)) (h1 : ce ≤ mc) (h2 : sl ≤ ms) (h : K (.inl (some (.long x))) ws) : WS k pc lv [.long x] ws ce sl := by
  intro H locs ls hP hD hS hl
  show W _ _ _ _ _ _ _ _ _ _ _ _ _ _ (kQ k) _
  rw [q]
  refine vx_ret (W.widen h1 h2 (W.lret C.1 C.2.1 hr (fun t ht hW => ?_) (fun z hz => hS.2.2 z hz) d C.2.2.2.2.2.2.2.2.1))
  exact ⟨some (.long x), ws, rfl, h, by rw [ht]; exact hP, hD, hS.F ht⟩
/-- an exception that no row of the table takes goes on to the caller -/
theorem x_out (C : kx_ok k) {mc ms : Nat} {E : String} (q : kx_end k K mc ms) (hout : ∀ x ∈ (kC k).exceptionTable.toList, covers x pc = false) (h1 : ce ≤ mc) (h2 : sl ≤ ms) (h : K (.inr E) ws) : WX k pc lv st ws E ce sl := by
  intro H locs ls a cell hP hD hS hl hc hv hcl
  show vx_W _ _ _ _ _ _ _ _ _ _ _ _ _ _ (kQ k) _ _
  rw [q]
  exact vx_out hout C.2.2.2.2.2.2.2.2.1 hc hv hcl (fun t ht _ => ⟨ws, h, by rw [ht]; exact hP, hD, hS.F ht⟩) (fun z hz => hS.2.2 z hz) h1 h2
end L3
end
section
/-! Layer 1: what is known at the law's start; throws, catches; a method's whole run out of its body -/
abbrev ex_N : List String := ["java/lang/RuntimeException", "java/lang/Exception"]
/-- an exception class E, made by 'new ik', 'invokespecial ic' in the class SkyCuts -/
def ex_ok (ik ic : Nat) (E : String) : Prop :=
  Bundle.fit E = true ∧ Cond.classLink RX11 ik E ∈ gT ∧ Cond.initialized E ∈ gT ∧ (∀ w ∈ (vx_atS RX11 ic E ex_N).filter goodWord, w ∈ gT) ∧ (∀ w ∈ (vx_atS RX11 ic E ex_N).filter (fun w => !goodWord w), w ∈ [Cond.castable E E]) ∧ Cond.castable E E ∈ lw_tbl ∧
  (∀ w ∈ Cond.classLink RX11 ik E :: Cond.initialized E :: vx_atS RX11 ic E ex_N, vx_ot w = true)
/-- the law's start -/
def z0_ok (l : Launch) (s0 : State) (a0 : Array Value) (D : va_G) (tys : List (ClassId × FieldType)) : Prop :=
  l.stackTraces = false ∧ (∀ w ∈ lw_tbl, w.before a0 s0 = true) ∧ va_K D vwCl tys s0 ∧ vx_Zq Bundle.tN "UNASSIGNED_STACK" Bundle.steD (mb_F s0) s0 s0.heap ∧ vx_Zq Bundle.tN "SUPPRESSED_SENTINEL" Bundle.listD (mb_F s0) s0 s0.heap ∧
  (∀ (i : Nat) (t : String), Cond.stringRef RX11 i t ∈ lw_tbl → ∃ sa, vk_R RX11 i t sa s0)
section L4
variable {k : kx_T} {pc : Nat} {lv : List (Nat × Value)} {st : List Value} {ws : va_W} {ce sl : Nat} {K : mb_O → va_W → Prop} {y : MethodName} {rm : Room} {bytes : ByteArray} {maxL : Nat} {ret : Option FieldType} {a0 : Array Value}
theorem kx_Zq (C : kx_ok k) {c n d : String} (h : vx_Zq c n d (mb_F (kS0 k)) (kS0 k) (kS0 k).heap) : vx_Zq c n d (kF k) (kS k) (kS k).heap :=
  (h.moved C.2.2.2.2.1.alike).kept (fun a ha _ => C.2.2.2.2.2.2.2.1 a ha)
theorem kx_cast (C : kx_ok k) (Z : z0_ok (kL k) (kS0 k) a0 (kD k) (kTy k)) {E F : String} (h : Cond.castable E F ∈ lw_tbl) : (Cond.castable E F).before (kA k) (kS k) = true :=
  va_Nw.use rfl (va_Nw.warmC C.2.2.2.2.1 (va_Nw.of rfl (Z.2.1 _ h)))
theorem w_throw (C : kx_ok k) (Z : z0_ok (kL k) (kS0 k) a0 (kD k) (kTy k)) {ik ic is mc ms : Nat} {E text : String} (hE : ex_ok ik ic E) (ho : kOwn k = RX11) (hs : Cond.stringRef RX11 is text ∈ lw_tbl) (q : kx_end k K mc ms) (hout : ∀ x ∈ (kC k).exceptionTable.toList, covers x (pc + 9) = false)
    (d0 : decode (kCc k) pc = .ok (.new ik, 3)) (d3 : decode (kCc k) (pc + 3) = .ok (.dup, 1)) (d4 : decode (kCc k) (pc + 4) = .ok (.ldc is, 2)) (d6 : decode (kCc k) (pc + 6) = .ok (.invokespecial ic, 3)) (d9 : decode (kCc k) (pc + 9) = .ok (.athrow, 1))
    (r1 : 5 < (kR k).frames) (r2 : (st.map fun v => v.category).sum + 82 ≤ (kR k).locals) (r3 : ce + 1 ≤ (kR k).cells) (r4 : sl + 6 ≤ (kR k).slots) (r5 : ce + 1 ≤ mc) (r6 : sl + 6 ≤ ms) (h : K (.inr E) ws) : WS k pc lv st ws ce sl := by
  intro H locs ls hP hD hS hl
  obtain ⟨e1, e2, e3, e4, e5, e6, e7⟩ := hE
  obtain ⟨sa, hsa⟩ := Z.2.2.2.2.2 is text hs
  have hown : (kS k).vm.findClass RX11 = some (kM k).cls := by rw [← ho]; exact C.2.2.2.1
  have hat : ∀ w ∈ vx_atS RX11 ic E ex_N, w.before (kA k) (kS k) = true := vx_hat (fun w hw => kx_wd C w (e4 w hw)) e5 (fun w hw => by rw [List.mem_singleton.mp hw]; exact kx_cast C Z e6)
  show W _ _ _ _ _ _ _ _ _ _ _ _ _ _ (kQ k) _
  rw [q]
  refine vx_throwS (own := RX11) (cls := E) (text := text) (names := ex_N) (ik := ik) (is := is) (ic := ic) (sa := sa) (A := kF k) C.1 C.2.1 Z.1 hown e1 (by decide +kernel) (kx_wd C _ e2) (kx_wd C _ e3) (hsa.warm C.2.2.2.2.1) hat e7 (kx_Zq C Z.2.2.2.1) (kx_Zq C Z.2.2.2.2.1) hS (hl.1.trans C.2.2.1.symm) d0 d3 d4 d6 d9 hout r1 r2 r3 r4 C.2.2.2.2.2.2.2.2.1 (fun t hvm hz hq => ?_) (fun z hz => hS.2.2 z hz) r5 r6
  refine ⟨ws, h, hP.kept (fun j x hx => hq x.1 ((hP j x hx).lt)), hD, Nat.le_trans hS.1 hz, fun a ha hn => ?_⟩
  rw [hq a (Nat.lt_of_lt_of_le ha hS.1)]
  exact hS.2.1 a ha hn
/-- caught by a row of the method's own table -/
theorem x_catch (C : kx_ok k) (Z : z0_ok (kL k) (kS0 k) a0 (kD k) (kTy k)) {E name : String} (pre : List ExceptionTableEntry) (x : ExceptionTableEntry) (suf : List ExceptionTableEntry) (hsplit : (kC k).exceptionTable.toList = pre ++ x :: suf)
    (hpass : ∀ z ∈ pre, covers z pc = false ∨ (z.catchType ≠ 0 ∧ ∃ nm : String, Cond.classLink (kOwn k) z.catchType nm ∈ gT ∧ va_Nc E nm (kS k))) (hx : covers x pc = true) (h0 : x.catchType ≠ 0)
    (hlink : Cond.classLink (kOwn k) x.catchType name ∈ gT) (hcast : Cond.castable E name ∈ lw_tbl) (h : ∀ q : Nat, WS k x.handlerPc lv [.ref q] ws ce sl) : WX k pc lv st ws E ce sl := by
  intro H locs ls q cell hP hD hS hl hc hv hcl
  exact vx_catch C.2.2.2.1 pre x suf hsplit (fun z hz => (hpass z hz).imp id (fun ⟨a, nm, b, c⟩ => ⟨a, nm, kx_wd C _ b, c⟩)) hx h0 (kx_wd C _ hlink) (kx_cast C Z hcast) hc hv hcl (h q H locs ls hP hD hS hl)
theorem w_callIN (C : kx_ok k) (Z : z0_ok (kL k) (kS0 k) a0 (kD k) (kTy k)) {idx n b : Nat} {host : String} {As : List Value} (hlk : Cond.methodLinkNest (kOwn k) idx y host ∈ lw_tbl) (hcd : Cond.code y bytes maxL none ∈ gT) (hin : Cond.initialized y.cls ∈ gT) (hd : y.cls ≠ "java/lang/invoke/MethodHandle" ∧ y.cls ≠ "java/lang/invoke/VarHandle" ∧ (parseMethodDescriptor y.desc).map (fun d => d.parameters.length) = some n)
    (hR : rm.frames + 1 ≤ (kR k).frames ∧ 8 + (maxL + 11) + rm.locals ≤ (kR k).locals) (hy : y.name = "<init>") (hi : Cond.instanceMethod y ∈ gT) (hM : MB (kL k) (kS0 k) (kD k) y (.code y bytes maxL none) rm (.ref b :: As) ws K) (hx : ∀ E ws', ¬ K (.inr E) ws')
    (hn : As.length = n) (hw : (st.map fun v => v.category).sum ≤ 8) (hf : ce + rm.cells ≤ (kR k).cells ∧ sl + rm.slots ≤ (kR k).slots) (d : decode (kCc k) pc = .ok (.invokespecial idx, 3))
    (h1 : ∀ v ws', K (.inl v) ws' → WS k (pc + 3) lv (v.toList ++ st) ws' (ce + rm.cells) (sl + rm.slots)) : WS k pc lv (As.reverse ++ .ref b :: st) ws ce sl := by
  intro H locs ls hP hD hS hl
  have hl0 : va_Nw (.methodLinkNest (kOwn k) idx y host) (kS k) := va_Nw.warmM C.2.2.2.2.1 (va_Nw.of rfl (Z.2.1 _ hlk))
  refine w_runM (K := K) hl hS (va_runIN (As := As) (rest := st) ⟨C.1, C.2.1, C.2.2.1, C.2.2.2.1, kx_wd C⟩ (mb_noX hM hx) ⟨va_cnB (host := host) n (kx_wd C) (fun w hw => by
    rw [List.mem_singleton.mp hw]
    exact ⟨hcd, good_of_word (List.mem_filter.mp hcd).2⟩) rfl rfl rfl hl0 (kx_wd C _ hin) hd hR, hy, kx_wd C _ hi⟩ ⟨mb_blind, fun U hU hW => ⟨rfl, kx_B C hP hD hS U hU hW⟩⟩ rfl hn hl.1 rfl ?_ d hf) h1
  simpa using hw
/-- a method's run out of the walk of its body -/
theorem mb_of {l : Launch} {s0 : State} {D : va_G} {tys : List (ClassId × FieldType)} {vals : List Value} (Z : z0_ok l s0 a0 D tys) (hy : plainName y.cls = true) (hn : (lg_sl vals).length ≤ maxL)
    (body : ∀ k : kx_T, kx_ok k → kL k = l → kR k = rm → kS0 k = s0 → kD k = D → kTy k = tys → kOwn k = y.cls → kCc k = bytes → kN k = maxL → (kMe k).sig.returnType = ret → (kMe k).name = y.name → (∀ x ∈ (kC k).exceptionTable.toList, False) → kx_end k K rm.cells rm.slots → WS k 0 (lv_args 0 vals) [] ws 0 0) :
    MB l s0 D y (.code y bytes maxL ret) rm vals ws K := by
  refine vx_ofW (ws' := []) hy rfl ?_
  intro p e s m args below meth c s₁ B hml ht hv
  obtain ⟨rfl, hW0, hz, hq, hP, hD⟩ := hv
  have hl := lv_entry vals (n := maxL) hn
  rw [lg_entry_eq]
  generalize (lg_sl vals ++ List.replicate (maxL - (lg_sl vals).length) Slot.unset).toArray = ls at hl ⊢
  let kk : kx_T := ((p, l, e, (headSpec [Cond.code y bytes maxL ret] rm).room, s, m, vals.toArray, below, meth, c, vx_MQ below (mb_Q s0 D K) (mb_X s0 D K) vals.toArray s rm.cells rm.slots (mb_F s0)), (s0, D, tys, y.cls, bytes, maxL))
  have hC : kx_ok kk := ⟨B.exec, B.bytes, hml, findClass_of_methodNamed B.named, hW0, va_K.moved hW0.alike Z.2.2.1, hz, hq, B.notSynchronized, fun w hw => by
    obtain ⟨h1, h2⟩ := List.mem_filter.mp hw
    exact word_at hW0 (good_of_word h2) (Z.2.1 w h1)⟩
  exact body kk hC rfl rfl rfl rfl rfl rfl rfl rfl B.returns (name_of_methodNamed B.named B.method).1 ht rfl s.heap [] ls hP hD va_S.rf hl
end L4
end
section
/-! Layer 1: arraycopy, arrays of arrays, the law's own helpers -/
section L5
variable {k : kx_T} {pc : Nat} {lv : List (Nat × Value)} {st : List Value} {ws : va_W} {ce sl : Nat} {K : mb_O → va_W → Prop} {y : MethodName} {rm : Room} {bytes : ByteArray} {maxL : Nat} {ret : Option FieldType} {a0 : Array Value}
theorem w_copyi (C : kx_ok k) {idx q0 q1 t0 a b : Nat} {c0 : ClassId} {n0 n1 : Nat} {f g : Nat → Int32} {sp dp n : Int32} (hl : Cond.methodLink (kOwn k) idx arraycopyName ∈ gT) (hnat : Cond.native arraycopyName ∈ gT) (hst : Cond.static arraycopyName ∈ gT) (hini : Cond.initialized "java/lang/System" ∈ gT)
    (ha0 : ws[q0]? = some (a, .inl (c0, n0, .inl f))) (ha1 : ws[q1]? = some (b, .inl (c0, n1, .inl g))) (ht : (kTy k)[t0]? = some (c0, .int)) (h1 : ¬ sp < 0) (h2 : ¬ dp < 0) (h3 : ¬ n < 0) (h4 : sp.toNatClampNeg + n.toNatClampNeg ≤ n0) (h5 : dp.toNatClampNeg + n.toNatClampNeg ≤ n1)
    (hf : 1 ≤ (kR k).frames) (hlo : (st.map fun v => v.category).sum + (nativeFrameWords "java/lang/System" "arraycopy" 5 + 11) ≤ (kR k).locals) (d : decode (kCc k) pc = .ok (.invokestatic idx, 3))
    (h : WS k (pc + 3) lv st (ws.set q1 (b, .inl (c0, n1, .inl (va_cpy f g sp.toNatClampNeg dp.toNatClampNeg n.toNatClampNeg)))) ce sl) : WS k pc lv (.int n :: .int dp :: .ref b :: .int sp :: .ref a :: st) ws ce sl :=
  fun H locs ls hP hD hS hlv => va_copyi C.1 C.2.1 (C.2.2.1.trans hlv.1.symm) C.2.2.2.1 (kx_wd C _ hl) (kx_wd C _ hnat) (kx_wd C _ hst) (kx_wd C _ hini) (kx_K C) hP hD hS q0 q1 t0 t0 ha0 ha1 ht ht rfl h1 h2 h3 h4 h5 (fun _ _ => rfl) hf hlo d (fun H1 l1 p1 p2 p3 => h H1 l1 ls p1 p2 p3 hlv)
theorem vr_outer (c : ClassId) (N h0 : Nat) : ∀ i : Nat, Jvm.Free.Multi.outerC c N h0 i = arrV c N (fun j => va_rf (if j < i then some (h0 + 1 + j) else none))
  | 0 => by
    show ({ cls := c, slots := Array.replicate N .null, vm := .none } : Cell) = _
    rw [arrV_new]
    refine congrArg (arrV c N) (funext fun j => ?_)
    simp [va_rf]
  | i + 1 => by
    show (Jvm.Free.Multi.outerC c N h0 i).setSlot i (.ref (h0 + 1 + i)) = _
    rw [vr_outer c N h0 i, arrV_store]
    refine congrArg (arrV c N) (funext fun j => ?_)
    by_cases e : j = i
    · subst e
      simp [updV, va_rf]
    · by_cases h : j < i
      · simp [updV, e, h, Nat.lt_succ_of_lt h]
      · simp [updV, e, h, show ¬ j < i + 1 by omega]
/-- cells laid one behind another from q on -/
def vz_row (q : Nat) (es : List va_E) : va_W := es.zipIdx.map (fun x => (q + x.2, x.1))
theorem vz_get {q j : Nat} {es : List va_E} {x : Nat × va_E} (h : (vz_row q es)[j]? = some x) : ∃ e, es[j]? = some e ∧ x = (q + j, e) := by
  unfold vz_row at h
  rw [List.getElem?_map, List.getElem?_zipIdx] at h
  cases he : es[j]? with
  | none => rw [he] at h; cases h
  | some e => rw [he] at h; cases h; exact ⟨e, rfl, by simp⟩
/-- new cells behind the heap: the world grows by them -/
theorem vz_grow {D : va_G} {A : Nat → Prop} {es : List va_E} {H H1 : Heap} (hP : va_P D vwCl ws H) (hD : va_D A ws) (hA : ∀ q, H.size ≤ q → A q) (hold : ∀ q : Nat, q < H.size → H1[q]? = H[q]?) (hnew : ∀ (j : Nat) (e : va_E), es[j]? = some e → va_at D vwCl (H.size + j, e) H1) :
    va_P D vwCl (ws ++ vz_row H.size es) H1 ∧ va_D A (ws ++ vz_row H.size es) := by
  refine ⟨va_P.app (hP.kept (fun j x hx => hold x.1 ((hP j x hx).lt))) (fun j x hx => ?_), va_D.app hD ⟨fun i j x z hx hz e => ?_, fun j x hx => ?_⟩ (fun i j x z hx hz e => ?_)⟩
  · obtain ⟨e, he, rfl⟩ := vz_get hx
    exact hnew j e he
  · obtain ⟨e1, -, rfl⟩ := vz_get hx
    obtain ⟨e2, -, rfl⟩ := vz_get hz
    simpa using e
  · obtain ⟨e1, -, rfl⟩ := vz_get hx
    exact hA _ (Nat.le_add_right _ _)
  · obtain ⟨e2, -, rfl⟩ := vz_get hz
    have := (hP i x hx).lt
    simp only at e
    omega
/-- new int[N][M]: the outer array, then its rows -/
theorem w_mna2 (C : kx_ok k) {idx t0 t1 N M : Nat} {cA cy : ClassId} {n m : Int32} (hcl : Cond.classLink (kOwn k) idx "[[I" ∈ gT) (hov : (Cond.arrayOver (.array .int)).before (kA k) (kS k) = true) (harr : Cond.arrayClass .int ∈ gT) (ht0 : (kTy k)[t0]? = some (cy, .int)) (ht1 : (kTy k)[t1]? = some (cA, .array .int))
    (hn : ¬ n < 0) (hm : ¬ m < 0) (hN : n.toNatClampNeg = N) (hM : m.toNatClampNeg = M) (hb1 : N * 4 ≤ 536870912) (hb2 : M * 4 ≤ 536870912) (h1 : ce + (1 + N) ≤ (kR k).cells) (h2 : sl + (N + N * M) ≤ (kR k).slots) (d : decode (kCc k) pc = .ok (.multianewarray idx 2, 4))
    (h : ∀ q : Nat, WS k (pc + 4) lv (.ref q :: st) (ws ++ vz_row q (.inl (cA, N, .inr (.inr (.inr (.inr (fun i => if i < N then some (q + 1 + i) else none))))) :: List.replicate N (.inl (cy, M, .inl (fun _ => 0))))) (ce + 1 + N) (sl + N + N * M)) : WS k pc lv (.int m :: .int n :: st) ws ce sl := by
  intro H locs ls hP hD hS hl
  subst hN
  subst hM
  intro T hT X
  obtain ⟨vm₁, cB, comp, -, fA, fC, -, -, X', step⟩ := X.multianewarray2F C.1 C.2.2.2.1 (kx_wd C _ hcl) hov (kx_wd C _ harr) (g := F0 (kM k) pc ls (.int m :: .int n :: st)) rfl (by rw [C.2.1]; exact d) rfl hn hm hb1 hb2 (by omega) rfl rfl h1 h2
  have e1 : cB = cA := kx_ty C (fun _ h => by cases h) ht1 fA
  have e2 : comp = cy := kx_ty C (fun _ h => by cases h) ht0 fC
  subst e1
  subst e2
  generalize hF : Jvm.Free.Multi.fill (T.setVm vm₁) cB comp n.toNatClampNeg m.toNatClampNeg (defaultValue .int) n.toNatClampNeg = F at X' step
  have hTh : (T.setVm vm₁).heap = H := hT
  obtain ⟨f1, f2, -, -⟩ := Jvm.Free.Multi.fill_facts (T.setVm vm₁) cB comp n.toNatClampNeg m.toNatClampNeg (defaultValue .int) n.toNatClampNeg
  rw [hF, hTh] at f1 f2
  have hold : ∀ x : Nat, x < H.size → F.heap[x]? = H[x]? := fun x hx => by
    have := Jvm.Free.Multi.fill_old (T.setVm vm₁) cB comp n.toNatClampNeg m.toNatClampNeg (defaultValue .int) (a := x) (by rw [hTh]; exact hx) n.toNatClampNeg
    rw [hF, hTh] at this
    exact this
  have hrow : ∀ j : Nat, j < n.toNatClampNeg → F.heap[H.size + 1 + j]? = some (arrV comp m.toNatClampNeg (fun _ => .int 0)) := fun j hj => by
    have := Jvm.Free.Multi.fill_inner (T.setVm vm₁) cB comp n.toNatClampNeg m.toNatClampNeg (defaultValue .int) n.toNatClampNeg j hj
    rw [hF, hTh] at this
    rw [this]
    show some ({ cls := comp, slots := Array.replicate m.toNatClampNeg (.int 0), vm := .none } : Cell) = _
    rw [arrV_new]
  have hg := vz_grow (es := .inl (cB, n.toNatClampNeg, .inr (.inr (.inr (.inr (fun i => if i < n.toNatClampNeg then some (H.size + 1 + i) else none))))) :: List.replicate n.toNatClampNeg (.inl (comp, m.toNatClampNeg, .inl (fun _ => 0)))) hP hD (fun q hq => kx_new C q (Nat.le_trans hS.1 hq)) hold (fun j e he => by
    cases j with
    | zero =>
      cases he
      show F.heap[H.size + 0]? = some (vp_cell _ _)
      rw [vp_cell_q, Nat.add_zero, f2, vr_outer]
    | succ j =>
      rw [List.getElem?_cons_succ, List.getElem?_replicate] at he
      split at he
      · cases he
        show F.heap[H.size + (j + 1)]? = some (vp_cell _ _)
        rw [vp_cell_i, ← hrow j (by assumption)]
        congr 1
        omega
      · cases he)
  obtain ⟨t, a1, b1⟩ := h H.size F.heap locs ls hg.1 hg.2 ⟨by rw [f1]; have := hS.1; omega, fun x h3 h4 => (hold x (Nat.lt_of_lt_of_le h3 hS.1)).trans (hS.2.1 x h3 h4), hS.2.2⟩ hl F rfl X'
  refine ⟨t, step t ?_, b1⟩
  have e : T.heap.size = H.size := by rw [hT]
  rw [e]
  exact a1
end L5
end
section
/-! Layer 1: new int[N][M][L] -/
section CU
def f3_o (c : ClassId) (N h0 w : Nat) : Nat → Cell
  | 0 => { cls := c, slots := Array.replicate N .null, vm := .none }
  | i + 1 => (f3_o c N h0 w i).setSlot i (.ref (h0 + 1 + i * w))
def f3 (s : State) (c c2 c1 : ClassId) (N M L : Nat) (dv : Value) : Nat → State
  | 0 => s.pushCell (f3_o c N s.heap.size (1 + M) 0)
  | i + 1 => (Jvm.Free.Multi.fill (f3 s c c2 c1 N M L dv i) c2 c1 M L dv M).setCell s.heap.size (f3_o c N s.heap.size (1 + M) (i + 1))
theorem f3_o_facts (c : ClassId) (N h0 w : Nat) : ∀ i, (f3_o c N h0 w i).cls = c ∧ (f3_o c N h0 w i).vm = .none ∧ (f3_o c N h0 w i).slots.size = N
  | 0 => ⟨rfl, rfl, by simp [f3_o]⟩
  | i + 1 => by
    obtain ⟨a, b, d⟩ := f3_o_facts c N h0 w i
    exact ⟨by simp [f3_o, Cell.setSlot, a], by simp [f3_o, Cell.setSlot, b], by simp [f3_o, Cell.setSlot, d]⟩
theorem f3_arr (c : ClassId) (N h0 w : Nat) : ∀ i : Nat, f3_o c N h0 w i = arrV c N (fun j => va_rf (if j < i then some (h0 + 1 + j * w) else none))
  | 0 => by
    show ({ cls := c, slots := Array.replicate N .null, vm := .none } : Cell) = _
    rw [arrV_new]
    refine congrArg (arrV c N) (funext fun j => ?_)
    simp [va_rf]
  | i + 1 => by
    show (f3_o c N h0 w i).setSlot i (.ref (h0 + 1 + i * w)) = _
    rw [f3_arr c N h0 w i, arrV_store]
    refine congrArg (arrV c N) (funext fun j => ?_)
    by_cases e : j = i
    · subst e
      simp [updV, va_rf]
    · by_cases h : j < i
      · simp [updV, e, h, Nat.lt_succ_of_lt h]
      · simp [updV, e, h, show ¬ j < i + 1 by omega]
theorem f3_facts (s : State) (c c2 c1 : ClassId) (N M L : Nat) (dv : Value) : ∀ i, (f3 s c c2 c1 N M L dv i).heap.size = s.heap.size + 1 + i * (1 + M) ∧ (f3 s c c2 c1 N M L dv i).heap[s.heap.size]? = some (f3_o c N s.heap.size (1 + M) i) ∧
    (f3 s c c2 c1 N M L dv i).vm = s.vm ∧ (f3 s c c2 c1 N M L dv i).slotsUsed = s.slotsUsed + N + i * (M + M * L)
  | 0 => ⟨by simp [f3], by simp [f3], rfl, by simp [f3, f3_o]⟩
  | i + 1 => by
    obtain ⟨a, b, d, u⟩ := f3_facts s c c2 c1 N M L dv i
    obtain ⟨g1, -, g3, g4⟩ := Jvm.Free.Multi.fill_facts (f3 s c c2 c1 N M L dv i) c2 c1 M L dv M
    have hlt : s.heap.size < (f3 s c c2 c1 N M L dv i).heap.size := by rw [a]; omega
    have hb' : (Jvm.Free.Multi.fill (f3 s c c2 c1 N M L dv i) c2 c1 M L dv M).heap[s.heap.size]? = some (f3_o c N s.heap.size (1 + M) i) := by rw [Jvm.Free.Multi.fill_old (ha := hlt)]; exact b
    refine ⟨?_, State.heap_setCell_self hb', by simp [f3, g3, d], ?_⟩
    · simp only [f3, State.setCell, Array.size_setIfInBounds, g1, a, Nat.succ_mul]; omega
    · simp only [f3, State.slotsUsed_setCell, g4, u, Nat.succ_mul]; omega
theorem f3_setTop (s : State) (f : JFrame) (c c2 c1 : ClassId) (N M L : Nat) (dv : Value) : ∀ i, f3 (s.setTop f) c c2 c1 N M L dv i = (f3 s c c2 c1 N M L dv i).setTop f
  | 0 => rfl
  | i + 1 => by simp only [f3, f3_setTop s f c c2 c1 N M L dv i, State.heap_setTop, Jvm.Free.Multi.fill_setTop, State.setCell_setTop]
theorem f3_old (s : State) (c c2 c1 : ClassId) (N M L : Nat) (dv : Value) {a : Addr} (ha : a < s.heap.size) : ∀ i, (f3 s c c2 c1 N M L dv i).heap[a]? = s.heap[a]?
  | 0 => State.heap_pushCell_of_lt _ _ ha
  | i + 1 => by
    have f1 := (f3_facts s c c2 c1 N M L dv i).1
    have hlt : a < (f3 s c c2 c1 N M L dv i).heap.size := Nat.lt_of_lt_of_le ha (by rw [f1]; omega)
    show ((Jvm.Free.Multi.fill (f3 s c c2 c1 N M L dv i) c2 c1 M L dv M).setCell s.heap.size _).heap[a]? = _
    rw [State.heap_setCell_other (Nat.ne_of_gt ha), Jvm.Free.Multi.fill_old (ha := hlt)]
    exact f3_old s c c2 c1 N M L dv ha i
/-- the cell at h0 + 1 + j: the head of a plane, or a row -/
theorem f3_in (s : State) (c c2 c1 : ClassId) (N M L : Nat) (dv : Value) : ∀ i j, j < i * (1 + M) → (f3 s c c2 c1 N M L dv i).heap[s.heap.size + 1 + j]? = some (if j % (1 + M) = 0 then Jvm.Free.Multi.outerC c2 M (s.heap.size + 1 + j) M else Jvm.Free.Multi.innerC c1 L dv)
  | 0, j, h => by simp at h
  | i + 1, j, h => by
    have f1 := (f3_facts s c c2 c1 N M L dv i).1
    show ((Jvm.Free.Multi.fill (f3 s c c2 c1 N M L dv i) c2 c1 M L dv M).setCell s.heap.size _).heap[s.heap.size + 1 + j]? = _
    rw [State.heap_setCell_other (show s.heap.size ≠ s.heap.size + 1 + j by omega)]
    rcases Nat.lt_or_ge j (i * (1 + M)) with hj | hj
    · have hlt : s.heap.size + 1 + j < (f3 s c c2 c1 N M L dv i).heap.size := by rw [f1]; omega
      rw [Jvm.Free.Multi.fill_old (ha := hlt)]
      exact f3_in s c c2 c1 N M L dv i j hj
    · obtain ⟨g1, g2, -, -⟩ := Jvm.Free.Multi.fill_facts (f3 s c c2 c1 N M L dv i) c2 c1 M L dv M
      obtain ⟨r, rfl⟩ := Nat.exists_eq_add_of_le hj
      have hr : r < 1 + M := by rw [Nat.succ_mul] at h; omega
      have hmod : (i * (1 + M) + r) % (1 + M) = r := by rw [Nat.mul_add_mod_self_right, Nat.mod_eq_of_lt hr]
      rw [hmod]
      cases r with
      | zero =>
        rw [if_pos rfl, Nat.add_zero]
        rw [f1] at g2
        exact g2
      | succ r =>
        rw [if_neg (by omega)]
        have := Jvm.Free.Multi.fill_inner (f3 s c c2 c1 N M L dv i) c2 c1 M L dv M r (by omega)
        rw [f1] at this
        rw [← this, show s.heap.size + 1 + (i * (1 + M) + (r + 1)) = s.heap.size + 1 + i * (1 + M) + 1 + r by omega]
section
variable {E : CtlPost} {e : Env} {d : Bool} {acts : List Action} {s : State}
theorem wp_make3 {c c2 c1 cc : ClassId} {k k2 k1 : Class} {t0 t1 type : FieldType} {n m l : Int32} (hk : s.vm.classes[c]? = some k) (hkind : k.kind = .array c2 t0) (href : t0.isReference = true)
    (hk2 : s.vm.classes[c2]? = some k2) (hkind2 : k2.kind = .array c1 t1) (href2 : t1.isReference = true) (hk1 : s.vm.classes[c1]? = some k1) (hkind1 : k1.kind = .array cc type) (hn : ¬ n < 0) (hm : ¬ m < 0) (hl : ¬ l < 0)
    (hl1 : ¬ n.toNatClampNeg > e.platform.arrayLengthLimit) (hh1 : ¬ n.toNatClampNeg * componentBytes t0 > e.platform.maxHeapBytes)
    (hl2 : ¬ m.toNatClampNeg > e.platform.arrayLengthLimit) (hh2 : ¬ m.toNatClampNeg * componentBytes t1 > e.platform.maxHeapBytes)
    (hl3 : ¬ l.toNatClampNeg > e.platform.arrayLengthLimit) (hh3 : ¬ l.toNatClampNeg * componentBytes type > e.platform.maxHeapBytes)
    (hdf : fits type (defaultValue type) = true) (hdd : (defaultValue type).isDefault = true)
    (hc : s.heap.size + 1 + n.toNatClampNeg * (1 + m.toNatClampNeg) ≤ e.platform.maxCells) (hs : s.slotsUsed + n.toNatClampNeg + n.toNatClampNeg * (m.toNatClampNeg + m.toNatClampNeg * l.toNatClampNeg) ≤ e.platform.maxSlots)
    {Q : Addr → Pre} (hq : ∀ d' acts', Q s.heap.size d' acts' (f3 s c c2 c1 n.toNatClampNeg m.toNatClampNeg l.toNatClampNeg (defaultValue type) n.toNatClampNeg)) :
    wp (multianewarray.make c [n, m, l]) Q E e d acts s := by
  have hfind : ([m, l].find? (· < 0)) = none := by simp [hm, hl]
  rw [multianewarray.make]
  simp only [wp_bind', W.ite, hn, if_false, wp_pure', W.theClass, hk, hkind, Option.some.injEq, exists_eq_left']
  refine Jvm.Free.Multi.wp_newArray hk hkind hl1 hh1 (Jvm.Free.Multi.refFits href _ (Or.inl rfl)) rfl (by omega) (by omega) ?_
  simp only [hfind]
  rw [ite_self, wp_bind', Std.Legacy.Range.forIn_eq_forIn_range']
  have hsz : ([:n.toNatClampNeg] : Std.Legacy.Range).size = n.toNatClampNeg := by simp [Std.Legacy.Range.size]
  rw [hsz]
  show wp (forIn (List.range' 0 n.toNatClampNeg 1) PUnit.unit _) _ E e d acts _
  refine wp_forIn_inv (fun rest s' => ∃ i, i ≤ n.toNatClampNeg ∧ rest = List.range' i (n.toNatClampNeg - i) ∧ s' = f3 s c c2 c1 n.toNatClampNeg m.toNatClampNeg l.toNatClampNeg (defaultValue type) i) _ _ ⟨0, Nat.zero_le _, rfl, rfl⟩ ?_ ?_
  · rintro x rest s' d' acts' Q' ⟨i, hi, hl, rfl⟩ hnext
    have hlt : i < n.toNatClampNeg := by
      rcases Nat.lt_or_ge i n.toNatClampNeg with h | h
      · exact h
      · rw [show n.toNatClampNeg - i = 0 from by omega] at hl; simp at hl
    obtain ⟨rfl, hrest⟩ : x = i ∧ rest = List.range' (i + 1) (n.toNatClampNeg - (i + 1)) := by
      rw [show n.toNatClampNeg - i = (n.toNatClampNeg - (i + 1)) + 1 from by omega, List.range'_succ] at hl
      exact ⟨(List.cons.inj hl).1, (List.cons.inj hl).2⟩
    obtain ⟨f1, f2, f3', f4⟩ := f3_facts s c c2 c1 n.toNatClampNeg m.toNatClampNeg l.toNatClampNeg (defaultValue type) x
    obtain ⟨o1, o2, o3⟩ := f3_o_facts c n.toNatClampNeg s.heap.size (1 + m.toNatClampNeg) x
    have hmul : x * (1 + m.toNatClampNeg) + (1 + m.toNatClampNeg) ≤ n.toNatClampNeg * (1 + m.toNatClampNeg) := by
      have := Nat.mul_le_mul_right (1 + m.toNatClampNeg) (show x + 1 ≤ n.toNatClampNeg from hlt)
      rw [Nat.succ_mul] at this; exact this
    have hmul2 : x * (m.toNatClampNeg + m.toNatClampNeg * l.toNatClampNeg) + (m.toNatClampNeg + m.toNatClampNeg * l.toNatClampNeg) ≤ n.toNatClampNeg * (m.toNatClampNeg + m.toNatClampNeg * l.toNatClampNeg) := by
      have := Nat.mul_le_mul_right (m.toNatClampNeg + m.toNatClampNeg * l.toNatClampNeg) (show x + 1 ≤ n.toNatClampNeg from hlt)
      rw [Nat.succ_mul] at this; exact this
    simp only [wp_bind']
    refine Jvm.Free.Multi.wp_make2 (t0 := t1) (by rw [f3']; exact hk2) hkind2 href2 (by rw [f3']; exact hk1) hkind1 hm (by assumption) hl2 hh2 hl3 hh3 hdf hdd (by rw [f1]; omega) (by rw [f4]; omega) (fun d2 acts2 => ?_)
    obtain ⟨-, -, g3, -⟩ := Jvm.Free.Multi.fill_facts (f3 s c c2 c1 n.toNatClampNeg m.toNatClampNeg l.toNatClampNeg (defaultValue type) x) c2 c1 m.toNatClampNeg l.toNatClampNeg (defaultValue type) m.toNatClampNeg
    have hlt0 : s.heap.size < (f3 s c c2 c1 n.toNatClampNeg m.toNatClampNeg l.toNatClampNeg (defaultValue type) x).heap.size := by rw [f1]; omega
    simp only [wp_bind', W.writeLoc, wp_pure']
    refine ⟨f3_o c n.toNatClampNeg s.heap.size (1 + m.toNatClampNeg) x, by rw [Jvm.Free.Multi.fill_old (ha := hlt0)]; exact f2, by rw [o2]; simp, by rw [o3]; exact hlt, ?_, hnext _ _ _ ⟨x + 1, hlt, hrest, ?_⟩⟩
    · rw [o1, o2]
      simp [State.fitsSlot, State.slotType?, g3, f3', hk, hkind, Jvm.Free.Multi.refFits href _ (Or.inr ⟨_, rfl⟩)]
    · rw [f1]; rfl
  · rintro s' d' acts' ⟨i, hi, hl, rfl⟩
    have hiN : i = n.toNatClampNeg := by
      rcases Nat.lt_or_ge i n.toNatClampNeg with h | h
      · rw [show n.toNatClampNeg - i = (n.toNatClampNeg - (i + 1)) + 1 from by omega, List.range'_succ] at hl; cases hl
      · omega
    subst hiN
    simp only [wp_pure']
    exact hq _ _
end
section
variable {p : Program} {l : Launch} {e : Env} {R : Room} {s : State} {m : MethodId} {args : Array Value} {below : List Frame} {meth : Method} {c : Code} {T : State} {locs : List Loc} {cells slots : Nat}
theorem f3_stand (X : Stand p l e R s m args below meth c T locs cells slots) (cA c2 c1 : ClassId) (N M L : Nat) (dv : Value) (hz : s.heap.size ≤ T.heap.size) :
    ∀ i, Stand p l e R s m args below meth c (f3 T cA c2 c1 N M L dv i) locs (cells + 1 + i * (1 + M)) (slots + N + i * (M + M * L))
  | 0 => by
    have h := X.pushed (f3_o cA N T.heap.size (1 + M) 0)
    rw [(f3_o_facts cA N T.heap.size (1 + M) 0).2.2] at h
    simpa [f3] using h
  | i + 1 => by
    have Xi := f3_stand X cA c2 c1 N M L dv hz i
    obtain ⟨f1, f2, -, -⟩ := f3_facts T cA c2 c1 N M L dv i
    have hlt0 : T.heap.size < (f3 T cA c2 c1 N M L dv i).heap.size := by rw [f1]; omega
    have X2 := Xi.filled c2 c1 M L dv M
    have X3 := X2.forget (fun y hy => by
      obtain ⟨j, -, rfl⟩ := List.mem_map.mp hy
      show s.heap.size ≤ (f3 T cA c2 c1 N M L dv i).heap.size
      omega)
    have hcell : (Jvm.Free.Multi.fill (f3 T cA c2 c1 N M L dv i) c2 c1 M L dv M).heap[T.heap.size]? = some (f3_o cA N T.heap.size (1 + M) i) := by rw [Jvm.Free.Multi.fill_old (ha := hlt0)]; exact f2
    have X4 := (X3.stored hcell i (.ref (T.heap.size + 1 + i * (1 + M)))).forget (fun y hy => by
      rw [List.mem_singleton.mp hy]
      exact hz)
    have e1 : cells + 1 + (i + 1) * (1 + M) = cells + 1 + i * (1 + M) + 1 + M := by rw [Nat.succ_mul]; omega
    have e2 : slots + N + (i + 1) * (M + M * L) = slots + N + i * (M + M * L) + M + M * L := by rw [Nat.succ_mul]; omega
    rw [e1, e2]
    exact X4
theorem mna3 (X : Stand p l e R s m args below meth c T locs cells slots) (hexec : p.tables.exec = Jvm.exec) {own : String} {index : Nat} {ty : FieldType} (hz : s.heap.size ≤ T.heap.size)
    (hown : s.vm.findClass own = some m.cls) (hclink : (Cond.classLink own index ("[" ++ (FieldType.array (.array ty)).toString)).before args s = true)
    (hover : (Cond.arrayOver (.array (.array ty))).before args s = true) (hover2 : (Cond.arrayOver (.array ty)).before args s = true) (harr : (Cond.arrayClass ty).before args s = true)
    {g : JFrame} (hg : g.method = m) (hdg : decode c.code g.pc = .ok (.multianewarray index 3, 4)) {n k l3 : Int32} {rest : List Value} (hstack : g.stack = .int l3 :: .int k :: .int n :: rest)
    (hn : ¬ n < 0) (hk : ¬ k < 0) (hl : ¬ l3 < 0) (hb1 : n.toNatClampNeg * 4 ≤ 536870912) (hb2 : k.toNatClampNeg * 4 ≤ 536870912) (hb3 : l3.toNatClampNeg * componentBytes ty ≤ 536870912) (hb4 : l3.toNatClampNeg ≤ 536870912)
    (hdf : fits ty (defaultValue ty) = true) (hdd : (defaultValue ty).isDefault = true)
    (hcells : cells + (1 + n.toNatClampNeg * (1 + k.toNatClampNeg)) ≤ R.cells) (hslots : slots + (n.toNatClampNeg + n.toNatClampNeg * (k.toNatClampNeg + k.toNatClampNeg * l3.toNatClampNeg)) ≤ R.slots) :
    ∃ (vm₁ : Vm) (cA c2 c1 : ClassId), s.WarmedH vm₁ ∧ s.vm.findClass ("[" ++ (FieldType.array (.array ty)).toString) = some cA ∧ s.vm.findClass (FieldType.array (.array ty)).toString = some c2 ∧ s.vm.findClass (FieldType.array ty).toString = some c1 ∧
      Stand p l e R s m args below meth c (f3 (T.setVm vm₁) cA c2 c1 n.toNatClampNeg k.toNatClampNeg l3.toNatClampNeg (defaultValue ty) n.toNatClampNeg) locs (cells + 1 + n.toNatClampNeg * (1 + k.toNatClampNeg)) (slots + n.toNatClampNeg + n.toNatClampNeg * (k.toNatClampNeg + k.toNatClampNeg * l3.toNatClampNeg)) ∧
      ∀ target, Steps p.tables e below ((f3 (T.setVm vm₁) cA c2 c1 n.toNatClampNeg k.toNatClampNeg l3.toNatClampNeg (defaultValue ty) n.toNatClampNeg).setTop { g with pc := g.pc + 4, stack := .ref T.heap.size :: rest }) target →
        Steps p.tables e below (T.setTop g) target := by
  subst hg
  have hpl : e.platform.magicAccessors = ({} : Platform).magicAccessors := by rw [X.admits.platform]
  obtain ⟨comp, cA, kA, hcomp, hkA, hkindA, hnameA⟩ := Cond.arrayOver_specA hover
  obtain ⟨c1, c2, k2, hc1, hk2, hkind2, hname2⟩ := Cond.arrayOver_specA hover2
  obtain ⟨c1', k1, cc, hc1', hk1, hkind1⟩ := Cond.arrayClass_spec harr
  have ec2 : comp = c2 := Option.some.inj (hcomp.symm.trans hname2)
  subst ec2
  have ec1 : c1' = c1 := Option.some.inj (hc1'.symm.trans hc1)
  subst ec1
  obtain ⟨c0, hfc0, hcl⟩ := Cond.classLink_spec hown hclink e.platform hpl
  cases hnameA.symm.trans hfc0
  obtain ⟨hg₁, hwarm₁, hready₁⟩ := State.classEntry (e := e) X.warmed hcl
  generalize T.vm.noted g.method.cls index (.cls cA) = vm₁ at hg₁ hwarm₁ hready₁
  have hal : s.vm.Alike vm₁ := hwarm₁.alike
  obtain ⟨kA₁, hkA₁, heA⟩ := hal.2.2 _ _ hkA
  obtain ⟨k2₁, hk2₁, he2⟩ := hal.2.2 _ _ hk2
  obtain ⟨k1₁, hk1₁, he1⟩ := hal.2.2 _ _ hk1
  have hkindA₁ : kA₁.kind = .array comp (.array (.array ty)) := by rw [heA]; exact hkindA
  have hkind2₁ : k2₁.kind = .array c1' (.array ty) := by rw [he2]; exact hkind2
  have hkind1₁ : k1₁.kind = .array cc ty := by rw [he1]; exact hkind1
  have X₁ := X.noted hwarm₁
  obtain ⟨hr1, hr2⟩ := X.roomAbove hcells hslots
  refine ⟨vm₁, cA, comp, c1', hwarm₁, hnameA, hcomp, hc1, f3_stand X₁ cA comp c1' _ _ _ _ hz _, fun target hrest => ?_⟩
  have hl1 : ¬ n.toNatClampNeg > e.platform.arrayLengthLimit := by rw [Launch.admits_arrayLengthLimit X.admits]; omega
  have hh1 : ¬ n.toNatClampNeg * componentBytes (.array (.array ty)) > e.platform.maxHeapBytes := by
    rw [Launch.admits_maxHeapBytes X.admits]; show ¬ n.toNatClampNeg * 4 > 536870912; omega
  have hl2 : ¬ k.toNatClampNeg > e.platform.arrayLengthLimit := by rw [Launch.admits_arrayLengthLimit X.admits]; omega
  have hh2 : ¬ k.toNatClampNeg * componentBytes (.array ty) > e.platform.maxHeapBytes := by
    rw [Launch.admits_maxHeapBytes X.admits]; show ¬ k.toNatClampNeg * 4 > 536870912; omega
  have hl3 : ¬ l3.toNatClampNeg > e.platform.arrayLengthLimit := by rw [Launch.admits_arrayLengthLimit X.admits]; omega
  have hh3 : ¬ l3.toNatClampNeg * componentBytes ty > e.platform.maxHeapBytes := by rw [Launch.admits_maxHeapBytes X.admits]; omega
  jvm_step X.here [hexec, hdg]
  simp only [multianewarray.sem, wp_bind', W.resolveClassAt_links (State.method?_setTop g X.here.top) hg₁]
  rw [W.popN, if_neg (by decide)]
  refine ⟨g, State.topJava?_setTop' (s := T.setVm vm₁) g X.here.top, [.int n, .int k, .int l3], rest, rfl, hstack, ?_⟩
  simp only [List.mapM_cons, List.mapM_nil, wp_bind', wp_pure']
  refine wp_make3 (k := kA₁) (k2 := k2₁) (k1 := k1₁) (c2 := comp) (c1 := c1') (cc := cc) (t0 := .array (.array ty)) (t1 := .array ty) (type := ty) hkA₁ hkindA₁ rfl hk2₁ hkind2₁ rfl hk1₁ hkind1₁ hn hk hl hl1 hh1 hl2 hh2 hl3 hh3 hdf hdd (by show T.heap.size + 1 + _ ≤ _; omega) (by show T.slotsUsed + _ + _ ≤ _; omega) (fun d' acts' => ?_)
  have XF := f3_stand X₁ cA comp c1' n.toNatClampNeg k.toNatClampNeg l3.toNatClampNeg (defaultValue ty) hz n.toNatClampNeg
  have eS : ((T.setTop g).setVm vm₁).setTop { g with stack := rest } = (T.setVm vm₁).setTop { g with stack := rest } := by
    show ((T.setVm vm₁).setTop g).setTop _ = _
    rw [State.setTop_setTop]
  rw [eS, f3_setTop]
  simp only [wp_bind', W.mark, W.pushRef, State.topJava?_setTop' _ XF.here.top, Option.some.injEq, exists_eq_left', State.setTop_setTop, State.heap_setTop]
  intro acts
  simp [jvm, XF.here.top]
  exact hrest
end
section
variable {k : kx_T} {pc : Nat} {lv : List (Nat × Value)} {st : List Value} {ws : va_W} {ce sl : Nat}
/-- the cells of new int[N][M][L], as they lie from q on -/
def f3_es (cA c2 c1 : ClassId) (N M L q : Nat) : List va_E :=
  .inl (cA, N, .inr (.inr (.inr (.inr (fun i => if i < N then some (q + 1 + i * (1 + M)) else none))))) ::
  (List.range (N * (1 + M))).map (fun j => if j % (1 + M) = 0 then .inl (c2, M, .inr (.inr (.inr (.inr (fun i => if i < M then some (q + 1 + j + 1 + i) else none))))) else .inl (c1, L, .inl (fun _ => 0)))
theorem w_mna3 (C : kx_ok k) {idx t0 t1 t2 N M L : Nat} {cA c2 c1 : ClassId} {n m l3 : Int32} (hcl : Cond.classLink (kOwn k) idx "[[[I" ∈ gT) (hov : (Cond.arrayOver (.array (.array .int))).before (kA k) (kS k) = true) (hov2 : (Cond.arrayOver (.array .int)).before (kA k) (kS k) = true) (harr : Cond.arrayClass .int ∈ gT)
    (ht0 : (kTy k)[t0]? = some (c1, .int)) (ht1 : (kTy k)[t1]? = some (c2, .array .int)) (ht2 : (kTy k)[t2]? = some (cA, .array (.array .int)))
    (hn : ¬ n < 0) (hm : ¬ m < 0) (hl3 : ¬ l3 < 0) (hN : n.toNatClampNeg = N) (hM : m.toNatClampNeg = M) (hL : l3.toNatClampNeg = L) (hb1 : N * 4 ≤ 536870912) (hb2 : M * 4 ≤ 536870912) (hb3 : L * 4 ≤ 536870912) (h1 : ce + (1 + N * (1 + M)) ≤ (kR k).cells) (h2 : sl + (N + N * (M + M * L)) ≤ (kR k).slots) (d : decode (kCc k) pc = .ok (.multianewarray idx 3, 4))
    (h : ∀ q : Nat, WS k (pc + 4) lv (.ref q :: st) (ws ++ vz_row q (f3_es cA c2 c1 N M L q)) (ce + 1 + N * (1 + M)) (sl + N + N * (M + M * L))) : WS k pc lv (.int l3 :: .int m :: .int n :: st) ws ce sl := by
  intro H locs ls hP hD hS hl
  subst hN
  subst hM
  subst hL
  intro T hT X
  obtain ⟨vm₁, cB, d2, d1, -, fA, fC, fE, X', step⟩ := mna3 X C.1 (by rw [hT]; exact hS.1) C.2.2.2.1 (kx_wd C _ hcl) hov hov2 (kx_wd C _ harr) (g := F0 (kM k) pc ls (.int l3 :: .int m :: .int n :: st)) rfl (by rw [C.2.1]; exact d) rfl hn hm hl3 hb1 hb2 hb3 (by omega) rfl rfl h1 h2
  have e1 : cB = cA := kx_ty C (fun _ h => by cases h) ht2 fA
  have e2 : d2 = c2 := kx_ty C (fun _ h => by cases h) ht1 fC
  have e3 : d1 = c1 := kx_ty C (fun _ h => by cases h) ht0 fE
  subst e1
  subst e2
  subst e3
  generalize hF : f3 (T.setVm vm₁) cB d2 d1 n.toNatClampNeg m.toNatClampNeg l3.toNatClampNeg (defaultValue .int) n.toNatClampNeg = F at X' step
  have hTh : (T.setVm vm₁).heap = H := hT
  obtain ⟨f1, f2, -, -⟩ := f3_facts (T.setVm vm₁) cB d2 d1 n.toNatClampNeg m.toNatClampNeg l3.toNatClampNeg (defaultValue .int) n.toNatClampNeg
  rw [hF, hTh] at f1 f2
  have hold : ∀ x : Nat, x < H.size → F.heap[x]? = H[x]? := fun x hx => by
    have := f3_old (T.setVm vm₁) cB d2 d1 n.toNatClampNeg m.toNatClampNeg l3.toNatClampNeg (defaultValue .int) (a := x) (by rw [hTh]; exact hx) n.toNatClampNeg
    rw [hF, hTh] at this
    exact this
  have hin : ∀ j : Nat, j < n.toNatClampNeg * (1 + m.toNatClampNeg) → F.heap[H.size + 1 + j]? = some (if j % (1 + m.toNatClampNeg) = 0 then Jvm.Free.Multi.outerC d2 m.toNatClampNeg (H.size + 1 + j) m.toNatClampNeg else Jvm.Free.Multi.innerC d1 l3.toNatClampNeg (defaultValue .int)) := fun j hj => by
    have := f3_in (T.setVm vm₁) cB d2 d1 n.toNatClampNeg m.toNatClampNeg l3.toNatClampNeg (defaultValue .int) n.toNatClampNeg j hj
    rw [hF, hTh] at this
    exact this
  have hg := vz_grow (es := f3_es cB d2 d1 n.toNatClampNeg m.toNatClampNeg l3.toNatClampNeg H.size) hP hD (fun q hq => kx_new C q (Nat.le_trans hS.1 hq)) hold (fun j e he => by
    cases j with
    | zero =>
      cases he
      show F.heap[H.size + 0]? = some (vp_cell _ _)
      rw [vp_cell_q, Nat.add_zero, f2, f3_arr]
    | succ j =>
      unfold f3_es at he
      rw [List.getElem?_cons_succ, List.getElem?_map] at he
      by_cases hj : j < n.toNatClampNeg * (1 + m.toNatClampNeg)
      · rw [List.getElem?_range hj] at he
        have hi := hin j hj
        rw [show H.size + 1 + j = H.size + (j + 1) by omega] at hi
        cases he
        show va_at _ _ (H.size + (j + 1), if _ then _ else _) F.heap
        by_cases h0 : j % (1 + m.toNatClampNeg) = 0
        · rw [if_pos h0] at hi ⊢
          show F.heap[H.size + (j + 1)]? = some (vp_cell _ _)
          rw [vp_cell_q, hi, vr_outer]
          congr 2
          funext i
          rw [show H.size + (j + 1) + 1 + i = H.size + 1 + j + 1 + i by omega]
        · rw [if_neg h0] at hi ⊢
          show F.heap[H.size + (j + 1)]? = some (vp_cell _ _)
          rw [vp_cell_i, hi]
          show some ({ cls := d1, slots := Array.replicate l3.toNatClampNeg (.int 0), vm := .none } : Cell) = _
          rw [arrV_new]
      · have hn0 : (List.range (n.toNatClampNeg * (1 + m.toNatClampNeg)))[j]? = none := List.getElem?_eq_none (by rw [List.length_range]; omega)
        rw [hn0] at he
        cases he)
  obtain ⟨t, a1, b1⟩ := h H.size F.heap locs ls hg.1 hg.2 ⟨by rw [f1]; have := hS.1; omega, fun x h3 h4 => (hold x (Nat.lt_of_lt_of_le h3 hS.1)).trans (hS.2.1 x h3 h4), hS.2.2⟩ hl F rfl X'
  refine ⟨t, step t ?_, b1⟩
  have e : T.heap.size = H.size := by rw [hT]
  rw [e]
  exact a1
end
end CU
end
section
/-! Types of the program's tables -/
/-- a row of code: the instruction, its length, two numbers and a whole number that belong to it -/
abbrev ARow : Type := Instr × Nat × Nat × Nat × Int
/-- a method: class, locals, what it answers (0 nothing, 1 int, 2 boolean, 3 long), arguments, room: frames, locals, cells, slots -/
abbrev AM : Type := Nat × Nat × Nat × Nat × Nat × Nat × Nat × Nat
abbrev mCl (m : AM) : Nat := m.1
abbrev mNL (m : AM) : Nat := m.2.1
abbrev mRt (m : AM) : Nat := m.2.2.1
abbrev mAr (m : AM) : Nat := m.2.2.2.1
abbrev mFr (m : AM) : Nat := m.2.2.2.2.1
abbrev mLo (m : AM) : Nat := m.2.2.2.2.2.1
abbrev mCe (m : AM) : Nat := m.2.2.2.2.2.2.1
abbrev mSl (m : AM) : Nat := m.2.2.2.2.2.2.2
/-- a table of three steps -/
def t3 {α : Type} (l : List (List (List α))) (i : Nat) : Option α := match l[i / 256]? with
  | some a => match a[i / 16 % 16]? with
    | some b => b[i % 16]?
    | none => none
  | none => none
end
section
def cd_X0_init : List (List (List (Option ARow))) := [[[some (.aload_n 0, 1, 0, 0, 0), some (.invokespecial 3, 3, 0, 4, 0), none, none, some (.aload_n 0, 1, 0, 0, 0), some (.bipush 12, 2, 0, 0, 12), none, some (.newarray .int, 2, 0, 0, 0), none, some (.putfield 9, 3, 0, 3, 0), none, none, some (.aload_n 0, 1, 0, 0, 0), some (.bipush 12, 2, 0, 0, 12), none, some (.newarray .int, 2, 0, 0, 0)], [none, some (.putfield 15, 3, 0, 4, 0), none, none, some (.aload_n 0, 1, 0, 0, 0), some (.bipush 12, 2, 0, 0, 12), none, some (.newarray .int, 2, 0, 0, 0), none, some (.putfield 18, 3, 0, 5, 0), none, none, some (.aload_n 0, 1, 0, 0, 0), some (.bipush 12, 2, 0, 0, 12), none, some (.newarray .int, 2, 0, 0, 0)], [none, some (.putfield 21, 3, 0, 6, 0), none, none, some (.aload_n 0, 1, 0, 0, 0), some (.bipush 66, 2, 0, 0, 66), none, some (.newarray .int, 2, 0, 0, 0), none, some (.putfield 26, 3, 0, 8, 0), none, none, some (.aload_n 0, 1, 0, 0, 0), some (.bipush 66, 2, 0, 0, 66), none, some (.newarray .int, 2, 0, 0, 0)], [none, some (.putfield 29, 3, 0, 9, 0), none, none, some (.aload_n 0, 1, 0, 0, 0), some (.bipush 66, 2, 0, 0, 66), none, some (.newarray .int, 2, 0, 0, 0), none, some (.putfield 32, 3, 0, 10, 0), none, none, some (.aload_n 0, 1, 0, 0, 0), some (.bipush 7, 2, 0, 0, 7), none, some (.newarray .int, 2, 0, 0, 0)], [none, some (.putfield 37, 3, 0, 11, 0), none, none, some (.aload_n 0, 1, 0, 0, 0), some (.bipush 12, 2, 0, 0, 12), none, some (.newarray .int, 2, 0, 0, 0), none, some (.putfield 40, 3, 0, 13, 0), none, none, some (.aload_n 0, 1, 0, 0, 0), some (.aload_n 1, 1, 0, 0, 0), some (.putfield 43, 3, 0, 0, 0), none], [none, some (.aload_n 0, 1, 0, 0, 0), some (.aload_n 2, 1, 0, 0, 0), some (.putfield 47, 3, 0, 1, 0), none, none, some (.return_, 1, 0, 0, 0)]]]
def cd_X0_listen : List (List (List (Option ARow))) := [[[some (.aload_n 0, 1, 0, 0, 0), some (.getfield 37, 3, 0, 11, 0), none, none, some (.iconst 4, 1, 0, 0, 0), some (.lload_n 1, 1, 0, 0, 0), some (.invokestatic 51, 3, 298, 1, 0), none, none, some (.lload_n 3, 1, 0, 0, 0), some (.invokestatic 51, 3, 298, 1, 0), none, none, some (.iadd, 1, 0, 0, 0), some (.iastore, 1, 0, 0, 0), some (.aload_n 0, 1, 0, 0, 0)], [some (.getfield 37, 3, 0, 11, 0), none, none, some (.iconst 5, 1, 0, 0, 0), some (.lload_n 1, 1, 0, 0, 0), some (.invokestatic 51, 3, 298, 1, 0), none, none, some (.iastore, 1, 0, 0, 0), some (.aload_n 0, 1, 0, 0, 0), some (.getfield 37, 3, 0, 11, 0), none, none, some (.bipush 6, 2, 0, 0, 6), none, some (.iload 5, 2, 0, 0, 0)], [none, some (.iastore, 1, 0, 0, 0), some (.aload_n 0, 1, 0, 0, 0), some (.iconst 0, 1, 0, 0, 0), some (.putfield 57, 3, 0, 2, 0), none, none, some (.iconst 0, 1, 0, 0, 0), some (.istore 6, 2, 0, 0, 0), none, some (.iload 6, 2, 0, 0, 0), none, some (.aload_n 0, 1, 0, 0, 0), some (.getfield 43, 3, 0, 0, 0), none, none], [some (.getfield 61, 3, 9, 0, 0), none, none, some (.if_icmp .ge 74, 3, 3, 0, 0), none, none, some (.aload_n 0, 1, 0, 0, 0), some (.getfield 43, 3, 0, 0, 0), none, none, some (.getfield 64, 3, 9, 3, 0), none, none, some (.iload 6, 2, 0, 0, 0), none, some (.iconst 2, 1, 0, 0, 0)], [some (.imul, 1, 0, 0, 0), some (.laload, 1, 0, 0, 0), some (.lload_n 1, 1, 0, 0, 0), some (.land, 1, 0, 0, 0), some (.aload_n 0, 1, 0, 0, 0), some (.getfield 43, 3, 0, 0, 0), none, none, some (.getfield 64, 3, 9, 3, 0), none, none, some (.iload 6, 2, 0, 0, 0), none, some (.iconst 2, 1, 0, 0, 0), some (.imul, 1, 0, 0, 0), some (.iconst 1, 1, 0, 0, 0)], [some (.iadd, 1, 0, 0, 0), some (.laload, 1, 0, 0, 0), some (.lload_n 3, 1, 0, 0, 0), some (.land, 1, 0, 0, 0), some (.lor, 1, 0, 0, 0), some (.lconst 0, 1, 0, 0, 0), some (.lcmp, 1, 0, 0, 0), some (.ifCond .eq 32, 3, 0, 0, 0), none, none, some (.aload_n 0, 1, 0, 0, 0), some (.getfield 9, 3, 0, 3, 0), none, none, some (.aload_n 0, 1, 0, 0, 0), some (.getfield 57, 3, 0, 2, 0)], [none, none, some (.iload 6, 2, 0, 0, 0), none, some (.iastore, 1, 0, 0, 0), some (.aload_n 0, 1, 0, 0, 0), some (.iload 6, 2, 0, 0, 0), none, some (.lload_n 1, 1, 0, 0, 0), some (.lload_n 3, 1, 0, 0, 0), some (.invokevirtual 68, 3, 2, 0, 0), none, none, some (.aload_n 0, 1, 0, 0, 0), some (.dup, 1, 0, 0, 0), some (.getfield 57, 3, 0, 2, 0)], [none, none, some (.iconst 1, 1, 0, 0, 0), some (.iadd, 1, 0, 0, 0), some (.putfield 57, 3, 0, 2, 0), none, none, some (.iinc 6 1, 3, 0, 0, 0), none, none, some (.goto (-80), 3, 0, 0, 0), none, none, some (.aload_n 0, 1, 0, 0, 0), some (.iconst 0, 1, 0, 0, 0), some (.putfield 72, 3, 0, 7, 0)], [none, none, some (.iconst 0, 1, 0, 0, 0), some (.istore 6, 2, 0, 0, 0), none, some (.iload 6, 2, 0, 0, 0), none, some (.aload_n 0, 1, 0, 0, 0), some (.getfield 43, 3, 0, 0, 0), none, none, some (.getfield 75, 3, 9, 8, 0), none, none, some (.if_icmp .ge 118, 3, 3, 0, 0), none], [none, some (.aload_n 0, 1, 0, 0, 0), some (.getfield 43, 3, 0, 0, 0), none, none, some (.getfield 78, 3, 9, 7, 0), none, none, some (.iload 6, 2, 0, 0, 0), none, some (.iconst 2, 1, 0, 0, 0), some (.imul, 1, 0, 0, 0), some (.laload, 1, 0, 0, 0), some (.lload_n 1, 1, 0, 0, 0), some (.land, 1, 0, 0, 0), some (.invokestatic 51, 3, 298, 1, 0)], [none, none, some (.aload_n 0, 1, 0, 0, 0), some (.getfield 43, 3, 0, 0, 0), none, none, some (.getfield 78, 3, 9, 7, 0), none, none, some (.iload 6, 2, 0, 0, 0), none, some (.iconst 2, 1, 0, 0, 0), some (.imul, 1, 0, 0, 0), some (.iconst 1, 1, 0, 0, 0), some (.iadd, 1, 0, 0, 0), some (.laload, 1, 0, 0, 0)], [some (.lload_n 3, 1, 0, 0, 0), some (.land, 1, 0, 0, 0), some (.invokestatic 51, 3, 298, 1, 0), none, none, some (.iadd, 1, 0, 0, 0), some (.istore 7, 2, 0, 0, 0), none, some (.iload 7, 2, 0, 0, 0), none, some (.ifCond .le 68, 3, 5, 0, 0), none, none, some (.aload_n 0, 1, 0, 0, 0), some (.getfield 26, 3, 0, 8, 0), none], [none, some (.aload_n 0, 1, 0, 0, 0), some (.getfield 72, 3, 0, 7, 0), none, none, some (.aload_n 0, 1, 0, 0, 0), some (.getfield 43, 3, 0, 0, 0), none, none, some (.getfield 81, 3, 9, 6, 0), none, none, some (.iload 6, 2, 0, 0, 0), none, some (.iaload, 1, 0, 0, 0), some (.bipush 12, 2, 0, 0, 12)], [none, some (.idiv, 1, 0, 0, 0), some (.iastore, 1, 0, 0, 0), some (.aload_n 0, 1, 0, 0, 0), some (.getfield 29, 3, 0, 9, 0), none, none, some (.aload_n 0, 1, 0, 0, 0), some (.getfield 72, 3, 0, 7, 0), none, none, some (.aload_n 0, 1, 0, 0, 0), some (.getfield 43, 3, 0, 0, 0), none, none, some (.getfield 81, 3, 9, 6, 0)], [none, none, some (.iload 6, 2, 0, 0, 0), none, some (.iaload, 1, 0, 0, 0), some (.bipush 12, 2, 0, 0, 12), none, some (.irem, 1, 0, 0, 0), some (.iastore, 1, 0, 0, 0), some (.aload_n 0, 1, 0, 0, 0), some (.getfield 32, 3, 0, 10, 0), none, none, some (.aload_n 0, 1, 0, 0, 0), some (.getfield 72, 3, 0, 7, 0), none], [none, some (.iload 7, 2, 0, 0, 0), none, some (.iastore, 1, 0, 0, 0), some (.aload_n 0, 1, 0, 0, 0), some (.dup, 1, 0, 0, 0), some (.getfield 72, 3, 0, 7, 0), none, none, some (.iconst 1, 1, 0, 0, 0), some (.iadd, 1, 0, 0, 0), some (.putfield 72, 3, 0, 7, 0), none, none, some (.iinc 6 1, 3, 0, 0, 0), none]], [[none, some (.goto (-124), 3, 0, 0, 0), none, none, some (.return_, 1, 0, 0, 0)]]]
def cd_X0_followSteps : List (List (List (Option ARow))) := [[[some (.iconst 0, 1, 0, 0, 0), some (.istore 6, 2, 0, 0, 0), none, some (.iconst 0, 1, 0, 0, 0), some (.istore 7, 2, 0, 0, 0), none, some (.iconst 0, 1, 0, 0, 0), some (.istore 8, 2, 0, 0, 0), none, some (.iconst 0, 1, 0, 0, 0), some (.istore 9, 2, 0, 0, 0), none, some (.iload 9, 2, 0, 0, 0), none, some (.iconst 5, 1, 0, 0, 0), some (.if_icmp .ge 133, 3, 3, 0, 0)], [none, none, some (.aload_n 0, 1, 0, 0, 0), some (.getfield 43, 3, 0, 0, 0), none, none, some (.getfield 84, 3, 9, 5, 0), none, none, some (.iload_n 1, 1, 0, 0, 0), some (.iconst 5, 1, 0, 0, 0), some (.imul, 1, 0, 0, 0), some (.iload 9, 2, 0, 0, 0), none, some (.iadd, 1, 0, 0, 0), some (.laload, 1, 0, 0, 0)], [some (.lstore 10, 2, 0, 0, 0), none, some (.lload 10, 2, 0, 0, 0), none, some (.lconst 0, 1, 0, 0, 0), some (.lcmp, 1, 0, 0, 0), some (.ifCond .eq 104, 3, 0, 0, 0), none, none, some (.iload 9, 2, 0, 0, 0), none, some (.iconst 1, 1, 0, 0, 0), some (.if_icmp .eq 9, 3, 0, 0, 0), none, none, some (.iload 9, 2, 0, 0, 0)], [none, some (.iconst 3, 1, 0, 0, 0), some (.if_icmp .ne 8, 3, 1, 0, 0), none, none, some (.lload 4, 2, 0, 0, 0), none, some (.goto 4, 3, 0, 0, 0), none, none, some (.lload_n 2, 1, 0, 0, 0), some (.lstore 12, 2, 0, 0, 0), none, some (.iload 9, 2, 0, 0, 0), none, some (.iconst 4, 1, 0, 0, 0)], [some (.if_icmp .ne 8, 3, 1, 0, 0), none, none, some (.lload 4, 2, 0, 0, 0), none, some (.goto 21, 3, 0, 0, 0), none, none, some (.iload 9, 2, 0, 0, 0), none, some (.iconst 2, 1, 0, 0, 0), some (.if_icmp .ge 10, 3, 3, 0, 0), none, none, some (.lload 12, 2, 0, 0, 0), none], [some (.iconst 1, 1, 0, 0, 0), some (.lushr, 1, 0, 0, 0), some (.goto 8, 3, 0, 0, 0), none, none, some (.lload 12, 2, 0, 0, 0), none, some (.bipush 8, 2, 0, 0, 8), none, some (.lushr, 1, 0, 0, 0), some (.lstore 14, 2, 0, 0, 0), none, some (.lload 10, 2, 0, 0, 0), none, some (.lload 12, 2, 0, 0, 0), none], [some (.land, 1, 0, 0, 0), some (.lload 14, 2, 0, 0, 0), none, some (.land, 1, 0, 0, 0), some (.invokestatic 51, 3, 298, 1, 0), none, none, some (.istore 16, 2, 0, 0, 0), none, some (.iload 6, 2, 0, 0, 0), none, some (.lload 10, 2, 0, 0, 0), none, some (.lload 12, 2, 0, 0, 0), none, some (.lload 14, 2, 0, 0, 0)], [none, some (.lxor, 1, 0, 0, 0), some (.land, 1, 0, 0, 0), some (.invokestatic 51, 3, 298, 1, 0), none, none, some (.iadd, 1, 0, 0, 0), some (.istore 6, 2, 0, 0, 0), none, some (.iload 7, 2, 0, 0, 0), none, some (.iload 16, 2, 0, 0, 0), none, some (.iadd, 1, 0, 0, 0), some (.istore 7, 2, 0, 0, 0), none], [some (.iload 9, 2, 0, 0, 0), none, some (.iconst 4, 1, 0, 0, 0), some (.if_icmp .ne 8, 3, 1, 0, 0), none, none, some (.iload 16, 2, 0, 0, 0), none, some (.goto 4, 3, 0, 0, 0), none, none, some (.iconst 0, 1, 0, 0, 0), some (.istore 8, 2, 0, 0, 0), none, some (.iinc 9 1, 3, 0, 0, 0), none], [none, some (.goto (-133), 3, 0, 0, 0), none, none, some (.aload_n 0, 1, 0, 0, 0), some (.getfield 15, 3, 0, 4, 0), none, none, some (.aload_n 0, 1, 0, 0, 0), some (.getfield 57, 3, 0, 2, 0), none, none, some (.iload 6, 2, 0, 0, 0), none, some (.iastore, 1, 0, 0, 0), some (.aload_n 0, 1, 0, 0, 0)], [some (.getfield 18, 3, 0, 5, 0), none, none, some (.aload_n 0, 1, 0, 0, 0), some (.getfield 57, 3, 0, 2, 0), none, none, some (.iload 7, 2, 0, 0, 0), none, some (.iastore, 1, 0, 0, 0), some (.aload_n 0, 1, 0, 0, 0), some (.getfield 21, 3, 0, 6, 0), none, none, some (.aload_n 0, 1, 0, 0, 0), some (.getfield 57, 3, 0, 2, 0)], [none, none, some (.iload 8, 2, 0, 0, 0), none, some (.iastore, 1, 0, 0, 0), some (.return_, 1, 0, 0, 0)]]]
def cd_X0_hear : List (List (List (Option ARow))) := [[[some (.iload_n 1, 1, 0, 0, 0), some (.bipush 12, 2, 0, 0, 12), none, some (.imul, 1, 0, 0, 0), some (.istore_n 3, 1, 0, 0, 0), some (.iconst 0, 1, 0, 0, 0), some (.istore 4, 2, 0, 0, 0), none, some (.iconst 0, 1, 0, 0, 0), some (.istore 5, 2, 0, 0, 0), none, some (.iconst 0, 1, 0, 0, 0), some (.istore 6, 2, 0, 0, 0), none, some (.iconst 0, 1, 0, 0, 0), some (.istore 7, 2, 0, 0, 0)], [none, some (.iconst 0, 1, 0, 0, 0), some (.istore 8, 2, 0, 0, 0), none, some (.iload 8, 2, 0, 0, 0), none, some (.aload_n 0, 1, 0, 0, 0), some (.getfield 57, 3, 0, 2, 0), none, none, some (.if_icmp .ge 80, 3, 3, 0, 0), none, none, some (.aload_n 0, 1, 0, 0, 0), some (.getfield 9, 3, 0, 3, 0), none], [none, some (.iload 8, 2, 0, 0, 0), none, some (.iaload, 1, 0, 0, 0), some (.iload_n 2, 1, 0, 0, 0), some (.if_icmp .ne 7, 3, 1, 0, 0), none, none, some (.iconst 0, 1, 0, 0, 0), some (.goto 20, 3, 0, 0, 0), none, none, some (.aload_n 0, 1, 0, 0, 0), some (.getfield 43, 3, 0, 0, 0), none, none], [some (.getfield 87, 3, 9, 12, 0), none, none, some (.iload_n 3, 1, 0, 0, 0), some (.aload_n 0, 1, 0, 0, 0), some (.getfield 9, 3, 0, 3, 0), none, none, some (.iload 8, 2, 0, 0, 0), none, some (.iaload, 1, 0, 0, 0), some (.iadd, 1, 0, 0, 0), some (.iaload, 1, 0, 0, 0), some (.istore 9, 2, 0, 0, 0), none, some (.iload 4, 2, 0, 0, 0)], [none, some (.iload 9, 2, 0, 0, 0), none, some (.iadd, 1, 0, 0, 0), some (.istore 4, 2, 0, 0, 0), none, some (.iload 6, 2, 0, 0, 0), none, some (.iload 9, 2, 0, 0, 0), none, some (.aload_n 0, 1, 0, 0, 0), some (.getfield 15, 3, 0, 4, 0), none, none, some (.iload 8, 2, 0, 0, 0), none], [some (.iaload, 1, 0, 0, 0), some (.imul, 1, 0, 0, 0), some (.iadd, 1, 0, 0, 0), some (.istore 6, 2, 0, 0, 0), none, some (.iload 7, 2, 0, 0, 0), none, some (.iload 9, 2, 0, 0, 0), none, some (.aload_n 0, 1, 0, 0, 0), some (.getfield 21, 3, 0, 6, 0), none, none, some (.iload 8, 2, 0, 0, 0), none, some (.iaload, 1, 0, 0, 0)], [some (.imul, 1, 0, 0, 0), some (.iadd, 1, 0, 0, 0), some (.istore 7, 2, 0, 0, 0), none, some (.iinc 8 1, 3, 0, 0, 0), none, none, some (.goto (-83), 3, 0, 0, 0), none, none, some (.iconst 0, 1, 0, 0, 0), some (.istore 8, 2, 0, 0, 0), none, some (.iload 8, 2, 0, 0, 0), none, some (.aload_n 0, 1, 0, 0, 0)], [some (.getfield 72, 3, 0, 7, 0), none, none, some (.if_icmp .ge 81, 3, 3, 0, 0), none, none, some (.aload_n 0, 1, 0, 0, 0), some (.getfield 26, 3, 0, 8, 0), none, none, some (.iload 8, 2, 0, 0, 0), none, some (.iaload, 1, 0, 0, 0), some (.iload_n 2, 1, 0, 0, 0), some (.if_icmp .eq 64, 3, 0, 0, 0), none], [none, some (.aload_n 0, 1, 0, 0, 0), some (.getfield 29, 3, 0, 9, 0), none, none, some (.iload 8, 2, 0, 0, 0), none, some (.iaload, 1, 0, 0, 0), some (.iload_n 2, 1, 0, 0, 0), some (.if_icmp .eq 53, 3, 0, 0, 0), none, none, some (.iload 5, 2, 0, 0, 0), none, some (.aload_n 0, 1, 0, 0, 0), some (.getfield 32, 3, 0, 10, 0)], [none, none, some (.iload 8, 2, 0, 0, 0), none, some (.iaload, 1, 0, 0, 0), some (.aload_n 0, 1, 0, 0, 0), some (.getfield 43, 3, 0, 0, 0), none, none, some (.getfield 87, 3, 9, 12, 0), none, none, some (.iload_n 3, 1, 0, 0, 0), some (.aload_n 0, 1, 0, 0, 0), some (.getfield 26, 3, 0, 8, 0), none], [none, some (.iload 8, 2, 0, 0, 0), none, some (.iaload, 1, 0, 0, 0), some (.iadd, 1, 0, 0, 0), some (.iaload, 1, 0, 0, 0), some (.aload_n 0, 1, 0, 0, 0), some (.getfield 43, 3, 0, 0, 0), none, none, some (.getfield 87, 3, 9, 12, 0), none, none, some (.iload_n 3, 1, 0, 0, 0), some (.aload_n 0, 1, 0, 0, 0), some (.getfield 29, 3, 0, 9, 0)], [none, none, some (.iload 8, 2, 0, 0, 0), none, some (.iaload, 1, 0, 0, 0), some (.iadd, 1, 0, 0, 0), some (.iaload, 1, 0, 0, 0), some (.invokestatic 90, 3, 301, 1, 0), none, none, some (.imul, 1, 0, 0, 0), some (.iadd, 1, 0, 0, 0), some (.istore 5, 2, 0, 0, 0), none, some (.iinc 8 1, 3, 0, 0, 0), none], [none, some (.goto (-84), 3, 0, 0, 0), none, none, some (.aload_n 0, 1, 0, 0, 0), some (.getfield 37, 3, 0, 11, 0), none, none, some (.iconst 0, 1, 0, 0, 0), some (.iload 4, 2, 0, 0, 0), none, some (.iastore, 1, 0, 0, 0), some (.aload_n 0, 1, 0, 0, 0), some (.getfield 37, 3, 0, 11, 0), none, none], [some (.iconst 1, 1, 0, 0, 0), some (.iload 5, 2, 0, 0, 0), none, some (.iastore, 1, 0, 0, 0), some (.aload_n 0, 1, 0, 0, 0), some (.getfield 37, 3, 0, 11, 0), none, none, some (.iconst 2, 1, 0, 0, 0), some (.iload 6, 2, 0, 0, 0), none, some (.iastore, 1, 0, 0, 0), some (.aload_n 0, 1, 0, 0, 0), some (.getfield 37, 3, 0, 11, 0), none, none], [some (.iconst 3, 1, 0, 0, 0), some (.iload 7, 2, 0, 0, 0), none, some (.iastore, 1, 0, 0, 0), some (.return_, 1, 0, 0, 0)]]]
def cd_X0_loadAt : List (List (List (Option ARow))) := [[[some (.aload_n 0, 1, 0, 0, 0), some (.iload_n 1, 1, 0, 0, 0), some (.iload_n 2, 1, 0, 0, 0), some (.invokevirtual 96, 3, 3, 0, 0), none, none, some (.aload_n 0, 1, 0, 0, 0), some (.getfield 47, 3, 0, 1, 0), none, none, some (.aload_n 0, 1, 0, 0, 0), some (.getfield 47, 3, 0, 1, 0), none, none, some (.getfield 100, 3, 7, 4, 0), none], [none, some (.aload_n 0, 1, 0, 0, 0), some (.getfield 37, 3, 0, 11, 0), none, none, some (.invokevirtual 103, 3, 84, 0, 0), none, none, some (.ireturn, 1, 0, 0, 0)]]]
def cd_X0_findPeak : List (List (List (Option ARow))) := [[[some (.aload_n 0, 1, 0, 0, 0), some (.iconst 0, 1, 0, 0, 0), some (.iconst (-1), 1, 0, 0, 0), some (.invokevirtual 107, 3, 4, 0, 0), none, none, some (.istore_n 1, 1, 0, 0, 0), some (.aload_n 0, 1, 0, 0, 0), some (.iconst 0, 1, 0, 0, 0), some (.putfield 110, 3, 0, 12, 0), none, none, some (.iconst 1, 1, 0, 0, 0), some (.istore_n 2, 1, 0, 0, 0), some (.iload_n 2, 1, 0, 0, 0), some (.bipush 24, 2, 0, 0, 24)], [none, some (.if_icmp .ge 41, 3, 3, 0, 0), none, none, some (.aload_n 0, 1, 0, 0, 0), some (.getfield 43, 3, 0, 0, 0), none, none, some (.getfield 113, 3, 9, 15, 0), none, none, some (.iload_n 2, 1, 0, 0, 0), some (.iaload, 1, 0, 0, 0), some (.iload_n 2, 1, 0, 0, 0), some (.if_icmp .ne 22, 3, 1, 0, 0), none], [none, some (.aload_n 0, 1, 0, 0, 0), some (.iload_n 2, 1, 0, 0, 0), some (.iconst (-1), 1, 0, 0, 0), some (.invokevirtual 107, 3, 4, 0, 0), none, none, some (.istore_n 3, 1, 0, 0, 0), some (.iload_n 3, 1, 0, 0, 0), some (.iload_n 1, 1, 0, 0, 0), some (.if_icmp .le 10, 3, 5, 0, 0), none, none, some (.iload_n 3, 1, 0, 0, 0), some (.istore_n 1, 1, 0, 0, 0), some (.aload_n 0, 1, 0, 0, 0)], [some (.iload_n 2, 1, 0, 0, 0), some (.putfield 110, 3, 0, 12, 0), none, none, some (.iinc 2 1, 3, 0, 0, 0), none, none, some (.goto (-41), 3, 0, 0, 0), none, none, some (.iload_n 1, 1, 0, 0, 0), some (.ireturn, 1, 0, 0, 0)]]]
def cd_X0_keptCounts : List (List (List (Option ARow))) := [[[some (.iconst 0, 1, 0, 0, 0), some (.istore_n 1, 1, 0, 0, 0), some (.iconst 0, 1, 0, 0, 0), some (.istore_n 2, 1, 0, 0, 0), some (.iload_n 2, 1, 0, 0, 0), some (.aload_n 0, 1, 0, 0, 0), some (.getfield 57, 3, 0, 2, 0), none, none, some (.if_icmp .ge 33, 3, 3, 0, 0), none, none, some (.iload_n 1, 1, 0, 0, 0), some (.aload_n 0, 1, 0, 0, 0), some (.getfield 43, 3, 0, 0, 0), none], [none, some (.getfield 116, 3, 9, 13, 0), none, none, some (.aload_n 0, 1, 0, 0, 0), some (.getfield 9, 3, 0, 3, 0), none, none, some (.iload_n 2, 1, 0, 0, 0), some (.iaload, 1, 0, 0, 0), some (.iaload, 1, 0, 0, 0), some (.aload_n 0, 1, 0, 0, 0), some (.getfield 18, 3, 0, 5, 0), none, none, some (.iload_n 2, 1, 0, 0, 0)], [some (.iaload, 1, 0, 0, 0), some (.imul, 1, 0, 0, 0), some (.iadd, 1, 0, 0, 0), some (.istore_n 1, 1, 0, 0, 0), some (.iinc 2 1, 3, 0, 0, 0), none, none, some (.goto (-35), 3, 0, 0, 0), none, none, some (.iload_n 1, 1, 0, 0, 0), some (.ireturn, 1, 0, 0, 0)]]]
def cd_X0_overInAll : List (List (List (Option ARow))) := [[[some (.iconst 0, 1, 0, 0, 0), some (.istore_n 1, 1, 0, 0, 0), some (.iconst 0, 1, 0, 0, 0), some (.istore_n 2, 1, 0, 0, 0), some (.iload_n 2, 1, 0, 0, 0), some (.aload_n 0, 1, 0, 0, 0), some (.getfield 57, 3, 0, 2, 0), none, none, some (.if_icmp .ge 33, 3, 3, 0, 0), none, none, some (.iload_n 1, 1, 0, 0, 0), some (.aload_n 0, 1, 0, 0, 0), some (.getfield 43, 3, 0, 0, 0), none], [none, some (.getfield 119, 3, 9, 14, 0), none, none, some (.aload_n 0, 1, 0, 0, 0), some (.getfield 9, 3, 0, 3, 0), none, none, some (.iload_n 2, 1, 0, 0, 0), some (.iaload, 1, 0, 0, 0), some (.iaload, 1, 0, 0, 0), some (.aload_n 0, 1, 0, 0, 0), some (.getfield 15, 3, 0, 4, 0), none, none, some (.iload_n 2, 1, 0, 0, 0)], [some (.iaload, 1, 0, 0, 0), some (.imul, 1, 0, 0, 0), some (.iadd, 1, 0, 0, 0), some (.istore_n 1, 1, 0, 0, 0), some (.iinc 2 1, 3, 0, 0, 0), none, none, some (.goto (-35), 3, 0, 0, 0), none, none, some (.iload_n 1, 1, 0, 0, 0), some (.ireturn, 1, 0, 0, 0)]]]
def cd_X0_leadAt : List (List (List (Option ARow))) := [[[some (.aload_n 0, 1, 0, 0, 0), some (.iload_n 1, 1, 0, 0, 0), some (.iconst (-1), 1, 0, 0, 0), some (.invokevirtual 107, 3, 4, 0, 0), none, none, some (.istore_n 3, 1, 0, 0, 0), some (.iconst 0, 1, 0, 0, 0), some (.istore 4, 2, 0, 0, 0), none, some (.iload 4, 2, 0, 0, 0), none, some (.aload_n 0, 1, 0, 0, 0), some (.getfield 43, 3, 0, 0, 0), none, none], [some (.getfield 61, 3, 9, 0, 0), none, none, some (.if_icmp .ge 25, 3, 3, 0, 0), none, none, some (.aload_n 0, 1, 0, 0, 0), some (.getfield 40, 3, 0, 13, 0), none, none, some (.iload 4, 2, 0, 0, 0), none, some (.iload_n 3, 1, 0, 0, 0), some (.aload_n 0, 1, 0, 0, 0), some (.iload_n 1, 1, 0, 0, 0), some (.iload 4, 2, 0, 0, 0)], [none, some (.invokevirtual 107, 3, 4, 0, 0), none, none, some (.isub, 1, 0, 0, 0), some (.iastore, 1, 0, 0, 0), some (.iinc 4 1, 3, 0, 0, 0), none, none, some (.goto (-31), 3, 0, 0, 0), none, none, some (.iconst 0, 1, 0, 0, 0), some (.istore 4, 2, 0, 0, 0), none, some (.iload 4, 2, 0, 0, 0)], [none, some (.aload_n 0, 1, 0, 0, 0), some (.getfield 43, 3, 0, 0, 0), none, none, some (.getfield 61, 3, 9, 0, 0), none, none, some (.if_icmp .ge 32, 3, 3, 0, 0), none, none, some (.aload_n 0, 1, 0, 0, 0), some (.getfield 40, 3, 0, 13, 0), none, none, some (.iload 4, 2, 0, 0, 0)], [none, some (.iaload, 1, 0, 0, 0), some (.ifCond .eq 16, 3, 0, 0, 0), none, none, some (.aload_n 0, 1, 0, 0, 0), some (.iload 4, 2, 0, 0, 0), none, some (.invokevirtual 122, 3, 9, 0, 0), none, none, some (.iload_n 2, 1, 0, 0, 0), some (.if_icmp .ne 6, 3, 1, 0, 0), none, none, some (.iload 4, 2, 0, 0, 0)], [none, some (.ireturn, 1, 0, 0, 0), some (.iinc 4 1, 3, 0, 0, 0), none, none, some (.goto (-38), 3, 0, 0, 0), none, none, some (.iconst (-1), 1, 0, 0, 0), some (.ireturn, 1, 0, 0, 0)]]]
def cd_X0_aheadOf : List (List (List (Option ARow))) := [[[some (.iconst 0, 1, 0, 0, 0), some (.istore_n 2, 1, 0, 0, 0), some (.iconst 0, 1, 0, 0, 0), some (.istore_n 3, 1, 0, 0, 0), some (.iload_n 3, 1, 0, 0, 0), some (.aload_n 0, 1, 0, 0, 0), some (.getfield 43, 3, 0, 0, 0), none, none, some (.getfield 61, 3, 9, 0, 0), none, none, some (.if_icmp .ge 56, 3, 3, 0, 0), none, none, some (.aload_n 0, 1, 0, 0, 0)], [some (.getfield 40, 3, 0, 13, 0), none, none, some (.iload_n 3, 1, 0, 0, 0), some (.iaload, 1, 0, 0, 0), some (.ifCond .eq 41, 3, 0, 0, 0), none, none, some (.aload_n 0, 1, 0, 0, 0), some (.getfield 40, 3, 0, 13, 0), none, none, some (.iload_n 3, 1, 0, 0, 0), some (.iaload, 1, 0, 0, 0), some (.aload_n 0, 1, 0, 0, 0), some (.getfield 40, 3, 0, 13, 0)], [none, none, some (.iload_n 1, 1, 0, 0, 0), some (.iaload, 1, 0, 0, 0), some (.if_icmp .gt 23, 3, 4, 0, 0), none, none, some (.aload_n 0, 1, 0, 0, 0), some (.getfield 40, 3, 0, 13, 0), none, none, some (.iload_n 3, 1, 0, 0, 0), some (.iaload, 1, 0, 0, 0), some (.aload_n 0, 1, 0, 0, 0), some (.getfield 40, 3, 0, 13, 0), none], [none, some (.iload_n 1, 1, 0, 0, 0), some (.iaload, 1, 0, 0, 0), some (.if_icmp .ne 11, 3, 1, 0, 0), none, none, some (.iload_n 3, 1, 0, 0, 0), some (.iload_n 1, 1, 0, 0, 0), some (.if_icmp .ge 6, 3, 3, 0, 0), none, none, some (.iinc 2 1, 3, 0, 0, 0), none, none, some (.iinc 3 1, 3, 0, 0, 0), none], [none, some (.goto (-61), 3, 0, 0, 0), none, none, some (.iload_n 2, 1, 0, 0, 0), some (.ireturn, 1, 0, 0, 0)]]]
def cd_X1_init : List (List (List (Option ARow))) := [[[some (.aload_n 0, 1, 0, 0, 0), some (.invokespecial 3, 3, 0, 4, 0), none, none, some (.aload_n 0, 1, 0, 0, 0), some (.sipush 160, 3, 0, 0, 160), none, none, some (.newarray .int, 2, 0, 0, 0), none, some (.putfield 11, 3, 1, 0, 0), none, none, some (.aload_n 0, 1, 0, 0, 0), some (.bipush 40, 2, 0, 0, 40), none], [some (.newarray .int, 2, 0, 0, 0), none, some (.putfield 15, 3, 1, 1, 0), none, none, some (.aload_n 0, 1, 0, 0, 0), some (.bipush 40, 2, 0, 0, 40), none, some (.newarray .boolean, 2, 2, 0, 0), none, some (.putfield 18, 3, 1, 2, 0), none, none, some (.aload_n 0, 1, 0, 0, 0), some (.iconst 4, 1, 0, 0, 0), some (.newarray .int, 2, 0, 0, 0)], [none, some (.putfield 22, 3, 1, 5, 0), none, none, some (.aload_n 0, 1, 0, 0, 0), some (.iconst 4, 1, 0, 0, 0), some (.newarray .int, 2, 0, 0, 0), none, some (.putfield 25, 3, 1, 6, 0), none, none, some (.return_, 1, 0, 0, 0)]]]
def cd_X1_add : List (List (List (Option ARow))) := [[[some (.aload_n 0, 1, 0, 0, 0), some (.getfield 28, 3, 1, 3, 0), none, none, some (.bipush 40, 2, 0, 0, 40), none, some (.if_icmp .lt 5, 3, 2, 0, 0), none, none, some (.iconst (-1), 1, 0, 0, 0), some (.ireturn, 1, 0, 0, 0), some (.aload_n 1, 1, 0, 0, 0), some (.iconst 0, 1, 0, 0, 0), some (.aload_n 0, 1, 0, 0, 0), some (.getfield 11, 3, 1, 0, 0), none], [none, some (.aload_n 0, 1, 0, 0, 0), some (.getfield 28, 3, 1, 3, 0), none, none, some (.iconst 4, 1, 0, 0, 0), some (.imul, 1, 0, 0, 0), some (.iconst 4, 1, 0, 0, 0), some (.invokestatic 32, 3, 0, 5, 0), none, none, some (.aload_n 0, 1, 0, 0, 0), some (.getfield 15, 3, 1, 1, 0), none, none, some (.aload_n 0, 1, 0, 0, 0)], [some (.getfield 28, 3, 1, 3, 0), none, none, some (.iload_n 2, 1, 0, 0, 0), some (.iastore, 1, 0, 0, 0), some (.aload_n 0, 1, 0, 0, 0), some (.getfield 18, 3, 1, 2, 0), none, none, some (.aload_n 0, 1, 0, 0, 0), some (.getfield 28, 3, 1, 3, 0), none, none, some (.iload_n 3, 1, 0, 0, 0), some (.bastore, 1, 0, 0, 0), some (.aload_n 0, 1, 0, 0, 0)], [some (.dup, 1, 0, 0, 0), some (.getfield 28, 3, 1, 3, 0), none, none, some (.iconst 1, 1, 0, 0, 0), some (.iadd, 1, 0, 0, 0), some (.putfield 28, 3, 1, 3, 0), none, none, some (.aload_n 0, 1, 0, 0, 0), some (.getfield 28, 3, 1, 3, 0), none, none, some (.iconst 1, 1, 0, 0, 0), some (.isub, 1, 0, 0, 0), some (.ireturn, 1, 0, 0, 0)]]]
def cd_X1_solve : List (List (List (Option ARow))) := [[[some (.aload_n 0, 1, 0, 0, 0), some (.invokevirtual 38, 3, 14, 0, 0), none, none, some (.ifCond .ne 5, 3, 1, 0, 0), none, none, some (.iconst 0, 1, 0, 0, 0), some (.ireturn, 1, 0, 0, 0), some (.aload_n 0, 1, 0, 0, 0), some (.getfield 42, 3, 1, 4, 0), none, none, some (.aload_n 0, 1, 0, 0, 0), some (.getfield 28, 3, 1, 3, 0), none], [none, some (.if_icmp .ne 5, 3, 1, 0, 0), none, none, some (.iconst 1, 1, 0, 0, 0), some (.ireturn, 1, 0, 0, 0), some (.aload_n 0, 1, 0, 0, 0), some (.aload_n 0, 1, 0, 0, 0), some (.getfield 28, 3, 1, 3, 0), none, none, some (.putfield 42, 3, 1, 4, 0), none, none, some (.aload_n 0, 1, 0, 0, 0), some (.getfield 25, 3, 1, 6, 0)], [none, none, some (.iconst 0, 1, 0, 0, 0), some (.invokestatic 45, 3, 312, 1, 0), none, none, some (.aload_n 0, 1, 0, 0, 0), some (.ldc 53, 2, 0, 0, 2147483647), none, some (.putfield 54, 3, 1, 7, 0), none, none, some (.iconst 1, 1, 0, 0, 0), some (.istore_n 1, 1, 0, 0, 0), some (.iconst 0, 1, 0, 0, 0), some (.istore_n 2, 1, 0, 0, 0)], [some (.iload_n 2, 1, 0, 0, 0), some (.sipush 625, 3, 0, 0, 625), none, none, some (.if_icmp .ge 55, 3, 3, 0, 0), none, none, some (.iload_n 1, 1, 0, 0, 0), some (.ifCond .eq 51, 3, 0, 0, 0), none, none, some (.aload_n 0, 1, 0, 0, 0), some (.aload_n 0, 1, 0, 0, 0), some (.getfield 25, 3, 1, 6, 0), none, none], [some (.iconst 0, 1, 0, 0, 0), some (.invokevirtual 57, 3, 16, 0, 0), none, none, some (.istore_n 3, 1, 0, 0, 0), some (.iload_n 3, 1, 0, 0, 0), some (.aload_n 0, 1, 0, 0, 0), some (.getfield 54, 3, 1, 7, 0), none, none, some (.if_icmp .ge 22, 3, 3, 0, 0), none, none, some (.aload_n 0, 1, 0, 0, 0), some (.iload_n 3, 1, 0, 0, 0), some (.putfield 54, 3, 1, 7, 0)], [none, none, some (.aload_n 0, 1, 0, 0, 0), some (.getfield 25, 3, 1, 6, 0), none, none, some (.iconst 0, 1, 0, 0, 0), some (.aload_n 0, 1, 0, 0, 0), some (.getfield 22, 3, 1, 5, 0), none, none, some (.iconst 0, 1, 0, 0, 0), some (.iconst 4, 1, 0, 0, 0), some (.invokestatic 32, 3, 0, 5, 0), none, none], [some (.aload_n 0, 1, 0, 0, 0), some (.invokevirtual 61, 3, 15, 0, 0), none, none, some (.istore_n 1, 1, 0, 0, 0), some (.iinc 2 1, 3, 0, 0, 0), none, none, some (.goto (-56), 3, 0, 0, 0), none, none, some (.iconst 1, 1, 0, 0, 0), some (.ireturn, 1, 0, 0, 0)]]]
def cd_X1_offBack : List (List (List (Option ARow))) := [[[some (.aload_n 0, 1, 0, 0, 0), some (.aload_n 0, 1, 0, 0, 0), some (.getfield 22, 3, 1, 5, 0), none, none, some (.iconst 1, 1, 0, 0, 0), some (.invokevirtual 57, 3, 16, 0, 0), none, none, some (.ireturn, 1, 0, 0, 0)]]]
def cd_X1_anyRow : List (List (List (Option ARow))) := [[[some (.iconst 0, 1, 0, 0, 0), some (.istore_n 1, 1, 0, 0, 0), some (.iload_n 1, 1, 0, 0, 0), some (.aload_n 0, 1, 0, 0, 0), some (.getfield 28, 3, 1, 3, 0), none, none, some (.if_icmp .ge 20, 3, 3, 0, 0), none, none, some (.aload_n 0, 1, 0, 0, 0), some (.getfield 18, 3, 1, 2, 0), none, none, some (.iload_n 1, 1, 0, 0, 0), some (.baload, 1, 0, 0, 0)], [some (.ifCond .ne 5, 3, 1, 0, 0), none, none, some (.iconst 1, 1, 0, 0, 0), some (.ireturn, 1, 0, 0, 0), some (.iinc 1 1, 3, 0, 0, 0), none, none, some (.goto (-22), 3, 0, 0, 0), none, none, some (.iconst 0, 1, 0, 0, 0), some (.ireturn, 1, 0, 0, 0)]]]
def cd_X1_nextTrial : List (List (List (Option ARow))) := [[[some (.iconst 3, 1, 0, 0, 0), some (.istore_n 1, 1, 0, 0, 0), some (.iload_n 1, 1, 0, 0, 0), some (.ifCond .lt 38, 3, 2, 0, 0), none, none, some (.aload_n 0, 1, 0, 0, 0), some (.getfield 25, 3, 1, 6, 0), none, none, some (.iload_n 1, 1, 0, 0, 0), some (.iaload, 1, 0, 0, 0), some (.iconst 4, 1, 0, 0, 0), some (.if_icmp .ge 15, 3, 3, 0, 0), none, none], [some (.aload_n 0, 1, 0, 0, 0), some (.getfield 25, 3, 1, 6, 0), none, none, some (.iload_n 1, 1, 0, 0, 0), some (.dup2, 1, 0, 0, 0), some (.iaload, 1, 0, 0, 0), some (.iconst 1, 1, 0, 0, 0), some (.iadd, 1, 0, 0, 0), some (.iastore, 1, 0, 0, 0), some (.iconst 1, 1, 0, 0, 0), some (.ireturn, 1, 0, 0, 0), some (.aload_n 0, 1, 0, 0, 0), some (.getfield 25, 3, 1, 6, 0), none, none], [some (.iload_n 1, 1, 0, 0, 0), some (.iconst 0, 1, 0, 0, 0), some (.iastore, 1, 0, 0, 0), some (.iinc 1 (-1), 3, 0, 0, 0), none, none, some (.goto (-36), 3, 0, 0, 0), none, none, some (.iconst 0, 1, 0, 0, 0), some (.ireturn, 1, 0, 0, 0)]]]
def cd_X1_offOf : List (List (List (Option ARow))) := [[[some (.iconst 0, 1, 0, 0, 0), some (.istore_n 3, 1, 0, 0, 0), some (.iconst 0, 1, 0, 0, 0), some (.istore 4, 2, 0, 0, 0), none, some (.iload 4, 2, 0, 0, 0), none, some (.aload_n 0, 1, 0, 0, 0), some (.getfield 28, 3, 1, 3, 0), none, none, some (.if_icmp .ge 74, 3, 3, 0, 0), none, none, some (.aload_n 0, 1, 0, 0, 0), some (.getfield 18, 3, 1, 2, 0)], [none, none, some (.iload 4, 2, 0, 0, 0), none, some (.baload, 1, 0, 0, 0), some (.iload_n 2, 1, 0, 0, 0), some (.if_icmp .ne 57, 3, 1, 0, 0), none, none, some (.aload_n 0, 1, 0, 0, 0), some (.getfield 15, 3, 1, 1, 0), none, none, some (.iload 4, 2, 0, 0, 0), none, some (.iaload, 1, 0, 0, 0)], [some (.istore 5, 2, 0, 0, 0), none, some (.iconst 0, 1, 0, 0, 0), some (.istore 6, 2, 0, 0, 0), none, some (.iload 6, 2, 0, 0, 0), none, some (.iconst 4, 1, 0, 0, 0), some (.if_icmp .ge 31, 3, 3, 0, 0), none, none, some (.iload 5, 2, 0, 0, 0), none, some (.aload_n 1, 1, 0, 0, 0), some (.iload 6, 2, 0, 0, 0), none], [some (.iaload, 1, 0, 0, 0), some (.aload_n 0, 1, 0, 0, 0), some (.getfield 11, 3, 1, 0, 0), none, none, some (.iload 4, 2, 0, 0, 0), none, some (.iconst 4, 1, 0, 0, 0), some (.imul, 1, 0, 0, 0), some (.iload 6, 2, 0, 0, 0), none, some (.iadd, 1, 0, 0, 0), some (.iaload, 1, 0, 0, 0), some (.imul, 1, 0, 0, 0), some (.isub, 1, 0, 0, 0), some (.istore 5, 2, 0, 0, 0)], [none, some (.iinc 6 1, 3, 0, 0, 0), none, none, some (.goto (-31), 3, 0, 0, 0), none, none, some (.iload_n 3, 1, 0, 0, 0), some (.iload 5, 2, 0, 0, 0), none, some (.invokestatic 64, 3, 299, 1, 0), none, none, some (.iadd, 1, 0, 0, 0), some (.istore_n 3, 1, 0, 0, 0), some (.iinc 4 1, 3, 0, 0, 0)], [none, none, some (.goto (-77), 3, 0, 0, 0), none, none, some (.iload_n 3, 1, 0, 0, 0), some (.ireturn, 1, 0, 0, 0)]]]
def cd_X2_init : List (List (List (Option ARow))) := [[[some (.aload_n 0, 1, 0, 0, 0), some (.invokespecial 3, 3, 0, 4, 0), none, none, some (.aload_n 0, 1, 0, 0, 0), some (.bipush 8, 2, 0, 0, 8), none, some (.newarray .boolean, 2, 2, 0, 0), none, some (.putfield 9, 3, 2, 3, 0), none, none, some (.aload_n 0, 1, 0, 0, 0), some (.bipush 8, 2, 0, 0, 8), none, some (.newarray .int, 2, 0, 0, 0)], [none, some (.putfield 15, 3, 2, 4, 0), none, none, some (.aload_n 0, 1, 0, 0, 0), some (.bipush 8, 2, 0, 0, 8), none, some (.newarray .int, 2, 0, 0, 0), none, some (.putfield 19, 3, 2, 5, 0), none, none, some (.aload_n 0, 1, 0, 0, 0), some (.bipush 8, 2, 0, 0, 8), none, some (.newarray .boolean, 2, 2, 0, 0)], [none, some (.putfield 22, 3, 2, 6, 0), none, none, some (.aload_n 0, 1, 0, 0, 0), some (.aload_n 1, 1, 0, 0, 0), some (.putfield 25, 3, 2, 0, 0), none, none, some (.aload_n 0, 1, 0, 0, 0), some (.aload_n 2, 1, 0, 0, 0), some (.putfield 29, 3, 2, 1, 0), none, none, some (.aload_n 0, 1, 0, 0, 0), some (.aload_n 3, 1, 0, 0, 0)], [some (.putfield 33, 3, 2, 2, 0), none, none, some (.return_, 1, 0, 0, 0)]]]
def cd_X2_stands : List (List (List (Option ARow))) := [[[some (.aload_n 0, 1, 0, 0, 0), some (.iload_n 1, 1, 0, 0, 0), some (.invokevirtual 37, 3, 19, 0, 0), none, none, some (.ifCond .ne 5, 3, 1, 0, 0), none, none, some (.iconst 0, 1, 0, 0, 0), some (.ireturn, 1, 0, 0, 0), some (.aload_n 0, 1, 0, 0, 0), some (.getfield 33, 3, 2, 2, 0), none, none, some (.aload_n 0, 1, 0, 0, 0), some (.getfield 29, 3, 2, 1, 0)], [none, none, some (.getfield 41, 3, 3, 1, 0), none, none, some (.iload_n 1, 1, 0, 0, 0), some (.laload, 1, 0, 0, 0), some (.aload_n 0, 1, 0, 0, 0), some (.getfield 29, 3, 2, 1, 0), none, none, some (.getfield 47, 3, 3, 2, 0), none, none, some (.iload_n 1, 1, 0, 0, 0), some (.laload, 1, 0, 0, 0)], [some (.iconst 1, 1, 0, 0, 0), some (.invokevirtual 50, 3, 1, 0, 0), none, none, some (.aload_n 0, 1, 0, 0, 0), some (.getfield 33, 3, 2, 2, 0), none, none, some (.invokevirtual 56, 3, 5, 0, 0), none, none, some (.aload_n 0, 1, 0, 0, 0), some (.getfield 29, 3, 2, 1, 0), none, none, some (.getfield 60, 3, 3, 3, 0)], [none, none, some (.iload_n 1, 1, 0, 0, 0), some (.iaload, 1, 0, 0, 0), some (.if_icmp .gt 7, 3, 4, 0, 0), none, none, some (.iconst 1, 1, 0, 0, 0), some (.goto 4, 3, 0, 0, 0), none, none, some (.iconst 0, 1, 0, 0, 0), some (.ireturn, 1, 0, 0, 0)]]]
def cd_X2_isWhole : List (List (List (Option ARow))) := [[[some (.aload_n 0, 1, 0, 0, 0), some (.getfield 29, 3, 2, 1, 0), none, none, some (.getfield 41, 3, 3, 1, 0), none, none, some (.iload_n 1, 1, 0, 0, 0), some (.laload, 1, 0, 0, 0), some (.aload_n 0, 1, 0, 0, 0), some (.getfield 29, 3, 2, 1, 0), none, none, some (.getfield 47, 3, 3, 2, 0), none, none], [some (.iload_n 1, 1, 0, 0, 0), some (.laload, 1, 0, 0, 0), some (.invokestatic 63, 3, 34, 1, 0), none, none, some (.ireturn, 1, 0, 0, 0)]]]
def cd_X2_measure : List (List (List (Option ARow))) := [[[some (.iconst 0, 1, 0, 0, 0), some (.istore_n 1, 1, 0, 0, 0), some (.iload_n 1, 1, 0, 0, 0), some (.bipush 8, 2, 0, 0, 8), none, some (.if_icmp .ge 38, 3, 3, 0, 0), none, none, some (.aload_n 0, 1, 0, 0, 0), some (.getfield 9, 3, 2, 3, 0), none, none, some (.iload_n 1, 1, 0, 0, 0), some (.aload_n 0, 1, 0, 0, 0), some (.getfield 29, 3, 2, 1, 0), none], [none, some (.iload_n 1, 1, 0, 0, 0), some (.invokevirtual 67, 3, 30, 0, 0), none, none, some (.bastore, 1, 0, 0, 0), some (.aload_n 0, 1, 0, 0, 0), some (.getfield 9, 3, 2, 3, 0), none, none, some (.iload_n 1, 1, 0, 0, 0), some (.baload, 1, 0, 0, 0), some (.ifCond .eq 9, 3, 0, 0, 0), none, none, some (.aload_n 0, 1, 0, 0, 0)], [some (.iload_n 1, 1, 0, 0, 0), some (.invokevirtual 70, 3, 21, 0, 0), none, none, some (.pop, 1, 0, 0, 0), some (.iinc 1 1, 3, 0, 0, 0), none, none, some (.goto (-38), 3, 0, 0, 0), none, none, some (.return_, 1, 0, 0, 0)]]]
def cd_X2_weigh : List (List (List (Option ARow))) := [[[some (.aload_n 0, 1, 0, 0, 0), some (.getfield 33, 3, 2, 2, 0), none, none, some (.aload_n 0, 1, 0, 0, 0), some (.getfield 29, 3, 2, 1, 0), none, none, some (.getfield 41, 3, 3, 1, 0), none, none, some (.iload_n 1, 1, 0, 0, 0), some (.laload, 1, 0, 0, 0), some (.aload_n 0, 1, 0, 0, 0), some (.getfield 29, 3, 2, 1, 0), none], [none, some (.getfield 47, 3, 3, 2, 0), none, none, some (.iload_n 1, 1, 0, 0, 0), some (.laload, 1, 0, 0, 0), some (.iconst 1, 1, 0, 0, 0), some (.invokevirtual 50, 3, 1, 0, 0), none, none, some (.aload_n 0, 1, 0, 0, 0), some (.getfield 15, 3, 2, 4, 0), none, none, some (.iload_n 1, 1, 0, 0, 0), some (.aload_n 0, 1, 0, 0, 0)], [some (.getfield 33, 3, 2, 2, 0), none, none, some (.invokevirtual 56, 3, 5, 0, 0), none, none, some (.iastore, 1, 0, 0, 0), some (.aload_n 0, 1, 0, 0, 0), some (.getfield 19, 3, 2, 5, 0), none, none, some (.iload_n 1, 1, 0, 0, 0), some (.aload_n 0, 1, 0, 0, 0), some (.getfield 33, 3, 2, 2, 0), none, none], [some (.invokevirtual 73, 3, 6, 0, 0), none, none, some (.iastore, 1, 0, 0, 0), some (.aload_n 0, 1, 0, 0, 0), some (.getfield 15, 3, 2, 4, 0), none, none, some (.iload_n 1, 1, 0, 0, 0), some (.iaload, 1, 0, 0, 0), some (.aload_n 0, 1, 0, 0, 0), some (.getfield 29, 3, 2, 1, 0), none, none, some (.getfield 60, 3, 3, 3, 0), none], [none, some (.iload_n 1, 1, 0, 0, 0), some (.iaload, 1, 0, 0, 0), some (.if_icmp .gt 7, 3, 4, 0, 0), none, none, some (.iconst 1, 1, 0, 0, 0), some (.goto 4, 3, 0, 0, 0), none, none, some (.iconst 0, 1, 0, 0, 0), some (.ireturn, 1, 0, 0, 0)]]]
def cd_X2_priceNow : List (List (List (Option ARow))) := [[[some (.aload_n 0, 1, 0, 0, 0), some (.getfield 25, 3, 2, 0, 0), none, none, some (.invokevirtual 76, 3, 124, 0, 0), none, none, some (.istore_n 1, 1, 0, 0, 0), some (.ldc 83, 2, 0, 0, (-2147483648)), none, some (.istore_n 2, 1, 0, 0, 0), some (.ldc 84, 2, 0, 0, 2147483647), none, some (.istore_n 3, 1, 0, 0, 0), some (.iconst 0, 1, 0, 0, 0), some (.istore 4, 2, 0, 0, 0)], [none, some (.iconst 0, 1, 0, 0, 0), some (.istore 5, 2, 0, 0, 0), none, some (.iload 5, 2, 0, 0, 0), none, some (.bipush 8, 2, 0, 0, 8), none, some (.if_icmp .ge 56, 3, 3, 0, 0), none, none, some (.aload_n 0, 1, 0, 0, 0), some (.getfield 9, 3, 2, 3, 0), none, none, some (.iload 5, 2, 0, 0, 0)], [none, some (.baload, 1, 0, 0, 0), some (.ifCond .eq 40, 3, 0, 0, 0), none, none, some (.iconst 1, 1, 0, 0, 0), some (.istore 4, 2, 0, 0, 0), none, some (.iload_n 1, 1, 0, 0, 0), some (.aload_n 0, 1, 0, 0, 0), some (.getfield 19, 3, 2, 5, 0), none, none, some (.iload 5, 2, 0, 0, 0), none, some (.iaload, 1, 0, 0, 0)], [some (.isub, 1, 0, 0, 0), some (.istore_n 1, 1, 0, 0, 0), some (.iload_n 2, 1, 0, 0, 0), some (.aload_n 0, 1, 0, 0, 0), some (.getfield 15, 3, 2, 4, 0), none, none, some (.iload 5, 2, 0, 0, 0), none, some (.iaload, 1, 0, 0, 0), some (.invokestatic 85, 3, 300, 1, 0), none, none, some (.istore_n 2, 1, 0, 0, 0), some (.iload_n 3, 1, 0, 0, 0), some (.aload_n 0, 1, 0, 0, 0)], [some (.getfield 15, 3, 2, 4, 0), none, none, some (.iload 5, 2, 0, 0, 0), none, some (.iaload, 1, 0, 0, 0), some (.invokestatic 91, 3, 301, 1, 0), none, none, some (.istore_n 3, 1, 0, 0, 0), some (.iinc 5 1, 3, 0, 0, 0), none, none, some (.goto (-57), 3, 0, 0, 0), none, none], [some (.iload 4, 2, 0, 0, 0), none, some (.ifCond .eq 14, 3, 0, 0, 0), none, none, some (.iload_n 1, 1, 0, 0, 0), some (.bipush 10, 2, 0, 0, 10), none, some (.iload_n 2, 1, 0, 0, 0), some (.iload_n 3, 1, 0, 0, 0), some (.isub, 1, 0, 0, 0), some (.imul, 1, 0, 0, 0), some (.iadd, 1, 0, 0, 0), some (.goto 4, 3, 0, 0, 0), none, none], [some (.iload_n 1, 1, 0, 0, 0), some (.ireturn, 1, 0, 0, 0)]]]
def cd_X2_seek : List (List (List (Option ARow))) := [[[some (.aload_n 0, 1, 0, 0, 0), some (.invokevirtual 94, 3, 20, 0, 0), none, none, some (.iconst 0, 1, 0, 0, 0), some (.istore_n 1, 1, 0, 0, 0), some (.iload_n 1, 1, 0, 0, 0), some (.bipush 8, 2, 0, 0, 8), none, some (.if_icmp .ge 20, 3, 3, 0, 0), none, none, some (.aload_n 0, 1, 0, 0, 0), some (.getfield 22, 3, 2, 6, 0), none, none], [some (.iload_n 1, 1, 0, 0, 0), some (.aload_n 0, 1, 0, 0, 0), some (.iload_n 1, 1, 0, 0, 0), some (.invokevirtual 37, 3, 19, 0, 0), none, none, some (.bastore, 1, 0, 0, 0), some (.iinc 1 1, 3, 0, 0, 0), none, none, some (.goto (-20), 3, 0, 0, 0), none, none, some (.aload_n 0, 1, 0, 0, 0), some (.iconst (-1), 1, 0, 0, 0), some (.putfield 97, 3, 2, 7, 0)], [none, none, some (.aload_n 0, 1, 0, 0, 0), some (.aload_n 0, 1, 0, 0, 0), some (.invokevirtual 101, 3, 22, 0, 0), none, none, some (.putfield 104, 3, 2, 9, 0), none, none, some (.iconst 0, 1, 0, 0, 0), some (.istore_n 1, 1, 0, 0, 0), some (.iload_n 1, 1, 0, 0, 0), some (.sipush 128, 3, 0, 0, 128), none, none], [some (.if_icmp .ge 58, 3, 3, 0, 0), none, none, some (.aload_n 0, 1, 0, 0, 0), some (.getfield 29, 3, 2, 1, 0), none, none, some (.getfield 107, 3, 3, 0, 0), none, none, some (.iload_n 1, 1, 0, 0, 0), some (.iaload, 1, 0, 0, 0), some (.istore_n 2, 1, 0, 0, 0), some (.iload_n 2, 1, 0, 0, 0), some (.iconst (-1), 1, 0, 0, 0), some (.if_icmp .eq 37, 3, 0, 0, 0)], [none, none, some (.aload_n 0, 1, 0, 0, 0), some (.iload_n 1, 1, 0, 0, 0), some (.invokevirtual 110, 3, 24, 0, 0), none, none, some (.ifCond .eq 29, 3, 0, 0, 0), none, none, some (.aload_n 0, 1, 0, 0, 0), some (.getfield 29, 3, 2, 1, 0), none, none, some (.iload_n 1, 1, 0, 0, 0), some (.invokevirtual 113, 3, 39, 0, 0)], [none, none, some (.iconst 1, 1, 0, 0, 0), some (.iload_n 2, 1, 0, 0, 0), some (.ishl, 1, 0, 0, 0), some (.iconst (-1), 1, 0, 0, 0), some (.ixor, 1, 0, 0, 0), some (.iand, 1, 0, 0, 0), some (.istore_n 3, 1, 0, 0, 0), some (.iload_n 3, 1, 0, 0, 0), some (.ifCond .eq 10, 3, 0, 0, 0), none, none, some (.aload_n 0, 1, 0, 0, 0), some (.iload_n 1, 1, 0, 0, 0), some (.iload_n 2, 1, 0, 0, 0)], [some (.iload_n 3, 1, 0, 0, 0), some (.invokevirtual 117, 3, 25, 0, 0), none, none, some (.iinc 1 1, 3, 0, 0, 0), none, none, some (.goto (-59), 3, 0, 0, 0), none, none, some (.aload_n 0, 1, 0, 0, 0), some (.getfield 97, 3, 2, 7, 0), none, none, some (.iconst (-1), 1, 0, 0, 0), some (.if_icmp .eq 7, 3, 0, 0, 0)], [none, none, some (.iconst 1, 1, 0, 0, 0), some (.goto 4, 3, 0, 0, 0), none, none, some (.iconst 0, 1, 0, 0, 0), some (.ireturn, 1, 0, 0, 0)]]]
def cd_X2_mayMatter : List (List (List (Option ARow))) := [[[some (.aload_n 0, 1, 0, 0, 0), some (.getfield 33, 3, 2, 2, 0), none, none, some (.getfield 121, 3, 0, 1, 0), none, none, some (.getfield 125, 3, 7, 6, 0), none, none, some (.ifCond .ne 14, 3, 1, 0, 0), none, none, some (.aload_n 0, 1, 0, 0, 0), some (.getfield 25, 3, 2, 0, 0), none], [none, some (.iload_n 1, 1, 0, 0, 0), some (.invokevirtual 131, 3, 122, 0, 0), none, none, some (.ifCond .eq 7, 3, 0, 0, 0), none, none, some (.iconst 1, 1, 0, 0, 0), some (.goto 4, 3, 0, 0, 0), none, none, some (.iconst 0, 1, 0, 0, 0), some (.ireturn, 1, 0, 0, 0)]]]
def cd_X2_tryCell : List (List (List (Option ARow))) := [[[some (.aload_n 0, 1, 0, 0, 0), some (.getfield 22, 3, 2, 6, 0), none, none, some (.iload_n 2, 1, 0, 0, 0), some (.baload, 1, 0, 0, 0), some (.ifCond .eq 19, 3, 0, 0, 0), none, none, some (.aload_n 0, 1, 0, 0, 0), some (.getfield 29, 3, 2, 1, 0), none, none, some (.iload_n 2, 1, 0, 0, 0), some (.iload_n 1, 1, 0, 0, 0), some (.invokevirtual 134, 3, 37, 0, 0)], [none, none, some (.ifCond .ne 7, 3, 1, 0, 0), none, none, some (.iconst 1, 1, 0, 0, 0), some (.goto 4, 3, 0, 0, 0), none, none, some (.iconst 0, 1, 0, 0, 0), some (.istore 4, 2, 0, 0, 0), none, some (.aload_n 0, 1, 0, 0, 0), some (.getfield 15, 3, 2, 4, 0), none, none], [some (.iload_n 2, 1, 0, 0, 0), some (.iaload, 1, 0, 0, 0), some (.istore 5, 2, 0, 0, 0), none, some (.aload_n 0, 1, 0, 0, 0), some (.getfield 19, 3, 2, 5, 0), none, none, some (.iload_n 2, 1, 0, 0, 0), some (.iaload, 1, 0, 0, 0), some (.istore 6, 2, 0, 0, 0), none, some (.aload_n 0, 1, 0, 0, 0), some (.getfield 29, 3, 2, 1, 0), none, none], [some (.iload_n 1, 1, 0, 0, 0), some (.iconst (-1), 1, 0, 0, 0), some (.invokevirtual 138, 3, 28, 0, 0), none, none, some (.pop, 1, 0, 0, 0), some (.iload 4, 2, 0, 0, 0), none, some (.ifCond .ne 150, 3, 1, 0, 0), none, none, some (.aload_n 0, 1, 0, 0, 0), some (.getfield 29, 3, 2, 1, 0), none, none, some (.iload_n 2, 1, 0, 0, 0)], [some (.invokevirtual 67, 3, 30, 0, 0), none, none, some (.ifCond .eq 139, 3, 0, 0, 0), none, none, some (.aload_n 0, 1, 0, 0, 0), some (.getfield 22, 3, 2, 6, 0), none, none, some (.iload_n 2, 1, 0, 0, 0), some (.baload, 1, 0, 0, 0), some (.ifCond .ne 11, 3, 1, 0, 0), none, none, some (.aload_n 0, 1, 0, 0, 0)], [some (.iload_n 2, 1, 0, 0, 0), some (.invokevirtual 37, 3, 19, 0, 0), none, none, some (.ifCond .eq 122, 3, 0, 0, 0), none, none, some (.aload_n 0, 1, 0, 0, 0), some (.iload_n 2, 1, 0, 0, 0), some (.invokevirtual 70, 3, 21, 0, 0), none, none, some (.ifCond .eq 114, 3, 0, 0, 0), none, none, some (.iconst 0, 1, 0, 0, 0)], [some (.istore 7, 2, 0, 0, 0), none, some (.iload 7, 2, 0, 0, 0), none, some (.bipush 8, 2, 0, 0, 8), none, some (.if_icmp .ge 104, 3, 3, 0, 0), none, none, some (.iload_n 3, 1, 0, 0, 0), some (.iload 7, 2, 0, 0, 0), none, some (.ishr, 1, 0, 0, 0), some (.iconst 1, 1, 0, 0, 0), some (.iand, 1, 0, 0, 0), some (.ifCond .eq 89, 3, 0, 0, 0)], [none, none, some (.aload_n 0, 1, 0, 0, 0), some (.getfield 15, 3, 2, 4, 0), none, none, some (.iload 7, 2, 0, 0, 0), none, some (.iaload, 1, 0, 0, 0), some (.istore 8, 2, 0, 0, 0), none, some (.aload_n 0, 1, 0, 0, 0), some (.getfield 19, 3, 2, 5, 0), none, none, some (.iload 7, 2, 0, 0, 0)], [none, some (.iaload, 1, 0, 0, 0), some (.istore 9, 2, 0, 0, 0), none, some (.aload_n 0, 1, 0, 0, 0), some (.getfield 29, 3, 2, 1, 0), none, none, some (.iload_n 1, 1, 0, 0, 0), some (.iload 7, 2, 0, 0, 0), none, some (.invokevirtual 138, 3, 28, 0, 0), none, none, some (.pop, 1, 0, 0, 0), some (.aload_n 0, 1, 0, 0, 0)], [some (.getfield 22, 3, 2, 6, 0), none, none, some (.iload 7, 2, 0, 0, 0), none, some (.baload, 1, 0, 0, 0), some (.ifCond .ne 12, 3, 1, 0, 0), none, none, some (.aload_n 0, 1, 0, 0, 0), some (.iload 7, 2, 0, 0, 0), none, some (.invokevirtual 37, 3, 19, 0, 0), none, none, some (.ifCond .eq 23, 3, 0, 0, 0)], [none, none, some (.aload_n 0, 1, 0, 0, 0), some (.iload 7, 2, 0, 0, 0), none, some (.invokevirtual 70, 3, 21, 0, 0), none, none, some (.ifCond .eq 14, 3, 0, 0, 0), none, none, some (.aload_n 0, 1, 0, 0, 0), some (.iload_n 1, 1, 0, 0, 0), some (.iload 7, 2, 0, 0, 0), none, some (.aload_n 0, 1, 0, 0, 0)], [some (.invokevirtual 101, 3, 22, 0, 0), none, none, some (.invokevirtual 141, 3, 26, 0, 0), none, none, some (.aload_n 0, 1, 0, 0, 0), some (.getfield 15, 3, 2, 4, 0), none, none, some (.iload 7, 2, 0, 0, 0), none, some (.iload 8, 2, 0, 0, 0), none, some (.iastore, 1, 0, 0, 0), some (.aload_n 0, 1, 0, 0, 0)], [some (.getfield 19, 3, 2, 5, 0), none, none, some (.iload 7, 2, 0, 0, 0), none, some (.iload 9, 2, 0, 0, 0), none, some (.iastore, 1, 0, 0, 0), some (.iinc 7 1, 3, 0, 0, 0), none, none, some (.goto (-105), 3, 0, 0, 0), none, none, some (.aload_n 0, 1, 0, 0, 0), some (.getfield 29, 3, 2, 1, 0)], [none, none, some (.iload_n 1, 1, 0, 0, 0), some (.iload_n 2, 1, 0, 0, 0), some (.invokevirtual 138, 3, 28, 0, 0), none, none, some (.pop, 1, 0, 0, 0), some (.aload_n 0, 1, 0, 0, 0), some (.getfield 15, 3, 2, 4, 0), none, none, some (.iload_n 2, 1, 0, 0, 0), some (.iload 5, 2, 0, 0, 0), none, some (.iastore, 1, 0, 0, 0)], [some (.aload_n 0, 1, 0, 0, 0), some (.getfield 19, 3, 2, 5, 0), none, none, some (.iload_n 2, 1, 0, 0, 0), some (.iload 6, 2, 0, 0, 0), none, some (.iastore, 1, 0, 0, 0), some (.return_, 1, 0, 0, 0)]]]
def cd_X2_compare : List (List (List (Option ARow))) := [[[some (.iload_n 3, 1, 0, 0, 0), some (.aload_n 0, 1, 0, 0, 0), some (.getfield 104, 3, 2, 9, 0), none, none, some (.if_icmp .ge 18, 3, 3, 0, 0), none, none, some (.aload_n 0, 1, 0, 0, 0), some (.iload_n 3, 1, 0, 0, 0), some (.putfield 104, 3, 2, 9, 0), none, none, some (.aload_n 0, 1, 0, 0, 0), some (.iload_n 1, 1, 0, 0, 0), some (.putfield 97, 3, 2, 7, 0)], [none, none, some (.aload_n 0, 1, 0, 0, 0), some (.iload_n 2, 1, 0, 0, 0), some (.putfield 144, 3, 2, 8, 0), none, none, some (.return_, 1, 0, 0, 0)]]]
def cd_X3_init : List (List (List (Option ARow))) := [[[some (.aload_n 0, 1, 0, 0, 0), some (.invokespecial 3, 3, 0, 4, 0), none, none, some (.aload_n 0, 1, 0, 0, 0), some (.sipush 128, 3, 0, 0, 128), none, none, some (.newarray .int, 2, 0, 0, 0), none, some (.putfield 9, 3, 3, 0, 0), none, none, some (.aload_n 0, 1, 0, 0, 0), some (.bipush 8, 2, 0, 0, 8), none], [some (.newarray .long, 2, 1, 0, 0), none, some (.putfield 15, 3, 3, 1, 0), none, none, some (.aload_n 0, 1, 0, 0, 0), some (.bipush 8, 2, 0, 0, 8), none, some (.newarray .long, 2, 1, 0, 0), none, some (.putfield 19, 3, 3, 2, 0), none, none, some (.aload_n 0, 1, 0, 0, 0), some (.bipush 8, 2, 0, 0, 8), none], [some (.newarray .int, 2, 0, 0, 0), none, some (.putfield 22, 3, 3, 3, 0), none, none, some (.aload_n 0, 1, 0, 0, 0), some (.sipush 512, 3, 0, 0, 512), none, none, some (.newarray .int, 2, 0, 0, 0), none, some (.putfield 25, 3, 3, 4, 0), none, none, some (.aload_n 0, 1, 0, 0, 0), some (.getfield 15, 3, 3, 1, 0)], [none, none, some (.iconst 0, 1, 0, 0, 0), some (.ldc2_w 28, 3, 18446744073709551615, 0, 0), none, none, some (.lastore, 1, 0, 0, 0), some (.aload_n 0, 1, 0, 0, 0), some (.getfield 19, 3, 3, 2, 0), none, none, some (.iconst 0, 1, 0, 0, 0), some (.ldc2_w 28, 3, 18446744073709551615, 0, 0), none, none, some (.lastore, 1, 0, 0, 0)], [some (.aload_n 0, 1, 0, 0, 0), some (.getfield 22, 3, 3, 3, 0), none, none, some (.bipush 40, 2, 0, 0, 40), none, some (.invokestatic 30, 3, 312, 1, 0), none, none, some (.return_, 1, 0, 0, 0)]]]
def cd_X3_put : List (List (List (Option ARow))) := [[[some (.aload_n 0, 1, 0, 0, 0), some (.getfield 9, 3, 3, 0, 0), none, none, some (.iload_n 1, 1, 0, 0, 0), some (.iaload, 1, 0, 0, 0), some (.istore_n 3, 1, 0, 0, 0), some (.lconst 1, 1, 0, 0, 0), some (.iload_n 1, 1, 0, 0, 0), some (.bipush 63, 2, 0, 0, 63), none, some (.iand, 1, 0, 0, 0), some (.lshl, 1, 0, 0, 0), some (.lstore 4, 2, 0, 0, 0), none, some (.iload_n 1, 1, 0, 0, 0)], [some (.bipush 64, 2, 0, 0, 64), none, some (.if_icmp .ge 10, 3, 3, 0, 0), none, none, some (.aload_n 0, 1, 0, 0, 0), some (.getfield 15, 3, 3, 1, 0), none, none, some (.goto 7, 3, 0, 0, 0), none, none, some (.aload_n 0, 1, 0, 0, 0), some (.getfield 19, 3, 3, 2, 0), none, none], [some (.astore 6, 2, 0, 0, 0), none, some (.iload_n 3, 1, 0, 0, 0), some (.ifCond .lt 16, 3, 2, 0, 0), none, none, some (.aload 6, 2, 0, 0, 0), none, some (.iload_n 3, 1, 0, 0, 0), some (.dup2, 1, 0, 0, 0), some (.laload, 1, 0, 0, 0), some (.lload 4, 2, 0, 0, 0), none, some (.ldc2_w 28, 3, 18446744073709551615, 0, 0), none, none], [some (.lxor, 1, 0, 0, 0), some (.land, 1, 0, 0, 0), some (.lastore, 1, 0, 0, 0), some (.iload_n 2, 1, 0, 0, 0), some (.ifCond .lt 12, 3, 2, 0, 0), none, none, some (.aload 6, 2, 0, 0, 0), none, some (.iload_n 2, 1, 0, 0, 0), some (.dup2, 1, 0, 0, 0), some (.laload, 1, 0, 0, 0), some (.lload 4, 2, 0, 0, 0), none, some (.lor, 1, 0, 0, 0), some (.lastore, 1, 0, 0, 0)], [some (.aload_n 0, 1, 0, 0, 0), some (.getfield 9, 3, 3, 0, 0), none, none, some (.iload_n 1, 1, 0, 0, 0), some (.iload_n 2, 1, 0, 0, 0), some (.iastore, 1, 0, 0, 0), some (.iload_n 3, 1, 0, 0, 0), some (.ireturn, 1, 0, 0, 0)]]]
def cd_X3_putAll : List (List (List (Option ARow))) := [[[some (.iconst 0, 1, 0, 0, 0), some (.istore 4, 2, 0, 0, 0), none, some (.iload_n 1, 1, 0, 0, 0), some (.istore 5, 2, 0, 0, 0), none, some (.iload 5, 2, 0, 0, 0), none, some (.iload_n 2, 1, 0, 0, 0), some (.if_icmp .gt 59, 3, 4, 0, 0), none, none, some (.iload 5, 2, 0, 0, 0), none, some (.bipush 7, 2, 0, 0, 7), none], [some (.iand, 1, 0, 0, 0), some (.iload_n 1, 1, 0, 0, 0), some (.bipush 7, 2, 0, 0, 7), none, some (.iand, 1, 0, 0, 0), some (.if_icmp .lt 19, 3, 2, 0, 0), none, none, some (.iload 5, 2, 0, 0, 0), none, some (.bipush 7, 2, 0, 0, 7), none, some (.iand, 1, 0, 0, 0), some (.iload_n 2, 1, 0, 0, 0), some (.bipush 7, 2, 0, 0, 7), none], [some (.iand, 1, 0, 0, 0), some (.if_icmp .gt 7, 3, 4, 0, 0), none, none, some (.iconst 1, 1, 0, 0, 0), some (.goto 4, 3, 0, 0, 0), none, none, some (.iconst 0, 1, 0, 0, 0), some (.istore 6, 2, 0, 0, 0), none, some (.iload 6, 2, 0, 0, 0), none, some (.ifCond .eq 17, 3, 0, 0, 0), none, none], [some (.aload_n 0, 1, 0, 0, 0), some (.iload 5, 2, 0, 0, 0), none, some (.iload_n 3, 1, 0, 0, 0), some (.invokevirtual 36, 3, 28, 0, 0), none, none, some (.iload_n 3, 1, 0, 0, 0), some (.if_icmp .eq 6, 3, 0, 0, 0), none, none, some (.iinc 4 1, 3, 0, 0, 0), none, none, some (.iinc 5 1, 3, 0, 0, 0), none], [none, some (.goto (-59), 3, 0, 0, 0), none, none, some (.iload 4, 2, 0, 0, 0), none, some (.ireturn, 1, 0, 0, 0)]]]
def cd_X3_hasCells : List (List (List (Option ARow))) := [[[some (.aload_n 0, 1, 0, 0, 0), some (.getfield 15, 3, 3, 1, 0), none, none, some (.iload_n 1, 1, 0, 0, 0), some (.laload, 1, 0, 0, 0), some (.aload_n 0, 1, 0, 0, 0), some (.getfield 19, 3, 3, 2, 0), none, none, some (.iload_n 1, 1, 0, 0, 0), some (.laload, 1, 0, 0, 0), some (.lor, 1, 0, 0, 0), some (.lconst 0, 1, 0, 0, 0), some (.lcmp, 1, 0, 0, 0), some (.ifCond .eq 7, 3, 0, 0, 0)], [none, none, some (.iconst 1, 1, 0, 0, 0), some (.goto 4, 3, 0, 0, 0), none, none, some (.iconst 0, 1, 0, 0, 0), some (.ireturn, 1, 0, 0, 0)]]]
def cd_X3_countPieces : List (List (List (Option ARow))) := [[[some (.iconst 0, 1, 0, 0, 0), some (.istore_n 1, 1, 0, 0, 0), some (.iconst 0, 1, 0, 0, 0), some (.istore_n 2, 1, 0, 0, 0), some (.iload_n 2, 1, 0, 0, 0), some (.bipush 8, 2, 0, 0, 8), none, some (.if_icmp .ge 20, 3, 3, 0, 0), none, none, some (.aload_n 0, 1, 0, 0, 0), some (.iload_n 2, 1, 0, 0, 0), some (.invokevirtual 40, 3, 30, 0, 0), none, none, some (.ifCond .eq 6, 3, 0, 0, 0)], [none, none, some (.iinc 1 1, 3, 0, 0, 0), none, none, some (.iinc 2 1, 3, 0, 0, 0), none, none, some (.goto (-20), 3, 0, 0, 0), none, none, some (.iload_n 1, 1, 0, 0, 0), some (.ireturn, 1, 0, 0, 0)]]]
def cd_X3_countShut : List (List (List (Option ARow))) := [[[some (.sipush 128, 3, 0, 0, 128), none, none, some (.istore_n 1, 1, 0, 0, 0), some (.iconst 0, 1, 0, 0, 0), some (.istore_n 2, 1, 0, 0, 0), some (.iload_n 2, 1, 0, 0, 0), some (.bipush 8, 2, 0, 0, 8), none, some (.if_icmp .ge 31, 3, 3, 0, 0), none, none, some (.iload_n 1, 1, 0, 0, 0), some (.aload_n 0, 1, 0, 0, 0), some (.getfield 15, 3, 3, 1, 0), none], [none, some (.iload_n 2, 1, 0, 0, 0), some (.laload, 1, 0, 0, 0), some (.invokestatic 44, 3, 298, 1, 0), none, none, some (.aload_n 0, 1, 0, 0, 0), some (.getfield 19, 3, 3, 2, 0), none, none, some (.iload_n 2, 1, 0, 0, 0), some (.laload, 1, 0, 0, 0), some (.invokestatic 44, 3, 298, 1, 0), none, none, some (.iadd, 1, 0, 0, 0)], [some (.isub, 1, 0, 0, 0), some (.istore_n 1, 1, 0, 0, 0), some (.iinc 2 1, 3, 0, 0, 0), none, none, some (.goto (-31), 3, 0, 0, 0), none, none, some (.iload_n 1, 1, 0, 0, 0), some (.ireturn, 1, 0, 0, 0)]]]
def cd_X3_beside : List (List (List (Option ARow))) := [[[some (.lload_n 0, 1, 0, 0, 0), some (.iconst 1, 1, 0, 0, 0), some (.lshl, 1, 0, 0, 0), some (.ldc2_w 50, 3, 18374403900871474942, 0, 0), none, none, some (.land, 1, 0, 0, 0), some (.lload_n 0, 1, 0, 0, 0), some (.iconst 1, 1, 0, 0, 0), some (.lushr, 1, 0, 0, 0), some (.ldc2_w 52, 3, 9187201950435737471, 0, 0), none, none, some (.land, 1, 0, 0, 0), some (.lor, 1, 0, 0, 0), some (.lload_n 0, 1, 0, 0, 0)], [some (.bipush 8, 2, 0, 0, 8), none, some (.lshl, 1, 0, 0, 0), some (.lor, 1, 0, 0, 0), some (.lload_n 0, 1, 0, 0, 0), some (.bipush 8, 2, 0, 0, 8), none, some (.lushr, 1, 0, 0, 0), some (.lor, 1, 0, 0, 0), some (.lload_n 2, 1, 0, 0, 0), some (.lor, 1, 0, 0, 0), some (.lreturn, 1, 0, 0, 0)]]]
def cd_X3_hangs : List (List (List (Option ARow))) := [[[some (.lload_n 0, 1, 0, 0, 0), some (.lload_n 2, 1, 0, 0, 0), some (.lload_n 0, 1, 0, 0, 0), some (.lload_n 2, 1, 0, 0, 0), some (.invokestatic 54, 3, 35, 1, 0), none, none, some (.ireturn, 1, 0, 0, 0)]]]
def cd_X3_reaches : List (List (List (Option ARow))) := [[[some (.lload 4, 2, 0, 0, 0), none, some (.invokestatic 58, 3, 297, 1, 0), none, none, some (.lstore 8, 2, 0, 0, 0), none, some (.lload 4, 2, 0, 0, 0), none, some (.lconst 0, 1, 0, 0, 0), some (.lcmp, 1, 0, 0, 0), some (.ifCond .ne 11, 3, 1, 0, 0), none, none, some (.lload 6, 2, 0, 0, 0), none], [some (.invokestatic 58, 3, 297, 1, 0), none, none, some (.goto 4, 3, 0, 0, 0), none, none, some (.lconst 0, 1, 0, 0, 0), some (.lstore 10, 2, 0, 0, 0), none, some (.iconst 0, 1, 0, 0, 0), some (.istore 12, 2, 0, 0, 0), none, some (.iload 12, 2, 0, 0, 0), none, some (.sipush 128, 3, 0, 0, 128), none], [none, some (.if_icmp .ge 89, 3, 3, 0, 0), none, none, some (.lload 4, 2, 0, 0, 0), none, some (.lload 8, 2, 0, 0, 0), none, some (.ldc2_w 28, 3, 18446744073709551615, 0, 0), none, none, some (.lxor, 1, 0, 0, 0), some (.land, 1, 0, 0, 0), some (.lload 6, 2, 0, 0, 0), none, some (.lload 10, 2, 0, 0, 0)], [none, some (.ldc2_w 28, 3, 18446744073709551615, 0, 0), none, none, some (.lxor, 1, 0, 0, 0), some (.land, 1, 0, 0, 0), some (.lor, 1, 0, 0, 0), some (.lconst 0, 1, 0, 0, 0), some (.lcmp, 1, 0, 0, 0), some (.ifCond .ne 5, 3, 1, 0, 0), none, none, some (.iconst 1, 1, 0, 0, 0), some (.ireturn, 1, 0, 0, 0), some (.lload 8, 2, 0, 0, 0), none], [some (.lload 8, 2, 0, 0, 0), none, some (.lload 10, 2, 0, 0, 0), none, some (.invokestatic 62, 3, 33, 1, 0), none, none, some (.lor, 1, 0, 0, 0), some (.lload_n 0, 1, 0, 0, 0), some (.land, 1, 0, 0, 0), some (.lstore 13, 2, 0, 0, 0), none, some (.lload 10, 2, 0, 0, 0), none, some (.lload 10, 2, 0, 0, 0), none], [some (.lload 13, 2, 0, 0, 0), none, some (.invokestatic 62, 3, 33, 1, 0), none, none, some (.lor, 1, 0, 0, 0), some (.lload_n 2, 1, 0, 0, 0), some (.land, 1, 0, 0, 0), some (.lstore 15, 2, 0, 0, 0), none, some (.lload 13, 2, 0, 0, 0), none, some (.lload 8, 2, 0, 0, 0), none, some (.lcmp, 1, 0, 0, 0), some (.ifCond .ne 13, 3, 1, 0, 0)], [none, none, some (.lload 15, 2, 0, 0, 0), none, some (.lload 10, 2, 0, 0, 0), none, some (.lcmp, 1, 0, 0, 0), some (.ifCond .ne 5, 3, 1, 0, 0), none, none, some (.iconst 0, 1, 0, 0, 0), some (.ireturn, 1, 0, 0, 0), some (.lload 13, 2, 0, 0, 0), none, some (.lstore 8, 2, 0, 0, 0), none], [some (.lload 15, 2, 0, 0, 0), none, some (.lstore 10, 2, 0, 0, 0), none, some (.iinc 12 1, 3, 0, 0, 0), none, none, some (.goto (-91), 3, 0, 0, 0), none, none, some (.iconst 0, 1, 0, 0, 0), some (.ireturn, 1, 0, 0, 0)]]]
def cd_X3_neckAt : List (List (List (Option ARow))) := [[[some (.iload_n 2, 1, 0, 0, 0), some (.ifCond .lt 21, 3, 2, 0, 0), none, none, some (.aload_n 0, 1, 0, 0, 0), some (.getfield 15, 3, 3, 1, 0), none, none, some (.iload_n 1, 1, 0, 0, 0), some (.laload, 1, 0, 0, 0), some (.aload_n 0, 1, 0, 0, 0), some (.getfield 19, 3, 3, 2, 0), none, none, some (.iload_n 1, 1, 0, 0, 0), some (.laload, 1, 0, 0, 0)], [some (.invokestatic 66, 3, 34, 1, 0), none, none, some (.ifCond .ne 5, 3, 1, 0, 0), none, none, some (.iconst (-1), 1, 0, 0, 0), some (.ireturn, 1, 0, 0, 0), some (.iconst 0, 1, 0, 0, 0), some (.istore_n 3, 1, 0, 0, 0), some (.iconst 0, 1, 0, 0, 0), some (.istore 4, 2, 0, 0, 0), none, some (.iload 4, 2, 0, 0, 0), none, some (.sipush 128, 3, 0, 0, 128)], [none, none, some (.if_icmp .ge 41, 3, 3, 0, 0), none, none, some (.aload_n 0, 1, 0, 0, 0), some (.getfield 9, 3, 3, 0, 0), none, none, some (.iload 4, 2, 0, 0, 0), none, some (.iaload, 1, 0, 0, 0), some (.iload_n 1, 1, 0, 0, 0), some (.if_icmp .ne 24, 3, 1, 0, 0), none, none], [some (.aload_n 0, 1, 0, 0, 0), some (.iload_n 1, 1, 0, 0, 0), some (.iload 4, 2, 0, 0, 0), none, some (.invokevirtual 70, 3, 37, 0, 0), none, none, some (.ifCond .ne 14, 3, 1, 0, 0), none, none, some (.iload_n 3, 1, 0, 0, 0), some (.iload_n 2, 1, 0, 0, 0), some (.if_icmp .ne 6, 3, 1, 0, 0), none, none, some (.iload 4, 2, 0, 0, 0)], [none, some (.ireturn, 1, 0, 0, 0), some (.iinc 3 1, 3, 0, 0, 0), none, none, some (.iinc 4 1, 3, 0, 0, 0), none, none, some (.goto (-43), 3, 0, 0, 0), none, none, some (.iconst (-1), 1, 0, 0, 0), some (.ireturn, 1, 0, 0, 0)]]]
def cd_X3_hangsWithout : List (List (List (Option ARow))) := [[[some (.iload_n 2, 1, 0, 0, 0), some (.bipush 64, 2, 0, 0, 64), none, some (.if_icmp .ge 9, 3, 3, 0, 0), none, none, some (.lconst 1, 1, 0, 0, 0), some (.iload_n 2, 1, 0, 0, 0), some (.lshl, 1, 0, 0, 0), some (.goto 4, 3, 0, 0, 0), none, none, some (.lconst 0, 1, 0, 0, 0), some (.lstore_n 3, 1, 0, 0, 0), some (.iload_n 2, 1, 0, 0, 0), some (.bipush 64, 2, 0, 0, 64)], [none, some (.if_icmp .ge 7, 3, 3, 0, 0), none, none, some (.lconst 0, 1, 0, 0, 0), some (.goto 9, 3, 0, 0, 0), none, none, some (.lconst 1, 1, 0, 0, 0), some (.iload_n 2, 1, 0, 0, 0), some (.bipush 63, 2, 0, 0, 63), none, some (.iand, 1, 0, 0, 0), some (.lshl, 1, 0, 0, 0), some (.lstore 5, 2, 0, 0, 0), none], [some (.aload_n 0, 1, 0, 0, 0), some (.getfield 15, 3, 3, 1, 0), none, none, some (.iload_n 1, 1, 0, 0, 0), some (.laload, 1, 0, 0, 0), some (.lload_n 3, 1, 0, 0, 0), some (.ldc2_w 28, 3, 18446744073709551615, 0, 0), none, none, some (.lxor, 1, 0, 0, 0), some (.land, 1, 0, 0, 0), some (.lstore 7, 2, 0, 0, 0), none, some (.aload_n 0, 1, 0, 0, 0), some (.getfield 19, 3, 3, 2, 0)], [none, none, some (.iload_n 1, 1, 0, 0, 0), some (.laload, 1, 0, 0, 0), some (.lload 5, 2, 0, 0, 0), none, some (.ldc2_w 28, 3, 18446744073709551615, 0, 0), none, none, some (.lxor, 1, 0, 0, 0), some (.land, 1, 0, 0, 0), some (.lstore 9, 2, 0, 0, 0), none, some (.lload 7, 2, 0, 0, 0), none, some (.lload 9, 2, 0, 0, 0)], [none, some (.lload_n 3, 1, 0, 0, 0), some (.lload 5, 2, 0, 0, 0), none, some (.invokestatic 62, 3, 33, 1, 0), none, none, some (.lload 7, 2, 0, 0, 0), none, some (.land, 1, 0, 0, 0), some (.lload 5, 2, 0, 0, 0), none, some (.lload_n 3, 1, 0, 0, 0), some (.invokestatic 62, 3, 33, 1, 0), none, none], [some (.lload 9, 2, 0, 0, 0), none, some (.land, 1, 0, 0, 0), some (.invokestatic 54, 3, 35, 1, 0), none, none, some (.ireturn, 1, 0, 0, 0)]]]
def cd_X3_countAtEdge : List (List (List (Option ARow))) := [[[some (.aload_n 0, 1, 0, 0, 0), some (.getfield 15, 3, 3, 1, 0), none, none, some (.iload_n 1, 1, 0, 0, 0), some (.laload, 1, 0, 0, 0), some (.aload_n 0, 1, 0, 0, 0), some (.getfield 15, 3, 3, 1, 0), none, none, some (.iload_n 1, 1, 0, 0, 0), some (.laload, 1, 0, 0, 0), some (.ldc2_w 28, 3, 18446744073709551615, 0, 0), none, none, some (.lxor, 1, 0, 0, 0)], [some (.aload_n 0, 1, 0, 0, 0), some (.getfield 19, 3, 3, 2, 0), none, none, some (.iload_n 1, 1, 0, 0, 0), some (.laload, 1, 0, 0, 0), some (.ldc2_w 28, 3, 18446744073709551615, 0, 0), none, none, some (.lxor, 1, 0, 0, 0), some (.invokestatic 62, 3, 33, 1, 0), none, none, some (.land, 1, 0, 0, 0), some (.lstore 6, 2, 0, 0, 0), none], [some (.aload_n 0, 1, 0, 0, 0), some (.getfield 19, 3, 3, 2, 0), none, none, some (.iload_n 1, 1, 0, 0, 0), some (.laload, 1, 0, 0, 0), some (.aload_n 0, 1, 0, 0, 0), some (.getfield 19, 3, 3, 2, 0), none, none, some (.iload_n 1, 1, 0, 0, 0), some (.laload, 1, 0, 0, 0), some (.ldc2_w 28, 3, 18446744073709551615, 0, 0), none, none, some (.lxor, 1, 0, 0, 0)], [some (.aload_n 0, 1, 0, 0, 0), some (.getfield 15, 3, 3, 1, 0), none, none, some (.iload_n 1, 1, 0, 0, 0), some (.laload, 1, 0, 0, 0), some (.ldc2_w 28, 3, 18446744073709551615, 0, 0), none, none, some (.lxor, 1, 0, 0, 0), some (.invokestatic 62, 3, 33, 1, 0), none, none, some (.land, 1, 0, 0, 0), some (.lstore 8, 2, 0, 0, 0), none], [some (.lload 6, 2, 0, 0, 0), none, some (.lload_n 2, 1, 0, 0, 0), some (.land, 1, 0, 0, 0), some (.invokestatic 44, 3, 298, 1, 0), none, none, some (.lload 8, 2, 0, 0, 0), none, some (.lload 4, 2, 0, 0, 0), none, some (.land, 1, 0, 0, 0), some (.invokestatic 44, 3, 298, 1, 0), none, none, some (.iadd, 1, 0, 0, 0)], [some (.ireturn, 1, 0, 0, 0)]]]
def cd_X3_piecesBeside : List (List (List (Option ARow))) := [[[some (.iconst 0, 1, 0, 0, 0), some (.istore_n 2, 1, 0, 0, 0), some (.iconst 0, 1, 0, 0, 0), some (.istore_n 3, 1, 0, 0, 0), some (.iload_n 3, 1, 0, 0, 0), some (.bipush 6, 2, 0, 0, 6), none, some (.if_icmp .ge 44, 3, 3, 0, 0), none, none, some (.iload_n 1, 1, 0, 0, 0), some (.iload_n 3, 1, 0, 0, 0), some (.invokestatic 74, 3, 100, 1, 0), none, none, some (.istore 4, 2, 0, 0, 0)], [none, some (.iload 4, 2, 0, 0, 0), none, some (.iconst (-1), 1, 0, 0, 0), some (.if_icmp .eq 25, 3, 0, 0, 0), none, none, some (.aload_n 0, 1, 0, 0, 0), some (.getfield 9, 3, 3, 0, 0), none, none, some (.iload 4, 2, 0, 0, 0), none, some (.iaload, 1, 0, 0, 0), some (.ifCond .lt 15, 3, 2, 0, 0), none], [none, some (.iload_n 2, 1, 0, 0, 0), some (.iconst 1, 1, 0, 0, 0), some (.aload_n 0, 1, 0, 0, 0), some (.getfield 9, 3, 3, 0, 0), none, none, some (.iload 4, 2, 0, 0, 0), none, some (.iaload, 1, 0, 0, 0), some (.ishl, 1, 0, 0, 0), some (.ior, 1, 0, 0, 0), some (.istore_n 2, 1, 0, 0, 0), some (.iinc 3 1, 3, 0, 0, 0), none, none], [some (.goto (-44), 3, 0, 0, 0), none, none, some (.iload_n 2, 1, 0, 0, 0), some (.ireturn, 1, 0, 0, 0)]]]
def cd_X3_keepMark : List (List (List (Option ARow))) := [[[some (.aload_n 0, 1, 0, 0, 0), some (.getfield 79, 3, 3, 5, 0), none, none, some (.iconst 4, 1, 0, 0, 0), some (.if_icmp .lt 5, 3, 2, 0, 0), none, none, some (.iconst (-1), 1, 0, 0, 0), some (.ireturn, 1, 0, 0, 0), some (.aload_n 0, 1, 0, 0, 0), some (.getfield 9, 3, 3, 0, 0), none, none, some (.iconst 0, 1, 0, 0, 0), some (.aload_n 0, 1, 0, 0, 0)], [some (.getfield 25, 3, 3, 4, 0), none, none, some (.aload_n 0, 1, 0, 0, 0), some (.getfield 79, 3, 3, 5, 0), none, none, some (.sipush 128, 3, 0, 0, 128), none, none, some (.imul, 1, 0, 0, 0), some (.sipush 128, 3, 0, 0, 128), none, none, some (.invokestatic 83, 3, 0, 5, 0), none], [none, some (.aload_n 0, 1, 0, 0, 0), some (.dup, 1, 0, 0, 0), some (.getfield 79, 3, 3, 5, 0), none, none, some (.iconst 1, 1, 0, 0, 0), some (.iadd, 1, 0, 0, 0), some (.putfield 79, 3, 3, 5, 0), none, none, some (.aload_n 0, 1, 0, 0, 0), some (.getfield 79, 3, 3, 5, 0), none, none, some (.ireturn, 1, 0, 0, 0)]]]
def cd_X3_goBack : List (List (List (Option ARow))) := [[[some (.aload_n 0, 1, 0, 0, 0), some (.getfield 79, 3, 3, 5, 0), none, none, some (.ifCond .gt 5, 3, 4, 0, 0), none, none, some (.iconst (-1), 1, 0, 0, 0), some (.ireturn, 1, 0, 0, 0), some (.aload_n 0, 1, 0, 0, 0), some (.dup, 1, 0, 0, 0), some (.getfield 79, 3, 3, 5, 0), none, none, some (.iconst 1, 1, 0, 0, 0), some (.isub, 1, 0, 0, 0)], [some (.putfield 79, 3, 3, 5, 0), none, none, some (.iconst 0, 1, 0, 0, 0), some (.istore_n 1, 1, 0, 0, 0), some (.iload_n 1, 1, 0, 0, 0), some (.sipush 128, 3, 0, 0, 128), none, none, some (.if_icmp .ge 30, 3, 3, 0, 0), none, none, some (.aload_n 0, 1, 0, 0, 0), some (.iload_n 1, 1, 0, 0, 0), some (.aload_n 0, 1, 0, 0, 0), some (.getfield 25, 3, 3, 4, 0)], [none, none, some (.aload_n 0, 1, 0, 0, 0), some (.getfield 79, 3, 3, 5, 0), none, none, some (.sipush 128, 3, 0, 0, 128), none, none, some (.imul, 1, 0, 0, 0), some (.iload_n 1, 1, 0, 0, 0), some (.iadd, 1, 0, 0, 0), some (.iaload, 1, 0, 0, 0), some (.invokevirtual 36, 3, 28, 0, 0), none, none], [some (.pop, 1, 0, 0, 0), some (.iinc 1 1, 3, 0, 0, 0), none, none, some (.goto (-31), 3, 0, 0, 0), none, none, some (.aload_n 0, 1, 0, 0, 0), some (.getfield 79, 3, 3, 5, 0), none, none, some (.ireturn, 1, 0, 0, 0)]]]
def cd_X4_init : List (List (List (Option ARow))) := [[[some (.aload_n 0, 1, 0, 0, 0), some (.invokespecial 3, 3, 0, 4, 0), none, none, some (.aload_n 0, 1, 0, 0, 0), some (.bipush 6, 2, 0, 0, 6), none, some (.newarray .int, 2, 0, 0, 0), none, some (.putfield 11, 3, 4, 4, 0), none, none, some (.aload_n 0, 1, 0, 0, 0), some (.sipush 1000, 3, 0, 0, 1000), none, none], [some (.putfield 15, 3, 4, 6, 0), none, none, some (.aload_n 0, 1, 0, 0, 0), some (.bipush 6, 2, 0, 0, 6), none, some (.newarray .int, 2, 0, 0, 0), none, some (.putfield 19, 3, 4, 7, 0), none, none, some (.aload_n 0, 1, 0, 0, 0), some (.sipush 144, 3, 0, 0, 144), none, none, some (.newarray .boolean, 2, 2, 0, 0)], [none, some (.putfield 22, 3, 4, 8, 0), none, none, some (.aload_n 0, 1, 0, 0, 0), some (.bipush 24, 2, 0, 0, 24), none, some (.newarray .int, 2, 0, 0, 0), none, some (.putfield 26, 3, 4, 9, 0), none, none, some (.aload_n 0, 1, 0, 0, 0), some (.sipush 3456, 3, 0, 0, 3456), none, none], [some (.newarray .int, 2, 0, 0, 0), none, some (.putfield 29, 3, 4, 10, 0), none, none, some (.aload_n 0, 1, 0, 0, 0), some (.bipush 24, 2, 0, 0, 24), none, some (.newarray .int, 2, 0, 0, 0), none, some (.putfield 32, 3, 4, 11, 0), none, none, some (.aload_n 0, 1, 0, 0, 0), some (.aload_n 1, 1, 0, 0, 0), some (.putfield 35, 3, 4, 0, 0)], [none, none, some (.aload_n 0, 1, 0, 0, 0), some (.aload_n 2, 1, 0, 0, 0), some (.putfield 39, 3, 4, 1, 0), none, none, some (.aload_n 0, 1, 0, 0, 0), some (.aload_n 3, 1, 0, 0, 0), some (.putfield 43, 3, 4, 2, 0), none, none, some (.aload_n 0, 1, 0, 0, 0), some (.aload 4, 2, 0, 0, 0), none, some (.putfield 47, 3, 4, 3, 0)], [none, none, some (.return_, 1, 0, 0, 0)]]]
def cd_X4_add : List (List (List (Option ARow))) := [[[some (.aload_n 0, 1, 0, 0, 0), some (.getfield 51, 3, 4, 5, 0), none, none, some (.bipush 6, 2, 0, 0, 6), none, some (.if_icmp .lt 5, 3, 2, 0, 0), none, none, some (.iconst (-1), 1, 0, 0, 0), some (.ireturn, 1, 0, 0, 0), some (.aload_n 0, 1, 0, 0, 0), some (.getfield 11, 3, 4, 4, 0), none, none, some (.aload_n 0, 1, 0, 0, 0)], [some (.getfield 51, 3, 4, 5, 0), none, none, some (.iload_n 1, 1, 0, 0, 0), some (.iastore, 1, 0, 0, 0), some (.aload_n 0, 1, 0, 0, 0), some (.dup, 1, 0, 0, 0), some (.getfield 51, 3, 4, 5, 0), none, none, some (.iconst 1, 1, 0, 0, 0), some (.iadd, 1, 0, 0, 0), some (.putfield 51, 3, 4, 5, 0), none, none, some (.aload_n 0, 1, 0, 0, 0)], [some (.getfield 51, 3, 4, 5, 0), none, none, some (.iconst 1, 1, 0, 0, 0), some (.isub, 1, 0, 0, 0), some (.ireturn, 1, 0, 0, 0)]]]
def cd_X4_needAt : List (List (List (Option ARow))) := [[[some (.aload_n 0, 1, 0, 0, 0), some (.getfield 19, 3, 4, 7, 0), none, none, some (.aload_n 0, 1, 0, 0, 0), some (.getfield 32, 3, 4, 11, 0), none, none, some (.iload_n 1, 1, 0, 0, 0), some (.iaload, 1, 0, 0, 0), some (.iaload, 1, 0, 0, 0), some (.ireturn, 1, 0, 0, 0)]]]
def cd_X4_judge : List (List (List (Option ARow))) := [[[some (.aload_n 0, 1, 0, 0, 0), some (.getfield 19, 3, 4, 7, 0), none, none, some (.iload_n 1, 1, 0, 0, 0), some (.iconst 0, 1, 0, 0, 0), some (.iastore, 1, 0, 0, 0), some (.iconst 0, 1, 0, 0, 0), some (.istore_n 2, 1, 0, 0, 0), some (.iload_n 2, 1, 0, 0, 0), some (.bipush 24, 2, 0, 0, 24), none, some (.if_icmp .ge 21, 3, 3, 0, 0), none, none, some (.aload_n 0, 1, 0, 0, 0)], [some (.getfield 22, 3, 4, 8, 0), none, none, some (.iload_n 1, 1, 0, 0, 0), some (.bipush 24, 2, 0, 0, 24), none, some (.imul, 1, 0, 0, 0), some (.iload_n 2, 1, 0, 0, 0), some (.iadd, 1, 0, 0, 0), some (.iconst 1, 1, 0, 0, 0), some (.bastore, 1, 0, 0, 0), some (.iinc 2 1, 3, 0, 0, 0), none, none, some (.goto (-21), 3, 0, 0, 0), none], [none, some (.iconst 0, 1, 0, 0, 0), some (.istore_n 2, 1, 0, 0, 0), some (.iload_n 2, 1, 0, 0, 0), some (.bipush 8, 2, 0, 0, 8), none, some (.if_icmp .ge 153, 3, 3, 0, 0), none, none, some (.lconst 0, 1, 0, 0, 0), some (.lstore_n 3, 1, 0, 0, 0), some (.lconst 0, 1, 0, 0, 0), some (.lstore 5, 2, 0, 0, 0), none, some (.iconst 0, 1, 0, 0, 0), some (.istore 7, 2, 0, 0, 0)], [none, some (.iconst 0, 1, 0, 0, 0), some (.istore 8, 2, 0, 0, 0), none, some (.bipush 7, 2, 0, 0, 7), none, some (.istore 9, 2, 0, 0, 0), none, some (.iload 9, 2, 0, 0, 0), none, some (.ifCond .lt 82, 3, 2, 0, 0), none, none, some (.aload_n 0, 1, 0, 0, 0), some (.getfield 11, 3, 4, 4, 0), none], [none, some (.iload_n 1, 1, 0, 0, 0), some (.iaload, 1, 0, 0, 0), some (.iconst 3, 1, 0, 0, 0), some (.iload 9, 2, 0, 0, 0), none, some (.imul, 1, 0, 0, 0), some (.ishr, 1, 0, 0, 0), some (.bipush 7, 2, 0, 0, 7), none, some (.iand, 1, 0, 0, 0), some (.iload_n 2, 1, 0, 0, 0), some (.if_icmp .ne 58, 3, 1, 0, 0), none, none, some (.aload_n 0, 1, 0, 0, 0)], [some (.getfield 43, 3, 4, 2, 0), none, none, some (.iload 9, 2, 0, 0, 0), none, some (.invokevirtual 54, 3, 30, 0, 0), none, none, some (.ifCond .eq 46, 3, 0, 0, 0), none, none, some (.lload_n 3, 1, 0, 0, 0), some (.aload_n 0, 1, 0, 0, 0), some (.getfield 43, 3, 4, 2, 0), none, none], [some (.getfield 60, 3, 3, 1, 0), none, none, some (.iload 9, 2, 0, 0, 0), none, some (.laload, 1, 0, 0, 0), some (.lor, 1, 0, 0, 0), some (.lstore_n 3, 1, 0, 0, 0), some (.lload 5, 2, 0, 0, 0), none, some (.aload_n 0, 1, 0, 0, 0), some (.getfield 43, 3, 4, 2, 0), none, none, some (.getfield 64, 3, 3, 2, 0), none], [none, some (.iload 9, 2, 0, 0, 0), none, some (.laload, 1, 0, 0, 0), some (.lor, 1, 0, 0, 0), some (.lstore 5, 2, 0, 0, 0), none, some (.iinc 7 1, 3, 0, 0, 0), none, none, some (.aload_n 0, 1, 0, 0, 0), some (.getfield 43, 3, 4, 2, 0), none, none, some (.getfield 67, 3, 3, 3, 0), none], [none, some (.iload 9, 2, 0, 0, 0), none, some (.iaload, 1, 0, 0, 0), some (.istore 8, 2, 0, 0, 0), none, some (.iinc 9 (-1), 3, 0, 0, 0), none, none, some (.goto (-81), 3, 0, 0, 0), none, none, some (.iload 7, 2, 0, 0, 0), none, some (.ifCond .le 43, 3, 5, 0, 0), none], [none, some (.aload_n 0, 1, 0, 0, 0), some (.getfield 19, 3, 4, 7, 0), none, none, some (.iload_n 1, 1, 0, 0, 0), some (.dup2, 1, 0, 0, 0), some (.iaload, 1, 0, 0, 0), some (.iconst 1, 1, 0, 0, 0), some (.iadd, 1, 0, 0, 0), some (.iastore, 1, 0, 0, 0), some (.aload_n 0, 1, 0, 0, 0), some (.getfield 47, 3, 4, 3, 0), none, none, some (.lload_n 3, 1, 0, 0, 0)], [some (.lload 5, 2, 0, 0, 0), none, some (.iload 7, 2, 0, 0, 0), none, some (.invokevirtual 70, 3, 1, 0, 0), none, none, some (.aload_n 0, 1, 0, 0, 0), some (.iload_n 1, 1, 0, 0, 0), some (.iload 8, 2, 0, 0, 0), none, some (.iload 7, 2, 0, 0, 0), none, some (.iconst 1, 1, 0, 0, 0), some (.if_icmp .le 7, 3, 5, 0, 0), none], [none, some (.iconst 1, 1, 0, 0, 0), some (.goto 4, 3, 0, 0, 0), none, none, some (.iconst 0, 1, 0, 0, 0), some (.invokevirtual 76, 3, 46, 0, 0), none, none, some (.iinc 2 1, 3, 0, 0, 0), none, none, some (.goto (-153), 3, 0, 0, 0), none, none, some (.return_, 1, 0, 0, 0)]]]
def cd_X4_judgeGroup : List (List (List (Option ARow))) := [[[some (.iconst 0, 1, 0, 0, 0), some (.istore 4, 2, 0, 0, 0), none, some (.iload 4, 2, 0, 0, 0), none, some (.bipush 24, 2, 0, 0, 24), none, some (.if_icmp .ge 120, 3, 3, 0, 0), none, none, some (.iload_n 1, 1, 0, 0, 0), some (.bipush 24, 2, 0, 0, 24), none, some (.imul, 1, 0, 0, 0), some (.iload 4, 2, 0, 0, 0), none], [some (.iadd, 1, 0, 0, 0), some (.istore 5, 2, 0, 0, 0), none, some (.aload_n 0, 1, 0, 0, 0), some (.getfield 35, 3, 4, 0, 0), none, none, some (.getfield 80, 3, 9, 15, 0), none, none, some (.iload 4, 2, 0, 0, 0), none, some (.iaload, 1, 0, 0, 0), some (.iload 4, 2, 0, 0, 0), none, some (.if_icmp .eq 33, 3, 0, 0, 0)], [none, none, some (.aload_n 0, 1, 0, 0, 0), some (.getfield 22, 3, 4, 8, 0), none, none, some (.iload 5, 2, 0, 0, 0), none, some (.aload_n 0, 1, 0, 0, 0), some (.getfield 22, 3, 4, 8, 0), none, none, some (.iload_n 1, 1, 0, 0, 0), some (.bipush 24, 2, 0, 0, 24), none, some (.imul, 1, 0, 0, 0)], [some (.aload_n 0, 1, 0, 0, 0), some (.getfield 35, 3, 4, 0, 0), none, none, some (.getfield 80, 3, 9, 15, 0), none, none, some (.iload 4, 2, 0, 0, 0), none, some (.iaload, 1, 0, 0, 0), some (.iadd, 1, 0, 0, 0), some (.baload, 1, 0, 0, 0), some (.bastore, 1, 0, 0, 0), some (.goto 60, 3, 0, 0, 0), none, none], [some (.aload_n 0, 1, 0, 0, 0), some (.getfield 22, 3, 4, 8, 0), none, none, some (.iload 5, 2, 0, 0, 0), none, some (.baload, 1, 0, 0, 0), some (.ifCond .eq 50, 3, 0, 0, 0), none, none, some (.aload_n 0, 1, 0, 0, 0), some (.getfield 22, 3, 4, 8, 0), none, none, some (.iload 5, 2, 0, 0, 0), none], [some (.aload_n 0, 1, 0, 0, 0), some (.getfield 47, 3, 4, 3, 0), none, none, some (.iload 4, 2, 0, 0, 0), none, some (.iconst (-1), 1, 0, 0, 0), some (.invokevirtual 85, 3, 4, 0, 0), none, none, some (.iload_n 2, 1, 0, 0, 0), some (.if_icmp .gt 28, 3, 4, 0, 0), none, none, some (.iload_n 3, 1, 0, 0, 0), some (.ifCond .eq 20, 3, 0, 0, 0)], [none, none, some (.aload_n 0, 1, 0, 0, 0), some (.getfield 39, 3, 4, 1, 0), none, none, some (.aload_n 0, 1, 0, 0, 0), some (.getfield 47, 3, 4, 3, 0), none, none, some (.getfield 89, 3, 0, 11, 0), none, none, some (.invokevirtual 92, 3, 83, 0, 0), none, none], [some (.ifCond .eq 7, 3, 0, 0, 0), none, none, some (.iconst 1, 1, 0, 0, 0), some (.goto 4, 3, 0, 0, 0), none, none, some (.iconst 0, 1, 0, 0, 0), some (.bastore, 1, 0, 0, 0), some (.iinc 4 1, 3, 0, 0, 0), none, none, some (.goto (-121), 3, 0, 0, 0), none, none, some (.return_, 1, 0, 0, 0)]]]
def cd_X4_addLoads : List (List (List (Option ARow))) := [[[some (.aload_n 0, 1, 0, 0, 0), some (.getfield 26, 3, 4, 9, 0), none, none, some (.iconst 0, 1, 0, 0, 0), some (.invokestatic 98, 3, 312, 1, 0), none, none, some (.iconst 0, 1, 0, 0, 0), some (.istore_n 1, 1, 0, 0, 0), some (.iload_n 1, 1, 0, 0, 0), some (.bipush 8, 2, 0, 0, 8), none, some (.if_icmp .ge 106, 3, 3, 0, 0), none, none], [some (.aload_n 0, 1, 0, 0, 0), some (.getfield 43, 3, 4, 2, 0), none, none, some (.iload_n 1, 1, 0, 0, 0), some (.invokevirtual 54, 3, 30, 0, 0), none, none, some (.ifCond .eq 89, 3, 0, 0, 0), none, none, some (.aload_n 0, 1, 0, 0, 0), some (.getfield 47, 3, 4, 3, 0), none, none, some (.aload_n 0, 1, 0, 0, 0)], [some (.getfield 43, 3, 4, 2, 0), none, none, some (.getfield 60, 3, 3, 1, 0), none, none, some (.iload_n 1, 1, 0, 0, 0), some (.laload, 1, 0, 0, 0), some (.aload_n 0, 1, 0, 0, 0), some (.getfield 43, 3, 4, 2, 0), none, none, some (.getfield 64, 3, 3, 2, 0), none, none, some (.iload_n 1, 1, 0, 0, 0)], [some (.laload, 1, 0, 0, 0), some (.iconst 1, 1, 0, 0, 0), some (.invokevirtual 70, 3, 1, 0, 0), none, none, some (.iconst 0, 1, 0, 0, 0), some (.istore_n 2, 1, 0, 0, 0), some (.iload_n 2, 1, 0, 0, 0), some (.bipush 24, 2, 0, 0, 24), none, some (.if_icmp .ge 55, 3, 3, 0, 0), none, none, some (.aload_n 0, 1, 0, 0, 0), some (.getfield 35, 3, 4, 0, 0), none], [none, some (.getfield 80, 3, 9, 15, 0), none, none, some (.iload_n 2, 1, 0, 0, 0), some (.iaload, 1, 0, 0, 0), some (.istore_n 3, 1, 0, 0, 0), some (.aload_n 0, 1, 0, 0, 0), some (.getfield 26, 3, 4, 9, 0), none, none, some (.iload_n 2, 1, 0, 0, 0), some (.iload_n 3, 1, 0, 0, 0), some (.iload_n 2, 1, 0, 0, 0), some (.if_icmp .ne 22, 3, 1, 0, 0), none], [none, some (.aload_n 0, 1, 0, 0, 0), some (.getfield 26, 3, 4, 9, 0), none, none, some (.iload_n 2, 1, 0, 0, 0), some (.iaload, 1, 0, 0, 0), some (.aload_n 0, 1, 0, 0, 0), some (.getfield 47, 3, 4, 3, 0), none, none, some (.iload_n 2, 1, 0, 0, 0), some (.iconst (-1), 1, 0, 0, 0), some (.invokevirtual 85, 3, 4, 0, 0), none, none], [some (.iadd, 1, 0, 0, 0), some (.goto 9, 3, 0, 0, 0), none, none, some (.aload_n 0, 1, 0, 0, 0), some (.getfield 26, 3, 4, 9, 0), none, none, some (.iload_n 3, 1, 0, 0, 0), some (.iaload, 1, 0, 0, 0), some (.iastore, 1, 0, 0, 0), some (.iinc 2 1, 3, 0, 0, 0), none, none, some (.goto (-55), 3, 0, 0, 0), none], [none, some (.iinc 1 1, 3, 0, 0, 0), none, none, some (.goto (-106), 3, 0, 0, 0), none, none, some (.return_, 1, 0, 0, 0)]]]
def cd_X4_solve : List (List (List (Option ARow))) := [[[some (.iconst 0, 1, 0, 0, 0), some (.istore_n 2, 1, 0, 0, 0), some (.iload_n 2, 1, 0, 0, 0), some (.aload_n 0, 1, 0, 0, 0), some (.getfield 51, 3, 4, 5, 0), none, none, some (.if_icmp .ge 14, 3, 3, 0, 0), none, none, some (.aload_n 0, 1, 0, 0, 0), some (.iload_n 2, 1, 0, 0, 0), some (.invokevirtual 104, 3, 45, 0, 0), none, none, some (.iinc 2 1, 3, 0, 0, 0)], [none, none, some (.goto (-16), 3, 0, 0, 0), none, none, some (.aload_n 0, 1, 0, 0, 0), some (.invokevirtual 108, 3, 47, 0, 0), none, none, some (.bipush 23, 2, 0, 0, 23), none, some (.istore_n 2, 1, 0, 0, 0), some (.iload_n 2, 1, 0, 0, 0), some (.ifCond .lt 102, 3, 2, 0, 0), none, none], [some (.iconst 0, 1, 0, 0, 0), some (.istore_n 3, 1, 0, 0, 0), some (.iload_n 3, 1, 0, 0, 0), some (.aload_n 0, 1, 0, 0, 0), some (.getfield 51, 3, 4, 5, 0), none, none, some (.if_icmp .ge 86, 3, 3, 0, 0), none, none, some (.iconst 0, 1, 0, 0, 0), some (.istore 4, 2, 0, 0, 0), none, some (.iload 4, 2, 0, 0, 0), none, some (.iload_n 1, 1, 0, 0, 0)], [some (.if_icmp .gt 71, 3, 4, 0, 0), none, none, some (.aload_n 0, 1, 0, 0, 0), some (.getfield 22, 3, 4, 8, 0), none, none, some (.iload_n 3, 1, 0, 0, 0), some (.bipush 24, 2, 0, 0, 24), none, some (.imul, 1, 0, 0, 0), some (.iload_n 2, 1, 0, 0, 0), some (.iadd, 1, 0, 0, 0), some (.baload, 1, 0, 0, 0), some (.ifCond .eq 14, 3, 0, 0, 0), none], [none, some (.aload_n 0, 1, 0, 0, 0), some (.iload_n 2, 1, 0, 0, 0), some (.iload_n 3, 1, 0, 0, 0), some (.iload 4, 2, 0, 0, 0), none, some (.invokevirtual 111, 3, 50, 0, 0), none, none, some (.goto 5, 3, 0, 0, 0), none, none, some (.ldc 115, 2, 0, 0, 1000000), none, some (.istore 5, 2, 0, 0, 0), none], [some (.aload_n 0, 1, 0, 0, 0), some (.getfield 29, 3, 4, 10, 0), none, none, some (.iload_n 2, 1, 0, 0, 0), some (.iload_n 3, 1, 0, 0, 0), some (.iload 4, 2, 0, 0, 0), none, some (.invokestatic 116, 3, 49, 1, 0), none, none, some (.iload 5, 2, 0, 0, 0), none, some (.ldc 115, 2, 0, 0, 1000000), none, some (.if_icmp .lt 8, 3, 2, 0, 0)], [none, none, some (.ldc 115, 2, 0, 0, 1000000), none, some (.goto 12, 3, 0, 0, 0), none, none, some (.aload_n 0, 1, 0, 0, 0), some (.getfield 19, 3, 4, 7, 0), none, none, some (.iload_n 3, 1, 0, 0, 0), some (.iaload, 1, 0, 0, 0), some (.iload 5, 2, 0, 0, 0), none, some (.iadd, 1, 0, 0, 0)], [some (.iastore, 1, 0, 0, 0), some (.iinc 4 1, 3, 0, 0, 0), none, none, some (.goto (-71), 3, 0, 0, 0), none, none, some (.iinc 3 1, 3, 0, 0, 0), none, none, some (.goto (-88), 3, 0, 0, 0), none, none, some (.iinc 2 (-1), 3, 0, 0, 0), none, none], [some (.goto (-100), 3, 0, 0, 0), none, none, some (.aload_n 0, 1, 0, 0, 0), some (.iload_n 1, 1, 0, 0, 0), some (.invokevirtual 119, 3, 51, 0, 0), none, none, some (.ireturn, 1, 0, 0, 0)]]]
def cd_X4_placeOf : List (List (List (Option ARow))) := [[[some (.iload_n 0, 1, 0, 0, 0), some (.bipush 6, 2, 0, 0, 6), none, some (.imul, 1, 0, 0, 0), some (.iload_n 1, 1, 0, 0, 0), some (.iadd, 1, 0, 0, 0), some (.bipush 24, 2, 0, 0, 24), none, some (.imul, 1, 0, 0, 0), some (.iload_n 2, 1, 0, 0, 0), some (.iadd, 1, 0, 0, 0), some (.ireturn, 1, 0, 0, 0)]]]
def cd_X4_fewestBehind : List (List (List (Option ARow))) := [[[some (.iload_n 1, 1, 0, 0, 0), some (.bipush 23, 2, 0, 0, 23), none, some (.if_icmp .ne 14, 3, 1, 0, 0), none, none, some (.iload_n 3, 1, 0, 0, 0), some (.ifCond .ne 7, 3, 1, 0, 0), none, none, some (.iconst 0, 1, 0, 0, 0), some (.goto 5, 3, 0, 0, 0), none, none, some (.ldc 115, 2, 0, 0, 1000000), none], [some (.ireturn, 1, 0, 0, 0), some (.aload_n 0, 1, 0, 0, 0), some (.getfield 29, 3, 4, 10, 0), none, none, some (.iload_n 1, 1, 0, 0, 0), some (.iconst 1, 1, 0, 0, 0), some (.iadd, 1, 0, 0, 0), some (.iload_n 2, 1, 0, 0, 0), some (.iload_n 3, 1, 0, 0, 0), some (.invokestatic 116, 3, 49, 1, 0), none, none, some (.iaload, 1, 0, 0, 0), some (.istore 4, 2, 0, 0, 0), none], [some (.iload_n 3, 1, 0, 0, 0), some (.ifCond .le 65, 3, 5, 0, 0), none, none, some (.aload_n 0, 1, 0, 0, 0), some (.getfield 26, 3, 4, 9, 0), none, none, some (.iload_n 1, 1, 0, 0, 0), some (.iconst 1, 1, 0, 0, 0), some (.iadd, 1, 0, 0, 0), some (.iaload, 1, 0, 0, 0), some (.aload_n 0, 1, 0, 0, 0), some (.getfield 15, 3, 4, 6, 0), none, none], [some (.if_icmp .gt 50, 3, 4, 0, 0), none, none, some (.iconst 0, 1, 0, 0, 0), some (.istore 5, 2, 0, 0, 0), none, some (.iload 5, 2, 0, 0, 0), none, some (.aload_n 0, 1, 0, 0, 0), some (.getfield 51, 3, 4, 5, 0), none, none, some (.if_icmp .ge 38, 3, 3, 0, 0), none, none, some (.iload 5, 2, 0, 0, 0)], [none, some (.iload_n 2, 1, 0, 0, 0), some (.if_icmp .eq 26, 3, 0, 0, 0), none, none, some (.iload 4, 2, 0, 0, 0), none, some (.aload_n 0, 1, 0, 0, 0), some (.getfield 29, 3, 4, 10, 0), none, none, some (.iload_n 1, 1, 0, 0, 0), some (.iconst 1, 1, 0, 0, 0), some (.iadd, 1, 0, 0, 0), some (.iload 5, 2, 0, 0, 0), none], [some (.iload_n 3, 1, 0, 0, 0), some (.iconst 1, 1, 0, 0, 0), some (.isub, 1, 0, 0, 0), some (.invokestatic 116, 3, 49, 1, 0), none, none, some (.iaload, 1, 0, 0, 0), some (.invokestatic 122, 3, 301, 1, 0), none, none, some (.istore 4, 2, 0, 0, 0), none, some (.iinc 5 1, 3, 0, 0, 0), none, none, some (.goto (-41), 3, 0, 0, 0)], [none, none, some (.iload 4, 2, 0, 0, 0), none, some (.ireturn, 1, 0, 0, 0)]]]
def cd_X4_choose : List (List (List (Option ARow))) := [[[some (.aload_n 0, 1, 0, 0, 0), some (.ldc 115, 2, 0, 0, 1000000), none, some (.putfield 127, 3, 4, 12, 0), none, none, some (.aload_n 0, 1, 0, 0, 0), some (.iconst 0, 1, 0, 0, 0), some (.putfield 130, 3, 4, 13, 0), none, none, some (.aload_n 0, 1, 0, 0, 0), some (.getfield 32, 3, 4, 11, 0), none, none, some (.iconst 0, 1, 0, 0, 0)], [some (.iconst 0, 1, 0, 0, 0), some (.iastore, 1, 0, 0, 0), some (.iconst 0, 1, 0, 0, 0), some (.istore_n 2, 1, 0, 0, 0), some (.iload_n 2, 1, 0, 0, 0), some (.iload_n 1, 1, 0, 0, 0), some (.if_icmp .gt 65, 3, 4, 0, 0), none, none, some (.iconst 0, 1, 0, 0, 0), some (.istore_n 3, 1, 0, 0, 0), some (.iload_n 3, 1, 0, 0, 0), some (.aload_n 0, 1, 0, 0, 0), some (.getfield 51, 3, 4, 5, 0), none, none], [some (.if_icmp .ge 49, 3, 3, 0, 0), none, none, some (.aload_n 0, 1, 0, 0, 0), some (.getfield 29, 3, 4, 10, 0), none, none, some (.iconst 0, 1, 0, 0, 0), some (.iload_n 3, 1, 0, 0, 0), some (.iload_n 2, 1, 0, 0, 0), some (.invokestatic 116, 3, 49, 1, 0), none, none, some (.iaload, 1, 0, 0, 0), some (.istore 4, 2, 0, 0, 0), none], [some (.iload 4, 2, 0, 0, 0), none, some (.aload_n 0, 1, 0, 0, 0), some (.getfield 127, 3, 4, 12, 0), none, none, some (.if_icmp .ge 21, 3, 3, 0, 0), none, none, some (.aload_n 0, 1, 0, 0, 0), some (.iload 4, 2, 0, 0, 0), none, some (.putfield 127, 3, 4, 12, 0), none, none, some (.aload_n 0, 1, 0, 0, 0)], [some (.iload_n 2, 1, 0, 0, 0), some (.putfield 130, 3, 4, 13, 0), none, none, some (.aload_n 0, 1, 0, 0, 0), some (.getfield 32, 3, 4, 11, 0), none, none, some (.iconst 0, 1, 0, 0, 0), some (.iload_n 3, 1, 0, 0, 0), some (.iastore, 1, 0, 0, 0), some (.iinc 3 1, 3, 0, 0, 0), none, none, some (.goto (-51), 3, 0, 0, 0), none], [none, some (.iinc 2 1, 3, 0, 0, 0), none, none, some (.goto (-64), 3, 0, 0, 0), none, none, some (.aload_n 0, 1, 0, 0, 0), some (.getfield 127, 3, 4, 12, 0), none, none, some (.ldc 115, 2, 0, 0, 1000000), none, some (.if_icmp .lt 5, 3, 2, 0, 0), none, none], [some (.iconst 0, 1, 0, 0, 0), some (.ireturn, 1, 0, 0, 0), some (.aload_n 0, 1, 0, 0, 0), some (.getfield 130, 3, 4, 13, 0), none, none, some (.istore_n 2, 1, 0, 0, 0), some (.aload_n 0, 1, 0, 0, 0), some (.getfield 127, 3, 4, 12, 0), none, none, some (.istore_n 3, 1, 0, 0, 0), some (.iconst 1, 1, 0, 0, 0), some (.istore 4, 2, 0, 0, 0), none, some (.iload 4, 2, 0, 0, 0)], [none, some (.bipush 24, 2, 0, 0, 24), none, some (.if_icmp .ge 63, 3, 3, 0, 0), none, none, some (.iload_n 3, 1, 0, 0, 0), some (.aload_n 0, 1, 0, 0, 0), some (.getfield 19, 3, 4, 7, 0), none, none, some (.aload_n 0, 1, 0, 0, 0), some (.getfield 32, 3, 4, 11, 0), none, none, some (.iload 4, 2, 0, 0, 0)], [none, some (.iconst 1, 1, 0, 0, 0), some (.isub, 1, 0, 0, 0), some (.iaload, 1, 0, 0, 0), some (.iaload, 1, 0, 0, 0), some (.isub, 1, 0, 0, 0), some (.istore_n 3, 1, 0, 0, 0), some (.aload_n 0, 1, 0, 0, 0), some (.getfield 32, 3, 4, 11, 0), none, none, some (.iload 4, 2, 0, 0, 0), none, some (.aload_n 0, 1, 0, 0, 0), some (.iload 4, 2, 0, 0, 0), none], [some (.iload_n 2, 1, 0, 0, 0), some (.iload_n 3, 1, 0, 0, 0), some (.invokevirtual 133, 3, 52, 0, 0), none, none, some (.iastore, 1, 0, 0, 0), some (.aload_n 0, 1, 0, 0, 0), some (.getfield 32, 3, 4, 11, 0), none, none, some (.iload 4, 2, 0, 0, 0), none, some (.iaload, 1, 0, 0, 0), some (.aload_n 0, 1, 0, 0, 0), some (.getfield 32, 3, 4, 11, 0), none], [none, some (.iload 4, 2, 0, 0, 0), none, some (.iconst 1, 1, 0, 0, 0), some (.isub, 1, 0, 0, 0), some (.iaload, 1, 0, 0, 0), some (.if_icmp .eq 6, 3, 0, 0, 0), none, none, some (.iinc 2 (-1), 3, 0, 0, 0), none, none, some (.iinc 4 1, 3, 0, 0, 0), none, none, some (.goto (-64), 3, 0, 0, 0)], [none, none, some (.iconst 1, 1, 0, 0, 0), some (.ireturn, 1, 0, 0, 0)]]]
def cd_X4_nextOf : List (List (List (Option ARow))) := [[[some (.aload_n 0, 1, 0, 0, 0), some (.getfield 32, 3, 4, 11, 0), none, none, some (.iload_n 1, 1, 0, 0, 0), some (.iconst 1, 1, 0, 0, 0), some (.isub, 1, 0, 0, 0), some (.iaload, 1, 0, 0, 0), some (.istore 4, 2, 0, 0, 0), none, some (.iconst 0, 1, 0, 0, 0), some (.istore 5, 2, 0, 0, 0), none, some (.iload 5, 2, 0, 0, 0), none, some (.aload_n 0, 1, 0, 0, 0)], [some (.getfield 51, 3, 4, 5, 0), none, none, some (.if_icmp .ge 73, 3, 3, 0, 0), none, none, some (.iload 5, 2, 0, 0, 0), none, some (.iload 4, 2, 0, 0, 0), none, some (.if_icmp .ne 22, 3, 1, 0, 0), none, none, some (.aload_n 0, 1, 0, 0, 0), some (.getfield 29, 3, 4, 10, 0), none], [none, some (.iload_n 1, 1, 0, 0, 0), some (.iload 5, 2, 0, 0, 0), none, some (.iload_n 2, 1, 0, 0, 0), some (.invokestatic 116, 3, 49, 1, 0), none, none, some (.iaload, 1, 0, 0, 0), some (.iload_n 3, 1, 0, 0, 0), some (.if_icmp .ne 44, 3, 1, 0, 0), none, none, some (.iload 5, 2, 0, 0, 0), none, some (.ireturn, 1, 0, 0, 0)], [some (.iload_n 2, 1, 0, 0, 0), some (.ifCond .le 37, 3, 5, 0, 0), none, none, some (.aload_n 0, 1, 0, 0, 0), some (.getfield 26, 3, 4, 9, 0), none, none, some (.iload_n 1, 1, 0, 0, 0), some (.iaload, 1, 0, 0, 0), some (.aload_n 0, 1, 0, 0, 0), some (.getfield 15, 3, 4, 6, 0), none, none, some (.if_icmp .gt 24, 3, 4, 0, 0), none], [none, some (.aload_n 0, 1, 0, 0, 0), some (.getfield 29, 3, 4, 10, 0), none, none, some (.iload_n 1, 1, 0, 0, 0), some (.iload 5, 2, 0, 0, 0), none, some (.iload_n 2, 1, 0, 0, 0), some (.iconst 1, 1, 0, 0, 0), some (.isub, 1, 0, 0, 0), some (.invokestatic 116, 3, 49, 1, 0), none, none, some (.iaload, 1, 0, 0, 0), some (.iload_n 3, 1, 0, 0, 0)], [some (.if_icmp .ne 6, 3, 1, 0, 0), none, none, some (.iload 5, 2, 0, 0, 0), none, some (.ireturn, 1, 0, 0, 0), some (.iinc 5 1, 3, 0, 0, 0), none, none, some (.goto (-76), 3, 0, 0, 0), none, none, some (.iload 4, 2, 0, 0, 0), none, some (.ireturn, 1, 0, 0, 0)]]]
def cd_X5_init : List (List (List (Option ARow))) := [[[some (.aload_n 0, 1, 0, 0, 0), some (.invokespecial 3, 3, 0, 4, 0), none, none, some (.aload_n 0, 1, 0, 0, 0), some (.bipush 8, 2, 0, 0, 8), none, some (.newarray .int, 2, 0, 0, 0), none, some (.putfield 11, 3, 5, 2, 0), none, none, some (.aload_n 0, 1, 0, 0, 0), some (.sipush 256, 3, 0, 0, 256), none, none], [some (.newarray .boolean, 2, 2, 0, 0), none, some (.putfield 15, 3, 5, 4, 0), none, none, some (.aload_n 0, 1, 0, 0, 0), some (.sipush 256, 3, 0, 0, 256), none, none, some (.newarray .int, 2, 0, 0, 0), none, some (.putfield 19, 3, 5, 5, 0), none, none, some (.aload_n 0, 1, 0, 0, 0), some (.sipush 256, 3, 0, 0, 256)], [none, none, some (.newarray .int, 2, 0, 0, 0), none, some (.putfield 22, 3, 5, 6, 0), none, none, some (.aload_n 0, 1, 0, 0, 0), some (.bipush 8, 2, 0, 0, 8), none, some (.newarray .int, 2, 0, 0, 0), none, some (.putfield 25, 3, 5, 7, 0), none, none, some (.aload_n 0, 1, 0, 0, 0)], [some (.iconst 3, 1, 0, 0, 0), some (.newarray .int, 2, 0, 0, 0), none, some (.putfield 28, 3, 5, 8, 0), none, none, some (.aload_n 0, 1, 0, 0, 0), some (.bipush 8, 2, 0, 0, 8), none, some (.newarray .int, 2, 0, 0, 0), none, some (.putfield 31, 3, 5, 9, 0), none, none, some (.aload_n 0, 1, 0, 0, 0), some (.aload_n 1, 1, 0, 0, 0)], [some (.putfield 34, 3, 5, 0, 0), none, none, some (.aload_n 0, 1, 0, 0, 0), some (.aload_n 2, 1, 0, 0, 0), some (.putfield 38, 3, 5, 1, 0), none, none, some (.return_, 1, 0, 0, 0)]]]
def cd_X5_add : List (List (List (Option ARow))) := [[[some (.aload_n 0, 1, 0, 0, 0), some (.getfield 42, 3, 5, 3, 0), none, none, some (.bipush 8, 2, 0, 0, 8), none, some (.if_icmp .lt 5, 3, 2, 0, 0), none, none, some (.iconst (-1), 1, 0, 0, 0), some (.ireturn, 1, 0, 0, 0), some (.iconst 0, 1, 0, 0, 0), some (.istore_n 2, 1, 0, 0, 0), some (.iload_n 2, 1, 0, 0, 0), some (.aload_n 0, 1, 0, 0, 0), some (.getfield 42, 3, 5, 3, 0)], [none, none, some (.if_icmp .ge 22, 3, 3, 0, 0), none, none, some (.aload_n 0, 1, 0, 0, 0), some (.getfield 11, 3, 5, 2, 0), none, none, some (.iload_n 2, 1, 0, 0, 0), some (.iaload, 1, 0, 0, 0), some (.iload_n 1, 1, 0, 0, 0), some (.if_icmp .ne 6, 3, 1, 0, 0), none, none, some (.bipush (-2), 2, 0, 0, (-2))], [none, some (.ireturn, 1, 0, 0, 0), some (.iinc 2 1, 3, 0, 0, 0), none, none, some (.goto (-24), 3, 0, 0, 0), none, none, some (.aload_n 0, 1, 0, 0, 0), some (.getfield 11, 3, 5, 2, 0), none, none, some (.aload_n 0, 1, 0, 0, 0), some (.getfield 42, 3, 5, 3, 0), none, none], [some (.iload_n 1, 1, 0, 0, 0), some (.iastore, 1, 0, 0, 0), some (.aload_n 0, 1, 0, 0, 0), some (.dup, 1, 0, 0, 0), some (.getfield 42, 3, 5, 3, 0), none, none, some (.iconst 1, 1, 0, 0, 0), some (.iadd, 1, 0, 0, 0), some (.putfield 42, 3, 5, 3, 0), none, none, some (.aload_n 0, 1, 0, 0, 0), some (.getfield 42, 3, 5, 3, 0), none, none], [some (.ireturn, 1, 0, 0, 0)]]]
def cd_X5_solve : List (List (List (Option ARow))) := [[[some (.aload_n 0, 1, 0, 0, 0), some (.iconst 0, 1, 0, 0, 0), some (.putfield 46, 3, 5, 12, 0), none, none, some (.aload_n 0, 1, 0, 0, 0), some (.getfield 42, 3, 5, 3, 0), none, none, some (.ifCond .ne 5, 3, 1, 0, 0), none, none, some (.iconst 0, 1, 0, 0, 0), some (.ireturn, 1, 0, 0, 0), some (.iconst 1, 1, 0, 0, 0), some (.istore_n 2, 1, 0, 0, 0)], [some (.iload_n 2, 1, 0, 0, 0), some (.iconst 1, 1, 0, 0, 0), some (.aload_n 0, 1, 0, 0, 0), some (.getfield 42, 3, 5, 3, 0), none, none, some (.ishl, 1, 0, 0, 0), some (.if_icmp .ge 14, 3, 3, 0, 0), none, none, some (.aload_n 0, 1, 0, 0, 0), some (.iload_n 2, 1, 0, 0, 0), some (.invokevirtual 50, 3, 56, 0, 0), none, none, some (.iinc 2 1, 3, 0, 0, 0)], [none, none, some (.goto (-18), 3, 0, 0, 0), none, none, some (.aload_n 0, 1, 0, 0, 0), some (.getfield 28, 3, 5, 8, 0), none, none, some (.iconst 0, 1, 0, 0, 0), some (.invokestatic 54, 3, 312, 1, 0), none, none, some (.aload_n 0, 1, 0, 0, 0), some (.iconst 0, 1, 0, 0, 0), some (.iconst 0, 1, 0, 0, 0)], [some (.iload_n 1, 1, 0, 0, 0), some (.invokevirtual 60, 3, 57, 0, 0), none, none, some (.aload_n 0, 1, 0, 0, 0), some (.getfield 46, 3, 5, 12, 0), none, none, some (.ireturn, 1, 0, 0, 0)]]]
def cd_X5_hearSubset : List (List (List (Option ARow))) := [[[some (.lconst 0, 1, 0, 0, 0), some (.lstore_n 2, 1, 0, 0, 0), some (.lconst 0, 1, 0, 0, 0), some (.lstore 4, 2, 0, 0, 0), none, some (.iconst 0, 1, 0, 0, 0), some (.istore 6, 2, 0, 0, 0), none, some (.iload 6, 2, 0, 0, 0), none, some (.aload_n 0, 1, 0, 0, 0), some (.getfield 42, 3, 5, 3, 0), none, none, some (.if_icmp .ge 59, 3, 3, 0, 0), none], [none, some (.iload_n 1, 1, 0, 0, 0), some (.iload 6, 2, 0, 0, 0), none, some (.ishr, 1, 0, 0, 0), some (.iconst 1, 1, 0, 0, 0), some (.iand, 1, 0, 0, 0), some (.ifCond .eq 44, 3, 0, 0, 0), none, none, some (.lconst 1, 1, 0, 0, 0), some (.aload_n 0, 1, 0, 0, 0), some (.getfield 11, 3, 5, 2, 0), none, none, some (.iload 6, 2, 0, 0, 0)], [none, some (.iaload, 1, 0, 0, 0), some (.bipush 63, 2, 0, 0, 63), none, some (.iand, 1, 0, 0, 0), some (.lshl, 1, 0, 0, 0), some (.lstore 7, 2, 0, 0, 0), none, some (.aload_n 0, 1, 0, 0, 0), some (.getfield 11, 3, 5, 2, 0), none, none, some (.iload 6, 2, 0, 0, 0), none, some (.iaload, 1, 0, 0, 0), some (.bipush 64, 2, 0, 0, 64)], [none, some (.if_icmp .ge 11, 3, 3, 0, 0), none, none, some (.lload_n 2, 1, 0, 0, 0), some (.lload 7, 2, 0, 0, 0), none, some (.lor, 1, 0, 0, 0), some (.lstore_n 2, 1, 0, 0, 0), some (.goto 10, 3, 0, 0, 0), none, none, some (.lload 4, 2, 0, 0, 0), none, some (.lload 7, 2, 0, 0, 0), none], [some (.lor, 1, 0, 0, 0), some (.lstore 4, 2, 0, 0, 0), none, some (.iinc 6 1, 3, 0, 0, 0), none, none, some (.goto (-62), 3, 0, 0, 0), none, none, some (.aload_n 0, 1, 0, 0, 0), some (.getfield 15, 3, 5, 4, 0), none, none, some (.iload_n 1, 1, 0, 0, 0), some (.lload_n 2, 1, 0, 0, 0), some (.lload 4, 2, 0, 0, 0)], [none, some (.invokestatic 64, 3, 34, 1, 0), none, none, some (.bastore, 1, 0, 0, 0), some (.aload_n 0, 1, 0, 0, 0), some (.getfield 15, 3, 5, 4, 0), none, none, some (.iload_n 1, 1, 0, 0, 0), some (.baload, 1, 0, 0, 0), some (.ifCond .eq 40, 3, 0, 0, 0), none, none, some (.aload_n 0, 1, 0, 0, 0), some (.getfield 38, 3, 5, 1, 0)], [none, none, some (.lload_n 2, 1, 0, 0, 0), some (.lload 4, 2, 0, 0, 0), none, some (.iconst 1, 1, 0, 0, 0), some (.invokevirtual 70, 3, 1, 0, 0), none, none, some (.aload_n 0, 1, 0, 0, 0), some (.getfield 19, 3, 5, 5, 0), none, none, some (.iload_n 1, 1, 0, 0, 0), some (.aload_n 0, 1, 0, 0, 0), some (.getfield 38, 3, 5, 1, 0)], [none, none, some (.invokevirtual 76, 3, 5, 0, 0), none, none, some (.iastore, 1, 0, 0, 0), some (.aload_n 0, 1, 0, 0, 0), some (.getfield 22, 3, 5, 6, 0), none, none, some (.iload_n 1, 1, 0, 0, 0), some (.aload_n 0, 1, 0, 0, 0), some (.getfield 38, 3, 5, 1, 0), none, none, some (.invokevirtual 80, 3, 7, 0, 0)], [none, none, some (.iastore, 1, 0, 0, 0), some (.return_, 1, 0, 0, 0)]]]
def cd_X5_place : List (List (List (Option ARow))) := [[[some (.iload_n 1, 1, 0, 0, 0), some (.aload_n 0, 1, 0, 0, 0), some (.getfield 42, 3, 5, 3, 0), none, none, some (.if_icmp .lt 9, 3, 2, 0, 0), none, none, some (.aload_n 0, 1, 0, 0, 0), some (.iload_n 2, 1, 0, 0, 0), some (.invokevirtual 83, 3, 58, 0, 0), none, none, some (.return_, 1, 0, 0, 0), some (.iconst 0, 1, 0, 0, 0), some (.istore 4, 2, 0, 0, 0)], [none, some (.iload 4, 2, 0, 0, 0), none, some (.iload_n 2, 1, 0, 0, 0), some (.if_icmp .gt 72, 3, 4, 0, 0), none, none, some (.iload 4, 2, 0, 0, 0), none, some (.iload_n 3, 1, 0, 0, 0), some (.if_icmp .ge 66, 3, 3, 0, 0), none, none, some (.aload_n 0, 1, 0, 0, 0), some (.getfield 25, 3, 5, 7, 0), none], [none, some (.iload_n 1, 1, 0, 0, 0), some (.iload 4, 2, 0, 0, 0), none, some (.iastore, 1, 0, 0, 0), some (.aload_n 0, 1, 0, 0, 0), some (.getfield 28, 3, 5, 8, 0), none, none, some (.iload 4, 2, 0, 0, 0), none, some (.dup2, 1, 0, 0, 0), some (.iaload, 1, 0, 0, 0), some (.iconst 1, 1, 0, 0, 0), some (.iload_n 1, 1, 0, 0, 0), some (.ishl, 1, 0, 0, 0)], [some (.ior, 1, 0, 0, 0), some (.iastore, 1, 0, 0, 0), some (.aload_n 0, 1, 0, 0, 0), some (.iload_n 1, 1, 0, 0, 0), some (.iconst 1, 1, 0, 0, 0), some (.iadd, 1, 0, 0, 0), some (.iload 4, 2, 0, 0, 0), none, some (.iload_n 2, 1, 0, 0, 0), some (.if_icmp .ne 9, 3, 1, 0, 0), none, none, some (.iload_n 2, 1, 0, 0, 0), some (.iconst 1, 1, 0, 0, 0), some (.iadd, 1, 0, 0, 0), some (.goto 4, 3, 0, 0, 0)], [none, none, some (.iload_n 2, 1, 0, 0, 0), some (.iload_n 3, 1, 0, 0, 0), some (.invokevirtual 60, 3, 57, 0, 0), none, none, some (.aload_n 0, 1, 0, 0, 0), some (.getfield 28, 3, 5, 8, 0), none, none, some (.iload 4, 2, 0, 0, 0), none, some (.dup2, 1, 0, 0, 0), some (.iaload, 1, 0, 0, 0), some (.iconst 1, 1, 0, 0, 0)], [some (.iload_n 1, 1, 0, 0, 0), some (.ishl, 1, 0, 0, 0), some (.iconst (-1), 1, 0, 0, 0), some (.ixor, 1, 0, 0, 0), some (.iand, 1, 0, 0, 0), some (.iastore, 1, 0, 0, 0), some (.iinc 4 1, 3, 0, 0, 0), none, none, some (.goto (-72), 3, 0, 0, 0), none, none, some (.return_, 1, 0, 0, 0)]]]
def cd_X5_compare : List (List (List (Option ARow))) := [[[some (.ldc 88, 2, 0, 0, (-2147483648)), none, some (.istore_n 2, 1, 0, 0, 0), some (.iconst 0, 1, 0, 0, 0), some (.istore_n 3, 1, 0, 0, 0), some (.iconst 0, 1, 0, 0, 0), some (.istore 4, 2, 0, 0, 0), none, some (.iload 4, 2, 0, 0, 0), none, some (.iload_n 1, 1, 0, 0, 0), some (.if_icmp .ge 51, 3, 3, 0, 0), none, none, some (.aload_n 0, 1, 0, 0, 0), some (.getfield 28, 3, 5, 8, 0)], [none, none, some (.iload 4, 2, 0, 0, 0), none, some (.iaload, 1, 0, 0, 0), some (.istore 5, 2, 0, 0, 0), none, some (.aload_n 0, 1, 0, 0, 0), some (.getfield 15, 3, 5, 4, 0), none, none, some (.iload 5, 2, 0, 0, 0), none, some (.baload, 1, 0, 0, 0), some (.ifCond .ne 4, 3, 1, 0, 0), none], [none, some (.return_, 1, 0, 0, 0), some (.iload_n 2, 1, 0, 0, 0), some (.aload_n 0, 1, 0, 0, 0), some (.getfield 19, 3, 5, 5, 0), none, none, some (.iload 5, 2, 0, 0, 0), none, some (.iaload, 1, 0, 0, 0), some (.invokestatic 89, 3, 300, 1, 0), none, none, some (.istore_n 2, 1, 0, 0, 0), some (.iload_n 3, 1, 0, 0, 0), some (.aload_n 0, 1, 0, 0, 0)], [some (.getfield 22, 3, 5, 6, 0), none, none, some (.iload 5, 2, 0, 0, 0), none, some (.iaload, 1, 0, 0, 0), some (.iadd, 1, 0, 0, 0), some (.istore_n 3, 1, 0, 0, 0), some (.iinc 4 1, 3, 0, 0, 0), none, none, some (.goto (-51), 3, 0, 0, 0), none, none, some (.aload_n 0, 1, 0, 0, 0), some (.getfield 46, 3, 5, 12, 0)], [none, none, some (.ifCond .eq 27, 3, 0, 0, 0), none, none, some (.iload_n 2, 1, 0, 0, 0), some (.aload_n 0, 1, 0, 0, 0), some (.getfield 95, 3, 5, 10, 0), none, none, some (.if_icmp .lt 19, 3, 2, 0, 0), none, none, some (.iload_n 2, 1, 0, 0, 0), some (.aload_n 0, 1, 0, 0, 0), some (.getfield 95, 3, 5, 10, 0)], [none, none, some (.if_icmp .ne 43, 3, 1, 0, 0), none, none, some (.iload_n 3, 1, 0, 0, 0), some (.aload_n 0, 1, 0, 0, 0), some (.getfield 98, 3, 5, 11, 0), none, none, some (.if_icmp .ge 35, 3, 3, 0, 0), none, none, some (.aload_n 0, 1, 0, 0, 0), some (.iconst 1, 1, 0, 0, 0), some (.putfield 46, 3, 5, 12, 0)], [none, none, some (.aload_n 0, 1, 0, 0, 0), some (.iload_n 2, 1, 0, 0, 0), some (.putfield 95, 3, 5, 10, 0), none, none, some (.aload_n 0, 1, 0, 0, 0), some (.iload_n 3, 1, 0, 0, 0), some (.putfield 98, 3, 5, 11, 0), none, none, some (.aload_n 0, 1, 0, 0, 0), some (.getfield 25, 3, 5, 7, 0), none, none], [some (.iconst 0, 1, 0, 0, 0), some (.aload_n 0, 1, 0, 0, 0), some (.getfield 31, 3, 5, 9, 0), none, none, some (.iconst 0, 1, 0, 0, 0), some (.aload_n 0, 1, 0, 0, 0), some (.getfield 42, 3, 5, 3, 0), none, none, some (.invokestatic 101, 3, 0, 5, 0), none, none, some (.return_, 1, 0, 0, 0)]]]
def cd_X6_init : List (List (List (Option ARow))) := [[[some (.aload_n 0, 1, 0, 0, 0), some (.invokespecial 3, 3, 0, 4, 0), none, none, some (.aload_n 0, 1, 0, 0, 0), some (.bipush 8, 2, 0, 0, 8), none, some (.putfield 9, 3, 6, 1, 0), none, none, some (.aload_n 0, 1, 0, 0, 0), some (.iconst 2, 1, 0, 0, 0), some (.putfield 15, 3, 6, 2, 0), none, none, some (.aload_n 0, 1, 0, 0, 0)], [some (.bipush 8, 2, 0, 0, 8), none, some (.newarray .int, 2, 0, 0, 0), none, some (.putfield 18, 3, 6, 3, 0), none, none, some (.aload_n 0, 1, 0, 0, 0), some (.bipush 8, 2, 0, 0, 8), none, some (.newarray .int, 2, 0, 0, 0), none, some (.putfield 22, 3, 6, 4, 0), none, none, some (.aload_n 0, 1, 0, 0, 0)], [some (.bipush 8, 2, 0, 0, 8), none, some (.newarray .int, 2, 0, 0, 0), none, some (.putfield 25, 3, 6, 5, 0), none, none, some (.aload_n 0, 1, 0, 0, 0), some (.bipush 8, 2, 0, 0, 8), none, some (.newarray .int, 2, 0, 0, 0), none, some (.putfield 28, 3, 6, 6, 0), none, none, some (.aload_n 0, 1, 0, 0, 0)], [some (.bipush 24, 2, 0, 0, 24), none, some (.newarray .int, 2, 0, 0, 0), none, some (.putfield 31, 3, 6, 7, 0), none, none, some (.aload_n 0, 1, 0, 0, 0), some (.aload_n 1, 1, 0, 0, 0), some (.putfield 34, 3, 6, 0, 0), none, none, some (.aload_n 0, 1, 0, 0, 0), some (.getfield 18, 3, 6, 3, 0), none, none], [some (.bipush 24, 2, 0, 0, 24), none, some (.invokestatic 38, 3, 312, 1, 0), none, none, some (.return_, 1, 0, 0, 0)]]]
def cd_X6_setWork : List (List (List (Option ARow))) := [[[some (.aload_n 0, 1, 0, 0, 0), some (.getfield 9, 3, 6, 1, 0), none, none, some (.istore_n 2, 1, 0, 0, 0), some (.aload_n 0, 1, 0, 0, 0), some (.iload_n 1, 1, 0, 0, 0), some (.putfield 9, 3, 6, 1, 0), none, none, some (.iload_n 2, 1, 0, 0, 0), some (.ireturn, 1, 0, 0, 0)]]]
def cd_X6_setRest : List (List (List (Option ARow))) := [[[some (.aload_n 0, 1, 0, 0, 0), some (.getfield 15, 3, 6, 2, 0), none, none, some (.istore_n 2, 1, 0, 0, 0), some (.aload_n 0, 1, 0, 0, 0), some (.iload_n 1, 1, 0, 0, 0), some (.putfield 15, 3, 6, 2, 0), none, none, some (.iload_n 2, 1, 0, 0, 0), some (.ireturn, 1, 0, 0, 0)]]]
def cd_X6_run : List (List (List (Option ARow))) := [[[some (.aload_n 0, 1, 0, 0, 0), some (.getfield 22, 3, 6, 4, 0), none, none, some (.iconst 0, 1, 0, 0, 0), some (.invokestatic 38, 3, 312, 1, 0), none, none, some (.aload_n 0, 1, 0, 0, 0), some (.getfield 25, 3, 6, 5, 0), none, none, some (.iconst 0, 1, 0, 0, 0), some (.invokestatic 38, 3, 312, 1, 0), none, none], [some (.aload_n 0, 1, 0, 0, 0), some (.getfield 28, 3, 6, 6, 0), none, none, some (.iconst 0, 1, 0, 0, 0), some (.invokestatic 38, 3, 312, 1, 0), none, none, some (.aload_n 0, 1, 0, 0, 0), some (.iconst 0, 1, 0, 0, 0), some (.putfield 44, 3, 6, 8, 0), none, none, some (.iconst 0, 1, 0, 0, 0), some (.istore_n 2, 1, 0, 0, 0), some (.iload_n 2, 1, 0, 0, 0)], [some (.bipush 24, 2, 0, 0, 24), none, some (.if_icmp .ge 85, 3, 3, 0, 0), none, none, some (.aload_n 0, 1, 0, 0, 0), some (.getfield 34, 3, 6, 0, 0), none, none, some (.iload_n 2, 1, 0, 0, 0), some (.invokevirtual 47, 3, 44, 0, 0), none, none, some (.istore_n 3, 1, 0, 0, 0), some (.aload_n 0, 1, 0, 0, 0), some (.aload_n 0, 1, 0, 0, 0)], [some (.iload_n 1, 1, 0, 0, 0), some (.iload_n 2, 1, 0, 0, 0), some (.invokevirtual 53, 3, 63, 0, 0), none, none, some (.iload_n 3, 1, 0, 0, 0), some (.invokevirtual 57, 3, 65, 0, 0), none, none, some (.istore 4, 2, 0, 0, 0), none, some (.iload 4, 2, 0, 0, 0), none, some (.aload_n 0, 1, 0, 0, 0), some (.aload_n 0, 1, 0, 0, 0), some (.iload_n 1, 1, 0, 0, 0)], [some (.iload_n 2, 1, 0, 0, 0), some (.invokevirtual 60, 3, 64, 0, 0), none, none, some (.iload_n 3, 1, 0, 0, 0), some (.iload 4, 2, 0, 0, 0), none, some (.invokestatic 63, 3, 296, 1, 0), none, none, some (.isub, 1, 0, 0, 0), some (.invokevirtual 57, 3, 65, 0, 0), none, none, some (.ior, 1, 0, 0, 0), some (.istore 4, 2, 0, 0, 0)], [none, some (.aload_n 0, 1, 0, 0, 0), some (.dup, 1, 0, 0, 0), some (.getfield 44, 3, 6, 8, 0), none, none, some (.iload_n 3, 1, 0, 0, 0), some (.iload 4, 2, 0, 0, 0), none, some (.invokestatic 63, 3, 296, 1, 0), none, none, some (.isub, 1, 0, 0, 0), some (.iadd, 1, 0, 0, 0), some (.putfield 44, 3, 6, 8, 0), none], [none, some (.aload_n 0, 1, 0, 0, 0), some (.getfield 31, 3, 6, 7, 0), none, none, some (.iload_n 2, 1, 0, 0, 0), some (.iload 4, 2, 0, 0, 0), none, some (.iastore, 1, 0, 0, 0), some (.aload_n 0, 1, 0, 0, 0), some (.iload_n 1, 1, 0, 0, 0), some (.iload_n 2, 1, 0, 0, 0), some (.iload 4, 2, 0, 0, 0), none, some (.invokevirtual 68, 3, 66, 0, 0), none], [none, some (.iinc 2 1, 3, 0, 0, 0), none, none, some (.goto (-85), 3, 0, 0, 0), none, none, some (.return_, 1, 0, 0, 0)]]]
def cd_X6_mayGoOn : List (List (List (Option ARow))) := [[[some (.iconst 0, 1, 0, 0, 0), some (.istore_n 3, 1, 0, 0, 0), some (.iconst 0, 1, 0, 0, 0), some (.istore 4, 2, 0, 0, 0), none, some (.iload 4, 2, 0, 0, 0), none, some (.iload_n 1, 1, 0, 0, 0), some (.if_icmp .ge 51, 3, 3, 0, 0), none, none, some (.aload_n 0, 1, 0, 0, 0), some (.getfield 22, 3, 6, 4, 0), none, none, some (.iload 4, 2, 0, 0, 0)], [none, some (.iaload, 1, 0, 0, 0), some (.ifCond .le 35, 3, 5, 0, 0), none, none, some (.aload_n 0, 1, 0, 0, 0), some (.getfield 22, 3, 6, 4, 0), none, none, some (.iload 4, 2, 0, 0, 0), none, some (.iaload, 1, 0, 0, 0), some (.aload_n 0, 1, 0, 0, 0), some (.getfield 9, 3, 6, 1, 0), none, none], [some (.if_icmp .ge 21, 3, 3, 0, 0), none, none, some (.iload_n 2, 1, 0, 0, 0), some (.aload_n 0, 1, 0, 0, 0), some (.getfield 18, 3, 6, 3, 0), none, none, some (.iload 4, 2, 0, 0, 0), none, some (.iaload, 1, 0, 0, 0), some (.if_icmp .ge 10, 3, 3, 0, 0), none, none, some (.iload_n 3, 1, 0, 0, 0), some (.iconst 1, 1, 0, 0, 0)], [some (.iload 4, 2, 0, 0, 0), none, some (.ishl, 1, 0, 0, 0), some (.ior, 1, 0, 0, 0), some (.istore_n 3, 1, 0, 0, 0), some (.iinc 4 1, 3, 0, 0, 0), none, none, some (.goto (-51), 3, 0, 0, 0), none, none, some (.iload_n 3, 1, 0, 0, 0), some (.ireturn, 1, 0, 0, 0)]]]
def cd_X6_mayBegin : List (List (List (Option ARow))) := [[[some (.iconst 0, 1, 0, 0, 0), some (.istore_n 3, 1, 0, 0, 0), some (.iconst 0, 1, 0, 0, 0), some (.istore 4, 2, 0, 0, 0), none, some (.iload 4, 2, 0, 0, 0), none, some (.iload_n 1, 1, 0, 0, 0), some (.if_icmp .ge 48, 3, 3, 0, 0), none, none, some (.aload_n 0, 1, 0, 0, 0), some (.getfield 22, 3, 6, 4, 0), none, none, some (.iload 4, 2, 0, 0, 0)], [none, some (.iaload, 1, 0, 0, 0), some (.ifCond .ne 32, 3, 1, 0, 0), none, none, some (.iload_n 2, 1, 0, 0, 0), some (.aload_n 0, 1, 0, 0, 0), some (.getfield 25, 3, 6, 5, 0), none, none, some (.iload 4, 2, 0, 0, 0), none, some (.iaload, 1, 0, 0, 0), some (.if_icmp .lt 21, 3, 2, 0, 0), none, none], [some (.iload_n 2, 1, 0, 0, 0), some (.aload_n 0, 1, 0, 0, 0), some (.getfield 18, 3, 6, 3, 0), none, none, some (.iload 4, 2, 0, 0, 0), none, some (.iaload, 1, 0, 0, 0), some (.if_icmp .ge 10, 3, 3, 0, 0), none, none, some (.iload_n 3, 1, 0, 0, 0), some (.iconst 1, 1, 0, 0, 0), some (.iload 4, 2, 0, 0, 0), none, some (.ishl, 1, 0, 0, 0)], [some (.ior, 1, 0, 0, 0), some (.istore_n 3, 1, 0, 0, 0), some (.iinc 4 1, 3, 0, 0, 0), none, none, some (.goto (-48), 3, 0, 0, 0), none, none, some (.iload_n 3, 1, 0, 0, 0), some (.ireturn, 1, 0, 0, 0)]]]
def cd_X6_fewestOf : List (List (List (Option ARow))) := [[[some (.iconst 0, 1, 0, 0, 0), some (.istore_n 3, 1, 0, 0, 0), some (.iconst 0, 1, 0, 0, 0), some (.istore 4, 2, 0, 0, 0), none, some (.iload 4, 2, 0, 0, 0), none, some (.iload_n 2, 1, 0, 0, 0), some (.if_icmp .ge 95, 3, 3, 0, 0), none, none, some (.iconst (-1), 1, 0, 0, 0), some (.istore 5, 2, 0, 0, 0), none, some (.iconst 0, 1, 0, 0, 0), some (.istore 6, 2, 0, 0, 0)], [none, some (.iload 6, 2, 0, 0, 0), none, some (.bipush 8, 2, 0, 0, 8), none, some (.if_icmp .ge 61, 3, 3, 0, 0), none, none, some (.iload_n 1, 1, 0, 0, 0), some (.iload_n 3, 1, 0, 0, 0), some (.iconst (-1), 1, 0, 0, 0), some (.ixor, 1, 0, 0, 0), some (.iand, 1, 0, 0, 0), some (.iload 6, 2, 0, 0, 0), none, some (.ishr, 1, 0, 0, 0)], [some (.iconst 1, 1, 0, 0, 0), some (.iand, 1, 0, 0, 0), some (.ifCond .eq 7, 3, 0, 0, 0), none, none, some (.iconst 1, 1, 0, 0, 0), some (.goto 4, 3, 0, 0, 0), none, none, some (.iconst 0, 1, 0, 0, 0), some (.istore 7, 2, 0, 0, 0), none, some (.iload 7, 2, 0, 0, 0), none, some (.ifCond .eq 30, 3, 0, 0, 0), none], [none, some (.iload 5, 2, 0, 0, 0), none, some (.iconst (-1), 1, 0, 0, 0), some (.if_icmp .eq 20, 3, 0, 0, 0), none, none, some (.aload_n 0, 1, 0, 0, 0), some (.getfield 28, 3, 6, 6, 0), none, none, some (.iload 6, 2, 0, 0, 0), none, some (.iaload, 1, 0, 0, 0), some (.aload_n 0, 1, 0, 0, 0), some (.getfield 28, 3, 6, 6, 0)], [none, none, some (.iload 5, 2, 0, 0, 0), none, some (.iaload, 1, 0, 0, 0), some (.if_icmp .ge 7, 3, 3, 0, 0), none, none, some (.iload 6, 2, 0, 0, 0), none, some (.istore 5, 2, 0, 0, 0), none, some (.iinc 6 1, 3, 0, 0, 0), none, none, some (.goto (-62), 3, 0, 0, 0)], [none, none, some (.iload 5, 2, 0, 0, 0), none, some (.iconst (-1), 1, 0, 0, 0), some (.if_icmp .ne 5, 3, 1, 0, 0), none, none, some (.iload_n 3, 1, 0, 0, 0), some (.ireturn, 1, 0, 0, 0), some (.iload_n 3, 1, 0, 0, 0), some (.iconst 1, 1, 0, 0, 0), some (.iload 5, 2, 0, 0, 0), none, some (.ishl, 1, 0, 0, 0), some (.ior, 1, 0, 0, 0)], [some (.istore_n 3, 1, 0, 0, 0), some (.iinc 4 1, 3, 0, 0, 0), none, none, some (.goto (-95), 3, 0, 0, 0), none, none, some (.iload_n 3, 1, 0, 0, 0), some (.ireturn, 1, 0, 0, 0)]]]
def cd_X6_settle : List (List (List (Option ARow))) := [[[some (.iconst 0, 1, 0, 0, 0), some (.istore 4, 2, 0, 0, 0), none, some (.iload 4, 2, 0, 0, 0), none, some (.iload_n 1, 1, 0, 0, 0), some (.if_icmp .ge 74, 3, 3, 0, 0), none, none, some (.iload_n 3, 1, 0, 0, 0), some (.iload 4, 2, 0, 0, 0), none, some (.ishr, 1, 0, 0, 0), some (.iconst 1, 1, 0, 0, 0), some (.iand, 1, 0, 0, 0), some (.ifCond .eq 28, 3, 0, 0, 0)], [none, none, some (.aload_n 0, 1, 0, 0, 0), some (.getfield 22, 3, 6, 4, 0), none, none, some (.iload 4, 2, 0, 0, 0), none, some (.dup2, 1, 0, 0, 0), some (.iaload, 1, 0, 0, 0), some (.iconst 1, 1, 0, 0, 0), some (.iadd, 1, 0, 0, 0), some (.iastore, 1, 0, 0, 0), some (.aload_n 0, 1, 0, 0, 0), some (.getfield 28, 3, 6, 6, 0), none], [none, some (.iload 4, 2, 0, 0, 0), none, some (.dup2, 1, 0, 0, 0), some (.iaload, 1, 0, 0, 0), some (.iconst 1, 1, 0, 0, 0), some (.iadd, 1, 0, 0, 0), some (.iastore, 1, 0, 0, 0), some (.goto 34, 3, 0, 0, 0), none, none, some (.aload_n 0, 1, 0, 0, 0), some (.getfield 22, 3, 6, 4, 0), none, none, some (.iload 4, 2, 0, 0, 0)], [none, some (.iaload, 1, 0, 0, 0), some (.ifCond .le 24, 3, 5, 0, 0), none, none, some (.aload_n 0, 1, 0, 0, 0), some (.getfield 22, 3, 6, 4, 0), none, none, some (.iload 4, 2, 0, 0, 0), none, some (.iconst 0, 1, 0, 0, 0), some (.iastore, 1, 0, 0, 0), some (.aload_n 0, 1, 0, 0, 0), some (.getfield 25, 3, 6, 5, 0), none], [none, some (.iload 4, 2, 0, 0, 0), none, some (.iload_n 2, 1, 0, 0, 0), some (.aload_n 0, 1, 0, 0, 0), some (.getfield 15, 3, 6, 2, 0), none, none, some (.iadd, 1, 0, 0, 0), some (.iastore, 1, 0, 0, 0), some (.iinc 4 1, 3, 0, 0, 0), none, none, some (.goto (-74), 3, 0, 0, 0), none, none], [some (.return_, 1, 0, 0, 0)]]]
def cd_X7_init : List (List (List (Option ARow))) := [[[some (.aload_n 0, 1, 0, 0, 0), some (.invokespecial 3, 3, 0, 4, 0), none, none, some (.aload_n 0, 1, 0, 0, 0), some (.sipush 200, 3, 0, 0, 200), none, none, some (.newarray .int, 2, 0, 0, 0), none, some (.putfield 11, 3, 7, 1, 0), none, none, some (.aload_n 0, 1, 0, 0, 0), some (.bipush 8, 2, 0, 0, 8), none], [some (.newarray .int, 2, 0, 0, 0), none, some (.putfield 15, 3, 7, 2, 0), none, none, some (.aload_n 0, 1, 0, 0, 0), some (.iconst (-1), 1, 0, 0, 0), some (.putfield 18, 3, 7, 4, 0), none, none, some (.aload_n 0, 1, 0, 0, 0), some (.sipush 200, 3, 0, 0, 200), none, none, some (.newarray .int, 2, 0, 0, 0), none], [some (.putfield 22, 3, 7, 7, 0), none, none, some (.aload_n 0, 1, 0, 0, 0), some (.bipush 8, 2, 0, 0, 8), none, some (.newarray .int, 2, 0, 0, 0), none, some (.putfield 25, 3, 7, 8, 0), none, none, some (.aload_n 0, 1, 0, 0, 0), some (.sipush 200, 3, 0, 0, 200), none, none, some (.newarray .int, 2, 0, 0, 0)], [none, some (.putfield 28, 3, 7, 13, 0), none, none, some (.aload_n 0, 1, 0, 0, 0), some (.aload_n 1, 1, 0, 0, 0), some (.putfield 31, 3, 7, 0, 0), none, none, some (.return_, 1, 0, 0, 0)]]]
def cd_X7_read : List (List (List (Option ARow))) := [[[some (.aload_n 0, 1, 0, 0, 0), some (.iconst 0, 1, 0, 0, 0), some (.putfield 35, 3, 7, 9, 0), none, none, some (.aload_n 0, 1, 0, 0, 0), some (.iconst (-1), 1, 0, 0, 0), some (.putfield 38, 3, 7, 10, 0), none, none, some (.aload_n 0, 1, 0, 0, 0), some (.iconst 0, 1, 0, 0, 0), some (.putfield 41, 3, 7, 11, 0), none, none, some (.aload_n 0, 1, 0, 0, 0)], [some (.iconst 0, 1, 0, 0, 0), some (.putfield 44, 3, 7, 12, 0), none, none, some (.iconst 0, 1, 0, 0, 0), some (.istore_n 1, 1, 0, 0, 0), some (.iload_n 1, 1, 0, 0, 0), some (.bipush 8, 2, 0, 0, 8), none, some (.if_icmp .gt 37, 3, 4, 0, 0), none, none, some (.aload_n 0, 1, 0, 0, 0), some (.getfield 31, 3, 7, 0, 0), none, none], [some (.getfield 47, 3, 10, 6, 0), none, none, some (.iconst (-1), 1, 0, 0, 0), some (.if_icmp .ne 10, 3, 1, 0, 0), none, none, some (.aload_n 0, 1, 0, 0, 0), some (.iload_n 1, 1, 0, 0, 0), some (.invokevirtual 52, 3, 69, 0, 0), none, none, some (.iconst 1, 1, 0, 0, 0), some (.ireturn, 1, 0, 0, 0), some (.aload_n 0, 1, 0, 0, 0), some (.iload_n 1, 1, 0, 0, 0)], [some (.invokevirtual 56, 3, 71, 0, 0), none, none, some (.ifCond .ne 5, 3, 1, 0, 0), none, none, some (.iconst 0, 1, 0, 0, 0), some (.ireturn, 1, 0, 0, 0), some (.iinc 1 1, 3, 0, 0, 0), none, none, some (.goto (-37), 3, 0, 0, 0), none, none, some (.iconst 0, 1, 0, 0, 0), some (.ireturn, 1, 0, 0, 0)]]]
def cd_X7_adopt : List (List (List (Option ARow))) := [[[some (.aload_n 0, 1, 0, 0, 0), some (.getfield 11, 3, 7, 1, 0), none, none, some (.astore_n 2, 1, 0, 0, 0), some (.aload_n 0, 1, 0, 0, 0), some (.getfield 15, 3, 7, 2, 0), none, none, some (.astore_n 3, 1, 0, 0, 0), some (.aload_n 0, 1, 0, 0, 0), some (.aload_n 0, 1, 0, 0, 0), some (.getfield 22, 3, 7, 7, 0), none, none, some (.putfield 11, 3, 7, 1, 0)], [none, none, some (.aload_n 0, 1, 0, 0, 0), some (.aload_n 0, 1, 0, 0, 0), some (.getfield 25, 3, 7, 8, 0), none, none, some (.putfield 15, 3, 7, 2, 0), none, none, some (.aload_n 0, 1, 0, 0, 0), some (.aload_n 2, 1, 0, 0, 0), some (.putfield 22, 3, 7, 7, 0), none, none, some (.aload_n 0, 1, 0, 0, 0)], [some (.aload_n 3, 1, 0, 0, 0), some (.putfield 25, 3, 7, 8, 0), none, none, some (.aload_n 0, 1, 0, 0, 0), some (.iload_n 1, 1, 0, 0, 0), some (.putfield 60, 3, 7, 3, 0), none, none, some (.aload_n 0, 1, 0, 0, 0), some (.aload_n 0, 1, 0, 0, 0), some (.getfield 38, 3, 7, 10, 0), none, none, some (.putfield 18, 3, 7, 4, 0), none], [none, some (.aload_n 0, 1, 0, 0, 0), some (.aload_n 0, 1, 0, 0, 0), some (.getfield 41, 3, 7, 11, 0), none, none, some (.putfield 63, 3, 7, 5, 0), none, none, some (.aload_n 0, 1, 0, 0, 0), some (.iconst 0, 1, 0, 0, 0), some (.putfield 66, 3, 7, 6, 0), none, none, some (.aload_n 0, 1, 0, 0, 0), some (.getfield 18, 3, 7, 4, 0)], [none, none, some (.iconst (-1), 1, 0, 0, 0), some (.if_icmp .eq 71, 3, 0, 0, 0), none, none, some (.aload_n 0, 1, 0, 0, 0), some (.aload_n 0, 1, 0, 0, 0), some (.getfield 18, 3, 7, 4, 0), none, none, some (.invokevirtual 70, 3, 70, 0, 0), none, none, some (.istore 4, 2, 0, 0, 0), none], [some (.iload 4, 2, 0, 0, 0), none, some (.aload_n 0, 1, 0, 0, 0), some (.getfield 15, 3, 7, 2, 0), none, none, some (.aload_n 0, 1, 0, 0, 0), some (.getfield 18, 3, 7, 4, 0), none, none, some (.iaload, 1, 0, 0, 0), some (.if_icmp .ge 47, 3, 3, 0, 0), none, none, some (.aload_n 0, 1, 0, 0, 0), some (.dup, 1, 0, 0, 0)], [some (.getfield 66, 3, 7, 6, 0), none, none, some (.aload_n 0, 1, 0, 0, 0), some (.getfield 11, 3, 7, 1, 0), none, none, some (.iload 4, 2, 0, 0, 0), none, some (.iaload, 1, 0, 0, 0), some (.bipush (-5), 2, 0, 0, (-5)), none, some (.if_icmp .eq 15, 3, 0, 0, 0), none, none, some (.aload_n 0, 1, 0, 0, 0)], [some (.getfield 11, 3, 7, 1, 0), none, none, some (.iload 4, 2, 0, 0, 0), none, some (.iaload, 1, 0, 0, 0), some (.bipush (-6), 2, 0, 0, (-6)), none, some (.if_icmp .ne 7, 3, 1, 0, 0), none, none, some (.iconst 1, 1, 0, 0, 0), some (.goto 4, 3, 0, 0, 0), none, none, some (.iconst 0, 1, 0, 0, 0)], [some (.ior, 1, 0, 0, 0), some (.putfield 66, 3, 7, 6, 0), none, none, some (.iinc 4 1, 3, 0, 0, 0), none, none, some (.goto (-55), 3, 0, 0, 0), none, none, some (.return_, 1, 0, 0, 0)]]]
def cd_X7_beginOf : List (List (List (Option ARow))) := [[[some (.iload_n 1, 1, 0, 0, 0), some (.ifCond .le 14, 3, 5, 0, 0), none, none, some (.aload_n 0, 1, 0, 0, 0), some (.getfield 15, 3, 7, 2, 0), none, none, some (.iload_n 1, 1, 0, 0, 0), some (.iconst 1, 1, 0, 0, 0), some (.isub, 1, 0, 0, 0), some (.iaload, 1, 0, 0, 0), some (.goto 4, 3, 0, 0, 0), none, none, some (.iconst 0, 1, 0, 0, 0)], [some (.ireturn, 1, 0, 0, 0)]]]
def cd_X7_readClause : List (List (List (Option ARow))) := [[[some (.aload_n 0, 1, 0, 0, 0), some (.getfield 31, 3, 7, 0, 0), none, none, none, none, some (.invokevirtual 76, 3, 131, 0, 0), none, none, some (.istore_n 2, 1, 0, 0, 0), some (.iload_n 2, 1, 0, 0, 0), some (.ifCond .ne 24, 3, 1, 0, 0), none, none, some (.aload_n 0, 1, 0, 0, 0), some (.getfield 31, 3, 7, 0, 0)], [none, none, none, none, some (.invokevirtual 76, 3, 131, 0, 0), none, none, some (.ifCond .ne 12, 3, 1, 0, 0), none, none, some (.aload_n 0, 1, 0, 0, 0), some (.getfield 31, 3, 7, 0, 0), none, none, some (.iconst 1, 1, 0, 0, 0), some (.invokevirtual 82, 3, 132, 0, 0)], [none, none, some (.ireturn, 1, 0, 0, 0), some (.iload_n 1, 1, 0, 0, 0), some (.bipush 8, 2, 0, 0, 8), none, some (.if_icmp .lt 12, 3, 2, 0, 0), none, none, some (.aload_n 0, 1, 0, 0, 0), some (.getfield 31, 3, 7, 0, 0), none, none, some (.iconst 3, 1, 0, 0, 0), some (.invokevirtual 82, 3, 132, 0, 0), none], [none, some (.ireturn, 1, 0, 0, 0), some (.aload_n 0, 1, 0, 0, 0), some (.getfield 31, 3, 7, 0, 0), none, none, some (.invokevirtual 85, 3, 129, 0, 0), none, none, some (.iload_n 2, 1, 0, 0, 0), some (.ifCond .eq 13, 3, 0, 0, 0), none, none, some (.aload_n 0, 1, 0, 0, 0), some (.invokevirtual 88, 3, 75, 0, 0), none], [none, some (.ifCond .ne 15, 3, 1, 0, 0), none, none, some (.goto 10, 3, 0, 0, 0), none, none, some (.aload_n 0, 1, 0, 0, 0), some (.invokevirtual 92, 3, 72, 0, 0), none, none, some (.ifCond .ne 5, 3, 1, 0, 0), none, none, some (.iconst 0, 1, 0, 0, 0), some (.ireturn, 1, 0, 0, 0)], [some (.aload_n 0, 1, 0, 0, 0), some (.bipush 59, 2, 0, 0, 59), none, some (.invokevirtual 95, 3, 81, 0, 0), none, none, some (.ifCond .ne 5, 3, 1, 0, 0), none, none, some (.iconst 0, 1, 0, 0, 0), some (.ireturn, 1, 0, 0, 0), some (.aload_n 0, 1, 0, 0, 0), some (.getfield 25, 3, 7, 8, 0), none, none, some (.iload_n 1, 1, 0, 0, 0)], [some (.aload_n 0, 1, 0, 0, 0), some (.getfield 35, 3, 7, 9, 0), none, none, some (.iastore, 1, 0, 0, 0), some (.iload_n 2, 1, 0, 0, 0), some (.ifCond .eq 11, 3, 0, 0, 0), none, none, some (.aload_n 0, 1, 0, 0, 0), some (.iload_n 1, 1, 0, 0, 0), some (.putfield 38, 3, 7, 10, 0), none, none, some (.goto 15, 3, 0, 0, 0), none], [none, some (.aload_n 0, 1, 0, 0, 0), some (.dup, 1, 0, 0, 0), some (.getfield 41, 3, 7, 11, 0), none, none, some (.iconst 1, 1, 0, 0, 0), some (.iload_n 1, 1, 0, 0, 0), some (.ishl, 1, 0, 0, 0), some (.ior, 1, 0, 0, 0), some (.putfield 41, 3, 7, 11, 0), none, none, some (.iconst 1, 1, 0, 0, 0), some (.ireturn, 1, 0, 0, 0)]]]
def cd_X7_readEither : List (List (List (Option ARow))) := [[[some (.aload_n 0, 1, 0, 0, 0), some (.invokevirtual 98, 3, 73, 0, 0), none, none, some (.ifCond .ne 5, 3, 1, 0, 0), none, none, some (.iconst 0, 1, 0, 0, 0), some (.ireturn, 1, 0, 0, 0), some (.iconst 0, 1, 0, 0, 0), some (.istore_n 1, 1, 0, 0, 0), some (.iload_n 1, 1, 0, 0, 0), some (.sipush 200, 3, 0, 0, 200), none, none, some (.if_icmp .ge 43, 3, 3, 0, 0)], [none, none, some (.aload_n 0, 1, 0, 0, 0), some (.getfield 31, 3, 7, 0, 0), none, none, none, none, some (.invokevirtual 76, 3, 131, 0, 0), none, none, some (.ifCond .eq 31, 3, 0, 0, 0), none, none, some (.aload_n 0, 1, 0, 0, 0), some (.getfield 31, 3, 7, 0, 0)], [none, none, some (.invokevirtual 85, 3, 129, 0, 0), none, none, some (.aload_n 0, 1, 0, 0, 0), some (.invokevirtual 98, 3, 73, 0, 0), none, none, some (.ifCond .ne 5, 3, 1, 0, 0), none, none, some (.iconst 0, 1, 0, 0, 0), some (.ireturn, 1, 0, 0, 0), some (.aload_n 0, 1, 0, 0, 0), some (.bipush (-19), 2, 0, 0, (-19))], [none, some (.invokevirtual 103, 3, 82, 0, 0), none, none, some (.iinc 1 1, 3, 0, 0, 0), none, none, some (.goto (-44), 3, 0, 0, 0), none, none, some (.iconst 1, 1, 0, 0, 0), some (.ireturn, 1, 0, 0, 0)]]]
def cd_X7_readBoth : List (List (List (Option ARow))) := [[[some (.aload_n 0, 1, 0, 0, 0), some (.invokevirtual 106, 3, 74, 0, 0), none, none, some (.ifCond .ne 5, 3, 1, 0, 0), none, none, some (.iconst 0, 1, 0, 0, 0), some (.ireturn, 1, 0, 0, 0), some (.iconst 0, 1, 0, 0, 0), some (.istore_n 1, 1, 0, 0, 0), some (.iload_n 1, 1, 0, 0, 0), some (.sipush 200, 3, 0, 0, 200), none, none, some (.if_icmp .ge 43, 3, 3, 0, 0)], [none, none, some (.aload_n 0, 1, 0, 0, 0), some (.getfield 31, 3, 7, 0, 0), none, none, none, none, some (.invokevirtual 76, 3, 131, 0, 0), none, none, some (.ifCond .eq 31, 3, 0, 0, 0), none, none, some (.aload_n 0, 1, 0, 0, 0), some (.getfield 31, 3, 7, 0, 0)], [none, none, some (.invokevirtual 85, 3, 129, 0, 0), none, none, some (.aload_n 0, 1, 0, 0, 0), some (.invokevirtual 106, 3, 74, 0, 0), none, none, some (.ifCond .ne 5, 3, 1, 0, 0), none, none, some (.iconst 0, 1, 0, 0, 0), some (.ireturn, 1, 0, 0, 0), some (.aload_n 0, 1, 0, 0, 0), some (.bipush (-18), 2, 0, 0, (-18))], [none, some (.invokevirtual 103, 3, 82, 0, 0), none, none, some (.iinc 1 1, 3, 0, 0, 0), none, none, some (.goto (-44), 3, 0, 0, 0), none, none, some (.iconst 1, 1, 0, 0, 0), some (.ireturn, 1, 0, 0, 0)]]]
def cd_X7_readTest : List (List (List (Option ARow))) := [[[some (.aload_n 0, 1, 0, 0, 0), some (.getfield 31, 3, 7, 0, 0), none, none, none, none, some (.invokevirtual 76, 3, 131, 0, 0), none, none, some (.ifCond .eq 37, 3, 0, 0, 0), none, none, some (.aload_n 0, 1, 0, 0, 0), some (.invokevirtual 113, 3, 80, 0, 0), none, none], [some (.ifCond .eq 10, 3, 0, 0, 0), none, none, some (.aload_n 0, 1, 0, 0, 0), some (.invokevirtual 106, 3, 74, 0, 0), none, none, some (.ifCond .ne 5, 3, 1, 0, 0), none, none, some (.iconst 0, 1, 0, 0, 0), some (.ireturn, 1, 0, 0, 0), some (.aload_n 0, 1, 0, 0, 0), some (.dup, 1, 0, 0, 0), some (.getfield 44, 3, 7, 12, 0), none], [none, some (.iconst 1, 1, 0, 0, 0), some (.isub, 1, 0, 0, 0), some (.putfield 44, 3, 7, 12, 0), none, none, some (.aload_n 0, 1, 0, 0, 0), some (.bipush (-8), 2, 0, 0, (-8)), none, some (.invokevirtual 103, 3, 82, 0, 0), none, none, some (.iconst 1, 1, 0, 0, 0), some (.ireturn, 1, 0, 0, 0), some (.aload_n 0, 1, 0, 0, 0), some (.getfield 31, 3, 7, 0, 0)], [none, none, some (.getfield 47, 3, 10, 6, 0), none, none, some (.bipush 91, 2, 0, 0, 91), none, some (.if_icmp .ne 40, 3, 1, 0, 0), none, none, some (.aload_n 0, 1, 0, 0, 0), some (.invokevirtual 113, 3, 80, 0, 0), none, none, some (.ifCond .eq 19, 3, 0, 0, 0), none], [none, some (.aload_n 0, 1, 0, 0, 0), some (.invokevirtual 92, 3, 72, 0, 0), none, none, some (.ifCond .eq 12, 3, 0, 0, 0), none, none, some (.aload_n 0, 1, 0, 0, 0), some (.bipush 93, 2, 0, 0, 93), none, some (.invokevirtual 95, 3, 81, 0, 0), none, none, some (.ifCond .ne 5, 3, 1, 0, 0), none], [none, some (.iconst 0, 1, 0, 0, 0), some (.ireturn, 1, 0, 0, 0), some (.aload_n 0, 1, 0, 0, 0), some (.dup, 1, 0, 0, 0), some (.getfield 44, 3, 7, 12, 0), none, none, some (.iconst 1, 1, 0, 0, 0), some (.isub, 1, 0, 0, 0), some (.putfield 44, 3, 7, 12, 0), none, none, some (.iconst 1, 1, 0, 0, 0), some (.ireturn, 1, 0, 0, 0), some (.aload_n 0, 1, 0, 0, 0)], [some (.invokevirtual 88, 3, 75, 0, 0), none, none, some (.ifCond .ne 5, 3, 1, 0, 0), none, none, some (.iconst 0, 1, 0, 0, 0), some (.ireturn, 1, 0, 0, 0), some (.aload_n 0, 1, 0, 0, 0), some (.getfield 31, 3, 7, 0, 0), none, none, some (.getfield 47, 3, 10, 6, 0), none, none, some (.bipush 60, 2, 0, 0, 60)], [none, some (.if_icmp .ne 8, 3, 1, 0, 0), none, none, some (.bipush (-15), 2, 0, 0, (-15)), none, some (.goto 39, 3, 0, 0, 0), none, none, some (.aload_n 0, 1, 0, 0, 0), some (.getfield 31, 3, 7, 0, 0), none, none, some (.getfield 47, 3, 10, 6, 0), none, none], [some (.bipush 62, 2, 0, 0, 62), none, some (.if_icmp .ne 8, 3, 1, 0, 0), none, none, some (.bipush (-16), 2, 0, 0, (-16)), none, some (.goto 22, 3, 0, 0, 0), none, none, some (.aload_n 0, 1, 0, 0, 0), some (.getfield 31, 3, 7, 0, 0), none, none, some (.getfield 47, 3, 10, 6, 0), none], [none, some (.bipush 61, 2, 0, 0, 61), none, some (.if_icmp .ne 8, 3, 1, 0, 0), none, none, some (.bipush (-17), 2, 0, 0, (-17)), none, some (.goto 5, 3, 0, 0, 0), none, none, some (.bipush (-20), 2, 0, 0, (-20)), none, some (.istore_n 1, 1, 0, 0, 0), some (.iload_n 1, 1, 0, 0, 0), some (.bipush (-20), 2, 0, 0, (-20))], [none, some (.if_icmp .ne 12, 3, 1, 0, 0), none, none, some (.aload_n 0, 1, 0, 0, 0), some (.getfield 31, 3, 7, 0, 0), none, none, some (.iconst 1, 1, 0, 0, 0), some (.invokevirtual 82, 3, 132, 0, 0), none, none, some (.ireturn, 1, 0, 0, 0), some (.aload_n 0, 1, 0, 0, 0), some (.getfield 31, 3, 7, 0, 0), none], [none, some (.invokevirtual 85, 3, 129, 0, 0), none, none, some (.aload_n 0, 1, 0, 0, 0), some (.invokevirtual 88, 3, 75, 0, 0), none, none, some (.ifCond .ne 5, 3, 1, 0, 0), none, none, some (.iconst 0, 1, 0, 0, 0), some (.ireturn, 1, 0, 0, 0), some (.aload_n 0, 1, 0, 0, 0), some (.iload_n 1, 1, 0, 0, 0), some (.invokevirtual 103, 3, 82, 0, 0)], [none, none, some (.iconst 1, 1, 0, 0, 0), some (.ireturn, 1, 0, 0, 0)]]]
def cd_X7_readSum : List (List (List (Option ARow))) := [[[some (.aload_n 0, 1, 0, 0, 0), some (.invokevirtual 116, 3, 76, 0, 0), none, none, some (.ifCond .ne 5, 3, 1, 0, 0), none, none, some (.iconst 0, 1, 0, 0, 0), some (.ireturn, 1, 0, 0, 0), some (.iconst 0, 1, 0, 0, 0), some (.istore_n 1, 1, 0, 0, 0), some (.iload_n 1, 1, 0, 0, 0), some (.sipush 200, 3, 0, 0, 200), none, none, some (.if_icmp .ge 74, 3, 3, 0, 0)], [none, none, some (.aload_n 0, 1, 0, 0, 0), some (.getfield 31, 3, 7, 0, 0), none, none, some (.getfield 47, 3, 10, 6, 0), none, none, some (.bipush 43, 2, 0, 0, 43), none, some (.if_icmp .eq 15, 3, 0, 0, 0), none, none, some (.aload_n 0, 1, 0, 0, 0), some (.getfield 31, 3, 7, 0, 0)], [none, none, some (.getfield 47, 3, 10, 6, 0), none, none, some (.bipush 45, 2, 0, 0, 45), none, some (.if_icmp .ne 50, 3, 1, 0, 0), none, none, some (.aload_n 0, 1, 0, 0, 0), some (.getfield 31, 3, 7, 0, 0), none, none, some (.getfield 47, 3, 10, 6, 0), none], [none, some (.bipush 43, 2, 0, 0, 43), none, some (.if_icmp .ne 8, 3, 1, 0, 0), none, none, some (.bipush (-9), 2, 0, 0, (-9)), none, some (.goto 5, 3, 0, 0, 0), none, none, some (.bipush (-10), 2, 0, 0, (-10)), none, some (.istore_n 2, 1, 0, 0, 0), some (.aload_n 0, 1, 0, 0, 0), some (.getfield 31, 3, 7, 0, 0)], [none, none, some (.invokevirtual 85, 3, 129, 0, 0), none, none, some (.aload_n 0, 1, 0, 0, 0), some (.invokevirtual 116, 3, 76, 0, 0), none, none, some (.ifCond .ne 5, 3, 1, 0, 0), none, none, some (.iconst 0, 1, 0, 0, 0), some (.ireturn, 1, 0, 0, 0), some (.aload_n 0, 1, 0, 0, 0), some (.iload_n 2, 1, 0, 0, 0)], [some (.invokevirtual 103, 3, 82, 0, 0), none, none, some (.iinc 1 1, 3, 0, 0, 0), none, none, some (.goto (-75), 3, 0, 0, 0), none, none, some (.iconst 1, 1, 0, 0, 0), some (.ireturn, 1, 0, 0, 0)]]]
def cd_X7_readProduct : List (List (List (Option ARow))) := [[[some (.aload_n 0, 1, 0, 0, 0), some (.invokevirtual 119, 3, 77, 0, 0), none, none, some (.ifCond .ne 5, 3, 1, 0, 0), none, none, some (.iconst 0, 1, 0, 0, 0), some (.ireturn, 1, 0, 0, 0), some (.iconst 0, 1, 0, 0, 0), some (.istore_n 1, 1, 0, 0, 0), some (.iload_n 1, 1, 0, 0, 0), some (.sipush 200, 3, 0, 0, 200), none, none, some (.if_icmp .ge 74, 3, 3, 0, 0)], [none, none, some (.aload_n 0, 1, 0, 0, 0), some (.getfield 31, 3, 7, 0, 0), none, none, some (.getfield 47, 3, 10, 6, 0), none, none, some (.bipush 42, 2, 0, 0, 42), none, some (.if_icmp .eq 15, 3, 0, 0, 0), none, none, some (.aload_n 0, 1, 0, 0, 0), some (.getfield 31, 3, 7, 0, 0)], [none, none, some (.getfield 47, 3, 10, 6, 0), none, none, some (.bipush 47, 2, 0, 0, 47), none, some (.if_icmp .ne 50, 3, 1, 0, 0), none, none, some (.aload_n 0, 1, 0, 0, 0), some (.getfield 31, 3, 7, 0, 0), none, none, some (.getfield 47, 3, 10, 6, 0), none], [none, some (.bipush 42, 2, 0, 0, 42), none, some (.if_icmp .ne 8, 3, 1, 0, 0), none, none, some (.bipush (-11), 2, 0, 0, (-11)), none, some (.goto 5, 3, 0, 0, 0), none, none, some (.bipush (-12), 2, 0, 0, (-12)), none, some (.istore_n 2, 1, 0, 0, 0), some (.aload_n 0, 1, 0, 0, 0), some (.getfield 31, 3, 7, 0, 0)], [none, none, some (.invokevirtual 85, 3, 129, 0, 0), none, none, some (.aload_n 0, 1, 0, 0, 0), some (.invokevirtual 119, 3, 77, 0, 0), none, none, some (.ifCond .ne 5, 3, 1, 0, 0), none, none, some (.iconst 0, 1, 0, 0, 0), some (.ireturn, 1, 0, 0, 0), some (.aload_n 0, 1, 0, 0, 0), some (.iload_n 2, 1, 0, 0, 0)], [some (.invokevirtual 103, 3, 82, 0, 0), none, none, some (.iinc 1 1, 3, 0, 0, 0), none, none, some (.goto (-75), 3, 0, 0, 0), none, none, some (.iconst 1, 1, 0, 0, 0), some (.ireturn, 1, 0, 0, 0)]]]
def cd_X7_readUnit : List (List (List (Option ARow))) := [[[some (.aload_n 0, 1, 0, 0, 0), some (.getfield 31, 3, 7, 0, 0), none, none, some (.getfield 47, 3, 10, 6, 0), none, none, some (.bipush (-2), 2, 0, 0, (-2)), none, some (.if_icmp .ne 45, 3, 1, 0, 0), none, none, some (.aload_n 0, 1, 0, 0, 0), some (.getfield 31, 3, 7, 0, 0), none, none], [some (.getfield 122, 3, 10, 7, 0), none, none, some (.sipush 999, 3, 0, 0, 999), none, none, some (.if_icmp .le 12, 3, 5, 0, 0), none, none, some (.aload_n 0, 1, 0, 0, 0), some (.getfield 31, 3, 7, 0, 0), none, none, some (.iconst 2, 1, 0, 0, 0), some (.invokevirtual 82, 3, 132, 0, 0), none], [none, some (.ireturn, 1, 0, 0, 0), some (.aload_n 0, 1, 0, 0, 0), some (.aload_n 0, 1, 0, 0, 0), some (.getfield 31, 3, 7, 0, 0), none, none, some (.getfield 122, 3, 10, 7, 0), none, none, some (.invokevirtual 103, 3, 82, 0, 0), none, none, some (.aload_n 0, 1, 0, 0, 0), some (.getfield 31, 3, 7, 0, 0), none], [none, some (.invokevirtual 85, 3, 129, 0, 0), none, none, some (.iconst 1, 1, 0, 0, 0), some (.ireturn, 1, 0, 0, 0), some (.aload_n 0, 1, 0, 0, 0), some (.getfield 31, 3, 7, 0, 0), none, none, some (.getfield 47, 3, 10, 6, 0), none, none, some (.bipush 40, 2, 0, 0, 40), none, some (.if_icmp .ne 40, 3, 1, 0, 0)], [none, none, some (.aload_n 0, 1, 0, 0, 0), some (.invokevirtual 113, 3, 80, 0, 0), none, none, some (.ifCond .eq 19, 3, 0, 0, 0), none, none, some (.aload_n 0, 1, 0, 0, 0), some (.invokevirtual 88, 3, 75, 0, 0), none, none, some (.ifCond .eq 12, 3, 0, 0, 0), none, none], [some (.aload_n 0, 1, 0, 0, 0), some (.bipush 41, 2, 0, 0, 41), none, some (.invokevirtual 95, 3, 81, 0, 0), none, none, some (.ifCond .ne 5, 3, 1, 0, 0), none, none, some (.iconst 0, 1, 0, 0, 0), some (.ireturn, 1, 0, 0, 0), some (.aload_n 0, 1, 0, 0, 0), some (.dup, 1, 0, 0, 0), some (.getfield 44, 3, 7, 12, 0), none, none], [some (.iconst 1, 1, 0, 0, 0), some (.isub, 1, 0, 0, 0), some (.putfield 44, 3, 7, 12, 0), none, none, some (.iconst 1, 1, 0, 0, 0), some (.ireturn, 1, 0, 0, 0), some (.aload_n 0, 1, 0, 0, 0), some (.getfield 31, 3, 7, 0, 0), none, none, none, none, some (.invokevirtual 76, 3, 131, 0, 0), none, none], [some (.ifCond .ne 15, 3, 1, 0, 0), none, none, some (.aload_n 0, 1, 0, 0, 0), some (.getfield 31, 3, 7, 0, 0), none, none, none, none, some (.invokevirtual 76, 3, 131, 0, 0), none, none, some (.ifCond .eq 27, 3, 0, 0, 0), none, none, some (.aload_n 0, 1, 0, 0, 0)], [some (.aload_n 0, 1, 0, 0, 0), some (.getfield 31, 3, 7, 0, 0), none, none, none, none, some (.invokevirtual 76, 3, 131, 0, 0), none, none, some (.ifCond .eq 8, 3, 0, 0, 0), none, none, some (.bipush (-13), 2, 0, 0, (-13)), none, some (.goto 5, 3, 0, 0, 0), none], [none, some (.bipush (-14), 2, 0, 0, (-14)), none, some (.invokevirtual 129, 3, 78, 0, 0), none, none, some (.ireturn, 1, 0, 0, 0), some (.aload_n 0, 1, 0, 0, 0), some (.invokevirtual 132, 3, 79, 0, 0), none, none, some (.istore_n 1, 1, 0, 0, 0), some (.iload_n 1, 1, 0, 0, 0), some (.bipush (-20), 2, 0, 0, (-20)), none, some (.if_icmp .ne 12, 3, 1, 0, 0)], [none, none, some (.aload_n 0, 1, 0, 0, 0), some (.getfield 31, 3, 7, 0, 0), none, none, some (.iconst 1, 1, 0, 0, 0), some (.invokevirtual 82, 3, 132, 0, 0), none, none, some (.ireturn, 1, 0, 0, 0), some (.aload_n 0, 1, 0, 0, 0), some (.iload_n 1, 1, 0, 0, 0), some (.invokevirtual 103, 3, 82, 0, 0), none, none], [some (.aload_n 0, 1, 0, 0, 0), some (.getfield 31, 3, 7, 0, 0), none, none, some (.invokevirtual 85, 3, 129, 0, 0), none, none, some (.iconst 1, 1, 0, 0, 0), some (.ireturn, 1, 0, 0, 0)]]]
def cd_X7_readOfTwo : List (List (List (Option ARow))) := [[[some (.aload_n 0, 1, 0, 0, 0), some (.getfield 31, 3, 7, 0, 0), none, none, some (.invokevirtual 85, 3, 129, 0, 0), none, none, some (.aload_n 0, 1, 0, 0, 0), some (.getfield 31, 3, 7, 0, 0), none, none, some (.getfield 47, 3, 10, 6, 0), none, none, some (.bipush 40, 2, 0, 0, 40), none], [some (.if_icmp .eq 12, 3, 0, 0, 0), none, none, some (.aload_n 0, 1, 0, 0, 0), some (.getfield 31, 3, 7, 0, 0), none, none, some (.iconst 1, 1, 0, 0, 0), some (.invokevirtual 82, 3, 132, 0, 0), none, none, some (.ireturn, 1, 0, 0, 0), some (.aload_n 0, 1, 0, 0, 0), some (.invokevirtual 113, 3, 80, 0, 0), none, none], [some (.ifCond .eq 35, 3, 0, 0, 0), none, none, some (.aload_n 0, 1, 0, 0, 0), some (.invokevirtual 88, 3, 75, 0, 0), none, none, some (.ifCond .eq 28, 3, 0, 0, 0), none, none, some (.aload_n 0, 1, 0, 0, 0), some (.bipush 44, 2, 0, 0, 44), none, some (.invokevirtual 95, 3, 81, 0, 0), none, none], [some (.ifCond .eq 19, 3, 0, 0, 0), none, none, some (.aload_n 0, 1, 0, 0, 0), some (.invokevirtual 88, 3, 75, 0, 0), none, none, some (.ifCond .eq 12, 3, 0, 0, 0), none, none, some (.aload_n 0, 1, 0, 0, 0), some (.bipush 41, 2, 0, 0, 41), none, some (.invokevirtual 95, 3, 81, 0, 0), none, none], [some (.ifCond .ne 5, 3, 1, 0, 0), none, none, some (.iconst 0, 1, 0, 0, 0), some (.ireturn, 1, 0, 0, 0), some (.aload_n 0, 1, 0, 0, 0), some (.dup, 1, 0, 0, 0), some (.getfield 44, 3, 7, 12, 0), none, none, some (.iconst 1, 1, 0, 0, 0), some (.isub, 1, 0, 0, 0), some (.putfield 44, 3, 7, 12, 0), none, none, some (.aload_n 0, 1, 0, 0, 0)], [some (.iload_n 1, 1, 0, 0, 0), some (.invokevirtual 103, 3, 82, 0, 0), none, none, some (.iconst 1, 1, 0, 0, 0), some (.ireturn, 1, 0, 0, 0)]]]
def cd_X7_codeOfName : List (List (List (Option ARow))) := [[[some (.aload_n 0, 1, 0, 0, 0), some (.getfield 31, 3, 7, 0, 0), none, none, none, none, some (.invokevirtual 76, 3, 131, 0, 0), none, none, some (.ifCond .eq 7, 3, 0, 0, 0), none, none, some (.iconst (-1), 1, 0, 0, 0), some (.goto 107, 3, 0, 0, 0), none, none], [some (.aload_n 0, 1, 0, 0, 0), some (.getfield 31, 3, 7, 0, 0), none, none, none, none, some (.invokevirtual 76, 3, 131, 0, 0), none, none, some (.ifCond .eq 8, 3, 0, 0, 0), none, none, some (.bipush (-2), 2, 0, 0, (-2)), none, some (.goto 90, 3, 0, 0, 0), none], [none, some (.aload_n 0, 1, 0, 0, 0), some (.getfield 31, 3, 7, 0, 0), none, none, none, none, some (.invokevirtual 76, 3, 131, 0, 0), none, none, some (.ifCond .eq 8, 3, 0, 0, 0), none, none, some (.bipush (-3), 2, 0, 0, (-3)), none, some (.goto 73, 3, 0, 0, 0)], [none, none, some (.aload_n 0, 1, 0, 0, 0), some (.getfield 31, 3, 7, 0, 0), none, none, none, none, some (.invokevirtual 76, 3, 131, 0, 0), none, none, some (.ifCond .eq 8, 3, 0, 0, 0), none, none, some (.bipush (-4), 2, 0, 0, (-4)), none], [some (.goto 56, 3, 0, 0, 0), none, none, some (.aload_n 0, 1, 0, 0, 0), some (.getfield 31, 3, 7, 0, 0), none, none, none, none, some (.invokevirtual 76, 3, 131, 0, 0), none, none, some (.ifCond .eq 8, 3, 0, 0, 0), none, none, some (.bipush (-5), 2, 0, 0, (-5))], [none, some (.goto 39, 3, 0, 0, 0), none, none, some (.aload_n 0, 1, 0, 0, 0), some (.getfield 31, 3, 7, 0, 0), none, none, none, none, some (.invokevirtual 76, 3, 131, 0, 0), none, none, some (.ifCond .eq 8, 3, 0, 0, 0), none, none], [some (.bipush (-6), 2, 0, 0, (-6)), none, some (.goto 22, 3, 0, 0, 0), none, none, some (.aload_n 0, 1, 0, 0, 0), some (.getfield 31, 3, 7, 0, 0), none, none, none, none, some (.invokevirtual 76, 3, 131, 0, 0), none, none, some (.ifCond .eq 8, 3, 0, 0, 0), none], [none, some (.bipush (-7), 2, 0, 0, (-7)), none, some (.goto 5, 3, 0, 0, 0), none, none, some (.bipush (-20), 2, 0, 0, (-20)), none, some (.ireturn, 1, 0, 0, 0)]]]
def cd_X7_enter : List (List (List (Option ARow))) := [[[some (.aload_n 0, 1, 0, 0, 0), some (.getfield 44, 3, 7, 12, 0), none, none, some (.bipush 6, 2, 0, 0, 6), none, some (.if_icmp .lt 12, 3, 2, 0, 0), none, none, some (.aload_n 0, 1, 0, 0, 0), some (.getfield 31, 3, 7, 0, 0), none, none, some (.iconst 3, 1, 0, 0, 0), some (.invokevirtual 82, 3, 132, 0, 0), none], [none, some (.ireturn, 1, 0, 0, 0), some (.aload_n 0, 1, 0, 0, 0), some (.dup, 1, 0, 0, 0), some (.getfield 44, 3, 7, 12, 0), none, none, some (.iconst 1, 1, 0, 0, 0), some (.iadd, 1, 0, 0, 0), some (.putfield 44, 3, 7, 12, 0), none, none, some (.aload_n 0, 1, 0, 0, 0), some (.getfield 31, 3, 7, 0, 0), none, none], [some (.invokevirtual 85, 3, 129, 0, 0), none, none, some (.iconst 1, 1, 0, 0, 0), some (.ireturn, 1, 0, 0, 0)]]]
def cd_X7_pass : List (List (List (Option ARow))) := [[[some (.aload_n 0, 1, 0, 0, 0), some (.getfield 31, 3, 7, 0, 0), none, none, some (.getfield 47, 3, 10, 6, 0), none, none, some (.iload_n 1, 1, 0, 0, 0), some (.if_icmp .eq 12, 3, 0, 0, 0), none, none, some (.aload_n 0, 1, 0, 0, 0), some (.getfield 31, 3, 7, 0, 0), none, none, some (.iconst 1, 1, 0, 0, 0)], [some (.invokevirtual 82, 3, 132, 0, 0), none, none, some (.ireturn, 1, 0, 0, 0), some (.aload_n 0, 1, 0, 0, 0), some (.getfield 31, 3, 7, 0, 0), none, none, some (.invokevirtual 85, 3, 129, 0, 0), none, none, some (.iconst 1, 1, 0, 0, 0), some (.ireturn, 1, 0, 0, 0)]]]
def cd_X7_put : List (List (List (Option ARow))) := [[[some (.aload_n 0, 1, 0, 0, 0), some (.getfield 35, 3, 7, 9, 0), none, none, some (.sipush 200, 3, 0, 0, 200), none, none, some (.if_icmp .ge 23, 3, 3, 0, 0), none, none, some (.aload_n 0, 1, 0, 0, 0), some (.getfield 22, 3, 7, 7, 0), none, none, some (.aload_n 0, 1, 0, 0, 0), some (.getfield 35, 3, 7, 9, 0)], [none, none, some (.iload_n 1, 1, 0, 0, 0), some (.iastore, 1, 0, 0, 0), some (.aload_n 0, 1, 0, 0, 0), some (.dup, 1, 0, 0, 0), some (.getfield 35, 3, 7, 9, 0), none, none, some (.iconst 1, 1, 0, 0, 0), some (.iadd, 1, 0, 0, 0), some (.putfield 35, 3, 7, 9, 0), none, none, some (.return_, 1, 0, 0, 0)]]]
def cd_X7_joinsHold : List (List (List (Option ARow))) := [[[some (.iconst 0, 1, 0, 0, 0), some (.istore_n 2, 1, 0, 0, 0), some (.iload_n 2, 1, 0, 0, 0), some (.aload_n 0, 1, 0, 0, 0), some (.getfield 60, 3, 7, 3, 0), none, none, some (.if_icmp .ge 31, 3, 3, 0, 0), none, none, some (.aload_n 0, 1, 0, 0, 0), some (.getfield 63, 3, 7, 5, 0), none, none, some (.iload_n 2, 1, 0, 0, 0), some (.ishr, 1, 0, 0, 0)], [some (.iconst 1, 1, 0, 0, 0), some (.iand, 1, 0, 0, 0), some (.ifCond .eq 14, 3, 0, 0, 0), none, none, some (.aload_n 0, 1, 0, 0, 0), some (.iload_n 2, 1, 0, 0, 0), some (.aload_n 1, 1, 0, 0, 0), some (.invokevirtual 150, 3, 84, 0, 0), none, none, some (.ifCond .ne 5, 3, 1, 0, 0), none, none, some (.iconst 0, 1, 0, 0, 0), some (.ireturn, 1, 0, 0, 0)], [some (.iinc 2 1, 3, 0, 0, 0), none, none, some (.goto (-33), 3, 0, 0, 0), none, none, some (.iconst 1, 1, 0, 0, 0), some (.ireturn, 1, 0, 0, 0)]]]
def cd_X7_work : List (List (List (Option ARow))) := [[[some (.iload_n 1, 1, 0, 0, 0), some (.iconst (-1), 1, 0, 0, 0), some (.if_icmp .ne 17, 3, 1, 0, 0), none, none, some (.aload_n 2, 1, 0, 0, 0), some (.iconst 0, 1, 0, 0, 0), some (.iaload, 1, 0, 0, 0), some (.iconst 2, 1, 0, 0, 0), some (.aload_n 2, 1, 0, 0, 0), some (.iconst 1, 1, 0, 0, 0), some (.iaload, 1, 0, 0, 0), some (.imul, 1, 0, 0, 0), some (.iadd, 1, 0, 0, 0), some (.aload_n 2, 1, 0, 0, 0), some (.iconst 2, 1, 0, 0, 0)], [some (.iaload, 1, 0, 0, 0), some (.iadd, 1, 0, 0, 0), some (.ireturn, 1, 0, 0, 0), some (.iconst 0, 1, 0, 0, 0), some (.istore_n 3, 1, 0, 0, 0), some (.aload_n 0, 1, 0, 0, 0), some (.iload_n 1, 1, 0, 0, 0), some (.invokevirtual 70, 3, 70, 0, 0), none, none, some (.istore 4, 2, 0, 0, 0), none, some (.iload 4, 2, 0, 0, 0), none, some (.aload_n 0, 1, 0, 0, 0), some (.getfield 15, 3, 7, 2, 0)], [none, none, some (.iload_n 1, 1, 0, 0, 0), some (.iaload, 1, 0, 0, 0), some (.if_icmp .ge 127, 3, 3, 0, 0), none, none, some (.aload_n 0, 1, 0, 0, 0), some (.getfield 11, 3, 7, 1, 0), none, none, some (.iload 4, 2, 0, 0, 0), none, some (.iaload, 1, 0, 0, 0), some (.istore 5, 2, 0, 0, 0), none], [some (.iload 5, 2, 0, 0, 0), none, some (.bipush (-8), 2, 0, 0, (-8)), none, some (.if_icmp .le 38, 3, 5, 0, 0), none, none, some (.iload_n 3, 1, 0, 0, 0), some (.sipush 200, 3, 0, 0, 200), none, none, some (.if_icmp .ge 98, 3, 3, 0, 0), none, none, some (.aload_n 0, 1, 0, 0, 0), some (.getfield 28, 3, 7, 13, 0)], [none, none, some (.iload_n 3, 1, 0, 0, 0), some (.iload 5, 2, 0, 0, 0), none, some (.ifCond .lt 8, 3, 2, 0, 0), none, none, some (.iload 5, 2, 0, 0, 0), none, some (.goto 9, 3, 0, 0, 0), none, none, some (.aload_n 2, 1, 0, 0, 0), some (.iconst (-1), 1, 0, 0, 0), some (.iload 5, 2, 0, 0, 0)], [none, some (.isub, 1, 0, 0, 0), some (.iaload, 1, 0, 0, 0), some (.iastore, 1, 0, 0, 0), some (.iinc 3 1, 3, 0, 0, 0), none, none, some (.goto 70, 3, 0, 0, 0), none, none, some (.iload 5, 2, 0, 0, 0), none, some (.bipush (-8), 2, 0, 0, (-8)), none, some (.if_icmp .ne 28, 3, 1, 0, 0), none], [none, some (.iload_n 3, 1, 0, 0, 0), some (.ifCond .le 59, 3, 5, 0, 0), none, none, some (.aload_n 0, 1, 0, 0, 0), some (.getfield 28, 3, 7, 13, 0), none, none, some (.iload_n 3, 1, 0, 0, 0), some (.iconst 1, 1, 0, 0, 0), some (.isub, 1, 0, 0, 0), some (.iconst 1, 1, 0, 0, 0), some (.aload_n 0, 1, 0, 0, 0), some (.getfield 28, 3, 7, 13, 0), none], [none, some (.iload_n 3, 1, 0, 0, 0), some (.iconst 1, 1, 0, 0, 0), some (.isub, 1, 0, 0, 0), some (.iaload, 1, 0, 0, 0), some (.isub, 1, 0, 0, 0), some (.iastore, 1, 0, 0, 0), some (.goto 38, 3, 0, 0, 0), none, none, some (.iload_n 3, 1, 0, 0, 0), some (.iconst 1, 1, 0, 0, 0), some (.if_icmp .le 33, 3, 5, 0, 0), none, none, some (.iinc 3 (-1), 3, 0, 0, 0)], [none, none, some (.aload_n 0, 1, 0, 0, 0), some (.getfield 28, 3, 7, 13, 0), none, none, some (.iload_n 3, 1, 0, 0, 0), some (.iconst 1, 1, 0, 0, 0), some (.isub, 1, 0, 0, 0), some (.iload 5, 2, 0, 0, 0), none, some (.aload_n 0, 1, 0, 0, 0), some (.getfield 28, 3, 7, 13, 0), none, none, some (.iload_n 3, 1, 0, 0, 0)], [some (.iconst 1, 1, 0, 0, 0), some (.isub, 1, 0, 0, 0), some (.iaload, 1, 0, 0, 0), some (.aload_n 0, 1, 0, 0, 0), some (.getfield 28, 3, 7, 13, 0), none, none, some (.iload_n 3, 1, 0, 0, 0), some (.iaload, 1, 0, 0, 0), some (.invokestatic 154, 3, 85, 1, 0), none, none, some (.iastore, 1, 0, 0, 0), some (.iinc 4 1, 3, 0, 0, 0), none, none], [some (.goto (-132), 3, 0, 0, 0), none, none, some (.aload_n 0, 1, 0, 0, 0), some (.getfield 28, 3, 7, 13, 0), none, none, some (.iconst 0, 1, 0, 0, 0), some (.iaload, 1, 0, 0, 0), some (.ireturn, 1, 0, 0, 0)]]]
def cd_X7_joined : List (List (List (Option ARow))) := [[[some (.iload_n 0, 1, 0, 0, 0), some (.tableswitch 138 (-18) (-9) #[134, 123, 112, 101, 90, 79, 67, 63, 59, 55], 55, 0, 0, 0), none, none, none, none, none, none, none, none, none, none, none, none, none, none], [none, none, none, none, none, none, none, none, none, none, none, none, none, none, none, none], [none, none, none, none, none, none, none, none, none, none, none, none, none, none, none, none], [none, none, none, none, none, none, none, none, some (.iload_n 1, 1, 0, 0, 0), some (.iload_n 2, 1, 0, 0, 0), some (.iadd, 1, 0, 0, 0), some (.ireturn, 1, 0, 0, 0), some (.iload_n 1, 1, 0, 0, 0), some (.iload_n 2, 1, 0, 0, 0), some (.isub, 1, 0, 0, 0), some (.ireturn, 1, 0, 0, 0)], [some (.iload_n 1, 1, 0, 0, 0), some (.iload_n 2, 1, 0, 0, 0), some (.imul, 1, 0, 0, 0), some (.ireturn, 1, 0, 0, 0), some (.iload_n 2, 1, 0, 0, 0), some (.ifCond .ne 7, 3, 1, 0, 0), none, none, some (.iconst 0, 1, 0, 0, 0), some (.goto 6, 3, 0, 0, 0), none, none, some (.iload_n 1, 1, 0, 0, 0), some (.iload_n 2, 1, 0, 0, 0), some (.idiv, 1, 0, 0, 0), some (.ireturn, 1, 0, 0, 0)], [some (.iload_n 1, 1, 0, 0, 0), some (.iload_n 2, 1, 0, 0, 0), some (.if_icmp .ge 7, 3, 3, 0, 0), none, none, some (.iload_n 1, 1, 0, 0, 0), some (.goto 4, 3, 0, 0, 0), none, none, some (.iload_n 2, 1, 0, 0, 0), some (.ireturn, 1, 0, 0, 0), some (.iload_n 1, 1, 0, 0, 0), some (.iload_n 2, 1, 0, 0, 0), some (.if_icmp .le 7, 3, 5, 0, 0), none, none], [some (.iload_n 1, 1, 0, 0, 0), some (.goto 4, 3, 0, 0, 0), none, none, some (.iload_n 2, 1, 0, 0, 0), some (.ireturn, 1, 0, 0, 0), some (.iload_n 1, 1, 0, 0, 0), some (.iload_n 2, 1, 0, 0, 0), some (.if_icmp .ge 7, 3, 3, 0, 0), none, none, some (.iconst 1, 1, 0, 0, 0), some (.goto 4, 3, 0, 0, 0), none, none, some (.iconst 0, 1, 0, 0, 0)], [some (.ireturn, 1, 0, 0, 0), some (.iload_n 1, 1, 0, 0, 0), some (.iload_n 2, 1, 0, 0, 0), some (.if_icmp .le 7, 3, 5, 0, 0), none, none, some (.iconst 1, 1, 0, 0, 0), some (.goto 4, 3, 0, 0, 0), none, none, some (.iconst 0, 1, 0, 0, 0), some (.ireturn, 1, 0, 0, 0), some (.iload_n 1, 1, 0, 0, 0), some (.iload_n 2, 1, 0, 0, 0), some (.if_icmp .ne 7, 3, 1, 0, 0), none], [none, some (.iconst 1, 1, 0, 0, 0), some (.goto 4, 3, 0, 0, 0), none, none, some (.iconst 0, 1, 0, 0, 0), some (.ireturn, 1, 0, 0, 0), some (.iload_n 1, 1, 0, 0, 0), some (.iload_n 2, 1, 0, 0, 0), some (.iand, 1, 0, 0, 0), some (.ireturn, 1, 0, 0, 0), some (.iload_n 1, 1, 0, 0, 0), some (.iload_n 2, 1, 0, 0, 0), some (.ior, 1, 0, 0, 0), some (.ireturn, 1, 0, 0, 0)]]]
def cd_X8_init : List (List (List (Option ARow))) := [[[some (.aload_n 0, 1, 0, 0, 0), some (.invokespecial 3, 3, 0, 4, 0), none, none, some (.aload_n 0, 1, 0, 0, 0), some (.new 9, 3, 9, 0, 0), none, none, some (.dup, 1, 0, 0, 0), some (.invokespecial 11, 3, 99, 3, 0), none, none, some (.putfield 12, 3, 8, 1, 0), none, none, some (.aload_n 0, 1, 0, 0, 0)], [some (.bipush 8, 2, 0, 0, 8), none, some (.anewarray 18, 3, 0, 0, 0), none, none, some (.putfield 20, 3, 8, 3, 0), none, none, some (.aload_n 0, 1, 0, 0, 0), some (.bipush 12, 2, 0, 0, 12), none, some (.newarray .int, 2, 0, 0, 0), none, some (.putfield 24, 3, 8, 8, 0), none, none], [some (.aload_n 0, 1, 0, 0, 0), some (.bipush 8, 2, 0, 0, 8), none, some (.newarray .int, 2, 0, 0, 0), none, some (.putfield 28, 3, 8, 10, 0), none, none, some (.aload_n 0, 1, 0, 0, 0), some (.bipush 8, 2, 0, 0, 8), none, some (.newarray .int, 2, 0, 0, 0), none, some (.putfield 31, 3, 8, 11, 0), none, none], [some (.aload_n 0, 1, 0, 0, 0), some (.bipush 8, 2, 0, 0, 8), none, some (.newarray .int, 2, 0, 0, 0), none, some (.putfield 34, 3, 8, 12, 0), none, none, some (.aload_n 0, 1, 0, 0, 0), some (.sipush 256, 3, 0, 0, 256), none, none, some (.newarray .int, 2, 0, 0, 0), none, some (.putfield 37, 3, 8, 14, 0), none], [none, some (.aload_n 0, 1, 0, 0, 0), some (.sipush 128, 3, 0, 0, 128), none, none, some (.newarray .int, 2, 0, 0, 0), none, some (.putfield 40, 3, 8, 15, 0), none, none, some (.aload_n 0, 1, 0, 0, 0), some (.sipush 128, 3, 0, 0, 128), none, none, some (.newarray .int, 2, 0, 0, 0), none], [some (.putfield 43, 3, 8, 16, 0), none, none, some (.aload_n 0, 1, 0, 0, 0), some (.bipush 24, 2, 0, 0, 24), none, some (.newarray .int, 2, 0, 0, 0), none, some (.putfield 46, 3, 8, 17, 0), none, none, some (.aload_n 0, 1, 0, 0, 0), some (.aload_n 1, 1, 0, 0, 0), some (.putfield 49, 3, 8, 0, 0), none, none], [some (.aload_n 0, 1, 0, 0, 0), some (.aload_n 3, 1, 0, 0, 0), some (.putfield 52, 3, 8, 2, 0), none, none, some (.iconst 0, 1, 0, 0, 0), some (.istore 4, 2, 0, 0, 0), none, some (.iload 4, 2, 0, 0, 0), none, some (.bipush 8, 2, 0, 0, 8), none, some (.if_icmp .ge 28, 3, 3, 0, 0), none, none, some (.aload_n 0, 1, 0, 0, 0)], [some (.getfield 20, 3, 8, 3, 0), none, none, some (.iload 4, 2, 0, 0, 0), none, some (.new 18, 3, 0, 0, 0), none, none, some (.dup, 1, 0, 0, 0), some (.aload_n 0, 1, 0, 0, 0), some (.getfield 12, 3, 8, 1, 0), none, none, some (.aload_n 2, 1, 0, 0, 0), some (.invokespecial 56, 3, 0, 2, 0), none], [none, some (.aastore, 1, 0, 0, 0), some (.iinc 4 1, 3, 0, 0, 0), none, none, some (.goto (-29), 3, 0, 0, 0), none, none, some (.return_, 1, 0, 0, 0)]]]
def cd_X8_shut : List (List (List (Option ARow))) := [[[some (.aload_n 0, 1, 0, 0, 0), some (.iload_n 1, 1, 0, 0, 0), some (.invokevirtual 59, 3, 88, 0, 0), none, none, some (.istore_n 3, 1, 0, 0, 0), some (.iload_n 3, 1, 0, 0, 0), some (.iload_n 2, 1, 0, 0, 0), some (.if_icmp .ne 7, 3, 1, 0, 0), none, none, some (.lconst 0, 1, 0, 0, 0), some (.goto 9, 3, 0, 0, 0), none, none, some (.lconst 1, 1, 0, 0, 0)], [some (.iload_n 1, 1, 0, 0, 0), some (.bipush 63, 2, 0, 0, 63), none, some (.iand, 1, 0, 0, 0), some (.lshl, 1, 0, 0, 0), some (.lstore 4, 2, 0, 0, 0), none, some (.iload_n 1, 1, 0, 0, 0), some (.bipush 64, 2, 0, 0, 64), none, some (.if_icmp .ge 17, 3, 3, 0, 0), none, none, some (.aload_n 0, 1, 0, 0, 0), some (.dup, 1, 0, 0, 0), some (.getfield 63, 3, 8, 4, 0)], [none, none, some (.lload 4, 2, 0, 0, 0), none, some (.lxor, 1, 0, 0, 0), some (.putfield 63, 3, 8, 4, 0), none, none, some (.goto 14, 3, 0, 0, 0), none, none, some (.aload_n 0, 1, 0, 0, 0), some (.dup, 1, 0, 0, 0), some (.getfield 67, 3, 8, 5, 0), none, none], [some (.lload 4, 2, 0, 0, 0), none, some (.lxor, 1, 0, 0, 0), some (.putfield 67, 3, 8, 5, 0), none, none, some (.iload_n 3, 1, 0, 0, 0), some (.ireturn, 1, 0, 0, 0)]]]
def cd_X8_isShut : List (List (List (Option ARow))) := [[[some (.iload_n 1, 1, 0, 0, 0), some (.bipush 64, 2, 0, 0, 64), none, some (.if_icmp .ge 10, 3, 3, 0, 0), none, none, some (.aload_n 0, 1, 0, 0, 0), some (.getfield 63, 3, 8, 4, 0), none, none, some (.goto 7, 3, 0, 0, 0), none, none, some (.aload_n 0, 1, 0, 0, 0), some (.getfield 67, 3, 8, 5, 0), none], [none, some (.iload_n 1, 1, 0, 0, 0), some (.bipush 63, 2, 0, 0, 63), none, some (.iand, 1, 0, 0, 0), some (.lushr, 1, 0, 0, 0), some (.lconst 1, 1, 0, 0, 0), some (.land, 1, 0, 0, 0), some (.lconst 0, 1, 0, 0, 0), some (.lcmp, 1, 0, 0, 0), some (.ifCond .eq 7, 3, 0, 0, 0), none, none, some (.iconst 1, 1, 0, 0, 0), some (.goto 4, 3, 0, 0, 0), none], [none, some (.iconst 0, 1, 0, 0, 0), some (.ireturn, 1, 0, 0, 0)]]]
def cd_X8_findHits : List (List (List (Option ARow))) := [[[some (.aload_n 0, 1, 0, 0, 0), some (.iload_n 1, 1, 0, 0, 0), some (.putfield 70, 3, 8, 6, 0), none, none, some (.aload_n 0, 1, 0, 0, 0), some (.iconst 0, 1, 0, 0, 0), some (.putfield 74, 3, 8, 7, 0), none, none, some (.aload_n 0, 1, 0, 0, 0), some (.iconst 0, 1, 0, 0, 0), some (.putfield 77, 3, 8, 9, 0), none, none, some (.iconst 0, 1, 0, 0, 0)], [some (.istore_n 2, 1, 0, 0, 0), some (.iload_n 2, 1, 0, 0, 0), some (.aload_n 0, 1, 0, 0, 0), some (.getfield 49, 3, 8, 0, 0), none, none, some (.getfield 80, 3, 9, 0, 0), none, none, some (.if_icmp .ge 111, 3, 3, 0, 0), none, none, some (.aload_n 0, 1, 0, 0, 0), some (.getfield 49, 3, 8, 0, 0), none, none], [some (.getfield 83, 3, 9, 3, 0), none, none, some (.iload_n 2, 1, 0, 0, 0), some (.iconst 2, 1, 0, 0, 0), some (.imul, 1, 0, 0, 0), some (.laload, 1, 0, 0, 0), some (.aload_n 0, 1, 0, 0, 0), some (.getfield 63, 3, 8, 4, 0), none, none, some (.land, 1, 0, 0, 0), some (.aload_n 0, 1, 0, 0, 0), some (.getfield 49, 3, 8, 0, 0), none, none], [some (.getfield 83, 3, 9, 3, 0), none, none, some (.iload_n 2, 1, 0, 0, 0), some (.iconst 2, 1, 0, 0, 0), some (.imul, 1, 0, 0, 0), some (.iconst 1, 1, 0, 0, 0), some (.iadd, 1, 0, 0, 0), some (.laload, 1, 0, 0, 0), some (.aload_n 0, 1, 0, 0, 0), some (.getfield 67, 3, 8, 5, 0), none, none, some (.land, 1, 0, 0, 0), some (.lor, 1, 0, 0, 0), some (.lconst 0, 1, 0, 0, 0)], [some (.lcmp, 1, 0, 0, 0), some (.ifCond .eq 7, 3, 0, 0, 0), none, none, some (.iconst 1, 1, 0, 0, 0), some (.goto 4, 3, 0, 0, 0), none, none, some (.iconst 0, 1, 0, 0, 0), some (.istore_n 3, 1, 0, 0, 0), some (.iload_n 3, 1, 0, 0, 0), some (.ifCond .eq 55, 3, 0, 0, 0), none, none, some (.aload_n 0, 1, 0, 0, 0), some (.getfield 49, 3, 8, 0, 0)], [none, none, some (.getfield 87, 3, 9, 12, 0), none, none, some (.aload_n 0, 1, 0, 0, 0), some (.getfield 70, 3, 8, 6, 0), none, none, some (.bipush 12, 2, 0, 0, 12), none, some (.imul, 1, 0, 0, 0), some (.iload_n 2, 1, 0, 0, 0), some (.iadd, 1, 0, 0, 0), some (.iaload, 1, 0, 0, 0), some (.ifCond .le 35, 3, 5, 0, 0)], [none, none, some (.aload_n 0, 1, 0, 0, 0), some (.dup, 1, 0, 0, 0), some (.getfield 74, 3, 8, 7, 0), none, none, some (.iconst 1, 1, 0, 0, 0), some (.iload_n 2, 1, 0, 0, 0), some (.ishl, 1, 0, 0, 0), some (.ior, 1, 0, 0, 0), some (.putfield 74, 3, 8, 7, 0), none, none, some (.aload_n 0, 1, 0, 0, 0), some (.getfield 24, 3, 8, 8, 0)], [none, none, some (.aload_n 0, 1, 0, 0, 0), some (.getfield 77, 3, 8, 9, 0), none, none, some (.iload_n 2, 1, 0, 0, 0), some (.iastore, 1, 0, 0, 0), some (.aload_n 0, 1, 0, 0, 0), some (.dup, 1, 0, 0, 0), some (.getfield 77, 3, 8, 9, 0), none, none, some (.iconst 1, 1, 0, 0, 0), some (.iadd, 1, 0, 0, 0), some (.putfield 77, 3, 8, 9, 0)], [none, none, some (.iinc 2 1, 3, 0, 0, 0), none, none, some (.goto (-116), 3, 0, 0, 0), none, none, some (.return_, 1, 0, 0, 0)]]]
def cd_X8_mendOf : List (List (List (Option ARow))) := [[[some (.iconst 0, 1, 0, 0, 0), some (.istore_n 2, 1, 0, 0, 0), some (.iload_n 2, 1, 0, 0, 0), some (.aload_n 0, 1, 0, 0, 0), some (.getfield 77, 3, 8, 9, 0), none, none, some (.if_icmp .ge 32, 3, 3, 0, 0), none, none, some (.iload_n 2, 1, 0, 0, 0), some (.bipush 8, 2, 0, 0, 8), none, some (.if_icmp .ge 26, 3, 3, 0, 0), none, none], [some (.aload_n 0, 1, 0, 0, 0), some (.getfield 24, 3, 8, 8, 0), none, none, some (.iload_n 2, 1, 0, 0, 0), some (.iaload, 1, 0, 0, 0), some (.iload_n 1, 1, 0, 0, 0), some (.if_icmp .ne 10, 3, 1, 0, 0), none, none, some (.aload_n 0, 1, 0, 0, 0), some (.getfield 34, 3, 8, 12, 0), none, none, some (.iload_n 2, 1, 0, 0, 0), some (.iaload, 1, 0, 0, 0)], [some (.ireturn, 1, 0, 0, 0), some (.iinc 2 1, 3, 0, 0, 0), none, none, some (.goto (-34), 3, 0, 0, 0), none, none, some (.iconst 0, 1, 0, 0, 0), some (.ireturn, 1, 0, 0, 0)]]]
def cd_X8_solve : List (List (List (Option ARow))) := [[[some (.aload_n 0, 1, 0, 0, 0), some (.getfield 77, 3, 8, 9, 0), none, none, some (.bipush 8, 2, 0, 0, 8), none, some (.if_icmp .le 5, 3, 5, 0, 0), none, none, some (.iconst 0, 1, 0, 0, 0), some (.ireturn, 1, 0, 0, 0), some (.aload_n 0, 1, 0, 0, 0), some (.invokevirtual 90, 3, 92, 0, 0), none, none, some (.aload_n 0, 1, 0, 0, 0)], [some (.getfield 37, 3, 8, 14, 0), none, none, some (.iconst 0, 1, 0, 0, 0), some (.invokestatic 93, 3, 312, 1, 0), none, none, some (.aload_n 0, 1, 0, 0, 0), some (.ldc 101, 2, 0, 0, 2147483647), none, some (.putfield 102, 3, 8, 13, 0), none, none, some (.aload_n 0, 1, 0, 0, 0), some (.iconst 0, 1, 0, 0, 0), some (.iconst 0, 1, 0, 0, 0)], [some (.iload_n 1, 1, 0, 0, 0), some (.iload_n 2, 1, 0, 0, 0), some (.iconst 0, 1, 0, 0, 0), some (.invokevirtual 105, 3, 96, 0, 0), none, none, some (.aload_n 0, 1, 0, 0, 0), some (.getfield 102, 3, 8, 13, 0), none, none, some (.ldc 101, 2, 0, 0, 2147483647), none, some (.if_icmp .eq 7, 3, 0, 0, 0), none, none, some (.iconst 1, 1, 0, 0, 0)], [some (.goto 4, 3, 0, 0, 0), none, none, some (.iconst 0, 1, 0, 0, 0), some (.ireturn, 1, 0, 0, 0)]]]
def cd_X8_layWays : List (List (List (Option ARow))) := [[[some (.aload_n 0, 1, 0, 0, 0), some (.getfield 12, 3, 8, 1, 0), none, none, some (.aload_n 0, 1, 0, 0, 0), some (.getfield 49, 3, 8, 0, 0), none, none, some (.getfield 80, 3, 9, 0, 0), none, none, some (.putfield 80, 3, 9, 0, 0), none, none, some (.iconst 0, 1, 0, 0, 0), some (.istore_n 1, 1, 0, 0, 0)], [some (.iconst 0, 1, 0, 0, 0), some (.istore_n 2, 1, 0, 0, 0), some (.iload_n 2, 1, 0, 0, 0), some (.aload_n 0, 1, 0, 0, 0), some (.getfield 49, 3, 8, 0, 0), none, none, some (.getfield 80, 3, 9, 0, 0), none, none, some (.if_icmp .ge 160, 3, 3, 0, 0), none, none, some (.aload_n 0, 1, 0, 0, 0), some (.getfield 49, 3, 8, 0, 0), none], [none, some (.getfield 109, 3, 9, 2, 0), none, none, some (.iload_n 2, 1, 0, 0, 0), some (.iaload, 1, 0, 0, 0), some (.istore_n 3, 1, 0, 0, 0), some (.aload_n 0, 1, 0, 0, 0), some (.getfield 12, 3, 8, 1, 0), none, none, some (.iload_n 2, 1, 0, 0, 0), some (.aload_n 0, 1, 0, 0, 0), some (.getfield 49, 3, 8, 0, 0), none, none], [some (.getfield 112, 3, 9, 1, 0), none, none, some (.iload_n 2, 1, 0, 0, 0), some (.bipush 24, 2, 0, 0, 24), none, some (.imul, 1, 0, 0, 0), some (.iload_n 3, 1, 0, 0, 0), some (.invokevirtual 115, 3, 107, 0, 0), none, none, some (.aload_n 0, 1, 0, 0, 0), some (.getfield 12, 3, 8, 1, 0), none, none, some (.getfield 87, 3, 9, 12, 0)], [none, none, some (.iload_n 2, 1, 0, 0, 0), some (.aload_n 0, 1, 0, 0, 0), some (.getfield 49, 3, 8, 0, 0), none, none, some (.getfield 87, 3, 9, 12, 0), none, none, some (.aload_n 0, 1, 0, 0, 0), some (.getfield 70, 3, 8, 6, 0), none, none, some (.bipush 12, 2, 0, 0, 12), none], [some (.imul, 1, 0, 0, 0), some (.iload_n 2, 1, 0, 0, 0), some (.iadd, 1, 0, 0, 0), some (.iaload, 1, 0, 0, 0), some (.iastore, 1, 0, 0, 0), some (.aload_n 0, 1, 0, 0, 0), some (.getfield 74, 3, 8, 7, 0), none, none, some (.iload_n 2, 1, 0, 0, 0), some (.ishr, 1, 0, 0, 0), some (.iconst 1, 1, 0, 0, 0), some (.iand, 1, 0, 0, 0), some (.ifCond .eq 87, 3, 0, 0, 0), none, none], [some (.aload_n 0, 1, 0, 0, 0), some (.aload_n 0, 1, 0, 0, 0), some (.getfield 49, 3, 8, 0, 0), none, none, some (.iload_n 2, 1, 0, 0, 0), some (.iconst 0, 1, 0, 0, 0), some (.invokevirtual 119, 3, 113, 0, 0), none, none, some (.aload_n 0, 1, 0, 0, 0), some (.getfield 49, 3, 8, 0, 0), none, none, some (.iload_n 2, 1, 0, 0, 0), some (.iload_n 3, 1, 0, 0, 0)], [some (.iconst 1, 1, 0, 0, 0), some (.isub, 1, 0, 0, 0), some (.invokevirtual 119, 3, 113, 0, 0), none, none, some (.invokevirtual 123, 3, 93, 0, 0), none, none, some (.istore 4, 2, 0, 0, 0), none, some (.aload_n 0, 1, 0, 0, 0), some (.getfield 28, 3, 8, 10, 0), none, none, some (.iload_n 1, 1, 0, 0, 0), some (.iload 4, 2, 0, 0, 0)], [none, some (.ifCond .ne 7, 3, 1, 0, 0), none, none, some (.iconst (-1), 1, 0, 0, 0), some (.goto 23, 3, 0, 0, 0), none, none, some (.iconst 2, 1, 0, 0, 0), some (.iconst 0, 1, 0, 0, 0), some (.iload 4, 2, 0, 0, 0), none, some (.iload_n 3, 1, 0, 0, 0), some (.isub, 1, 0, 0, 0), some (.invokestatic 126, 3, 300, 1, 0), none], [none, some (.imul, 1, 0, 0, 0), some (.aload_n 0, 1, 0, 0, 0), some (.getfield 12, 3, 8, 1, 0), none, none, some (.getfield 87, 3, 9, 12, 0), none, none, some (.iload_n 2, 1, 0, 0, 0), some (.iaload, 1, 0, 0, 0), some (.imul, 1, 0, 0, 0), some (.iastore, 1, 0, 0, 0), some (.iinc 1 1, 3, 0, 0, 0), none, none], [some (.iload 4, 2, 0, 0, 0), none, some (.ifCond .le 18, 3, 5, 0, 0), none, none, some (.aload_n 0, 1, 0, 0, 0), some (.getfield 12, 3, 8, 1, 0), none, none, some (.iload_n 2, 1, 0, 0, 0), some (.aload_n 0, 1, 0, 0, 0), some (.getfield 46, 3, 8, 17, 0), none, none, some (.iconst 0, 1, 0, 0, 0), some (.iload 4, 2, 0, 0, 0)], [none, some (.invokevirtual 115, 3, 107, 0, 0), none, none, some (.iinc 2 1, 3, 0, 0, 0), none, none, some (.goto (-165), 3, 0, 0, 0), none, none, some (.aload_n 0, 1, 0, 0, 0), some (.getfield 12, 3, 8, 1, 0), none, none, some (.invokevirtual 131, 3, 110, 0, 0), none], [none, some (.iconst 0, 1, 0, 0, 0), some (.istore_n 2, 1, 0, 0, 0), some (.iload_n 2, 1, 0, 0, 0), some (.bipush 8, 2, 0, 0, 8), none, some (.if_icmp .ge 37, 3, 3, 0, 0), none, none, some (.aload_n 0, 1, 0, 0, 0), some (.getfield 20, 3, 8, 3, 0), none, none, some (.iload_n 2, 1, 0, 0, 0), some (.aaload, 1, 0, 0, 0), some (.aload_n 0, 1, 0, 0, 0)], [some (.getfield 52, 3, 8, 2, 0), none, none, some (.getfield 134, 3, 3, 1, 0), none, none, some (.iload_n 2, 1, 0, 0, 0), some (.laload, 1, 0, 0, 0), some (.aload_n 0, 1, 0, 0, 0), some (.getfield 52, 3, 8, 2, 0), none, none, some (.getfield 138, 3, 3, 2, 0), none, none, some (.iload_n 2, 1, 0, 0, 0)], [some (.laload, 1, 0, 0, 0), some (.iconst 1, 1, 0, 0, 0), some (.invokevirtual 140, 3, 1, 0, 0), none, none, some (.iinc 2 1, 3, 0, 0, 0), none, none, some (.goto (-37), 3, 0, 0, 0), none, none, some (.return_, 1, 0, 0, 0)]]]
def cd_X8_findRound : List (List (List (Option ARow))) := [[[some (.iload_n 1, 1, 0, 0, 0), some (.iconst (-1), 1, 0, 0, 0), some (.if_icmp .eq 24, 3, 0, 0, 0), none, none, some (.iload_n 2, 1, 0, 0, 0), some (.iconst (-1), 1, 0, 0, 0), some (.if_icmp .eq 19, 3, 0, 0, 0), none, none, some (.aload_n 0, 1, 0, 0, 0), some (.iload_n 1, 1, 0, 0, 0), some (.invokevirtual 59, 3, 88, 0, 0), none, none, some (.ifCond .ne 11, 3, 1, 0, 0)], [none, none, some (.aload_n 0, 1, 0, 0, 0), some (.iload_n 2, 1, 0, 0, 0), some (.invokevirtual 59, 3, 88, 0, 0), none, none, some (.ifCond .eq 5, 3, 0, 0, 0), none, none, some (.iconst 0, 1, 0, 0, 0), some (.ireturn, 1, 0, 0, 0), some (.aload_n 0, 1, 0, 0, 0), some (.iload_n 2, 1, 0, 0, 0), some (.invokevirtual 144, 3, 94, 0, 0), none], [none, some (.aload_n 0, 1, 0, 0, 0), some (.getfield 40, 3, 8, 15, 0), none, none, some (.iload_n 1, 1, 0, 0, 0), some (.iaload, 1, 0, 0, 0), some (.iconst 1, 1, 0, 0, 0), some (.iadd, 1, 0, 0, 0), some (.istore_n 3, 1, 0, 0, 0), some (.iload_n 3, 1, 0, 0, 0), some (.iconst 1, 1, 0, 0, 0), some (.if_icmp .lt 9, 3, 2, 0, 0), none, none, some (.iload_n 3, 1, 0, 0, 0)], [some (.bipush 24, 2, 0, 0, 24), none, some (.if_icmp .le 5, 3, 5, 0, 0), none, none, some (.iconst 0, 1, 0, 0, 0), some (.ireturn, 1, 0, 0, 0), some (.aload_n 0, 1, 0, 0, 0), some (.getfield 46, 3, 8, 17, 0), none, none, some (.iconst 0, 1, 0, 0, 0), some (.iload_n 1, 1, 0, 0, 0), some (.iastore, 1, 0, 0, 0), some (.iconst 1, 1, 0, 0, 0), some (.istore 4, 2, 0, 0, 0)], [none, some (.iload 4, 2, 0, 0, 0), none, some (.iload_n 3, 1, 0, 0, 0), some (.if_icmp .ge 29, 3, 3, 0, 0), none, none, some (.aload_n 0, 1, 0, 0, 0), some (.getfield 46, 3, 8, 17, 0), none, none, some (.iload 4, 2, 0, 0, 0), none, some (.aload_n 0, 1, 0, 0, 0), some (.aload_n 0, 1, 0, 0, 0), some (.getfield 46, 3, 8, 17, 0)], [none, none, some (.iload 4, 2, 0, 0, 0), none, some (.iconst 1, 1, 0, 0, 0), some (.isub, 1, 0, 0, 0), some (.iaload, 1, 0, 0, 0), some (.invokevirtual 148, 3, 95, 0, 0), none, none, some (.iastore, 1, 0, 0, 0), some (.iinc 4 1, 3, 0, 0, 0), none, none, some (.goto (-29), 3, 0, 0, 0), none], [none, some (.iload_n 3, 1, 0, 0, 0), some (.ireturn, 1, 0, 0, 0)]]]
def cd_X8_spreadFrom : List (List (List (Option ARow))) := [[[some (.aload_n 0, 1, 0, 0, 0), some (.getfield 40, 3, 8, 15, 0), none, none, some (.iconst (-1), 1, 0, 0, 0), some (.invokestatic 93, 3, 312, 1, 0), none, none, some (.aload_n 0, 1, 0, 0, 0), some (.getfield 40, 3, 8, 15, 0), none, none, some (.iload_n 1, 1, 0, 0, 0), some (.iconst 0, 1, 0, 0, 0), some (.iastore, 1, 0, 0, 0), some (.aload_n 0, 1, 0, 0, 0)], [some (.getfield 43, 3, 8, 16, 0), none, none, some (.iconst 0, 1, 0, 0, 0), some (.iload_n 1, 1, 0, 0, 0), some (.iastore, 1, 0, 0, 0), some (.iconst 1, 1, 0, 0, 0), some (.istore_n 2, 1, 0, 0, 0), some (.iconst 0, 1, 0, 0, 0), some (.istore_n 3, 1, 0, 0, 0), some (.iload_n 3, 1, 0, 0, 0), some (.iload_n 2, 1, 0, 0, 0), some (.if_icmp .ge 109, 3, 3, 0, 0), none, none, some (.iload_n 3, 1, 0, 0, 0)], [some (.sipush 128, 3, 0, 0, 128), none, none, some (.if_icmp .ge 102, 3, 3, 0, 0), none, none, some (.iconst 0, 1, 0, 0, 0), some (.istore 4, 2, 0, 0, 0), none, some (.iload 4, 2, 0, 0, 0), none, some (.bipush 6, 2, 0, 0, 6), none, some (.if_icmp .ge 86, 3, 3, 0, 0), none, none], [some (.aload_n 0, 1, 0, 0, 0), some (.getfield 43, 3, 8, 16, 0), none, none, some (.iload_n 3, 1, 0, 0, 0), some (.iaload, 1, 0, 0, 0), some (.iload 4, 2, 0, 0, 0), none, some (.invokestatic 152, 3, 100, 1, 0), none, none, some (.istore 5, 2, 0, 0, 0), none, some (.iload 5, 2, 0, 0, 0), none, some (.iconst (-1), 1, 0, 0, 0)], [some (.if_icmp .eq 61, 3, 0, 0, 0), none, none, some (.aload_n 0, 1, 0, 0, 0), some (.getfield 40, 3, 8, 15, 0), none, none, some (.iload 5, 2, 0, 0, 0), none, some (.iaload, 1, 0, 0, 0), some (.iconst (-1), 1, 0, 0, 0), some (.if_icmp .ne 50, 3, 1, 0, 0), none, none, some (.aload_n 0, 1, 0, 0, 0), some (.iload 5, 2, 0, 0, 0)], [none, some (.invokevirtual 59, 3, 88, 0, 0), none, none, some (.ifCond .ne 41, 3, 1, 0, 0), none, none, some (.iload_n 2, 1, 0, 0, 0), some (.sipush 128, 3, 0, 0, 128), none, none, some (.if_icmp .ge 34, 3, 3, 0, 0), none, none, some (.aload_n 0, 1, 0, 0, 0), some (.getfield 40, 3, 8, 15, 0)], [none, none, some (.iload 5, 2, 0, 0, 0), none, some (.aload_n 0, 1, 0, 0, 0), some (.getfield 40, 3, 8, 15, 0), none, none, some (.aload_n 0, 1, 0, 0, 0), some (.getfield 43, 3, 8, 16, 0), none, none, some (.iload_n 3, 1, 0, 0, 0), some (.iaload, 1, 0, 0, 0), some (.iaload, 1, 0, 0, 0), some (.iconst 1, 1, 0, 0, 0)], [some (.iadd, 1, 0, 0, 0), some (.iastore, 1, 0, 0, 0), some (.aload_n 0, 1, 0, 0, 0), some (.getfield 43, 3, 8, 16, 0), none, none, some (.iload_n 2, 1, 0, 0, 0), some (.iload 5, 2, 0, 0, 0), none, some (.iastore, 1, 0, 0, 0), some (.iinc 2 1, 3, 0, 0, 0), none, none, some (.iinc 4 1, 3, 0, 0, 0), none, none], [some (.goto (-87), 3, 0, 0, 0), none, none, some (.iinc 3 1, 3, 0, 0, 0), none, none, some (.goto (-108), 3, 0, 0, 0), none, none, some (.return_, 1, 0, 0, 0)]]]
def cd_X8_nearerThan : List (List (List (Option ARow))) := [[[none, none, none, some (.astore_n 2, 1, 0, 0, 0), some (.aload_n 2, 1, 0, 0, 0), some (.arraylength, 1, 0, 0, 0), some (.istore_n 3, 1, 0, 0, 0), some (.iconst 0, 1, 0, 0, 0), some (.istore 4, 2, 0, 0, 0), none, some (.iload 4, 2, 0, 0, 0), none, some (.iload_n 3, 1, 0, 0, 0), some (.if_icmp .ge 50, 3, 3, 0, 0), none, none], [some (.aload_n 2, 1, 0, 0, 0), some (.iload 4, 2, 0, 0, 0), none, some (.iaload, 1, 0, 0, 0), some (.istore 5, 2, 0, 0, 0), none, some (.iload_n 1, 1, 0, 0, 0), some (.iload 5, 2, 0, 0, 0), none, some (.invokestatic 152, 3, 100, 1, 0), none, none, some (.istore 6, 2, 0, 0, 0), none, some (.iload 6, 2, 0, 0, 0), none], [some (.iconst (-1), 1, 0, 0, 0), some (.if_icmp .eq 24, 3, 0, 0, 0), none, none, some (.aload_n 0, 1, 0, 0, 0), some (.getfield 40, 3, 8, 15, 0), none, none, some (.iload 6, 2, 0, 0, 0), none, some (.iaload, 1, 0, 0, 0), some (.aload_n 0, 1, 0, 0, 0), some (.getfield 40, 3, 8, 15, 0), none, none, some (.iload_n 1, 1, 0, 0, 0)], [some (.iaload, 1, 0, 0, 0), some (.iconst 1, 1, 0, 0, 0), some (.isub, 1, 0, 0, 0), some (.if_icmp .ne 6, 3, 1, 0, 0), none, none, some (.iload 6, 2, 0, 0, 0), none, some (.ireturn, 1, 0, 0, 0), some (.iinc 4 1, 3, 0, 0, 0), none, none, some (.goto (-50), 3, 0, 0, 0), none, none, some (.iload_n 1, 1, 0, 0, 0)], [some (.ireturn, 1, 0, 0, 0)]]]
def cd_X8_tryMends : List (List (List (Option ARow))) := [[[some (.iload_n 2, 1, 0, 0, 0), some (.aload_n 0, 1, 0, 0, 0), some (.getfield 102, 3, 8, 13, 0), none, none, some (.if_icmp .lt 4, 3, 2, 0, 0), none, none, some (.return_, 1, 0, 0, 0), some (.iload_n 1, 1, 0, 0, 0), some (.aload_n 0, 1, 0, 0, 0), some (.getfield 77, 3, 8, 9, 0), none, none, some (.if_icmp .lt 35, 3, 2, 0, 0), none], [none, some (.aload_n 0, 1, 0, 0, 0), some (.iload 5, 2, 0, 0, 0), none, some (.invokevirtual 158, 3, 97, 0, 0), none, none, some (.ifCond .eq 25, 3, 0, 0, 0), none, none, some (.aload_n 0, 1, 0, 0, 0), some (.iload_n 2, 1, 0, 0, 0), some (.putfield 102, 3, 8, 13, 0), none, none, some (.aload_n 0, 1, 0, 0, 0)], [some (.getfield 31, 3, 8, 11, 0), none, none, some (.iconst 0, 1, 0, 0, 0), some (.aload_n 0, 1, 0, 0, 0), some (.getfield 34, 3, 8, 12, 0), none, none, some (.iconst 0, 1, 0, 0, 0), some (.aload_n 0, 1, 0, 0, 0), some (.getfield 77, 3, 8, 9, 0), none, none, some (.invokestatic 161, 3, 0, 5, 0), none, none], [some (.return_, 1, 0, 0, 0), some (.aload_n 0, 1, 0, 0, 0), some (.getfield 49, 3, 8, 0, 0), none, none, some (.getfield 87, 3, 9, 12, 0), none, none, some (.aload_n 0, 1, 0, 0, 0), some (.getfield 70, 3, 8, 6, 0), none, none, some (.bipush 12, 2, 0, 0, 12), none, some (.imul, 1, 0, 0, 0), some (.aload_n 0, 1, 0, 0, 0)], [some (.getfield 24, 3, 8, 8, 0), none, none, some (.iload_n 1, 1, 0, 0, 0), some (.iaload, 1, 0, 0, 0), some (.iadd, 1, 0, 0, 0), some (.iaload, 1, 0, 0, 0), some (.istore 6, 2, 0, 0, 0), none, some (.aload_n 0, 1, 0, 0, 0), some (.getfield 28, 3, 8, 10, 0), none, none, some (.iload_n 1, 1, 0, 0, 0), some (.iaload, 1, 0, 0, 0), some (.iconst (-1), 1, 0, 0, 0)], [some (.if_icmp .eq 34, 3, 0, 0, 0), none, none, some (.aload_n 0, 1, 0, 0, 0), some (.getfield 31, 3, 8, 11, 0), none, none, some (.iload_n 1, 1, 0, 0, 0), some (.iconst 1, 1, 0, 0, 0), some (.iastore, 1, 0, 0, 0), some (.aload_n 0, 1, 0, 0, 0), some (.iload_n 1, 1, 0, 0, 0), some (.iconst 1, 1, 0, 0, 0), some (.iadd, 1, 0, 0, 0), some (.iload_n 2, 1, 0, 0, 0), some (.aload_n 0, 1, 0, 0, 0)], [some (.getfield 28, 3, 8, 10, 0), none, none, some (.iload_n 1, 1, 0, 0, 0), some (.iaload, 1, 0, 0, 0), some (.iadd, 1, 0, 0, 0), some (.iload_n 3, 1, 0, 0, 0), some (.iload 4, 2, 0, 0, 0), none, some (.iload 5, 2, 0, 0, 0), none, some (.iconst 1, 1, 0, 0, 0), some (.iload_n 1, 1, 0, 0, 0), some (.ishl, 1, 0, 0, 0), some (.ior, 1, 0, 0, 0), some (.invokevirtual 105, 3, 96, 0, 0)], [none, none, some (.iload_n 3, 1, 0, 0, 0), some (.ifCond .le 31, 3, 5, 0, 0), none, none, some (.aload_n 0, 1, 0, 0, 0), some (.getfield 31, 3, 8, 11, 0), none, none, some (.iload_n 1, 1, 0, 0, 0), some (.iconst 2, 1, 0, 0, 0), some (.iastore, 1, 0, 0, 0), some (.aload_n 0, 1, 0, 0, 0), some (.iload_n 1, 1, 0, 0, 0), some (.iconst 1, 1, 0, 0, 0)], [some (.iadd, 1, 0, 0, 0), some (.iload_n 2, 1, 0, 0, 0), some (.bipush 15, 2, 0, 0, 15), none, some (.iload 6, 2, 0, 0, 0), none, some (.imul, 1, 0, 0, 0), some (.iadd, 1, 0, 0, 0), some (.iload_n 3, 1, 0, 0, 0), some (.iconst 1, 1, 0, 0, 0), some (.isub, 1, 0, 0, 0), some (.iload 4, 2, 0, 0, 0), none, some (.iload 5, 2, 0, 0, 0), none, some (.invokevirtual 105, 3, 96, 0, 0)], [none, none, some (.iload 4, 2, 0, 0, 0), none, some (.ifCond .le 31, 3, 5, 0, 0), none, none, some (.aload_n 0, 1, 0, 0, 0), some (.getfield 31, 3, 8, 11, 0), none, none, some (.iload_n 1, 1, 0, 0, 0), some (.iconst 3, 1, 0, 0, 0), some (.iastore, 1, 0, 0, 0), some (.aload_n 0, 1, 0, 0, 0), some (.iload_n 1, 1, 0, 0, 0)], [some (.iconst 1, 1, 0, 0, 0), some (.iadd, 1, 0, 0, 0), some (.iload_n 2, 1, 0, 0, 0), some (.bipush 60, 2, 0, 0, 60), none, some (.iload 6, 2, 0, 0, 0), none, some (.imul, 1, 0, 0, 0), some (.iadd, 1, 0, 0, 0), some (.iload_n 3, 1, 0, 0, 0), some (.iload 4, 2, 0, 0, 0), none, some (.iconst 1, 1, 0, 0, 0), some (.isub, 1, 0, 0, 0), some (.iload 5, 2, 0, 0, 0), none], [some (.invokevirtual 105, 3, 96, 0, 0), none, none, some (.return_, 1, 0, 0, 0)]]]
def cd_X8_fits : List (List (List (Option ARow))) := [[[some (.aload_n 0, 1, 0, 0, 0), some (.getfield 37, 3, 8, 14, 0), none, none, some (.iload_n 1, 1, 0, 0, 0), some (.iaload, 1, 0, 0, 0), some (.ifCond .ne 22, 3, 1, 0, 0), none, none, some (.aload_n 0, 1, 0, 0, 0), some (.getfield 37, 3, 8, 14, 0), none, none, some (.iload_n 1, 1, 0, 0, 0), some (.aload_n 0, 1, 0, 0, 0), some (.iload_n 1, 1, 0, 0, 0)], [some (.invokevirtual 167, 3, 98, 0, 0), none, none, some (.ifCond .eq 7, 3, 0, 0, 0), none, none, some (.iconst 2, 1, 0, 0, 0), some (.goto 4, 3, 0, 0, 0), none, none, some (.iconst 1, 1, 0, 0, 0), some (.iastore, 1, 0, 0, 0), some (.aload_n 0, 1, 0, 0, 0), some (.getfield 37, 3, 8, 14, 0), none, none], [some (.iload_n 1, 1, 0, 0, 0), some (.iaload, 1, 0, 0, 0), some (.iconst 1, 1, 0, 0, 0), some (.if_icmp .ne 7, 3, 1, 0, 0), none, none, some (.iconst 1, 1, 0, 0, 0), some (.goto 4, 3, 0, 0, 0), none, none, some (.iconst 0, 1, 0, 0, 0), some (.ireturn, 1, 0, 0, 0)]]]
def cd_X8_anyFull : List (List (List (Option ARow))) := [[[some (.iconst 0, 1, 0, 0, 0), some (.istore_n 2, 1, 0, 0, 0), some (.iload_n 2, 1, 0, 0, 0), some (.aload_n 0, 1, 0, 0, 0), some (.getfield 77, 3, 8, 9, 0), none, none, some (.if_icmp .ge 67, 3, 3, 0, 0), none, none, some (.iload_n 1, 1, 0, 0, 0), some (.iload_n 2, 1, 0, 0, 0), some (.ishr, 1, 0, 0, 0), some (.iconst 1, 1, 0, 0, 0), some (.iand, 1, 0, 0, 0), some (.ifCond .eq 7, 3, 0, 0, 0)], [none, none, some (.iconst 1, 1, 0, 0, 0), some (.goto 4, 3, 0, 0, 0), none, none, some (.iconst 0, 1, 0, 0, 0), some (.istore_n 3, 1, 0, 0, 0), some (.aload_n 0, 1, 0, 0, 0), some (.getfield 12, 3, 8, 1, 0), none, none, some (.getfield 87, 3, 9, 12, 0), none, none, some (.aload_n 0, 1, 0, 0, 0)], [some (.getfield 24, 3, 8, 8, 0), none, none, some (.iload_n 2, 1, 0, 0, 0), some (.iaload, 1, 0, 0, 0), some (.iload_n 3, 1, 0, 0, 0), some (.ifCond .eq 28, 3, 0, 0, 0), none, none, some (.aload_n 0, 1, 0, 0, 0), some (.getfield 49, 3, 8, 0, 0), none, none, some (.getfield 87, 3, 9, 12, 0), none, none], [some (.aload_n 0, 1, 0, 0, 0), some (.getfield 70, 3, 8, 6, 0), none, none, some (.bipush 12, 2, 0, 0, 12), none, some (.imul, 1, 0, 0, 0), some (.aload_n 0, 1, 0, 0, 0), some (.getfield 24, 3, 8, 8, 0), none, none, some (.iload_n 2, 1, 0, 0, 0), some (.iaload, 1, 0, 0, 0), some (.iadd, 1, 0, 0, 0), some (.iaload, 1, 0, 0, 0), some (.goto 4, 3, 0, 0, 0)], [none, none, some (.iconst 0, 1, 0, 0, 0), some (.iastore, 1, 0, 0, 0), some (.iinc 2 1, 3, 0, 0, 0), none, none, some (.goto (-69), 3, 0, 0, 0), none, none, some (.iconst 0, 1, 0, 0, 0), some (.istore_n 2, 1, 0, 0, 0), some (.iload_n 2, 1, 0, 0, 0), some (.bipush 8, 2, 0, 0, 8), none, some (.if_icmp .ge 45, 3, 3, 0, 0)], [none, none, some (.aload_n 0, 1, 0, 0, 0), some (.getfield 52, 3, 8, 2, 0), none, none, some (.iload_n 2, 1, 0, 0, 0), some (.invokevirtual 170, 3, 30, 0, 0), none, none, some (.ifCond .eq 28, 3, 0, 0, 0), none, none, some (.aload_n 0, 1, 0, 0, 0), some (.getfield 20, 3, 8, 3, 0), none], [none, some (.iload_n 2, 1, 0, 0, 0), some (.aaload, 1, 0, 0, 0), some (.iconst 0, 1, 0, 0, 0), some (.iconst (-1), 1, 0, 0, 0), some (.invokevirtual 173, 3, 4, 0, 0), none, none, some (.aload_n 0, 1, 0, 0, 0), some (.getfield 52, 3, 8, 2, 0), none, none, some (.getfield 176, 3, 3, 3, 0), none, none, some (.iload_n 2, 1, 0, 0, 0)], [some (.iaload, 1, 0, 0, 0), some (.if_icmp .le 5, 3, 5, 0, 0), none, none, some (.iconst 1, 1, 0, 0, 0), some (.ireturn, 1, 0, 0, 0), some (.iinc 2 1, 3, 0, 0, 0), none, none, some (.goto (-45), 3, 0, 0, 0), none, none, some (.iconst 0, 1, 0, 0, 0), some (.ireturn, 1, 0, 0, 0)]]]
def cd_X9_init : List (List (List (Option ARow))) := [[[some (.aload_n 0, 1, 0, 0, 0), some (.invokespecial 3, 3, 0, 4, 0), none, none, some (.aload_n 0, 1, 0, 0, 0), some (.sipush 288, 3, 0, 0, 288), none, none, some (.newarray .int, 2, 0, 0, 0), none, some (.putfield 9, 3, 9, 1, 0), none, none, some (.aload_n 0, 1, 0, 0, 0), some (.bipush 12, 2, 0, 0, 12), none], [some (.newarray .int, 2, 0, 0, 0), none, some (.putfield 15, 3, 9, 2, 0), none, none, some (.aload_n 0, 1, 0, 0, 0), some (.bipush 24, 2, 0, 0, 24), none, some (.newarray .long, 2, 1, 0, 0), none, some (.putfield 18, 3, 9, 3, 0), none, none, some (.aload_n 0, 1, 0, 0, 0), some (.sipush 168, 3, 0, 0, 168), none], [none, some (.newarray .long, 2, 1, 0, 0), none, some (.putfield 22, 3, 9, 4, 0), none, none, some (.aload_n 0, 1, 0, 0, 0), some (.bipush 60, 2, 0, 0, 60), none, some (.newarray .long, 2, 1, 0, 0), none, some (.putfield 25, 3, 9, 5, 0), none, none, some (.aload_n 0, 1, 0, 0, 0), some (.bipush 66, 2, 0, 0, 66)], [none, some (.newarray .int, 2, 0, 0, 0), none, some (.putfield 28, 3, 9, 6, 0), none, none, some (.aload_n 0, 1, 0, 0, 0), some (.sipush 132, 3, 0, 0, 132), none, none, some (.newarray .long, 2, 1, 0, 0), none, some (.putfield 31, 3, 9, 7, 0), none, none, some (.aload_n 0, 1, 0, 0, 0)], [some (.sipush 288, 3, 0, 0, 288), none, none, some (.newarray .int, 2, 0, 0, 0), none, some (.putfield 34, 3, 9, 9, 0), none, none, some (.aload_n 0, 1, 0, 0, 0), some (.bipush 12, 2, 0, 0, 12), none, some (.newarray .int, 2, 0, 0, 0), none, some (.putfield 37, 3, 9, 10, 0), none, none], [some (.aload_n 0, 1, 0, 0, 0), some (.bipush 12, 2, 0, 0, 12), none, some (.newarray .int, 2, 0, 0, 0), none, some (.putfield 40, 3, 9, 11, 0), none, none, some (.aload_n 0, 1, 0, 0, 0), some (.sipush 288, 3, 0, 0, 288), none, none, some (.newarray .int, 2, 0, 0, 0), none, some (.putfield 43, 3, 9, 12, 0), none], [none, some (.aload_n 0, 1, 0, 0, 0), some (.bipush 12, 2, 0, 0, 12), none, some (.newarray .int, 2, 0, 0, 0), none, some (.putfield 46, 3, 9, 13, 0), none, none, some (.aload_n 0, 1, 0, 0, 0), some (.bipush 12, 2, 0, 0, 12), none, some (.newarray .int, 2, 0, 0, 0), none, some (.putfield 49, 3, 9, 14, 0), none], [none, some (.aload_n 0, 1, 0, 0, 0), some (.bipush 24, 2, 0, 0, 24), none, some (.newarray .int, 2, 0, 0, 0), none, some (.putfield 52, 3, 9, 15, 0), none, none, some (.aload_n 0, 1, 0, 0, 0), some (.bipush 24, 2, 0, 0, 24), none, some (.newarray .int, 2, 0, 0, 0), none, some (.putfield 55, 3, 9, 16, 0), none], [none, some (.return_, 1, 0, 0, 0)]]]
def cd_X9_stepFrom : List (List (List (Option ARow))) := [[[some (.iload_n 1, 1, 0, 0, 0), some (.tableswitch 135 0 5 #[39, 56, 71, 89, 105, 120], 39, 0, 0, 0), none, none, none, none, none, none, none, none, none, none, none, none, none, none], [none, none, none, none, none, none, none, none, none, none, none, none, none, none, none, none], [none, none, none, none, none, none, none, none, some (.iload_n 0, 1, 0, 0, 0), some (.bipush 7, 2, 0, 0, 7), none, some (.iand, 1, 0, 0, 0), some (.bipush 7, 2, 0, 0, 7), none, some (.if_icmp .ge 9, 3, 3, 0, 0), none], [none, some (.iload_n 0, 1, 0, 0, 0), some (.iconst 1, 1, 0, 0, 0), some (.iadd, 1, 0, 0, 0), some (.goto 4, 3, 0, 0, 0), none, none, some (.iconst (-1), 1, 0, 0, 0), some (.ireturn, 1, 0, 0, 0), some (.iload_n 0, 1, 0, 0, 0), some (.bipush 7, 2, 0, 0, 7), none, some (.iand, 1, 0, 0, 0), some (.ifCond .le 9, 3, 5, 0, 0), none, none], [some (.iload_n 0, 1, 0, 0, 0), some (.iconst 1, 1, 0, 0, 0), some (.isub, 1, 0, 0, 0), some (.goto 4, 3, 0, 0, 0), none, none, some (.iconst (-1), 1, 0, 0, 0), some (.ireturn, 1, 0, 0, 0), some (.iload_n 0, 1, 0, 0, 0), some (.bipush 56, 2, 0, 0, 56), none, some (.iand, 1, 0, 0, 0), some (.bipush 56, 2, 0, 0, 56), none, some (.if_icmp .ge 10, 3, 3, 0, 0), none], [none, some (.iload_n 0, 1, 0, 0, 0), some (.bipush 8, 2, 0, 0, 8), none, some (.iadd, 1, 0, 0, 0), some (.goto 4, 3, 0, 0, 0), none, none, some (.iconst (-1), 1, 0, 0, 0), some (.ireturn, 1, 0, 0, 0), some (.iload_n 0, 1, 0, 0, 0), some (.bipush 56, 2, 0, 0, 56), none, some (.iand, 1, 0, 0, 0), some (.ifCond .le 10, 3, 5, 0, 0), none], [none, some (.iload_n 0, 1, 0, 0, 0), some (.bipush 8, 2, 0, 0, 8), none, some (.isub, 1, 0, 0, 0), some (.goto 4, 3, 0, 0, 0), none, none, some (.iconst (-1), 1, 0, 0, 0), some (.ireturn, 1, 0, 0, 0), some (.iload_n 0, 1, 0, 0, 0), some (.bipush 64, 2, 0, 0, 64), none, some (.if_icmp .ge 10, 3, 3, 0, 0), none, none], [some (.iload_n 0, 1, 0, 0, 0), some (.bipush 64, 2, 0, 0, 64), none, some (.iadd, 1, 0, 0, 0), some (.goto 4, 3, 0, 0, 0), none, none, some (.iconst (-1), 1, 0, 0, 0), some (.ireturn, 1, 0, 0, 0), some (.iload_n 0, 1, 0, 0, 0), some (.bipush 64, 2, 0, 0, 64), none, some (.if_icmp .lt 10, 3, 2, 0, 0), none, none, some (.iload_n 0, 1, 0, 0, 0)], [some (.bipush 64, 2, 0, 0, 64), none, some (.isub, 1, 0, 0, 0), some (.goto 4, 3, 0, 0, 0), none, none, some (.iconst (-1), 1, 0, 0, 0), some (.ireturn, 1, 0, 0, 0), some (.iconst (-1), 1, 0, 0, 0), some (.ireturn, 1, 0, 0, 0)]]]
def cd_X9_goOf : List (List (List (Option ARow))) := [[[some (.iload_n 0, 1, 0, 0, 0), some (.tableswitch 103 99 117 #[99, 95, 103, 103, 103, 103, 103, 103, 103, 93, 103, 103, 103, 103, 103, 91, 101, 103, 97], 91, 0, 0, 0), none, none, none, none, none, none, none, none, none, none, none, none, none, none], [none, none, none, none, none, none, none, none, none, none, none, none, none, none, none, none], [none, none, none, none, none, none, none, none, none, none, none, none, none, none, none, none], [none, none, none, none, none, none, none, none, none, none, none, none, none, none, none, none], [none, none, none, none, none, none, none, none, none, none, none, none, none, none, none, none], [none, none, none, none, none, none, none, none, none, none, none, none, some (.iconst 0, 1, 0, 0, 0), some (.ireturn, 1, 0, 0, 0), some (.iconst 1, 1, 0, 0, 0), some (.ireturn, 1, 0, 0, 0)], [some (.iconst 2, 1, 0, 0, 0), some (.ireturn, 1, 0, 0, 0), some (.iconst 3, 1, 0, 0, 0), some (.ireturn, 1, 0, 0, 0), some (.iconst 4, 1, 0, 0, 0), some (.ireturn, 1, 0, 0, 0), some (.iconst 5, 1, 0, 0, 0), some (.ireturn, 1, 0, 0, 0), some (.iconst (-1), 1, 0, 0, 0), some (.ireturn, 1, 0, 0, 0)]]]
def cd_X9_goBetween : List (List (List (Option ARow))) := [[[some (.iload_n 1, 1, 0, 0, 0), some (.iload_n 0, 1, 0, 0, 0), some (.isub, 1, 0, 0, 0), none, none, none, none, none, none, none, none, none, none, none, none, none], [none, none, none, none, none, none, none, none, none, none, none, none, none, none, none, none], [none, none, none, none, none, none, none, none, none, none, none, none, none, none, none, none], [none, none, none, none, some (.iconst 0, 1, 0, 0, 0), some (.ireturn, 1, 0, 0, 0), some (.iconst 1, 1, 0, 0, 0), some (.ireturn, 1, 0, 0, 0), some (.iconst 2, 1, 0, 0, 0), some (.ireturn, 1, 0, 0, 0), some (.iconst 3, 1, 0, 0, 0), some (.ireturn, 1, 0, 0, 0), some (.iconst 4, 1, 0, 0, 0), some (.ireturn, 1, 0, 0, 0), some (.iconst 5, 1, 0, 0, 0), some (.ireturn, 1, 0, 0, 0)]]]
def cd_X9_readWay : List (List (List (Option ARow))) := [[[some (.aload_n 0, 1, 0, 0, 0), some (.iconst 0, 1, 0, 0, 0), some (.putfield 58, 3, 9, 17, 0), none, none, some (.aload_n 1, 1, 0, 0, 0), some (.getfield 62, 3, 10, 6, 0), none, none, some (.bipush (-2), 2, 0, 0, (-2)), none, some (.if_icmp .eq 9, 3, 0, 0, 0), none, none, some (.aload_n 1, 1, 0, 0, 0), some (.iconst 1, 1, 0, 0, 0)], [some (.invokevirtual 67, 3, 132, 0, 0), none, none, some (.ireturn, 1, 0, 0, 0), some (.aload_n 1, 1, 0, 0, 0), some (.getfield 71, 3, 10, 7, 0), none, none, some (.sipush 128, 3, 0, 0, 128), none, none, some (.if_icmp .lt 9, 3, 2, 0, 0), none, none, some (.aload_n 1, 1, 0, 0, 0), some (.iconst 2, 1, 0, 0, 0)], [some (.invokevirtual 67, 3, 132, 0, 0), none, none, some (.ireturn, 1, 0, 0, 0), some (.aload_n 0, 1, 0, 0, 0), some (.getfield 55, 3, 9, 16, 0), none, none, some (.iconst 0, 1, 0, 0, 0), some (.aload_n 1, 1, 0, 0, 0), some (.getfield 71, 3, 10, 7, 0), none, none, some (.iastore, 1, 0, 0, 0), some (.aload_n 0, 1, 0, 0, 0), some (.iconst 1, 1, 0, 0, 0)], [some (.putfield 58, 3, 9, 17, 0), none, none, some (.aload_n 1, 1, 0, 0, 0), some (.invokevirtual 74, 3, 129, 0, 0), none, none, some (.iconst 0, 1, 0, 0, 0), some (.istore_n 2, 1, 0, 0, 0), some (.iload_n 2, 1, 0, 0, 0), some (.bipush 100, 2, 0, 0, 100), none, some (.if_icmp .ge 27, 3, 3, 0, 0), none, none, some (.aload_n 1, 1, 0, 0, 0)], [some (.getfield 62, 3, 10, 6, 0), none, none, some (.iconst (-1), 1, 0, 0, 0), some (.if_icmp .eq 19, 3, 0, 0, 0), none, none, some (.aload_n 0, 1, 0, 0, 0), some (.aload_n 1, 1, 0, 0, 0), some (.invokevirtual 77, 3, 104, 0, 0), none, none, some (.ifCond .ne 5, 3, 1, 0, 0), none, none, some (.iconst 0, 1, 0, 0, 0)], [some (.ireturn, 1, 0, 0, 0), some (.iinc 2 1, 3, 0, 0, 0), none, none, some (.goto (-27), 3, 0, 0, 0), none, none, some (.iconst 1, 1, 0, 0, 0), some (.ireturn, 1, 0, 0, 0)]]]
def cd_X9_readMove : List (List (List (Option ARow))) := [[[some (.aload_n 1, 1, 0, 0, 0), some (.getfield 62, 3, 10, 6, 0), none, none, some (.invokestatic 81, 3, 101, 1, 0), none, none, some (.istore_n 2, 1, 0, 0, 0), some (.aload_n 1, 1, 0, 0, 0), some (.getfield 85, 3, 10, 5, 0), none, none, some (.istore_n 3, 1, 0, 0, 0), some (.iload_n 2, 1, 0, 0, 0), some (.iconst (-1), 1, 0, 0, 0), some (.if_icmp .ne 9, 3, 1, 0, 0)], [none, none, some (.aload_n 1, 1, 0, 0, 0), some (.iconst 1, 1, 0, 0, 0), some (.invokevirtual 67, 3, 132, 0, 0), none, none, some (.ireturn, 1, 0, 0, 0), some (.aload_n 1, 1, 0, 0, 0), some (.invokevirtual 74, 3, 129, 0, 0), none, none, some (.iconst 1, 1, 0, 0, 0), some (.istore 4, 2, 0, 0, 0), none, some (.iload_n 2, 1, 0, 0, 0)], [some (.iconst 4, 1, 0, 0, 0), some (.if_icmp .ge 41, 3, 3, 0, 0), none, none, some (.aload_n 1, 1, 0, 0, 0), some (.getfield 62, 3, 10, 6, 0), none, none, some (.bipush (-2), 2, 0, 0, (-2)), none, some (.if_icmp .ne 32, 3, 1, 0, 0), none, none, some (.aload_n 1, 1, 0, 0, 0), some (.getfield 71, 3, 10, 7, 0), none], [none, some (.istore 4, 2, 0, 0, 0), none, some (.iload 4, 2, 0, 0, 0), none, some (.iconst 1, 1, 0, 0, 0), some (.if_icmp .lt 10, 3, 2, 0, 0), none, none, some (.iload 4, 2, 0, 0, 0), none, some (.bipush 7, 2, 0, 0, 7), none, some (.if_icmp .le 9, 3, 5, 0, 0), none, none], [some (.aload_n 1, 1, 0, 0, 0), some (.iconst 2, 1, 0, 0, 0), some (.invokevirtual 67, 3, 132, 0, 0), none, none, some (.ireturn, 1, 0, 0, 0), some (.aload_n 1, 1, 0, 0, 0), some (.invokevirtual 74, 3, 129, 0, 0), none, none, some (.iconst 0, 1, 0, 0, 0), some (.istore 5, 2, 0, 0, 0), none, some (.iload 5, 2, 0, 0, 0), none, some (.iload 4, 2, 0, 0, 0)], [none, some (.if_icmp .ge 29, 3, 3, 0, 0), none, none, some (.aload_n 0, 1, 0, 0, 0), some (.iload_n 2, 1, 0, 0, 0), some (.invokevirtual 88, 3, 105, 0, 0), none, none, some (.istore 6, 2, 0, 0, 0), none, some (.iload 6, 2, 0, 0, 0), none, some (.ifCond .eq 11, 3, 0, 0, 0), none, none], [some (.aload_n 1, 1, 0, 0, 0), some (.iload 6, 2, 0, 0, 0), none, some (.iload_n 3, 1, 0, 0, 0), some (.invokevirtual 91, 3, 133, 0, 0), none, none, some (.ireturn, 1, 0, 0, 0), some (.iinc 5 1, 3, 0, 0, 0), none, none, some (.goto (-30), 3, 0, 0, 0), none, none, some (.iconst 1, 1, 0, 0, 0), some (.ireturn, 1, 0, 0, 0)]]]
def cd_X9_lengthen : List (List (List (Option ARow))) := [[[some (.aload_n 0, 1, 0, 0, 0), some (.getfield 58, 3, 9, 17, 0), none, none, some (.ifCond .le 21, 3, 5, 0, 0), none, none, some (.aload_n 0, 1, 0, 0, 0), some (.getfield 55, 3, 9, 16, 0), none, none, some (.aload_n 0, 1, 0, 0, 0), some (.getfield 58, 3, 9, 17, 0), none, none, some (.iconst 1, 1, 0, 0, 0)], [some (.isub, 1, 0, 0, 0), some (.iaload, 1, 0, 0, 0), some (.iload_n 1, 1, 0, 0, 0), some (.invokestatic 95, 3, 100, 1, 0), none, none, some (.goto 4, 3, 0, 0, 0), none, none, some (.iconst (-1), 1, 0, 0, 0), some (.istore_n 2, 1, 0, 0, 0), some (.iload_n 2, 1, 0, 0, 0), some (.iconst (-1), 1, 0, 0, 0), some (.if_icmp .ne 5, 3, 1, 0, 0), none, none], [some (.iconst 3, 1, 0, 0, 0), some (.ireturn, 1, 0, 0, 0), some (.aload_n 0, 1, 0, 0, 0), some (.getfield 58, 3, 9, 17, 0), none, none, some (.bipush 24, 2, 0, 0, 24), none, some (.if_icmp .lt 5, 3, 2, 0, 0), none, none, some (.iconst 4, 1, 0, 0, 0), some (.ireturn, 1, 0, 0, 0), some (.iconst 0, 1, 0, 0, 0), some (.istore_n 3, 1, 0, 0, 0), some (.iload_n 3, 1, 0, 0, 0)], [some (.aload_n 0, 1, 0, 0, 0), some (.getfield 58, 3, 9, 17, 0), none, none, some (.if_icmp .ge 21, 3, 3, 0, 0), none, none, some (.aload_n 0, 1, 0, 0, 0), some (.getfield 55, 3, 9, 16, 0), none, none, some (.iload_n 3, 1, 0, 0, 0), some (.iaload, 1, 0, 0, 0), some (.iload_n 2, 1, 0, 0, 0), some (.if_icmp .ne 5, 3, 1, 0, 0), none], [none, some (.iconst 4, 1, 0, 0, 0), some (.ireturn, 1, 0, 0, 0), some (.iinc 3 1, 3, 0, 0, 0), none, none, some (.goto (-23), 3, 0, 0, 0), none, none, some (.aload_n 0, 1, 0, 0, 0), some (.getfield 55, 3, 9, 16, 0), none, none, some (.aload_n 0, 1, 0, 0, 0), some (.getfield 58, 3, 9, 17, 0), none], [none, some (.iload_n 2, 1, 0, 0, 0), some (.iastore, 1, 0, 0, 0), some (.aload_n 0, 1, 0, 0, 0), some (.dup, 1, 0, 0, 0), some (.getfield 58, 3, 9, 17, 0), none, none, some (.iconst 1, 1, 0, 0, 0), some (.iadd, 1, 0, 0, 0), some (.putfield 58, 3, 9, 17, 0), none, none, some (.iconst 0, 1, 0, 0, 0), some (.ireturn, 1, 0, 0, 0)]]]
def cd_X9_addTrial : List (List (List (Option ARow))) := [[[some (.aload_n 0, 1, 0, 0, 0), some (.getfield 99, 3, 9, 0, 0), none, none, some (.bipush 12, 2, 0, 0, 12), none, some (.if_icmp .lt 5, 3, 2, 0, 0), none, none, some (.iconst (-1), 1, 0, 0, 0), some (.ireturn, 1, 0, 0, 0), some (.aload_n 0, 1, 0, 0, 0), some (.aload_n 0, 1, 0, 0, 0), some (.getfield 99, 3, 9, 0, 0), none, none], [some (.aload_n 0, 1, 0, 0, 0), some (.getfield 55, 3, 9, 16, 0), none, none, some (.iconst 0, 1, 0, 0, 0), some (.aload_n 0, 1, 0, 0, 0), some (.getfield 58, 3, 9, 17, 0), none, none, some (.invokevirtual 102, 3, 107, 0, 0), none, none, some (.aload_n 0, 1, 0, 0, 0), some (.dup, 1, 0, 0, 0), some (.getfield 99, 3, 9, 0, 0), none], [none, some (.iconst 1, 1, 0, 0, 0), some (.iadd, 1, 0, 0, 0), some (.putfield 99, 3, 9, 0, 0), none, none, some (.aload_n 0, 1, 0, 0, 0), some (.invokevirtual 106, 3, 110, 0, 0), none, none, some (.aload_n 0, 1, 0, 0, 0), some (.getfield 99, 3, 9, 0, 0), none, none, some (.iconst 1, 1, 0, 0, 0), some (.isub, 1, 0, 0, 0)], [some (.ireturn, 1, 0, 0, 0)]]]
def cd_X9_setWay : List (List (List (Option ARow))) := [[[some (.aload_n 2, 1, 0, 0, 0), some (.iload_n 3, 1, 0, 0, 0), some (.aload_n 0, 1, 0, 0, 0), some (.getfield 9, 3, 9, 1, 0), none, none, some (.iload_n 1, 1, 0, 0, 0), some (.bipush 24, 2, 0, 0, 24), none, some (.imul, 1, 0, 0, 0), some (.iload 4, 2, 0, 0, 0), none, some (.invokestatic 109, 3, 0, 5, 0), none, none, some (.aload_n 0, 1, 0, 0, 0)], [some (.getfield 15, 3, 9, 2, 0), none, none, some (.iload_n 1, 1, 0, 0, 0), some (.iload 4, 2, 0, 0, 0), none, some (.iastore, 1, 0, 0, 0), some (.aload_n 0, 1, 0, 0, 0), some (.iload_n 1, 1, 0, 0, 0), some (.invokevirtual 115, 3, 108, 0, 0), none, none, some (.bipush 6, 2, 0, 0, 6), none, some (.istore 5, 2, 0, 0, 0), none], [some (.iconst 0, 1, 0, 0, 0), some (.istore 6, 2, 0, 0, 0), none, some (.iload 6, 2, 0, 0, 0), none, some (.iload 4, 2, 0, 0, 0), none, some (.if_icmp .ge 114, 3, 3, 0, 0), none, none, some (.aload_n 2, 1, 0, 0, 0), some (.iload_n 3, 1, 0, 0, 0), some (.iload 6, 2, 0, 0, 0), none, some (.iadd, 1, 0, 0, 0), some (.iaload, 1, 0, 0, 0)], [some (.istore 7, 2, 0, 0, 0), none, some (.iload 6, 2, 0, 0, 0), none, some (.iconst 1, 1, 0, 0, 0), some (.iadd, 1, 0, 0, 0), some (.iload 4, 2, 0, 0, 0), none, some (.if_icmp .ge 38, 3, 3, 0, 0), none, none, some (.iload 7, 2, 0, 0, 0), none, some (.aload_n 2, 1, 0, 0, 0), some (.iload_n 3, 1, 0, 0, 0), some (.iload 6, 2, 0, 0, 0)], [none, some (.iadd, 1, 0, 0, 0), some (.iconst 1, 1, 0, 0, 0), some (.iadd, 1, 0, 0, 0), some (.iaload, 1, 0, 0, 0), some (.invokestatic 119, 3, 102, 1, 0), none, none, some (.istore 5, 2, 0, 0, 0), none, some (.aload_n 0, 1, 0, 0, 0), some (.iload_n 1, 1, 0, 0, 0), some (.iload 7, 2, 0, 0, 0), none, some (.aload_n 2, 1, 0, 0, 0), some (.iload_n 3, 1, 0, 0, 0)], [some (.iload 6, 2, 0, 0, 0), none, some (.iadd, 1, 0, 0, 0), some (.iconst 1, 1, 0, 0, 0), some (.iadd, 1, 0, 0, 0), some (.iaload, 1, 0, 0, 0), some (.invokestatic 122, 3, 301, 1, 0), none, none, some (.iload 5, 2, 0, 0, 0), none, some (.invokevirtual 127, 3, 109, 0, 0), none, none, some (.lconst 1, 1, 0, 0, 0), some (.iload 7, 2, 0, 0, 0)], [none, some (.bipush 63, 2, 0, 0, 63), none, some (.iand, 1, 0, 0, 0), some (.lshl, 1, 0, 0, 0), some (.lstore 8, 2, 0, 0, 0), none, some (.aload_n 0, 1, 0, 0, 0), some (.getfield 18, 3, 9, 3, 0), none, none, some (.iload_n 1, 1, 0, 0, 0), some (.iconst 2, 1, 0, 0, 0), some (.imul, 1, 0, 0, 0), some (.iload 7, 2, 0, 0, 0), none], [some (.bipush 64, 2, 0, 0, 64), none, some (.idiv, 1, 0, 0, 0), some (.iadd, 1, 0, 0, 0), some (.dup2, 1, 0, 0, 0), some (.laload, 1, 0, 0, 0), some (.lload 8, 2, 0, 0, 0), none, some (.lor, 1, 0, 0, 0), some (.lastore, 1, 0, 0, 0), some (.aload_n 0, 1, 0, 0, 0), some (.getfield 22, 3, 9, 4, 0), none, none, some (.iload_n 1, 1, 0, 0, 0), some (.bipush 7, 2, 0, 0, 7)], [none, some (.imul, 1, 0, 0, 0), some (.iload 5, 2, 0, 0, 0), none, some (.iadd, 1, 0, 0, 0), some (.iconst 2, 1, 0, 0, 0), some (.imul, 1, 0, 0, 0), some (.iload 7, 2, 0, 0, 0), none, some (.bipush 64, 2, 0, 0, 64), none, some (.idiv, 1, 0, 0, 0), some (.iadd, 1, 0, 0, 0), some (.dup2, 1, 0, 0, 0), some (.laload, 1, 0, 0, 0), some (.lload 8, 2, 0, 0, 0)], [none, some (.lor, 1, 0, 0, 0), some (.lastore, 1, 0, 0, 0), some (.iinc 6 1, 3, 0, 0, 0), none, none, some (.goto (-115), 3, 0, 0, 0), none, none, some (.return_, 1, 0, 0, 0)]]]
def cd_X9_wipe : List (List (List (Option ARow))) := [[[some (.aload_n 0, 1, 0, 0, 0), some (.getfield 18, 3, 9, 3, 0), none, none, some (.iload_n 1, 1, 0, 0, 0), some (.iconst 2, 1, 0, 0, 0), some (.imul, 1, 0, 0, 0), some (.lconst 0, 1, 0, 0, 0), some (.lastore, 1, 0, 0, 0), some (.aload_n 0, 1, 0, 0, 0), some (.getfield 18, 3, 9, 3, 0), none, none, some (.iload_n 1, 1, 0, 0, 0), some (.iconst 2, 1, 0, 0, 0), some (.imul, 1, 0, 0, 0)], [some (.iconst 1, 1, 0, 0, 0), some (.iadd, 1, 0, 0, 0), some (.lconst 0, 1, 0, 0, 0), some (.lastore, 1, 0, 0, 0), some (.iconst 0, 1, 0, 0, 0), some (.istore_n 2, 1, 0, 0, 0), some (.iload_n 2, 1, 0, 0, 0), some (.bipush 14, 2, 0, 0, 14), none, some (.if_icmp .ge 23, 3, 3, 0, 0), none, none, some (.aload_n 0, 1, 0, 0, 0), some (.getfield 22, 3, 9, 4, 0), none, none], [some (.iload_n 1, 1, 0, 0, 0), some (.bipush 7, 2, 0, 0, 7), none, some (.imul, 1, 0, 0, 0), some (.iconst 2, 1, 0, 0, 0), some (.imul, 1, 0, 0, 0), some (.iload_n 2, 1, 0, 0, 0), some (.iadd, 1, 0, 0, 0), some (.lconst 0, 1, 0, 0, 0), some (.lastore, 1, 0, 0, 0), some (.iinc 2 1, 3, 0, 0, 0), none, none, some (.goto (-23), 3, 0, 0, 0), none, none], [some (.iconst 0, 1, 0, 0, 0), some (.istore_n 2, 1, 0, 0, 0), some (.iload_n 2, 1, 0, 0, 0), some (.iconst 5, 1, 0, 0, 0), some (.if_icmp .ge 20, 3, 3, 0, 0), none, none, some (.aload_n 0, 1, 0, 0, 0), some (.getfield 25, 3, 9, 5, 0), none, none, some (.iload_n 1, 1, 0, 0, 0), some (.iconst 5, 1, 0, 0, 0), some (.imul, 1, 0, 0, 0), some (.iload_n 2, 1, 0, 0, 0), some (.iadd, 1, 0, 0, 0)], [some (.lconst 0, 1, 0, 0, 0), some (.lastore, 1, 0, 0, 0), some (.iinc 2 1, 3, 0, 0, 0), none, none, some (.goto (-19), 3, 0, 0, 0), none, none, some (.return_, 1, 0, 0, 0)]]]
def cd_X9_setStep : List (List (List (Option ARow))) := [[[some (.iload_n 3, 1, 0, 0, 0), some (.iconst 4, 1, 0, 0, 0), some (.if_icmp .lt 7, 3, 2, 0, 0), none, none, some (.iconst 4, 1, 0, 0, 0), some (.goto 13, 3, 0, 0, 0), none, none, some (.iload_n 3, 1, 0, 0, 0), some (.iconst 2, 1, 0, 0, 0), some (.idiv, 1, 0, 0, 0), some (.iconst 2, 1, 0, 0, 0), some (.imul, 1, 0, 0, 0), some (.iload_n 2, 1, 0, 0, 0), some (.bipush 64, 2, 0, 0, 64)], [none, some (.idiv, 1, 0, 0, 0), some (.iadd, 1, 0, 0, 0), some (.istore 4, 2, 0, 0, 0), none, some (.aload_n 0, 1, 0, 0, 0), some (.getfield 25, 3, 9, 5, 0), none, none, some (.iload_n 1, 1, 0, 0, 0), some (.iconst 5, 1, 0, 0, 0), some (.imul, 1, 0, 0, 0), some (.iload 4, 2, 0, 0, 0), none, some (.iadd, 1, 0, 0, 0), some (.dup2, 1, 0, 0, 0)], [some (.laload, 1, 0, 0, 0), some (.lconst 1, 1, 0, 0, 0), some (.iload_n 2, 1, 0, 0, 0), some (.bipush 63, 2, 0, 0, 63), none, some (.iand, 1, 0, 0, 0), some (.lshl, 1, 0, 0, 0), some (.lor, 1, 0, 0, 0), some (.lastore, 1, 0, 0, 0), some (.return_, 1, 0, 0, 0)]]]
def cd_X9_pairUp : List (List (List (Option ARow))) := [[[some (.aload_n 0, 1, 0, 0, 0), some (.iconst 0, 1, 0, 0, 0), some (.putfield 131, 3, 9, 8, 0), none, none, some (.iconst 0, 1, 0, 0, 0), some (.istore_n 1, 1, 0, 0, 0), some (.iload_n 1, 1, 0, 0, 0), some (.aload_n 0, 1, 0, 0, 0), some (.getfield 99, 3, 9, 0, 0), none, none, some (.if_icmp .ge 114, 3, 3, 0, 0), none, none, some (.iload_n 1, 1, 0, 0, 0)], [some (.iconst 1, 1, 0, 0, 0), some (.iadd, 1, 0, 0, 0), some (.istore_n 2, 1, 0, 0, 0), some (.iload_n 2, 1, 0, 0, 0), some (.aload_n 0, 1, 0, 0, 0), some (.getfield 99, 3, 9, 0, 0), none, none, some (.if_icmp .ge 96, 3, 3, 0, 0), none, none, some (.aload_n 0, 1, 0, 0, 0), some (.iload_n 1, 1, 0, 0, 0), some (.iload_n 2, 1, 0, 0, 0), some (.iconst 0, 1, 0, 0, 0), some (.invokevirtual 134, 3, 111, 0, 0)], [none, none, some (.lstore_n 3, 1, 0, 0, 0), some (.aload_n 0, 1, 0, 0, 0), some (.iload_n 1, 1, 0, 0, 0), some (.iload_n 2, 1, 0, 0, 0), some (.iconst 1, 1, 0, 0, 0), some (.invokevirtual 134, 3, 111, 0, 0), none, none, some (.lstore 5, 2, 0, 0, 0), none, some (.lload_n 3, 1, 0, 0, 0), some (.lload 5, 2, 0, 0, 0), none, some (.lor, 1, 0, 0, 0)], [some (.lconst 0, 1, 0, 0, 0), some (.lcmp, 1, 0, 0, 0), some (.ifCond .eq 64, 3, 0, 0, 0), none, none, some (.aload_n 0, 1, 0, 0, 0), some (.getfield 131, 3, 9, 8, 0), none, none, some (.bipush 66, 2, 0, 0, 66), none, some (.if_icmp .ge 55, 3, 3, 0, 0), none, none, some (.aload_n 0, 1, 0, 0, 0), some (.getfield 28, 3, 9, 6, 0)], [none, none, some (.aload_n 0, 1, 0, 0, 0), some (.getfield 131, 3, 9, 8, 0), none, none, some (.iload_n 1, 1, 0, 0, 0), some (.bipush 12, 2, 0, 0, 12), none, some (.imul, 1, 0, 0, 0), some (.iload_n 2, 1, 0, 0, 0), some (.iadd, 1, 0, 0, 0), some (.iastore, 1, 0, 0, 0), some (.aload_n 0, 1, 0, 0, 0), some (.getfield 31, 3, 9, 7, 0), none], [none, some (.aload_n 0, 1, 0, 0, 0), some (.getfield 131, 3, 9, 8, 0), none, none, some (.iconst 2, 1, 0, 0, 0), some (.imul, 1, 0, 0, 0), some (.lload_n 3, 1, 0, 0, 0), some (.lastore, 1, 0, 0, 0), some (.aload_n 0, 1, 0, 0, 0), some (.getfield 31, 3, 9, 7, 0), none, none, some (.aload_n 0, 1, 0, 0, 0), some (.getfield 131, 3, 9, 8, 0), none], [none, some (.iconst 2, 1, 0, 0, 0), some (.imul, 1, 0, 0, 0), some (.iconst 1, 1, 0, 0, 0), some (.iadd, 1, 0, 0, 0), some (.lload 5, 2, 0, 0, 0), none, some (.lastore, 1, 0, 0, 0), some (.aload_n 0, 1, 0, 0, 0), some (.dup, 1, 0, 0, 0), some (.getfield 131, 3, 9, 8, 0), none, none, some (.iconst 1, 1, 0, 0, 0), some (.iadd, 1, 0, 0, 0), some (.putfield 131, 3, 9, 8, 0)], [none, none, some (.iinc 2 1, 3, 0, 0, 0), none, none, some (.goto (-98), 3, 0, 0, 0), none, none, some (.iinc 1 1, 3, 0, 0, 0), none, none, some (.goto (-116), 3, 0, 0, 0), none, none, some (.return_, 1, 0, 0, 0)]]]
def cd_X9_meetsOf : List (List (List (Option ARow))) := [[[some (.aload_n 0, 1, 0, 0, 0), some (.getfield 18, 3, 9, 3, 0), none, none, some (.iload_n 1, 1, 0, 0, 0), some (.iconst 2, 1, 0, 0, 0), some (.imul, 1, 0, 0, 0), some (.iload_n 3, 1, 0, 0, 0), some (.iadd, 1, 0, 0, 0), some (.laload, 1, 0, 0, 0), some (.aload_n 0, 1, 0, 0, 0), some (.getfield 18, 3, 9, 3, 0), none, none, some (.iload_n 2, 1, 0, 0, 0), some (.iconst 2, 1, 0, 0, 0)], [some (.imul, 1, 0, 0, 0), some (.iload_n 3, 1, 0, 0, 0), some (.iadd, 1, 0, 0, 0), some (.laload, 1, 0, 0, 0), some (.land, 1, 0, 0, 0), some (.lstore 4, 2, 0, 0, 0), none, some (.iconst 0, 1, 0, 0, 0), some (.istore 6, 2, 0, 0, 0), none, some (.iload 6, 2, 0, 0, 0), none, some (.bipush 7, 2, 0, 0, 7), none, some (.if_icmp .ge 58, 3, 3, 0, 0), none], [none, some (.lload 4, 2, 0, 0, 0), none, some (.lconst 0, 1, 0, 0, 0), some (.lcmp, 1, 0, 0, 0), some (.ifCond .eq 51, 3, 0, 0, 0), none, none, some (.lload 4, 2, 0, 0, 0), none, some (.aload_n 0, 1, 0, 0, 0), some (.getfield 22, 3, 9, 4, 0), none, none, some (.iload_n 1, 1, 0, 0, 0), some (.bipush 7, 2, 0, 0, 7)], [none, some (.imul, 1, 0, 0, 0), some (.iload 6, 2, 0, 0, 0), none, some (.iadd, 1, 0, 0, 0), some (.iconst 2, 1, 0, 0, 0), some (.imul, 1, 0, 0, 0), some (.iload_n 3, 1, 0, 0, 0), some (.iadd, 1, 0, 0, 0), some (.laload, 1, 0, 0, 0), some (.aload_n 0, 1, 0, 0, 0), some (.getfield 22, 3, 9, 4, 0), none, none, some (.iload_n 2, 1, 0, 0, 0), some (.bipush 7, 2, 0, 0, 7)], [none, some (.imul, 1, 0, 0, 0), some (.iload 6, 2, 0, 0, 0), none, some (.iadd, 1, 0, 0, 0), some (.iconst 2, 1, 0, 0, 0), some (.imul, 1, 0, 0, 0), some (.iload_n 3, 1, 0, 0, 0), some (.iadd, 1, 0, 0, 0), some (.laload, 1, 0, 0, 0), some (.land, 1, 0, 0, 0), some (.ldc2_w 138, 3, 18446744073709551615, 0, 0), none, none, some (.lxor, 1, 0, 0, 0), some (.land, 1, 0, 0, 0)], [some (.lstore 4, 2, 0, 0, 0), none, some (.iinc 6 1, 3, 0, 0, 0), none, none, some (.goto (-59), 3, 0, 0, 0), none, none, some (.lload 4, 2, 0, 0, 0), none, some (.lreturn, 1, 0, 0, 0)]]]
def cd_X9_allMeets : List (List (List (Option ARow))) := [[[some (.lconst 0, 1, 0, 0, 0), some (.lstore_n 2, 1, 0, 0, 0), some (.iconst 0, 1, 0, 0, 0), some (.istore 4, 2, 0, 0, 0), none, some (.iload 4, 2, 0, 0, 0), none, some (.aload_n 0, 1, 0, 0, 0), some (.getfield 131, 3, 9, 8, 0), none, none, some (.if_icmp .ge 23, 3, 3, 0, 0), none, none, some (.lload_n 2, 1, 0, 0, 0), some (.aload_n 0, 1, 0, 0, 0)], [some (.getfield 31, 3, 9, 7, 0), none, none, some (.iload 4, 2, 0, 0, 0), none, some (.iconst 2, 1, 0, 0, 0), some (.imul, 1, 0, 0, 0), some (.iload_n 1, 1, 0, 0, 0), some (.iadd, 1, 0, 0, 0), some (.laload, 1, 0, 0, 0), some (.lor, 1, 0, 0, 0), some (.lstore_n 2, 1, 0, 0, 0), some (.iinc 4 1, 3, 0, 0, 0), none, none, some (.goto (-26), 3, 0, 0, 0)], [none, none, some (.lload_n 2, 1, 0, 0, 0), some (.lreturn, 1, 0, 0, 0)]]]
def cd_X9_cellAt : List (List (List (Option ARow))) := [[[some (.iload_n 2, 1, 0, 0, 0), some (.ifCond .lt 27, 3, 2, 0, 0), none, none, some (.iload_n 2, 1, 0, 0, 0), some (.aload_n 0, 1, 0, 0, 0), some (.getfield 15, 3, 9, 2, 0), none, none, some (.iload_n 1, 1, 0, 0, 0), some (.iaload, 1, 0, 0, 0), some (.if_icmp .ge 17, 3, 3, 0, 0), none, none, some (.aload_n 0, 1, 0, 0, 0), some (.getfield 9, 3, 9, 1, 0)], [none, none, some (.iload_n 1, 1, 0, 0, 0), some (.bipush 24, 2, 0, 0, 24), none, some (.imul, 1, 0, 0, 0), some (.iload_n 2, 1, 0, 0, 0), some (.iadd, 1, 0, 0, 0), some (.iaload, 1, 0, 0, 0), some (.goto 4, 3, 0, 0, 0), none, none, some (.iconst (-1), 1, 0, 0, 0), some (.ireturn, 1, 0, 0, 0)]]]
def cd_X9_setCounts : List (List (List (Option ARow))) := [[[some (.iload_n 2, 1, 0, 0, 0), some (.istore 5, 2, 0, 0, 0), none, some (.iload 5, 2, 0, 0, 0), none, some (.iload_n 3, 1, 0, 0, 0), some (.if_icmp .gt 23, 3, 4, 0, 0), none, none, some (.aload_n 0, 1, 0, 0, 0), some (.getfield 34, 3, 9, 9, 0), none, none, some (.iload_n 1, 1, 0, 0, 0), some (.bipush 24, 2, 0, 0, 24), none], [some (.imul, 1, 0, 0, 0), some (.iload 5, 2, 0, 0, 0), none, some (.iadd, 1, 0, 0, 0), some (.iload 4, 2, 0, 0, 0), none, some (.iastore, 1, 0, 0, 0), some (.iinc 5 1, 3, 0, 0, 0), none, none, some (.goto (-23), 3, 0, 0, 0), none, none, some (.aload_n 0, 1, 0, 0, 0), some (.iload_n 1, 1, 0, 0, 0), some (.invokevirtual 140, 3, 116, 0, 0)], [none, none, some (.return_, 1, 0, 0, 0)]]]
def cd_X9_setSpan : List (List (List (Option ARow))) := [[[some (.aload_n 0, 1, 0, 0, 0), some (.getfield 37, 3, 9, 10, 0), none, none, some (.iload_n 1, 1, 0, 0, 0), some (.iload_n 2, 1, 0, 0, 0), some (.iastore, 1, 0, 0, 0), some (.aload_n 0, 1, 0, 0, 0), some (.getfield 40, 3, 9, 11, 0), none, none, some (.iload_n 1, 1, 0, 0, 0), some (.iload_n 3, 1, 0, 0, 0), some (.iastore, 1, 0, 0, 0), some (.aload_n 0, 1, 0, 0, 0), some (.iload_n 1, 1, 0, 0, 0)], [some (.invokevirtual 140, 3, 116, 0, 0), none, none, some (.return_, 1, 0, 0, 0)]]]
def cd_X9_retell : List (List (List (Option ARow))) := [[[some (.aload_n 0, 1, 0, 0, 0), some (.getfield 46, 3, 9, 13, 0), none, none, some (.iload_n 1, 1, 0, 0, 0), some (.iconst 0, 1, 0, 0, 0), some (.iastore, 1, 0, 0, 0), some (.aload_n 0, 1, 0, 0, 0), some (.getfield 49, 3, 9, 14, 0), none, none, some (.iload_n 1, 1, 0, 0, 0), some (.iconst 0, 1, 0, 0, 0), some (.iastore, 1, 0, 0, 0), some (.iconst 0, 1, 0, 0, 0), some (.istore_n 2, 1, 0, 0, 0)], [some (.iload_n 2, 1, 0, 0, 0), some (.bipush 24, 2, 0, 0, 24), none, some (.if_icmp .ge 58, 3, 3, 0, 0), none, none, some (.aload_n 0, 1, 0, 0, 0), some (.iload_n 1, 1, 0, 0, 0), some (.iload_n 2, 1, 0, 0, 0), some (.invokevirtual 143, 3, 117, 0, 0), none, none, some (.istore_n 3, 1, 0, 0, 0), some (.aload_n 0, 1, 0, 0, 0), some (.getfield 43, 3, 9, 12, 0), none], [none, some (.iload_n 2, 1, 0, 0, 0), some (.bipush 12, 2, 0, 0, 12), none, some (.imul, 1, 0, 0, 0), some (.iload_n 1, 1, 0, 0, 0), some (.iadd, 1, 0, 0, 0), some (.iload_n 3, 1, 0, 0, 0), some (.iastore, 1, 0, 0, 0), some (.aload_n 0, 1, 0, 0, 0), some (.getfield 46, 3, 9, 13, 0), none, none, some (.iload_n 1, 1, 0, 0, 0), some (.dup2, 1, 0, 0, 0), some (.iaload, 1, 0, 0, 0)], [some (.aload_n 0, 1, 0, 0, 0), some (.getfield 34, 3, 9, 9, 0), none, none, some (.iload_n 1, 1, 0, 0, 0), some (.bipush 24, 2, 0, 0, 24), none, some (.imul, 1, 0, 0, 0), some (.iload_n 2, 1, 0, 0, 0), some (.iadd, 1, 0, 0, 0), some (.iaload, 1, 0, 0, 0), some (.iadd, 1, 0, 0, 0), some (.iastore, 1, 0, 0, 0), some (.aload_n 0, 1, 0, 0, 0), some (.getfield 49, 3, 9, 14, 0), none], [none, some (.iload_n 1, 1, 0, 0, 0), some (.dup2, 1, 0, 0, 0), some (.iaload, 1, 0, 0, 0), some (.iload_n 3, 1, 0, 0, 0), some (.iadd, 1, 0, 0, 0), some (.iastore, 1, 0, 0, 0), some (.iinc 2 1, 3, 0, 0, 0), none, none, some (.goto (-58), 3, 0, 0, 0), none, none, some (.iconst 0, 1, 0, 0, 0), some (.istore_n 2, 1, 0, 0, 0), some (.iload_n 2, 1, 0, 0, 0)], [some (.bipush 24, 2, 0, 0, 24), none, some (.if_icmp .ge 20, 3, 3, 0, 0), none, none, some (.aload_n 0, 1, 0, 0, 0), some (.getfield 52, 3, 9, 15, 0), none, none, some (.iload_n 2, 1, 0, 0, 0), some (.aload_n 0, 1, 0, 0, 0), some (.iload_n 2, 1, 0, 0, 0), some (.invokevirtual 146, 3, 118, 0, 0), none, none, some (.iastore, 1, 0, 0, 0)], [some (.iinc 2 1, 3, 0, 0, 0), none, none, some (.goto (-20), 3, 0, 0, 0), none, none, some (.return_, 1, 0, 0, 0)]]]
def cd_X9_mostIn : List (List (List (Option ARow))) := [[[some (.iconst 0, 1, 0, 0, 0), some (.iload_n 2, 1, 0, 0, 0), some (.aload_n 0, 1, 0, 0, 0), some (.getfield 40, 3, 9, 11, 0), none, none, some (.iload_n 1, 1, 0, 0, 0), some (.iaload, 1, 0, 0, 0), some (.isub, 1, 0, 0, 0), some (.invokestatic 149, 3, 300, 1, 0), none, none, some (.istore_n 3, 1, 0, 0, 0), some (.bipush 23, 2, 0, 0, 23), none, some (.iload_n 2, 1, 0, 0, 0)], [some (.aload_n 0, 1, 0, 0, 0), some (.getfield 37, 3, 9, 10, 0), none, none, some (.iload_n 1, 1, 0, 0, 0), some (.iaload, 1, 0, 0, 0), some (.iadd, 1, 0, 0, 0), some (.invokestatic 122, 3, 301, 1, 0), none, none, some (.istore 4, 2, 0, 0, 0), none, some (.iconst 0, 1, 0, 0, 0), some (.istore 5, 2, 0, 0, 0), none, some (.iload_n 3, 1, 0, 0, 0)], [some (.istore 6, 2, 0, 0, 0), none, some (.iload 6, 2, 0, 0, 0), none, some (.iload 4, 2, 0, 0, 0), none, some (.if_icmp .gt 28, 3, 4, 0, 0), none, none, some (.iload 5, 2, 0, 0, 0), none, some (.aload_n 0, 1, 0, 0, 0), some (.getfield 34, 3, 9, 9, 0), none, none, some (.iload_n 1, 1, 0, 0, 0)], [some (.bipush 24, 2, 0, 0, 24), none, some (.imul, 1, 0, 0, 0), some (.iload 6, 2, 0, 0, 0), none, some (.iadd, 1, 0, 0, 0), some (.iaload, 1, 0, 0, 0), some (.invokestatic 149, 3, 300, 1, 0), none, none, some (.istore 5, 2, 0, 0, 0), none, some (.iinc 6 1, 3, 0, 0, 0), none, none, some (.goto (-29), 3, 0, 0, 0)], [none, none, some (.iload 5, 2, 0, 0, 0), none, some (.ireturn, 1, 0, 0, 0)]]]
def cd_X9_twinOf : List (List (List (Option ARow))) := [[[some (.iconst 0, 1, 0, 0, 0), some (.istore_n 2, 1, 0, 0, 0), some (.iload_n 2, 1, 0, 0, 0), some (.iload_n 1, 1, 0, 0, 0), some (.if_icmp .ge 60, 3, 3, 0, 0), none, none, some (.iconst 0, 1, 0, 0, 0), some (.istore_n 3, 1, 0, 0, 0), some (.iload_n 3, 1, 0, 0, 0), some (.aload_n 0, 1, 0, 0, 0), some (.getfield 99, 3, 9, 0, 0), none, none, some (.if_icmp .ge 34, 3, 3, 0, 0), none], [none, some (.aload_n 0, 1, 0, 0, 0), some (.getfield 43, 3, 9, 12, 0), none, none, some (.iload_n 2, 1, 0, 0, 0), some (.bipush 12, 2, 0, 0, 12), none, some (.imul, 1, 0, 0, 0), some (.iload_n 3, 1, 0, 0, 0), some (.iadd, 1, 0, 0, 0), some (.iaload, 1, 0, 0, 0), some (.aload_n 0, 1, 0, 0, 0), some (.getfield 43, 3, 9, 12, 0), none, none], [some (.iload_n 1, 1, 0, 0, 0), some (.bipush 12, 2, 0, 0, 12), none, some (.imul, 1, 0, 0, 0), some (.iload_n 3, 1, 0, 0, 0), some (.iadd, 1, 0, 0, 0), some (.iaload, 1, 0, 0, 0), some (.if_icmp .ne 9, 3, 1, 0, 0), none, none, some (.iinc 3 1, 3, 0, 0, 0), none, none, some (.goto (-36), 3, 0, 0, 0), none, none], [some (.iload_n 3, 1, 0, 0, 0), some (.aload_n 0, 1, 0, 0, 0), some (.getfield 99, 3, 9, 0, 0), none, none, some (.if_icmp .ne 5, 3, 1, 0, 0), none, none, some (.iload_n 2, 1, 0, 0, 0), some (.ireturn, 1, 0, 0, 0), some (.iinc 2 1, 3, 0, 0, 0), none, none, some (.goto (-59), 3, 0, 0, 0), none, none], [some (.iload_n 1, 1, 0, 0, 0), some (.ireturn, 1, 0, 0, 0)]]]
def cd_X9_shorterThan : List (List (List (Option ARow))) := [[[some (.iconst 0, 1, 0, 0, 0), some (.istore 6, 2, 0, 0, 0), none, some (.iconst 0, 1, 0, 0, 0), some (.istore 7, 2, 0, 0, 0), none, some (.iload 7, 2, 0, 0, 0), none, some (.aload_n 0, 1, 0, 0, 0), some (.getfield 99, 3, 9, 0, 0), none, none, some (.if_icmp .ge 31, 3, 3, 0, 0), none, none, some (.aload_n 0, 1, 0, 0, 0)], [some (.iload 7, 2, 0, 0, 0), none, some (.lload_n 2, 1, 0, 0, 0), some (.lload 4, 2, 0, 0, 0), none, some (.invokevirtual 152, 3, 120, 0, 0), none, none, some (.iload_n 1, 1, 0, 0, 0), some (.if_icmp .ge 12, 3, 3, 0, 0), none, none, some (.iload 6, 2, 0, 0, 0), none, some (.iconst 1, 1, 0, 0, 0), some (.iload 7, 2, 0, 0, 0)], [none, some (.ishl, 1, 0, 0, 0), some (.ior, 1, 0, 0, 0), some (.istore 6, 2, 0, 0, 0), none, some (.iinc 7 1, 3, 0, 0, 0), none, none, some (.goto (-34), 3, 0, 0, 0), none, none, some (.iload 6, 2, 0, 0, 0), none, some (.ireturn, 1, 0, 0, 0)]]]
def cd_X9_shortestStretch : List (List (List (Option ARow))) := [[[some (.bipush 24, 2, 0, 0, 24), none, some (.istore 6, 2, 0, 0, 0), none, some (.iconst 0, 1, 0, 0, 0), some (.istore 7, 2, 0, 0, 0), none, some (.iconst 0, 1, 0, 0, 0), some (.istore 8, 2, 0, 0, 0), none, some (.iload 8, 2, 0, 0, 0), none, some (.aload_n 0, 1, 0, 0, 0), some (.getfield 15, 3, 9, 2, 0), none, none], [some (.iload_n 1, 1, 0, 0, 0), some (.iaload, 1, 0, 0, 0), some (.if_icmp .ge 72, 3, 3, 0, 0), none, none, some (.aload_n 0, 1, 0, 0, 0), some (.getfield 9, 3, 9, 1, 0), none, none, some (.iload_n 1, 1, 0, 0, 0), some (.bipush 24, 2, 0, 0, 24), none, some (.imul, 1, 0, 0, 0), some (.iload 8, 2, 0, 0, 0), none, some (.iadd, 1, 0, 0, 0)], [some (.iaload, 1, 0, 0, 0), some (.istore 9, 2, 0, 0, 0), none, some (.iload 9, 2, 0, 0, 0), none, some (.bipush 64, 2, 0, 0, 64), none, some (.if_icmp .ge 7, 3, 3, 0, 0), none, none, some (.lload_n 2, 1, 0, 0, 0), some (.goto 5, 3, 0, 0, 0), none, none, some (.lload 4, 2, 0, 0, 0), none], [some (.iload 9, 2, 0, 0, 0), none, some (.bipush 63, 2, 0, 0, 63), none, some (.iand, 1, 0, 0, 0), some (.lushr, 1, 0, 0, 0), some (.lconst 1, 1, 0, 0, 0), some (.land, 1, 0, 0, 0), some (.lconst 0, 1, 0, 0, 0), some (.lcmp, 1, 0, 0, 0), some (.ifCond .eq 9, 3, 0, 0, 0), none, none, some (.iinc 7 1, 3, 0, 0, 0), none, none], [some (.goto 20, 3, 0, 0, 0), none, none, some (.iload 7, 2, 0, 0, 0), none, some (.ifCond .le 15, 3, 5, 0, 0), none, none, some (.iload 6, 2, 0, 0, 0), none, some (.iload 7, 2, 0, 0, 0), none, some (.invokestatic 122, 3, 301, 1, 0), none, none, some (.istore 6, 2, 0, 0, 0)], [none, some (.iconst 0, 1, 0, 0, 0), some (.istore 7, 2, 0, 0, 0), none, some (.iinc 8 1, 3, 0, 0, 0), none, none, some (.goto (-77), 3, 0, 0, 0), none, none, some (.iload 7, 2, 0, 0, 0), none, some (.ifCond .le 13, 3, 5, 0, 0), none, none, some (.iload 6, 2, 0, 0, 0)], [none, some (.iload 7, 2, 0, 0, 0), none, some (.invokestatic 122, 3, 301, 1, 0), none, none, some (.goto 5, 3, 0, 0, 0), none, none, some (.iload 6, 2, 0, 0, 0), none, some (.ireturn, 1, 0, 0, 0)]]]
def cd_X9_countsAt : List (List (List (Option ARow))) := [[[some (.iconst 0, 1, 0, 0, 0), some (.istore_n 2, 1, 0, 0, 0), some (.iconst 0, 1, 0, 0, 0), some (.istore_n 3, 1, 0, 0, 0), some (.iload_n 3, 1, 0, 0, 0), some (.aload_n 0, 1, 0, 0, 0), some (.getfield 99, 3, 9, 0, 0), none, none, some (.if_icmp .ge 27, 3, 3, 0, 0), none, none, some (.aload_n 0, 1, 0, 0, 0), some (.iload_n 3, 1, 0, 0, 0), some (.iload_n 1, 1, 0, 0, 0), some (.invokevirtual 156, 3, 123, 0, 0)], [none, none, some (.ifCond .eq 12, 3, 0, 0, 0), none, none, some (.iload_n 2, 1, 0, 0, 0), some (.aload_n 0, 1, 0, 0, 0), some (.getfield 46, 3, 9, 13, 0), none, none, some (.iload_n 3, 1, 0, 0, 0), some (.iaload, 1, 0, 0, 0), some (.iadd, 1, 0, 0, 0), some (.istore_n 2, 1, 0, 0, 0), some (.iinc 3 1, 3, 0, 0, 0), none], [none, some (.goto (-29), 3, 0, 0, 0), none, none, some (.iload_n 2, 1, 0, 0, 0), some (.ireturn, 1, 0, 0, 0)]]]
def cd_X9_isVisited : List (List (List (Option ARow))) := [[[some (.iconst 0, 1, 0, 0, 0), some (.istore_n 2, 1, 0, 0, 0), some (.iload_n 2, 1, 0, 0, 0), some (.aload_n 0, 1, 0, 0, 0), some (.getfield 99, 3, 9, 0, 0), none, none, some (.if_icmp .ge 20, 3, 3, 0, 0), none, none, some (.aload_n 0, 1, 0, 0, 0), some (.iload_n 2, 1, 0, 0, 0), some (.iload_n 1, 1, 0, 0, 0), some (.invokevirtual 156, 3, 123, 0, 0), none, none], [some (.ifCond .eq 5, 3, 0, 0, 0), none, none, some (.iconst 1, 1, 0, 0, 0), some (.ireturn, 1, 0, 0, 0), some (.iinc 2 1, 3, 0, 0, 0), none, none, some (.goto (-22), 3, 0, 0, 0), none, none, some (.iconst 0, 1, 0, 0, 0), some (.ireturn, 1, 0, 0, 0)]]]
def cd_X9_comesTo : List (List (List (Option ARow))) := [[[some (.aload_n 0, 1, 0, 0, 0), some (.getfield 18, 3, 9, 3, 0), none, none, some (.iload_n 1, 1, 0, 0, 0), some (.iconst 2, 1, 0, 0, 0), some (.imul, 1, 0, 0, 0), some (.iload_n 2, 1, 0, 0, 0), some (.bipush 64, 2, 0, 0, 64), none, some (.idiv, 1, 0, 0, 0), some (.iadd, 1, 0, 0, 0), some (.laload, 1, 0, 0, 0), some (.iload_n 2, 1, 0, 0, 0), some (.bipush 63, 2, 0, 0, 63), none], [some (.iand, 1, 0, 0, 0), some (.lushr, 1, 0, 0, 0), some (.lconst 1, 1, 0, 0, 0), some (.land, 1, 0, 0, 0), some (.lconst 0, 1, 0, 0, 0), some (.lcmp, 1, 0, 0, 0), some (.ifCond .eq 7, 3, 0, 0, 0), none, none, some (.iconst 1, 1, 0, 0, 0), some (.goto 4, 3, 0, 0, 0), none, none, some (.iconst 0, 1, 0, 0, 0), some (.ireturn, 1, 0, 0, 0)]]]
def cd_X9_countsOfSteps : List (List (List (Option ARow))) := [[[some (.iconst 0, 1, 0, 0, 0), some (.istore_n 1, 1, 0, 0, 0), some (.iconst 0, 1, 0, 0, 0), some (.istore_n 2, 1, 0, 0, 0), some (.iload_n 2, 1, 0, 0, 0), some (.aload_n 0, 1, 0, 0, 0), some (.getfield 99, 3, 9, 0, 0), none, none, some (.if_icmp .ge 27, 3, 3, 0, 0), none, none, some (.iload_n 1, 1, 0, 0, 0), some (.aload_n 0, 1, 0, 0, 0), some (.getfield 46, 3, 9, 13, 0), none], [none, some (.iload_n 2, 1, 0, 0, 0), some (.iaload, 1, 0, 0, 0), some (.aload_n 0, 1, 0, 0, 0), some (.getfield 15, 3, 9, 2, 0), none, none, some (.iload_n 2, 1, 0, 0, 0), some (.iaload, 1, 0, 0, 0), some (.iconst 1, 1, 0, 0, 0), some (.isub, 1, 0, 0, 0), some (.imul, 1, 0, 0, 0), some (.iadd, 1, 0, 0, 0), some (.istore_n 1, 1, 0, 0, 0), some (.iinc 2 1, 3, 0, 0, 0), none], [none, some (.goto (-29), 3, 0, 0, 0), none, none, some (.iload_n 1, 1, 0, 0, 0), some (.ireturn, 1, 0, 0, 0)]]]
def cd_X10_init : List (List (List (Option ARow))) := [[[some (.aload_n 0, 1, 0, 0, 0), some (.invokespecial 3, 3, 0, 4, 0), none, none, some (.aload_n 0, 1, 0, 0, 0), some (.sipush 200, 3, 0, 0, 200), none, none, some (.newarray .int, 2, 0, 0, 0), none, some (.putfield 11, 3, 10, 0, 0), none, none, some (.aload_n 0, 1, 0, 0, 0), some (.iconst (-1), 1, 0, 0, 0), some (.putfield 15, 3, 10, 9, 0)], [none, none, some (.return_, 1, 0, 0, 0)]]]
def cd_X10_takeAll : List (List (List (Option ARow))) := [[[some (.aload_n 0, 1, 0, 0, 0), some (.getfield 19, 3, 10, 1, 0), none, none, some (.bipush 20, 2, 0, 0, 20), none, some (.iadd, 1, 0, 0, 0), some (.sipush 200, 3, 0, 0, 200), none, none, some (.if_icmp .le 5, 3, 5, 0, 0), none, none, some (.iconst (-1), 1, 0, 0, 0), some (.ireturn, 1, 0, 0, 0), some (.aload_n 0, 1, 0, 0, 0)], [some (.iload_n 1, 1, 0, 0, 0), some (.invokevirtual 22, 3, 127, 0, 0), none, none, some (.aload_n 0, 1, 0, 0, 0), some (.iload_n 2, 1, 0, 0, 0), some (.invokevirtual 22, 3, 127, 0, 0), none, none, some (.aload_n 0, 1, 0, 0, 0), some (.iload_n 3, 1, 0, 0, 0), some (.invokevirtual 22, 3, 127, 0, 0), none, none, some (.aload_n 0, 1, 0, 0, 0), some (.iload 4, 2, 0, 0, 0)], [none, some (.invokevirtual 22, 3, 127, 0, 0), none, none, some (.aload_n 0, 1, 0, 0, 0), some (.iload 5, 2, 0, 0, 0), none, some (.invokevirtual 22, 3, 127, 0, 0), none, none, some (.aload_n 0, 1, 0, 0, 0), some (.getfield 19, 3, 10, 1, 0), none, none, some (.ireturn, 1, 0, 0, 0)]]]
def cd_X10_take : List (List (List (Option ARow))) := [[[some (.bipush 24, 2, 0, 0, 24), none, some (.istore_n 2, 1, 0, 0, 0), some (.iload_n 2, 1, 0, 0, 0), some (.ifCond .lt 45, 3, 2, 0, 0), none, none, some (.aload_n 0, 1, 0, 0, 0), some (.getfield 19, 3, 10, 1, 0), none, none, some (.sipush 200, 3, 0, 0, 200), none, none, some (.if_icmp .ge 35, 3, 3, 0, 0), none], [none, some (.aload_n 0, 1, 0, 0, 0), some (.getfield 11, 3, 10, 0, 0), none, none, some (.aload_n 0, 1, 0, 0, 0), some (.getfield 19, 3, 10, 1, 0), none, none, some (.iload_n 1, 1, 0, 0, 0), some (.iload_n 2, 1, 0, 0, 0), some (.iushr, 1, 0, 0, 0), some (.sipush 255, 3, 0, 0, 255), none, none, some (.iand, 1, 0, 0, 0)], [some (.iastore, 1, 0, 0, 0), some (.aload_n 0, 1, 0, 0, 0), some (.dup, 1, 0, 0, 0), some (.getfield 19, 3, 10, 1, 0), none, none, some (.iconst 1, 1, 0, 0, 0), some (.iadd, 1, 0, 0, 0), some (.putfield 19, 3, 10, 1, 0), none, none, some (.iinc 2 (-8), 3, 0, 0, 0), none, none, some (.goto (-43), 3, 0, 0, 0), none], [none, some (.return_, 1, 0, 0, 0)]]]
def cd_X10_open : List (List (List (Option ARow))) := [[[some (.aload_n 0, 1, 0, 0, 0), some (.iload_n 1, 1, 0, 0, 0), some (.putfield 26, 3, 10, 2, 0), none, none, some (.aload_n 0, 1, 0, 0, 0), some (.iconst 0, 1, 0, 0, 0), some (.putfield 29, 3, 10, 3, 0), none, none, some (.aload_n 0, 1, 0, 0, 0), some (.iload_n 2, 1, 0, 0, 0), some (.putfield 32, 3, 10, 4, 0), none, none, some (.aload_n 0, 1, 0, 0, 0)], [some (.iconst 0, 1, 0, 0, 0), some (.putfield 19, 3, 10, 1, 0), none, none, some (.aload_n 0, 1, 0, 0, 0), some (.iconst 0, 1, 0, 0, 0), some (.putfield 36, 3, 10, 8, 0), none, none, some (.aload_n 0, 1, 0, 0, 0), some (.iconst (-1), 1, 0, 0, 0), some (.putfield 15, 3, 10, 9, 0), none, none, some (.aload_n 0, 1, 0, 0, 0), some (.invokevirtual 39, 3, 129, 0, 0)], [none, none, some (.return_, 1, 0, 0, 0)]]]
def cd_X10_step : List (List (List (Option ARow))) := [[[some (.aload_n 0, 1, 0, 0, 0), some (.getfield 29, 3, 10, 3, 0), none, none, some (.aload_n 0, 1, 0, 0, 0), some (.getfield 26, 3, 10, 2, 0), none, none, some (.if_icmp .ge 30, 3, 3, 0, 0), none, none, some (.aload_n 0, 1, 0, 0, 0), some (.getfield 11, 3, 10, 0, 0), none, none, some (.aload_n 0, 1, 0, 0, 0)], [some (.getfield 29, 3, 10, 3, 0), none, none, some (.iaload, 1, 0, 0, 0), some (.bipush 32, 2, 0, 0, 32), none, some (.if_icmp .ne 16, 3, 1, 0, 0), none, none, some (.aload_n 0, 1, 0, 0, 0), some (.dup, 1, 0, 0, 0), some (.getfield 29, 3, 10, 3, 0), none, none, some (.iconst 1, 1, 0, 0, 0), some (.iadd, 1, 0, 0, 0)], [some (.putfield 29, 3, 10, 3, 0), none, none, some (.goto (-35), 3, 0, 0, 0), none, none, some (.aload_n 0, 1, 0, 0, 0), some (.aload_n 0, 1, 0, 0, 0), some (.getfield 29, 3, 10, 3, 0), none, none, some (.putfield 42, 3, 10, 5, 0), none, none, some (.aload_n 0, 1, 0, 0, 0), some (.iconst 0, 1, 0, 0, 0)], [some (.putfield 45, 3, 10, 7, 0), none, none, some (.aload_n 0, 1, 0, 0, 0), some (.aload_n 0, 1, 0, 0, 0), some (.getfield 29, 3, 10, 3, 0), none, none, some (.aload_n 0, 1, 0, 0, 0), some (.getfield 26, 3, 10, 2, 0), none, none, some (.if_icmp .ge 19, 3, 3, 0, 0), none, none, some (.aload_n 0, 1, 0, 0, 0)], [some (.aload_n 0, 1, 0, 0, 0), some (.getfield 11, 3, 10, 0, 0), none, none, some (.aload_n 0, 1, 0, 0, 0), some (.getfield 29, 3, 10, 3, 0), none, none, some (.iaload, 1, 0, 0, 0), some (.invokevirtual 48, 3, 130, 0, 0), none, none, some (.goto 4, 3, 0, 0, 0), none, none, some (.iconst (-1), 1, 0, 0, 0)], [some (.putfield 52, 3, 10, 6, 0), none, none, some (.aload_n 0, 1, 0, 0, 0), some (.getfield 52, 3, 10, 6, 0), none, none, some (.bipush (-2), 2, 0, 0, (-2)), none, some (.if_icmp .ne 74, 3, 1, 0, 0), none, none, some (.aload_n 0, 1, 0, 0, 0), some (.getfield 29, 3, 10, 3, 0), none, none], [some (.aload_n 0, 1, 0, 0, 0), some (.getfield 26, 3, 10, 2, 0), none, none, some (.if_icmp .ge 132, 3, 3, 0, 0), none, none, some (.aload_n 0, 1, 0, 0, 0), some (.aload_n 0, 1, 0, 0, 0), some (.getfield 11, 3, 10, 0, 0), none, none, some (.aload_n 0, 1, 0, 0, 0), some (.getfield 29, 3, 10, 3, 0), none, none], [some (.iaload, 1, 0, 0, 0), some (.invokevirtual 48, 3, 130, 0, 0), none, none, some (.bipush (-2), 2, 0, 0, (-2)), none, some (.if_icmp .ne 114, 3, 1, 0, 0), none, none, some (.aload_n 0, 1, 0, 0, 0), some (.ldc 55, 2, 0, 0, 100000), none, some (.aload_n 0, 1, 0, 0, 0), some (.getfield 45, 3, 10, 7, 0), none, none], [some (.bipush 10, 2, 0, 0, 10), none, some (.imul, 1, 0, 0, 0), some (.aload_n 0, 1, 0, 0, 0), some (.getfield 11, 3, 10, 0, 0), none, none, some (.aload_n 0, 1, 0, 0, 0), some (.getfield 29, 3, 10, 3, 0), none, none, some (.iaload, 1, 0, 0, 0), some (.iadd, 1, 0, 0, 0), some (.bipush 48, 2, 0, 0, 48), none, some (.isub, 1, 0, 0, 0)], [some (.invokestatic 56, 3, 301, 1, 0), none, none, some (.putfield 45, 3, 10, 7, 0), none, none, some (.aload_n 0, 1, 0, 0, 0), some (.dup, 1, 0, 0, 0), some (.getfield 29, 3, 10, 3, 0), none, none, some (.iconst 1, 1, 0, 0, 0), some (.iadd, 1, 0, 0, 0), some (.putfield 29, 3, 10, 3, 0), none, none], [some (.goto (-68), 3, 0, 0, 0), none, none, some (.aload_n 0, 1, 0, 0, 0), some (.getfield 52, 3, 10, 6, 0), none, none, some (.bipush (-3), 2, 0, 0, (-3)), none, some (.if_icmp .ne 45, 3, 1, 0, 0), none, none, some (.aload_n 0, 1, 0, 0, 0), some (.getfield 29, 3, 10, 3, 0), none, none], [some (.aload_n 0, 1, 0, 0, 0), some (.getfield 26, 3, 10, 2, 0), none, none, some (.if_icmp .ge 52, 3, 3, 0, 0), none, none, some (.aload_n 0, 1, 0, 0, 0), some (.aload_n 0, 1, 0, 0, 0), some (.getfield 11, 3, 10, 0, 0), none, none, some (.aload_n 0, 1, 0, 0, 0), some (.getfield 29, 3, 10, 3, 0), none, none], [some (.iaload, 1, 0, 0, 0), some (.invokevirtual 48, 3, 130, 0, 0), none, none, some (.bipush (-3), 2, 0, 0, (-3)), none, some (.if_icmp .ne 34, 3, 1, 0, 0), none, none, some (.aload_n 0, 1, 0, 0, 0), some (.dup, 1, 0, 0, 0), some (.getfield 29, 3, 10, 3, 0), none, none, some (.iconst 1, 1, 0, 0, 0), some (.iadd, 1, 0, 0, 0)], [some (.putfield 29, 3, 10, 3, 0), none, none, some (.goto (-39), 3, 0, 0, 0), none, none, some (.aload_n 0, 1, 0, 0, 0), some (.getfield 52, 3, 10, 6, 0), none, none, some (.iconst (-1), 1, 0, 0, 0), some (.if_icmp .eq 13, 3, 0, 0, 0), none, none, some (.aload_n 0, 1, 0, 0, 0), some (.dup, 1, 0, 0, 0)], [some (.getfield 29, 3, 10, 3, 0), none, none, some (.iconst 1, 1, 0, 0, 0), some (.iadd, 1, 0, 0, 0), some (.putfield 29, 3, 10, 3, 0), none, none, some (.return_, 1, 0, 0, 0)]]]
def cd_X10_kindOf : List (List (List (Option ARow))) := [[[some (.iload_n 1, 1, 0, 0, 0), some (.bipush 48, 2, 0, 0, 48), none, some (.if_icmp .lt 12, 3, 2, 0, 0), none, none, some (.iload_n 1, 1, 0, 0, 0), some (.bipush 57, 2, 0, 0, 57), none, some (.if_icmp .gt 6, 3, 4, 0, 0), none, none, some (.bipush (-2), 2, 0, 0, (-2)), none, some (.ireturn, 1, 0, 0, 0), some (.aload_n 0, 1, 0, 0, 0)], [some (.getfield 32, 3, 10, 4, 0), none, none, some (.ifCond .eq 20, 3, 0, 0, 0), none, none, some (.iload_n 1, 1, 0, 0, 0), some (.bipush 97, 2, 0, 0, 97), none, some (.if_icmp .lt 14, 3, 2, 0, 0), none, none, some (.iload_n 1, 1, 0, 0, 0), some (.bipush 122, 2, 0, 0, 122), none, some (.if_icmp .gt 8, 3, 4, 0, 0)], [none, none, some (.bipush (-3), 2, 0, 0, (-3)), none, some (.goto 4, 3, 0, 0, 0), none, none, some (.iload_n 1, 1, 0, 0, 0), some (.ireturn, 1, 0, 0, 0)]]]
def cd_X10_says : List (List (List (Option ARow))) := [[[some (.aload_n 0, 1, 0, 0, 0), some (.getfield 52, 3, 10, 6, 0), none, none, some (.bipush (-3), 2, 0, 0, (-3)), none, some (.if_icmp .ne 19, 3, 1, 0, 0), none, none, some (.aload_n 0, 1, 0, 0, 0), some (.getfield 29, 3, 10, 3, 0), none, none, some (.aload_n 0, 1, 0, 0, 0), some (.getfield 42, 3, 10, 5, 0), none], [none, some (.isub, 1, 0, 0, 0), some (.aload_n 1, 1, 0, 0, 0), some (.invokevirtual 62, 3, 302, 0, 0), none, none, some (.if_icmp .eq 5, 3, 0, 0, 0), none, none, some (.iconst 0, 1, 0, 0, 0), some (.ireturn, 1, 0, 0, 0), some (.iconst 0, 1, 0, 0, 0), some (.istore_n 2, 1, 0, 0, 0), some (.iload_n 2, 1, 0, 0, 0), some (.aload_n 1, 1, 0, 0, 0), some (.invokevirtual 62, 3, 302, 0, 0)], [none, none, some (.if_icmp .ge 30, 3, 3, 0, 0), none, none, some (.aload_n 0, 1, 0, 0, 0), some (.getfield 11, 3, 10, 0, 0), none, none, some (.aload_n 0, 1, 0, 0, 0), some (.getfield 42, 3, 10, 5, 0), none, none, some (.iload_n 2, 1, 0, 0, 0), some (.iadd, 1, 0, 0, 0), some (.iaload, 1, 0, 0, 0)], [some (.aload_n 1, 1, 0, 0, 0), some (.iload_n 2, 1, 0, 0, 0), some (.invokevirtual 68, 3, 303, 0, 0), none, none, some (.if_icmp .eq 5, 3, 0, 0, 0), none, none, some (.iconst 0, 1, 0, 0, 0), some (.ireturn, 1, 0, 0, 0), some (.iinc 2 1, 3, 0, 0, 0), none, none, some (.goto (-32), 3, 0, 0, 0), none, none], [some (.iconst 1, 1, 0, 0, 0), some (.ireturn, 1, 0, 0, 0)]]]
def cd_X10_refuse : List (List (List (Option ARow))) := [[[some (.aload_n 0, 1, 0, 0, 0), some (.iload_n 1, 1, 0, 0, 0), some (.aload_n 0, 1, 0, 0, 0), some (.getfield 42, 3, 10, 5, 0), none, none, some (.invokevirtual 72, 3, 133, 0, 0), none, none, some (.ireturn, 1, 0, 0, 0)]]]
def cd_X10_refuseAt : List (List (List (Option ARow))) := [[[some (.aload_n 0, 1, 0, 0, 0), some (.iload_n 1, 1, 0, 0, 0), some (.putfield 36, 3, 10, 8, 0), none, none, some (.aload_n 0, 1, 0, 0, 0), some (.iload_n 2, 1, 0, 0, 0), some (.putfield 15, 3, 10, 9, 0), none, none, some (.iconst 0, 1, 0, 0, 0), some (.ireturn, 1, 0, 0, 0)]]]
def cd_X11_init : List (List (List (Option ARow))) := [[[some (.aload_n 0, 1, 0, 0, 0), some (.invokespecial 1, 3, 0, 4, 0), none, none, some (.aload_n 0, 1, 0, 0, 0), some (.new 7, 3, 10, 0, 0), none, none, some (.dup, 1, 0, 0, 0), some (.invokespecial 9, 3, 125, 3, 0), none, none, some (.putfield 10, 3, 11, 0, 0), none, none, some (.aload_n 0, 1, 0, 0, 0)], [some (.new 16, 3, 9, 0, 0), none, none, some (.dup, 1, 0, 0, 0), some (.invokespecial 18, 3, 99, 3, 0), none, none, some (.putfield 19, 3, 11, 1, 0), none, none, some (.aload_n 0, 1, 0, 0, 0), some (.new 23, 3, 7, 0, 0), none, none, some (.dup, 1, 0, 0, 0), some (.aload_n 0, 1, 0, 0, 0)], [some (.getfield 10, 3, 11, 0, 0), none, none, some (.invokespecial 25, 3, 67, 2, 0), none, none, some (.putfield 28, 3, 11, 2, 0), none, none, some (.aload_n 0, 1, 0, 0, 0), some (.new 32, 3, 3, 0, 0), none, none, some (.dup, 1, 0, 0, 0), some (.invokespecial 34, 3, 27, 2, 0), none], [none, some (.putfield 35, 3, 11, 3, 0), none, none, some (.aload_n 0, 1, 0, 0, 0), some (.new 39, 3, 0, 0, 0), none, none, some (.dup, 1, 0, 0, 0), some (.aload_n 0, 1, 0, 0, 0), some (.getfield 19, 3, 11, 1, 0), none, none, some (.aload_n 0, 1, 0, 0, 0), some (.getfield 28, 3, 11, 2, 0), none], [none, some (.invokespecial 41, 3, 0, 2, 0), none, none, some (.putfield 44, 3, 11, 4, 0), none, none, some (.aload_n 0, 1, 0, 0, 0), some (.new 48, 3, 2, 0, 0), none, none, some (.dup, 1, 0, 0, 0), some (.aload_n 0, 1, 0, 0, 0), some (.getfield 19, 3, 11, 1, 0), none, none], [some (.aload_n 0, 1, 0, 0, 0), some (.getfield 35, 3, 11, 3, 0), none, none, some (.aload_n 0, 1, 0, 0, 0), some (.getfield 44, 3, 11, 4, 0), none, none, some (.invokespecial 50, 3, 17, 2, 0), none, none, some (.putfield 53, 3, 11, 5, 0), none, none, some (.aload_n 0, 1, 0, 0, 0), some (.new 57, 3, 5, 0, 0)], [none, none, some (.dup, 1, 0, 0, 0), some (.aload_n 0, 1, 0, 0, 0), some (.getfield 19, 3, 11, 1, 0), none, none, some (.aload_n 0, 1, 0, 0, 0), some (.getfield 44, 3, 11, 4, 0), none, none, some (.invokespecial 59, 3, 53, 2, 0), none, none, some (.putfield 62, 3, 11, 6, 0), none], [none, some (.aload_n 0, 1, 0, 0, 0), some (.new 66, 3, 4, 0, 0), none, none, some (.dup, 1, 0, 0, 0), some (.aload_n 0, 1, 0, 0, 0), some (.getfield 19, 3, 11, 1, 0), none, none, some (.aload_n 0, 1, 0, 0, 0), some (.getfield 28, 3, 11, 2, 0), none, none, some (.aload_n 0, 1, 0, 0, 0), some (.getfield 35, 3, 11, 3, 0)], [none, none, some (.aload_n 0, 1, 0, 0, 0), some (.getfield 44, 3, 11, 4, 0), none, none, some (.invokespecial 68, 3, 42, 2, 0), none, none, some (.putfield 71, 3, 11, 7, 0), none, none, some (.aload_n 0, 1, 0, 0, 0), some (.new 75, 3, 6, 0, 0), none, none], [some (.dup, 1, 0, 0, 0), some (.aload_n 0, 1, 0, 0, 0), some (.getfield 71, 3, 11, 7, 0), none, none, some (.invokespecial 77, 3, 59, 2, 0), none, none, some (.putfield 80, 3, 11, 8, 0), none, none, some (.aload_n 0, 1, 0, 0, 0), some (.new 84, 3, 8, 0, 0), none, none, some (.dup, 1, 0, 0, 0)], [some (.aload_n 0, 1, 0, 0, 0), some (.getfield 19, 3, 11, 1, 0), none, none, some (.aload_n 0, 1, 0, 0, 0), some (.getfield 28, 3, 11, 2, 0), none, none, some (.aload_n 0, 1, 0, 0, 0), some (.getfield 35, 3, 11, 3, 0), none, none, some (.invokespecial 86, 3, 86, 2, 0), none, none, some (.putfield 89, 3, 11, 9, 0)], [none, none, some (.aload_n 0, 1, 0, 0, 0), some (.new 93, 3, 1, 0, 0), none, none, some (.dup, 1, 0, 0, 0), some (.invokespecial 95, 3, 10, 3, 0), none, none, some (.putfield 96, 3, 11, 10, 0), none, none, some (.return_, 1, 0, 0, 0)]]]
def cd_X11_feed : List (List (List (Option ARow))) := [[[some (.aload_n 0, 1, 0, 0, 0), some (.getfield 10, 3, 11, 0, 0), none, none, some (.iload_n 1, 1, 0, 0, 0), some (.iload_n 2, 1, 0, 0, 0), some (.iload_n 3, 1, 0, 0, 0), some (.iload 4, 2, 0, 0, 0), none, some (.iload 5, 2, 0, 0, 0), none, some (.invokevirtual 100, 3, 126, 0, 0), none, none, some (.ireturn, 1, 0, 0, 0)]]]
def cd_X11_stream : List (List (List (Option ARow))) := [[[some (.iload_n 1, 1, 0, 0, 0), some (.ifCond .lt 20, 3, 2, 0, 0), none, none, some (.iload_n 1, 1, 0, 0, 0), some (.aload_n 0, 1, 0, 0, 0), some (.getfield 10, 3, 11, 0, 0), none, none, some (.getfield 104, 3, 10, 1, 0), none, none, some (.if_icmp .gt 9, 3, 4, 0, 0), none, none, some (.iload_n 1, 1, 0, 0, 0)], [some (.bipush 100, 2, 0, 0, 100), none, some (.if_icmp .le 13, 3, 5, 0, 0), none, none, some (.new 108, 3, 0, 1, 0), none, none, some (.dup, 1, 0, 0, 0), none, none, none, none, none, none, some (.aload_n 0, 1, 0, 0, 0)], [some (.getfield 10, 3, 11, 0, 0), none, none, some (.iload_n 1, 1, 0, 0, 0), some (.iconst 0, 1, 0, 0, 0), some (.invokevirtual 115, 3, 128, 0, 0), none, none, some (.aload_n 0, 1, 0, 0, 0), some (.getfield 19, 3, 11, 1, 0), none, none, some (.aload_n 0, 1, 0, 0, 0), some (.getfield 10, 3, 11, 0, 0), none, none], [some (.invokevirtual 119, 3, 103, 0, 0), none, none, some (.ifCond .ne 14, 3, 1, 0, 0), none, none, some (.aload_n 0, 1, 0, 0, 0), some (.getfield 10, 3, 11, 0, 0), none, none, some (.getfield 123, 3, 10, 8, 0), none, none, some (.bipush 10, 2, 0, 0, 10), none, some (.isub, 1, 0, 0, 0)], [some (.ireturn, 1, 0, 0, 0), some (.aload_n 0, 1, 0, 0, 0), some (.getfield 19, 3, 11, 1, 0), none, none, some (.invokevirtual 126, 3, 106, 0, 0), none, none, some (.ireturn, 1, 0, 0, 0)]]]
def cd_X11_rules : List (List (List (Option ARow))) := [[[some (.iload_n 1, 1, 0, 0, 0), some (.ifCond .lt 14, 3, 2, 0, 0), none, none, some (.iload_n 1, 1, 0, 0, 0), some (.aload_n 0, 1, 0, 0, 0), some (.getfield 10, 3, 11, 0, 0), none, none, some (.getfield 104, 3, 10, 1, 0), none, none, some (.if_icmp .le 13, 3, 5, 0, 0), none, none, some (.new 108, 3, 0, 1, 0)], [none, none, some (.dup, 1, 0, 0, 0), none, none, none, none, none, none, some (.aload_n 0, 1, 0, 0, 0), some (.getfield 10, 3, 11, 0, 0), none, none, some (.iload_n 1, 1, 0, 0, 0), some (.iconst 1, 1, 0, 0, 0), some (.invokevirtual 115, 3, 128, 0, 0)], [none, none, some (.aload_n 0, 1, 0, 0, 0), some (.getfield 28, 3, 11, 2, 0), none, none, some (.invokevirtual 130, 3, 68, 0, 0), none, none, some (.ifCond .eq 13, 3, 0, 0, 0), none, none, some (.aload_n 0, 1, 0, 0, 0), some (.getfield 28, 3, 11, 2, 0), none, none], [some (.getfield 134, 3, 7, 3, 0), none, none, some (.goto 13, 3, 0, 0, 0), none, none, some (.aload_n 0, 1, 0, 0, 0), some (.getfield 10, 3, 11, 0, 0), none, none, some (.getfield 123, 3, 10, 8, 0), none, none, some (.bipush 10, 2, 0, 0, 10), none, some (.isub, 1, 0, 0, 0)], [some (.ireturn, 1, 0, 0, 0)]]]
def cd_X11_fault : List (List (List (Option ARow))) := [[[some (.aload_n 0, 1, 0, 0, 0), some (.getfield 10, 3, 11, 0, 0), none, none, some (.getfield 137, 3, 10, 9, 0), none, none, some (.ireturn, 1, 0, 0, 0)]]]
def cd_X11_way : List (List (List (Option ARow))) := [[[some (.aload_n 0, 1, 0, 0, 0), some (.iload_n 1, 1, 0, 0, 0), some (.invokevirtual 140, 3, 180, 0, 0), none, none, some (.aload_n 0, 1, 0, 0, 0), some (.getfield 19, 3, 11, 1, 0), none, none, some (.iload_n 1, 1, 0, 0, 0), some (.iload_n 2, 1, 0, 0, 0), some (.invokevirtual 144, 3, 113, 0, 0), none, none, some (.ireturn, 1, 0, 0, 0)]]]
def cd_X11_flow : List (List (List (Option ARow))) := [[[some (.aload_n 0, 1, 0, 0, 0), some (.iload_n 1, 1, 0, 0, 0), some (.invokevirtual 140, 3, 180, 0, 0), none, none, some (.aload_n 0, 1, 0, 0, 0), some (.iload_n 2, 1, 0, 0, 0), some (.invokevirtual 148, 3, 183, 0, 0), none, none, some (.aload_n 0, 1, 0, 0, 0), some (.iload_n 3, 1, 0, 0, 0), some (.invokevirtual 148, 3, 183, 0, 0), none, none, some (.aload_n 0, 1, 0, 0, 0)], [some (.iload 4, 2, 0, 0, 0), none, some (.iconst 0, 1, 0, 0, 0), some (.bipush 50, 2, 0, 0, 50), none, some (.invokevirtual 151, 3, 184, 0, 0), none, none, some (.iload_n 2, 1, 0, 0, 0), some (.iload_n 3, 1, 0, 0, 0), some (.if_icmp .le 13, 3, 5, 0, 0), none, none, some (.new 108, 3, 0, 1, 0), none, none], [some (.dup, 1, 0, 0, 0), none, none, none, none, none, none, some (.aload_n 0, 1, 0, 0, 0), some (.getfield 19, 3, 11, 1, 0), none, none, some (.iload_n 1, 1, 0, 0, 0), some (.iload_n 2, 1, 0, 0, 0), some (.iload_n 3, 1, 0, 0, 0), some (.iload 4, 2, 0, 0, 0), none], [some (.invokevirtual 157, 3, 114, 0, 0), none, none, some (.return_, 1, 0, 0, 0)]]]
def cd_X11_span : List (List (List (Option ARow))) := [[[some (.aload_n 0, 1, 0, 0, 0), some (.iload_n 1, 1, 0, 0, 0), some (.invokevirtual 140, 3, 180, 0, 0), none, none, some (.aload_n 0, 1, 0, 0, 0), some (.iload_n 2, 1, 0, 0, 0), some (.iconst 0, 1, 0, 0, 0), some (.iconst 2, 1, 0, 0, 0), some (.invokevirtual 151, 3, 184, 0, 0), none, none, some (.aload_n 0, 1, 0, 0, 0), some (.iload_n 3, 1, 0, 0, 0), some (.iconst 0, 1, 0, 0, 0), some (.iconst 2, 1, 0, 0, 0)], [some (.invokevirtual 151, 3, 184, 0, 0), none, none, some (.aload_n 0, 1, 0, 0, 0), some (.getfield 19, 3, 11, 1, 0), none, none, some (.iload_n 1, 1, 0, 0, 0), some (.iload_n 2, 1, 0, 0, 0), some (.iload_n 3, 1, 0, 0, 0), some (.invokevirtual 161, 3, 115, 0, 0), none, none, some (.return_, 1, 0, 0, 0)]]]
def cd_X11_most : List (List (List (Option ARow))) := [[[some (.aload_n 0, 1, 0, 0, 0), some (.iload_n 1, 1, 0, 0, 0), some (.invokevirtual 140, 3, 180, 0, 0), none, none, some (.aload_n 0, 1, 0, 0, 0), some (.iload_n 2, 1, 0, 0, 0), some (.invokevirtual 148, 3, 183, 0, 0), none, none, some (.aload_n 0, 1, 0, 0, 0), some (.getfield 19, 3, 11, 1, 0), none, none, some (.getfield 164, 3, 9, 12, 0), none], [none, some (.iload_n 2, 1, 0, 0, 0), some (.bipush 12, 2, 0, 0, 12), none, some (.imul, 1, 0, 0, 0), some (.iload_n 1, 1, 0, 0, 0), some (.iadd, 1, 0, 0, 0), some (.iaload, 1, 0, 0, 0), some (.ireturn, 1, 0, 0, 0)]]]
def cd_X11_assign : List (List (List (Option ARow))) := [[[some (.aload_n 0, 1, 0, 0, 0), some (.iload_n 1, 1, 0, 0, 0), some (.invokevirtual 168, 3, 181, 0, 0), none, none, some (.aload_n 0, 1, 0, 0, 0), some (.iload_n 2, 1, 0, 0, 0), some (.iconst (-1), 1, 0, 0, 0), some (.bipush 7, 2, 0, 0, 7), none, some (.invokevirtual 151, 3, 184, 0, 0), none, none, some (.aload_n 0, 1, 0, 0, 0), some (.getfield 35, 3, 11, 3, 0), none], [none, some (.iload_n 1, 1, 0, 0, 0), some (.iload_n 2, 1, 0, 0, 0), some (.invokevirtual 171, 3, 28, 0, 0), none, none, some (.ireturn, 1, 0, 0, 0)]]]
def cd_X11_paint : List (List (List (Option ARow))) := [[[some (.aload_n 0, 1, 0, 0, 0), some (.iload_n 1, 1, 0, 0, 0), some (.invokevirtual 168, 3, 181, 0, 0), none, none, some (.aload_n 0, 1, 0, 0, 0), some (.iload_n 2, 1, 0, 0, 0), some (.invokevirtual 168, 3, 181, 0, 0), none, none, some (.aload_n 0, 1, 0, 0, 0), some (.iload_n 3, 1, 0, 0, 0), some (.iconst (-1), 1, 0, 0, 0), some (.bipush 7, 2, 0, 0, 7), none, some (.invokevirtual 151, 3, 184, 0, 0)], [none, none, some (.iload_n 1, 1, 0, 0, 0), some (.bipush 64, 2, 0, 0, 64), none, some (.idiv, 1, 0, 0, 0), some (.iload_n 2, 1, 0, 0, 0), some (.bipush 64, 2, 0, 0, 64), none, some (.idiv, 1, 0, 0, 0), some (.if_icmp .ne 29, 3, 1, 0, 0), none, none, some (.iload_n 1, 1, 0, 0, 0), some (.bipush 7, 2, 0, 0, 7), none], [some (.iand, 1, 0, 0, 0), some (.iload_n 2, 1, 0, 0, 0), some (.bipush 7, 2, 0, 0, 7), none, some (.iand, 1, 0, 0, 0), some (.if_icmp .gt 18, 3, 4, 0, 0), none, none, some (.iload_n 1, 1, 0, 0, 0), some (.iconst 3, 1, 0, 0, 0), some (.ishr, 1, 0, 0, 0), some (.bipush 7, 2, 0, 0, 7), none, some (.iand, 1, 0, 0, 0), some (.iload_n 2, 1, 0, 0, 0), some (.iconst 3, 1, 0, 0, 0)], [some (.ishr, 1, 0, 0, 0), some (.bipush 7, 2, 0, 0, 7), none, some (.iand, 1, 0, 0, 0), some (.if_icmp .le 13, 3, 5, 0, 0), none, none, some (.new 108, 3, 0, 1, 0), none, none, some (.dup, 1, 0, 0, 0), none, none, none, none, none], [none, some (.aload_n 0, 1, 0, 0, 0), some (.getfield 35, 3, 11, 3, 0), none, none, some (.iload_n 1, 1, 0, 0, 0), some (.iload_n 2, 1, 0, 0, 0), some (.iload_n 3, 1, 0, 0, 0), some (.invokevirtual 176, 3, 29, 0, 0), none, none, some (.ireturn, 1, 0, 0, 0)]]]
def cd_X11_limit : List (List (List (Option ARow))) := [[[some (.aload_n 0, 1, 0, 0, 0), some (.iload_n 1, 1, 0, 0, 0), some (.invokevirtual 180, 3, 182, 0, 0), none, none, some (.aload_n 0, 1, 0, 0, 0), some (.iload_n 2, 1, 0, 0, 0), some (.iconst 0, 1, 0, 0, 0), some (.sipush 9999, 3, 0, 0, 9999), none, none, some (.invokevirtual 151, 3, 184, 0, 0), none, none, some (.aload_n 0, 1, 0, 0, 0), some (.getfield 35, 3, 11, 3, 0)], [none, none, some (.getfield 183, 3, 3, 3, 0), none, none, some (.iload_n 1, 1, 0, 0, 0), some (.iaload, 1, 0, 0, 0), some (.istore_n 3, 1, 0, 0, 0), some (.aload_n 0, 1, 0, 0, 0), some (.getfield 35, 3, 11, 3, 0), none, none, some (.getfield 183, 3, 3, 3, 0), none, none, some (.iload_n 1, 1, 0, 0, 0)], [some (.iload_n 2, 1, 0, 0, 0), some (.iastore, 1, 0, 0, 0), some (.iload_n 3, 1, 0, 0, 0), some (.ireturn, 1, 0, 0, 0)]]]
def cd_X11_hears : List (List (List (Option ARow))) := [[[some (.aload_n 0, 1, 0, 0, 0), some (.iload_n 1, 1, 0, 0, 0), some (.invokevirtual 180, 3, 182, 0, 0), none, none, some (.aload_n 0, 1, 0, 0, 0), some (.iload_n 2, 1, 0, 0, 0), some (.invokevirtual 148, 3, 183, 0, 0), none, none, some (.aload_n 0, 1, 0, 0, 0), some (.iload_n 3, 1, 0, 0, 0), some (.iconst 0, 1, 0, 0, 0), some (.iconst 4, 1, 0, 0, 0), some (.invokevirtual 151, 3, 184, 0, 0), none], [none, some (.aload_n 0, 1, 0, 0, 0), some (.iload_n 1, 1, 0, 0, 0), some (.invokevirtual 186, 3, 179, 0, 0), none, none, some (.aload_n 0, 1, 0, 0, 0), some (.getfield 44, 3, 11, 4, 0), none, none, some (.iload_n 2, 1, 0, 0, 0), some (.iconst (-1), 1, 0, 0, 0), some (.invokevirtual 189, 3, 4, 0, 0), none, none, some (.istore 4, 2, 0, 0, 0)], [none, some (.iload_n 3, 1, 0, 0, 0), some (.iconst 4, 1, 0, 0, 0), some (.if_icmp .ne 8, 3, 1, 0, 0), none, none, some (.iload 4, 2, 0, 0, 0), none, some (.goto 12, 3, 0, 0, 0), none, none, some (.aload_n 0, 1, 0, 0, 0), some (.getfield 44, 3, 11, 4, 0), none, none, some (.getfield 192, 3, 0, 11, 0)], [none, none, some (.iload_n 3, 1, 0, 0, 0), some (.iaload, 1, 0, 0, 0), some (.ireturn, 1, 0, 0, 0)]]]
def cd_X11_peak : List (List (List (Option ARow))) := [[[some (.aload_n 0, 1, 0, 0, 0), some (.iload_n 1, 1, 0, 0, 0), some (.invokevirtual 180, 3, 182, 0, 0), none, none, some (.aload_n 0, 1, 0, 0, 0), some (.iload_n 2, 1, 0, 0, 0), some (.iconst 0, 1, 0, 0, 0), some (.iconst 1, 1, 0, 0, 0), some (.invokevirtual 151, 3, 184, 0, 0), none, none, some (.aload_n 0, 1, 0, 0, 0), some (.iload_n 1, 1, 0, 0, 0), some (.invokevirtual 186, 3, 179, 0, 0), none], [none, some (.aload_n 0, 1, 0, 0, 0), some (.getfield 44, 3, 11, 4, 0), none, none, some (.invokevirtual 195, 3, 5, 0, 0), none, none, some (.istore_n 3, 1, 0, 0, 0), some (.iload_n 2, 1, 0, 0, 0), some (.ifCond .ne 7, 3, 1, 0, 0), none, none, some (.iload_n 3, 1, 0, 0, 0), some (.goto 10, 3, 0, 0, 0), none], [none, some (.aload_n 0, 1, 0, 0, 0), some (.getfield 44, 3, 11, 4, 0), none, none, some (.getfield 198, 3, 0, 12, 0), none, none, some (.ireturn, 1, 0, 0, 0)]]]
def cd_X11_whole : List (List (List (Option ARow))) := [[[some (.aload_n 0, 1, 0, 0, 0), some (.iload_n 1, 1, 0, 0, 0), some (.invokevirtual 180, 3, 182, 0, 0), none, none, some (.aload_n 0, 1, 0, 0, 0), some (.getfield 35, 3, 11, 3, 0), none, none, some (.getfield 201, 3, 3, 1, 0), none, none, some (.iload_n 1, 1, 0, 0, 0), some (.laload, 1, 0, 0, 0), some (.aload_n 0, 1, 0, 0, 0), some (.getfield 35, 3, 11, 3, 0)], [none, none, some (.getfield 205, 3, 3, 2, 0), none, none, some (.iload_n 1, 1, 0, 0, 0), some (.laload, 1, 0, 0, 0), some (.invokestatic 208, 3, 34, 1, 0), none, none, some (.ireturn, 1, 0, 0, 0)]]]
def cd_X11_neck : List (List (List (Option ARow))) := [[[some (.aload_n 0, 1, 0, 0, 0), some (.iload_n 1, 1, 0, 0, 0), some (.invokevirtual 180, 3, 182, 0, 0), none, none, some (.aload_n 0, 1, 0, 0, 0), some (.getfield 35, 3, 11, 3, 0), none, none, some (.iload_n 1, 1, 0, 0, 0), some (.iload_n 2, 1, 0, 0, 0), some (.invokevirtual 212, 3, 36, 0, 0), none, none, some (.ireturn, 1, 0, 0, 0)]]]
def cd_X11_shorts : List (List (List (Option ARow))) := [[[some (.aload_n 0, 1, 0, 0, 0), some (.iload_n 1, 1, 0, 0, 0), some (.invokevirtual 180, 3, 182, 0, 0), none, none, some (.aload_n 0, 1, 0, 0, 0), some (.getfield 19, 3, 11, 1, 0), none, none, some (.aload_n 0, 1, 0, 0, 0), some (.getfield 35, 3, 11, 3, 0), none, none, some (.getfield 215, 3, 3, 6, 0), none, none], [some (.aload_n 0, 1, 0, 0, 0), some (.getfield 35, 3, 11, 3, 0), none, none, some (.getfield 201, 3, 3, 1, 0), none, none, some (.iload_n 1, 1, 0, 0, 0), some (.laload, 1, 0, 0, 0), some (.aload_n 0, 1, 0, 0, 0), some (.getfield 35, 3, 11, 3, 0), none, none, some (.getfield 205, 3, 3, 2, 0), none, none], [some (.iload_n 1, 1, 0, 0, 0), some (.laload, 1, 0, 0, 0), some (.invokevirtual 218, 3, 119, 0, 0), none, none, some (.ireturn, 1, 0, 0, 0)]]]
def cd_X11_length : List (List (List (Option ARow))) := [[[some (.aload_n 0, 1, 0, 0, 0), some (.iload_n 1, 1, 0, 0, 0), some (.iconst 0, 1, 0, 0, 0), some (.bipush 9, 2, 0, 0, 9), none, some (.invokevirtual 151, 3, 184, 0, 0), none, none, some (.aload_n 0, 1, 0, 0, 0), some (.getfield 35, 3, 11, 3, 0), none, none, some (.getfield 215, 3, 3, 6, 0), none, none, some (.istore_n 2, 1, 0, 0, 0)], [some (.aload_n 0, 1, 0, 0, 0), some (.getfield 35, 3, 11, 3, 0), none, none, some (.iload_n 1, 1, 0, 0, 0), some (.putfield 215, 3, 3, 6, 0), none, none, some (.iload_n 2, 1, 0, 0, 0), some (.ireturn, 1, 0, 0, 0)]]]
def cd_X11_edge : List (List (List (Option ARow))) := [[[some (.aload_n 0, 1, 0, 0, 0), some (.iload_n 1, 1, 0, 0, 0), some (.invokevirtual 180, 3, 182, 0, 0), none, none, some (.aload_n 0, 1, 0, 0, 0), some (.getfield 35, 3, 11, 3, 0), none, none, some (.iload_n 1, 1, 0, 0, 0), some (.aload_n 0, 1, 0, 0, 0), some (.getfield 19, 3, 11, 1, 0), none, none, some (.iconst 0, 1, 0, 0, 0), some (.invokevirtual 222, 3, 112, 0, 0)], [none, none, some (.aload_n 0, 1, 0, 0, 0), some (.getfield 19, 3, 11, 1, 0), none, none, some (.iconst 1, 1, 0, 0, 0), some (.invokevirtual 222, 3, 112, 0, 0), none, none, some (.invokevirtual 226, 3, 38, 0, 0), none, none, some (.ireturn, 1, 0, 0, 0)]]]
def cd_X11_holds : List (List (List (Option ARow))) := [[[some (.iconst 0, 1, 0, 0, 0), some (.istore_n 1, 1, 0, 0, 0), some (.iload_n 1, 1, 0, 0, 0), some (.bipush 8, 2, 0, 0, 8), none, some (.if_icmp .ge 33, 3, 3, 0, 0), none, none, some (.aload_n 0, 1, 0, 0, 0), some (.getfield 35, 3, 11, 3, 0), none, none, some (.iload_n 1, 1, 0, 0, 0), some (.invokevirtual 229, 3, 30, 0, 0), none, none], [some (.ifCond .eq 16, 3, 0, 0, 0), none, none, some (.aload_n 0, 1, 0, 0, 0), some (.getfield 53, 3, 11, 5, 0), none, none, some (.iload_n 1, 1, 0, 0, 0), some (.invokevirtual 233, 3, 18, 0, 0), none, none, some (.ifCond .ne 5, 3, 1, 0, 0), none, none, some (.iconst 0, 1, 0, 0, 0), some (.ireturn, 1, 0, 0, 0)], [some (.iinc 1 1, 3, 0, 0, 0), none, none, some (.goto (-33), 3, 0, 0, 0), none, none, some (.iconst 1, 1, 0, 0, 0), some (.ireturn, 1, 0, 0, 0)]]]
def cd_X11_cost : List (List (List (Option ARow))) := [[[some (.aload_n 0, 1, 0, 0, 0), some (.getfield 53, 3, 11, 5, 0), none, none, some (.invokevirtual 236, 3, 20, 0, 0), none, none, some (.aload_n 0, 1, 0, 0, 0), some (.getfield 53, 3, 11, 5, 0), none, none, some (.invokevirtual 239, 3, 22, 0, 0), none, none, some (.ireturn, 1, 0, 0, 0)]]]
def cd_X11_better : List (List (List (Option ARow))) := [[[some (.aload_n 0, 1, 0, 0, 0), some (.iload_n 1, 1, 0, 0, 0), some (.iconst 0, 1, 0, 0, 0), some (.iconst 2, 1, 0, 0, 0), some (.invokevirtual 151, 3, 184, 0, 0), none, none, some (.aload_n 0, 1, 0, 0, 0), some (.getfield 53, 3, 11, 5, 0), none, none, some (.invokevirtual 242, 3, 23, 0, 0), none, none, some (.ifCond .ne 5, 3, 1, 0, 0), none], [none, some (.iconst (-1), 1, 0, 0, 0), some (.ireturn, 1, 0, 0, 0), some (.iload_n 1, 1, 0, 0, 0), some (.ifCond .ne 13, 3, 1, 0, 0), none, none, some (.aload_n 0, 1, 0, 0, 0), some (.getfield 53, 3, 11, 5, 0), none, none, some (.getfield 245, 3, 2, 7, 0), none, none, some (.goto 25, 3, 0, 0, 0), none], [none, some (.iload_n 1, 1, 0, 0, 0), some (.iconst 1, 1, 0, 0, 0), some (.if_icmp .ne 13, 3, 1, 0, 0), none, none, some (.aload_n 0, 1, 0, 0, 0), some (.getfield 53, 3, 11, 5, 0), none, none, some (.getfield 248, 3, 2, 8, 0), none, none, some (.goto 10, 3, 0, 0, 0), none, none], [some (.aload_n 0, 1, 0, 0, 0), some (.getfield 53, 3, 11, 5, 0), none, none, some (.getfield 251, 3, 2, 9, 0), none, none, some (.ireturn, 1, 0, 0, 0)]]]
def cd_X11_grow : List (List (List (Option ARow))) := [[[some (.aload_n 0, 1, 0, 0, 0), some (.iload_n 1, 1, 0, 0, 0), some (.iconst 0, 1, 0, 0, 0), some (.bipush 20, 2, 0, 0, 20), none, some (.invokevirtual 151, 3, 184, 0, 0), none, none, some (.iconst 0, 1, 0, 0, 0), some (.istore_n 2, 1, 0, 0, 0), some (.iload_n 2, 1, 0, 0, 0), some (.iload_n 1, 1, 0, 0, 0), some (.if_icmp .ge 43, 3, 3, 0, 0), none, none, some (.aload_n 0, 1, 0, 0, 0)], [some (.getfield 53, 3, 11, 5, 0), none, none, some (.invokevirtual 242, 3, 23, 0, 0), none, none, some (.ifCond .ne 5, 3, 1, 0, 0), none, none, some (.iload_n 2, 1, 0, 0, 0), some (.ireturn, 1, 0, 0, 0), some (.aload_n 0, 1, 0, 0, 0), some (.getfield 35, 3, 11, 3, 0), none, none, some (.aload_n 0, 1, 0, 0, 0)], [some (.getfield 53, 3, 11, 5, 0), none, none, some (.getfield 245, 3, 2, 7, 0), none, none, some (.aload_n 0, 1, 0, 0, 0), some (.getfield 53, 3, 11, 5, 0), none, none, some (.getfield 248, 3, 2, 8, 0), none, none, some (.invokevirtual 171, 3, 28, 0, 0), none, none], [some (.pop, 1, 0, 0, 0), some (.iinc 2 1, 3, 0, 0, 0), none, none, some (.goto (-42), 3, 0, 0, 0), none, none, some (.iload_n 1, 1, 0, 0, 0), some (.ireturn, 1, 0, 0, 0)]]]
def cd_X11_region : List (List (List (Option ARow))) := [[[some (.aload_n 0, 1, 0, 0, 0), some (.iload_n 1, 1, 0, 0, 0), some (.invokevirtual 168, 3, 181, 0, 0), none, none, some (.aload_n 0, 1, 0, 0, 0), some (.getfield 62, 3, 11, 6, 0), none, none, some (.iload_n 1, 1, 0, 0, 0), some (.invokevirtual 254, 3, 54, 0, 0), none, none, some (.ireturn, 1, 0, 0, 0)]]]
def cd_X11_parted : List (List (List (Option ARow))) := [[[some (.aload_n 0, 1, 0, 0, 0), some (.iload_n 1, 1, 0, 0, 0), some (.iconst 1, 1, 0, 0, 0), some (.iconst 3, 1, 0, 0, 0), some (.invokevirtual 151, 3, 184, 0, 0), none, none, some (.aload_n 0, 1, 0, 0, 0), some (.iload_n 2, 1, 0, 0, 0), some (.bipush (-2), 2, 0, 0, (-2)), none, some (.bipush 7, 2, 0, 0, 7), none, some (.invokevirtual 151, 3, 184, 0, 0), none, none], [some (.iload_n 2, 1, 0, 0, 0), some (.aload_n 0, 1, 0, 0, 0), some (.getfield 62, 3, 11, 6, 0), none, none, some (.getfield 258, 3, 5, 3, 0), none, none, some (.if_icmp .ge 14, 3, 3, 0, 0), none, none, some (.aload_n 0, 1, 0, 0, 0), some (.getfield 62, 3, 11, 6, 0), none, none, some (.iload_n 1, 1, 0, 0, 0)], [some (.invokevirtual 259, 3, 55, 0, 0), none, none, some (.ifCond .ne 5, 3, 1, 0, 0), none, none, some (.iconst (-1), 1, 0, 0, 0), some (.ireturn, 1, 0, 0, 0), some (.iload_n 2, 1, 0, 0, 0), some (.iconst (-1), 1, 0, 0, 0), some (.if_icmp .ne 13, 3, 1, 0, 0), none, none, some (.aload_n 0, 1, 0, 0, 0), some (.getfield 62, 3, 11, 6, 0), none], [none, some (.getfield 262, 3, 5, 10, 0), none, none, some (.goto 28, 3, 0, 0, 0), none, none, some (.iload_n 2, 1, 0, 0, 0), some (.bipush (-2), 2, 0, 0, (-2)), none, some (.if_icmp .ne 13, 3, 1, 0, 0), none, none, some (.aload_n 0, 1, 0, 0, 0), some (.getfield 62, 3, 11, 6, 0), none], [none, some (.getfield 265, 3, 5, 11, 0), none, none, some (.goto 12, 3, 0, 0, 0), none, none, some (.aload_n 0, 1, 0, 0, 0), some (.getfield 62, 3, 11, 6, 0), none, none, some (.getfield 268, 3, 5, 9, 0), none, none, some (.iload_n 2, 1, 0, 0, 0), some (.iaload, 1, 0, 0, 0)], [some (.ireturn, 1, 0, 0, 0)]]]
def cd_X11_clear : List (List (List (Option ARow))) := [[[some (.aload_n 0, 1, 0, 0, 0), some (.getfield 62, 3, 11, 6, 0), none, none, some (.getfield 258, 3, 5, 3, 0), none, none, some (.istore_n 1, 1, 0, 0, 0), some (.aload_n 0, 1, 0, 0, 0), some (.getfield 62, 3, 11, 6, 0), none, none, some (.iconst 0, 1, 0, 0, 0), some (.putfield 258, 3, 5, 3, 0), none, none], [some (.iload_n 1, 1, 0, 0, 0), some (.ireturn, 1, 0, 0, 0)]]]
def cd_X11_configure : List (List (List (Option ARow))) := [[[some (.aload_n 0, 1, 0, 0, 0), some (.iload_n 1, 1, 0, 0, 0), some (.iconst 0, 1, 0, 0, 0), some (.ldc_w 271, 3, 0, 0, 16777215), none, none, some (.invokevirtual 151, 3, 184, 0, 0), none, none, some (.aload_n 0, 1, 0, 0, 0), some (.getfield 71, 3, 11, 7, 0), none, none, some (.iload_n 1, 1, 0, 0, 0), some (.invokevirtual 272, 3, 43, 0, 0), none], [none, some (.ireturn, 1, 0, 0, 0)]]]
def cd_X11_pairs : List (List (List (Option ARow))) := [[[some (.iload_n 1, 1, 0, 0, 0), some (.ifCond .lt 14, 3, 2, 0, 0), none, none, some (.iload_n 1, 1, 0, 0, 0), some (.aload_n 0, 1, 0, 0, 0), some (.getfield 71, 3, 11, 7, 0), none, none, some (.getfield 273, 3, 4, 5, 0), none, none, some (.if_icmp .lt 14, 3, 2, 0, 0), none, none, none], [none, none, some (.dup, 1, 0, 0, 0), none, none, none, none, none, none, none, some (.aload_n 0, 1, 0, 0, 0), some (.iload_n 2, 1, 0, 0, 0), some (.invokevirtual 148, 3, 183, 0, 0), none, none, some (.aload_n 0, 1, 0, 0, 0)], [some (.getfield 71, 3, 11, 7, 0), none, none, some (.iload_n 1, 1, 0, 0, 0), some (.invokevirtual 279, 3, 45, 0, 0), none, none, some (.aload_n 0, 1, 0, 0, 0), some (.getfield 71, 3, 11, 7, 0), none, none, some (.getfield 282, 3, 4, 8, 0), none, none, some (.iload_n 1, 1, 0, 0, 0), some (.bipush 24, 2, 0, 0, 24)], [none, some (.imul, 1, 0, 0, 0), some (.iload_n 2, 1, 0, 0, 0), some (.iadd, 1, 0, 0, 0), some (.baload, 1, 0, 0, 0), some (.ifCond .eq 15, 3, 0, 0, 0), none, none, some (.aload_n 0, 1, 0, 0, 0), some (.getfield 71, 3, 11, 7, 0), none, none, some (.getfield 286, 3, 4, 7, 0), none, none, some (.iload_n 1, 1, 0, 0, 0)], [some (.iaload, 1, 0, 0, 0), some (.goto 4, 3, 0, 0, 0), none, none, some (.iconst (-1), 1, 0, 0, 0), some (.ireturn, 1, 0, 0, 0)]]]
def cd_X11_busy : List (List (List (Option ARow))) := [[[some (.aload_n 0, 1, 0, 0, 0), some (.iload_n 1, 1, 0, 0, 0), some (.iconst 0, 1, 0, 0, 0), some (.ldc_w 289, 3, 0, 0, 100000), none, none, some (.invokevirtual 151, 3, 184, 0, 0), none, none, some (.aload_n 0, 1, 0, 0, 0), some (.getfield 71, 3, 11, 7, 0), none, none, some (.getfield 290, 3, 4, 6, 0), none, none], [some (.istore_n 2, 1, 0, 0, 0), some (.aload_n 0, 1, 0, 0, 0), some (.getfield 71, 3, 11, 7, 0), none, none, some (.iload_n 1, 1, 0, 0, 0), some (.putfield 290, 3, 4, 6, 0), none, none, some (.iload_n 2, 1, 0, 0, 0), some (.ireturn, 1, 0, 0, 0)]]]
def cd_X11_plan : List (List (List (Option ARow))) := [[[some (.aload_n 0, 1, 0, 0, 0), some (.iload_n 1, 1, 0, 0, 0), some (.iconst 0, 1, 0, 0, 0), some (.bipush 23, 2, 0, 0, 23), none, some (.invokevirtual 151, 3, 184, 0, 0), none, none, some (.aload_n 0, 1, 0, 0, 0), some (.iload_n 2, 1, 0, 0, 0), some (.bipush (-2), 2, 0, 0, (-2)), none, some (.bipush 23, 2, 0, 0, 23), none, some (.invokevirtual 151, 3, 184, 0, 0), none], [none, some (.aload_n 0, 1, 0, 0, 0), some (.getfield 71, 3, 11, 7, 0), none, none, some (.iload_n 1, 1, 0, 0, 0), some (.invokevirtual 293, 3, 48, 0, 0), none, none, some (.ifCond .ne 5, 3, 1, 0, 0), none, none, some (.iconst (-1), 1, 0, 0, 0), some (.ireturn, 1, 0, 0, 0), some (.iload_n 2, 1, 0, 0, 0), some (.iconst (-1), 1, 0, 0, 0)], [some (.if_icmp .ne 13, 3, 1, 0, 0), none, none, some (.aload_n 0, 1, 0, 0, 0), some (.getfield 71, 3, 11, 7, 0), none, none, some (.getfield 294, 3, 4, 12, 0), none, none, some (.goto 28, 3, 0, 0, 0), none, none, some (.iload_n 2, 1, 0, 0, 0), some (.bipush (-2), 2, 0, 0, (-2)), none], [some (.if_icmp .ne 13, 3, 1, 0, 0), none, none, some (.aload_n 0, 1, 0, 0, 0), some (.getfield 71, 3, 11, 7, 0), none, none, some (.getfield 297, 3, 4, 13, 0), none, none, some (.goto 12, 3, 0, 0, 0), none, none, some (.aload_n 0, 1, 0, 0, 0), some (.getfield 71, 3, 11, 7, 0), none], [none, some (.getfield 300, 3, 4, 11, 0), none, none, some (.iload_n 2, 1, 0, 0, 0), some (.iaload, 1, 0, 0, 0), some (.ireturn, 1, 0, 0, 0)]]]
def cd_X11_hours : List (List (List (Option ARow))) := [[[some (.aload_n 0, 1, 0, 0, 0), some (.iload_n 1, 1, 0, 0, 0), some (.iconst 0, 1, 0, 0, 0), some (.iconst 1, 1, 0, 0, 0), some (.invokevirtual 151, 3, 184, 0, 0), none, none, some (.aload_n 0, 1, 0, 0, 0), some (.iload_n 2, 1, 0, 0, 0), some (.iconst 1, 1, 0, 0, 0), some (.iload_n 1, 1, 0, 0, 0), some (.ifCond .ne 8, 3, 1, 0, 0), none, none, some (.bipush 24, 2, 0, 0, 24), none], [some (.goto 5, 3, 0, 0, 0), none, none, some (.bipush 8, 2, 0, 0, 8), none, some (.invokevirtual 151, 3, 184, 0, 0), none, none, some (.iload_n 1, 1, 0, 0, 0), some (.ifCond .ne 14, 3, 1, 0, 0), none, none, some (.aload_n 0, 1, 0, 0, 0), some (.getfield 80, 3, 11, 8, 0), none, none], [some (.iload_n 2, 1, 0, 0, 0), some (.invokevirtual 303, 3, 60, 0, 0), none, none, some (.goto 11, 3, 0, 0, 0), none, none, some (.aload_n 0, 1, 0, 0, 0), some (.getfield 80, 3, 11, 8, 0), none, none, some (.iload_n 2, 1, 0, 0, 0), some (.invokevirtual 306, 3, 61, 0, 0), none, none, some (.ireturn, 1, 0, 0, 0)]]]
def cd_X11_ill : List (List (List (Option ARow))) := [[[some (.iload_n 1, 1, 0, 0, 0), some (.ifCond .lt 9, 3, 2, 0, 0), none, none, some (.iload_n 1, 1, 0, 0, 0), some (.bipush 8, 2, 0, 0, 8), none, some (.if_icmp .lt 14, 3, 2, 0, 0), none, none, none, none, none, some (.dup, 1, 0, 0, 0), none, none], [none, none, none, none, none, some (.aload_n 0, 1, 0, 0, 0), some (.iload_n 2, 1, 0, 0, 0), some (.iconst 0, 1, 0, 0, 0), some (.bipush 24, 2, 0, 0, 24), none, some (.invokevirtual 151, 3, 184, 0, 0), none, none, some (.aload_n 0, 1, 0, 0, 0), some (.getfield 80, 3, 11, 8, 0), none], [none, some (.getfield 314, 3, 6, 3, 0), none, none, some (.iload_n 1, 1, 0, 0, 0), some (.iaload, 1, 0, 0, 0), some (.istore_n 3, 1, 0, 0, 0), some (.aload_n 0, 1, 0, 0, 0), some (.getfield 80, 3, 11, 8, 0), none, none, some (.getfield 314, 3, 6, 3, 0), none, none, some (.iload_n 1, 1, 0, 0, 0), some (.iload_n 2, 1, 0, 0, 0)], [some (.iastore, 1, 0, 0, 0), some (.iload_n 3, 1, 0, 0, 0), some (.ireturn, 1, 0, 0, 0)]]]
def cd_X11_rota : List (List (List (Option ARow))) := [[[some (.aload_n 0, 1, 0, 0, 0), some (.iload_n 1, 1, 0, 0, 0), some (.iconst 1, 1, 0, 0, 0), some (.bipush 8, 2, 0, 0, 8), none, some (.invokevirtual 151, 3, 184, 0, 0), none, none, some (.aload_n 0, 1, 0, 0, 0), some (.iload_n 2, 1, 0, 0, 0), some (.iconst 0, 1, 0, 0, 0), some (.bipush 23, 2, 0, 0, 23), none, some (.invokevirtual 151, 3, 184, 0, 0), none, none], [some (.aload_n 0, 1, 0, 0, 0), some (.iload_n 3, 1, 0, 0, 0), some (.invokevirtual 148, 3, 183, 0, 0), none, none, some (.aload_n 0, 1, 0, 0, 0), some (.getfield 71, 3, 11, 7, 0), none, none, some (.iload_n 2, 1, 0, 0, 0), some (.invokevirtual 293, 3, 48, 0, 0), none, none, some (.ifCond .ne 5, 3, 1, 0, 0), none, none], [some (.iconst (-1), 1, 0, 0, 0), some (.ireturn, 1, 0, 0, 0), some (.aload_n 0, 1, 0, 0, 0), some (.getfield 80, 3, 11, 8, 0), none, none, some (.iload_n 1, 1, 0, 0, 0), some (.invokevirtual 317, 3, 62, 0, 0), none, none, some (.aload_n 0, 1, 0, 0, 0), some (.getfield 80, 3, 11, 8, 0), none, none, some (.getfield 320, 3, 6, 7, 0), none], [none, some (.iload_n 3, 1, 0, 0, 0), some (.iaload, 1, 0, 0, 0), some (.ireturn, 1, 0, 0, 0)]]]
def cd_X11_lacks : List (List (List (Option ARow))) := [[[some (.aload_n 0, 1, 0, 0, 0), some (.iload_n 1, 1, 0, 0, 0), some (.iconst 1, 1, 0, 0, 0), some (.bipush 8, 2, 0, 0, 8), none, some (.invokevirtual 151, 3, 184, 0, 0), none, none, some (.aload_n 0, 1, 0, 0, 0), some (.iload_n 2, 1, 0, 0, 0), some (.iconst 0, 1, 0, 0, 0), some (.bipush 23, 2, 0, 0, 23), none, some (.invokevirtual 151, 3, 184, 0, 0), none, none], [some (.aload_n 0, 1, 0, 0, 0), some (.getfield 71, 3, 11, 7, 0), none, none, some (.iload_n 2, 1, 0, 0, 0), some (.invokevirtual 293, 3, 48, 0, 0), none, none, some (.ifCond .ne 5, 3, 1, 0, 0), none, none, some (.iconst (-1), 1, 0, 0, 0), some (.ireturn, 1, 0, 0, 0), some (.aload_n 0, 1, 0, 0, 0), some (.getfield 80, 3, 11, 8, 0), none], [none, some (.iload_n 1, 1, 0, 0, 0), some (.invokevirtual 317, 3, 62, 0, 0), none, none, some (.aload_n 0, 1, 0, 0, 0), some (.getfield 80, 3, 11, 8, 0), none, none, some (.getfield 323, 3, 6, 8, 0), none, none, some (.ireturn, 1, 0, 0, 0)]]]
def cd_X11_enough : List (List (List (Option ARow))) := [[[some (.aload_n 0, 1, 0, 0, 0), some (.iload_n 1, 1, 0, 0, 0), some (.iconst 0, 1, 0, 0, 0), some (.bipush 23, 2, 0, 0, 23), none, some (.invokevirtual 151, 3, 184, 0, 0), none, none, some (.aload_n 0, 1, 0, 0, 0), some (.getfield 71, 3, 11, 7, 0), none, none, some (.iload_n 1, 1, 0, 0, 0), some (.invokevirtual 293, 3, 48, 0, 0), none, none], [some (.ifCond .ne 5, 3, 1, 0, 0), none, none, some (.iconst (-1), 1, 0, 0, 0), some (.ireturn, 1, 0, 0, 0), some (.iconst 1, 1, 0, 0, 0), some (.istore_n 2, 1, 0, 0, 0), some (.iload_n 2, 1, 0, 0, 0), some (.bipush 8, 2, 0, 0, 8), none, some (.if_icmp .gt 29, 3, 4, 0, 0), none, none, some (.aload_n 0, 1, 0, 0, 0), some (.getfield 80, 3, 11, 8, 0), none], [none, some (.iload_n 2, 1, 0, 0, 0), some (.invokevirtual 317, 3, 62, 0, 0), none, none, some (.aload_n 0, 1, 0, 0, 0), some (.getfield 80, 3, 11, 8, 0), none, none, some (.getfield 323, 3, 6, 8, 0), none, none, some (.ifCond .ne 5, 3, 1, 0, 0), none, none, some (.iload_n 2, 1, 0, 0, 0)], [some (.ireturn, 1, 0, 0, 0), some (.iinc 2 1, 3, 0, 0, 0), none, none, some (.goto (-29), 3, 0, 0, 0), none, none, some (.iconst (-1), 1, 0, 0, 0), some (.ireturn, 1, 0, 0, 0)]]]
def cd_X11_storm : List (List (List (Option ARow))) := [[[some (.aload_n 0, 1, 0, 0, 0), some (.iload_n 1, 1, 0, 0, 0), some (.invokevirtual 168, 3, 181, 0, 0), none, none, some (.aload_n 0, 1, 0, 0, 0), some (.getfield 89, 3, 11, 9, 0), none, none, some (.iload_n 1, 1, 0, 0, 0), some (.iload_n 2, 1, 0, 0, 0), some (.invokevirtual 326, 3, 87, 0, 0), none, none, some (.ireturn, 1, 0, 0, 0)]]]
def cd_X11_mends : List (List (List (Option ARow))) := [[[some (.aload_n 0, 1, 0, 0, 0), some (.iload_n 1, 1, 0, 0, 0), some (.invokevirtual 148, 3, 183, 0, 0), none, none, some (.aload_n 0, 1, 0, 0, 0), some (.iload_n 2, 1, 0, 0, 0), some (.iconst 0, 1, 0, 0, 0), some (.bipush 8, 2, 0, 0, 8), none, some (.invokevirtual 151, 3, 184, 0, 0), none, none, some (.aload_n 0, 1, 0, 0, 0), some (.iload_n 3, 1, 0, 0, 0), some (.iconst 0, 1, 0, 0, 0)], [some (.bipush 8, 2, 0, 0, 8), none, some (.invokevirtual 151, 3, 184, 0, 0), none, none, some (.aload_n 0, 1, 0, 0, 0), some (.iload 4, 2, 0, 0, 0), none, some (.bipush (-2), 2, 0, 0, (-2)), none, some (.bipush 11, 2, 0, 0, 11), none, some (.invokevirtual 151, 3, 184, 0, 0), none, none, some (.aload_n 0, 1, 0, 0, 0)], [some (.getfield 89, 3, 11, 9, 0), none, none, some (.iload_n 1, 1, 0, 0, 0), some (.invokevirtual 330, 3, 89, 0, 0), none, none, some (.iload 4, 2, 0, 0, 0), none, some (.bipush (-2), 2, 0, 0, (-2)), none, some (.if_icmp .ne 11, 3, 1, 0, 0), none, none, some (.aload_n 0, 1, 0, 0, 0), some (.getfield 89, 3, 11, 9, 0)], [none, none, some (.getfield 333, 3, 8, 7, 0), none, none, some (.ireturn, 1, 0, 0, 0), some (.aload_n 0, 1, 0, 0, 0), some (.getfield 89, 3, 11, 9, 0), none, none, some (.iload_n 2, 1, 0, 0, 0), some (.iload_n 3, 1, 0, 0, 0), some (.invokevirtual 336, 3, 91, 0, 0), none, none, some (.ifCond .ne 5, 3, 1, 0, 0)], [none, none, some (.iconst (-1), 1, 0, 0, 0), some (.ireturn, 1, 0, 0, 0), some (.iload 4, 2, 0, 0, 0), none, some (.iconst (-1), 1, 0, 0, 0), some (.if_icmp .ne 13, 3, 1, 0, 0), none, none, some (.aload_n 0, 1, 0, 0, 0), some (.getfield 89, 3, 11, 9, 0), none, none, some (.getfield 339, 3, 8, 13, 0), none], [none, some (.goto 12, 3, 0, 0, 0), none, none, some (.aload_n 0, 1, 0, 0, 0), some (.getfield 89, 3, 11, 9, 0), none, none, some (.iload 4, 2, 0, 0, 0), none, some (.invokevirtual 342, 3, 90, 0, 0), none, none, some (.ireturn, 1, 0, 0, 0)]]]
def cd_X11_did : List (List (List (Option ARow))) := [[[some (.aload_n 0, 1, 0, 0, 0), some (.iload_n 1, 1, 0, 0, 0), some (.invokevirtual 180, 3, 182, 0, 0), none, none, some (.aload_n 0, 1, 0, 0, 0), some (.iload_n 2, 1, 0, 0, 0), some (.invokevirtual 148, 3, 183, 0, 0), none, none, some (.aload_n 0, 1, 0, 0, 0), some (.iload_n 3, 1, 0, 0, 0), some (.iconst 0, 1, 0, 0, 0), some (.sipush 9999, 3, 0, 0, 9999), none, none], [some (.invokevirtual 151, 3, 184, 0, 0), none, none, some (.aload_n 0, 1, 0, 0, 0), some (.iload_n 1, 1, 0, 0, 0), some (.invokevirtual 186, 3, 179, 0, 0), none, none, some (.aload_n 0, 1, 0, 0, 0), some (.getfield 44, 3, 11, 4, 0), none, none, some (.iload_n 2, 1, 0, 0, 0), some (.iconst (-1), 1, 0, 0, 0), some (.invokevirtual 345, 3, 3, 0, 0), none], [none, some (.aload_n 0, 1, 0, 0, 0), some (.getfield 96, 3, 11, 10, 0), none, none, some (.aload_n 0, 1, 0, 0, 0), some (.getfield 44, 3, 11, 4, 0), none, none, some (.getfield 192, 3, 0, 11, 0), none, none, some (.iload_n 3, 1, 0, 0, 0), some (.iload 4, 2, 0, 0, 0), none, some (.invokevirtual 349, 3, 11, 0, 0)], [none, none, some (.ireturn, 1, 0, 0, 0)]]]
def cd_X11_fit : List (List (List (Option ARow))) := [[[some (.aload_n 0, 1, 0, 0, 0), some (.iload_n 1, 1, 0, 0, 0), some (.iconst 0, 1, 0, 0, 0), some (.iconst 5, 1, 0, 0, 0), some (.invokevirtual 151, 3, 184, 0, 0), none, none, some (.aload_n 0, 1, 0, 0, 0), some (.getfield 96, 3, 11, 10, 0), none, none, some (.invokevirtual 352, 3, 12, 0, 0), none, none, some (.ifCond .ne 5, 3, 1, 0, 0), none], [none, some (.iconst (-1), 1, 0, 0, 0), some (.ireturn, 1, 0, 0, 0), some (.iload_n 1, 1, 0, 0, 0), some (.iconst 4, 1, 0, 0, 0), some (.if_icmp .ne 13, 3, 1, 0, 0), none, none, some (.aload_n 0, 1, 0, 0, 0), some (.getfield 96, 3, 11, 10, 0), none, none, some (.getfield 354, 3, 1, 7, 0), none, none, some (.goto 27, 3, 0, 0, 0)], [none, none, some (.iload_n 1, 1, 0, 0, 0), some (.iconst 5, 1, 0, 0, 0), some (.if_icmp .ne 13, 3, 1, 0, 0), none, none, some (.aload_n 0, 1, 0, 0, 0), some (.getfield 96, 3, 11, 10, 0), none, none, some (.invokevirtual 357, 3, 13, 0, 0), none, none, some (.goto 12, 3, 0, 0, 0), none], [none, some (.aload_n 0, 1, 0, 0, 0), some (.getfield 96, 3, 11, 10, 0), none, none, some (.getfield 360, 3, 1, 5, 0), none, none, some (.iload_n 1, 1, 0, 0, 0), some (.iaload, 1, 0, 0, 0), some (.ireturn, 1, 0, 0, 0)]]]
def cd_X11_lead : List (List (List (Option ARow))) := [[[some (.aload_n 0, 1, 0, 0, 0), some (.iload_n 1, 1, 0, 0, 0), some (.invokevirtual 180, 3, 182, 0, 0), none, none, some (.aload_n 0, 1, 0, 0, 0), some (.iload_n 2, 1, 0, 0, 0), some (.invokevirtual 148, 3, 183, 0, 0), none, none, some (.aload_n 0, 1, 0, 0, 0), some (.iload_n 1, 1, 0, 0, 0), some (.invokevirtual 186, 3, 179, 0, 0), none, none, some (.aload_n 0, 1, 0, 0, 0)], [some (.getfield 44, 3, 11, 4, 0), none, none, some (.iload_n 2, 1, 0, 0, 0), some (.iload_n 3, 1, 0, 0, 0), some (.invokevirtual 363, 3, 8, 0, 0), none, none, some (.istore 5, 2, 0, 0, 0), none, some (.iload 5, 2, 0, 0, 0), none, some (.iconst (-1), 1, 0, 0, 0), some (.if_icmp .eq 8, 3, 0, 0, 0), none, none], [some (.iload 4, 2, 0, 0, 0), none, some (.ifCond .ne 8, 3, 1, 0, 0), none, none, some (.iload 5, 2, 0, 0, 0), none, some (.goto 13, 3, 0, 0, 0), none, none, some (.aload_n 0, 1, 0, 0, 0), some (.getfield 44, 3, 11, 4, 0), none, none, some (.getfield 366, 3, 0, 13, 0), none], [none, some (.iload 5, 2, 0, 0, 0), none, some (.iaload, 1, 0, 0, 0), some (.ireturn, 1, 0, 0, 0)]]]
def cd_X11_worth : List (List (List (Option ARow))) := [[[some (.aload_n 0, 1, 0, 0, 0), some (.iload_n 1, 1, 0, 0, 0), some (.invokevirtual 168, 3, 181, 0, 0), none, none, some (.aload_n 0, 1, 0, 0, 0), some (.iload_n 2, 1, 0, 0, 0), some (.invokevirtual 180, 3, 182, 0, 0), none, none, some (.aload_n 0, 1, 0, 0, 0), some (.getfield 35, 3, 11, 3, 0), none, none, some (.getfield 369, 3, 3, 0, 0), none], [none, some (.iload_n 1, 1, 0, 0, 0), some (.iaload, 1, 0, 0, 0), some (.istore_n 3, 1, 0, 0, 0), some (.iload_n 3, 1, 0, 0, 0), some (.iconst (-1), 1, 0, 0, 0), some (.if_icmp .eq 8, 3, 0, 0, 0), none, none, some (.iload_n 3, 1, 0, 0, 0), some (.iload_n 2, 1, 0, 0, 0), some (.if_icmp .ne 14, 3, 1, 0, 0), none, none, none, none], [none, some (.dup, 1, 0, 0, 0), none, none, none, none, none, none, none, some (.aload_n 0, 1, 0, 0, 0), some (.getfield 53, 3, 11, 5, 0), none, none, some (.invokevirtual 236, 3, 20, 0, 0), none, none], [some (.aload_n 0, 1, 0, 0, 0), some (.getfield 53, 3, 11, 5, 0), none, none, some (.invokevirtual 239, 3, 22, 0, 0), none, none, some (.istore 4, 2, 0, 0, 0), none, some (.aload_n 0, 1, 0, 0, 0), some (.getfield 35, 3, 11, 3, 0), none, none, some (.iload_n 1, 1, 0, 0, 0), some (.iload_n 2, 1, 0, 0, 0), some (.invokevirtual 171, 3, 28, 0, 0)], [none, none, some (.pop, 1, 0, 0, 0), some (.aload_n 0, 1, 0, 0, 0), some (.getfield 53, 3, 11, 5, 0), none, none, some (.invokevirtual 236, 3, 20, 0, 0), none, none, some (.aload_n 0, 1, 0, 0, 0), some (.getfield 53, 3, 11, 5, 0), none, none, some (.invokevirtual 239, 3, 22, 0, 0), none], [none, some (.istore 5, 2, 0, 0, 0), none, some (.aload_n 0, 1, 0, 0, 0), some (.getfield 35, 3, 11, 3, 0), none, none, some (.iload_n 1, 1, 0, 0, 0), some (.iload_n 3, 1, 0, 0, 0), some (.invokevirtual 171, 3, 28, 0, 0), none, none, some (.pop, 1, 0, 0, 0), some (.iload 4, 2, 0, 0, 0), none, some (.iload 5, 2, 0, 0, 0)], [none, some (.isub, 1, 0, 0, 0), some (.ireturn, 1, 0, 0, 0)]]]
def cd_X11_quiet : List (List (List (Option ARow))) := [[[some (.aload_n 0, 1, 0, 0, 0), some (.iload_n 1, 1, 0, 0, 0), some (.invokevirtual 168, 3, 181, 0, 0), none, none, some (.aload_n 0, 1, 0, 0, 0), some (.getfield 19, 3, 11, 1, 0), none, none, some (.iload_n 1, 1, 0, 0, 0), some (.invokevirtual 374, 3, 121, 0, 0), none, none, some (.ireturn, 1, 0, 0, 0)]]]
def cd_X11_mark : List (List (List (Option ARow))) := [[[some (.aload_n 0, 1, 0, 0, 0), some (.getfield 35, 3, 11, 3, 0), none, none, some (.invokevirtual 377, 3, 40, 0, 0), none, none, some (.ireturn, 1, 0, 0, 0)]]]
def cd_X11_back : List (List (List (Option ARow))) := [[[some (.aload_n 0, 1, 0, 0, 0), some (.getfield 35, 3, 11, 3, 0), none, none, some (.invokevirtual 380, 3, 41, 0, 0), none, none, some (.ireturn, 1, 0, 0, 0)]]]
def cd_X11_count : List (List (List (Option ARow))) := [[[some (.iload_n 1, 1, 0, 0, 0), some (.tableswitch 149 0 9 #[55, 63, 71, 79, 87, 95, 103, 111, 133, 141], 55, 0, 0, 0), none, none, none, none, none, none, none, none, none, none, none, none, none, none], [none, none, none, none, none, none, none, none, none, none, none, none, none, none, none, none], [none, none, none, none, none, none, none, none, none, none, none, none, none, none, none, none], [none, none, none, none, none, none, none, none, some (.aload_n 0, 1, 0, 0, 0), some (.getfield 19, 3, 11, 1, 0), none, none, some (.getfield 383, 3, 9, 0, 0), none, none, some (.ireturn, 1, 0, 0, 0)], [some (.aload_n 0, 1, 0, 0, 0), some (.getfield 28, 3, 11, 2, 0), none, none, some (.getfield 134, 3, 7, 3, 0), none, none, some (.ireturn, 1, 0, 0, 0), some (.aload_n 0, 1, 0, 0, 0), some (.getfield 35, 3, 11, 3, 0), none, none, some (.invokevirtual 386, 3, 31, 0, 0), none, none, some (.ireturn, 1, 0, 0, 0)], [some (.aload_n 0, 1, 0, 0, 0), some (.getfield 35, 3, 11, 3, 0), none, none, some (.invokevirtual 389, 3, 32, 0, 0), none, none, some (.ireturn, 1, 0, 0, 0), some (.aload_n 0, 1, 0, 0, 0), some (.getfield 62, 3, 11, 6, 0), none, none, some (.getfield 258, 3, 5, 3, 0), none, none, some (.ireturn, 1, 0, 0, 0)], [some (.aload_n 0, 1, 0, 0, 0), some (.getfield 71, 3, 11, 7, 0), none, none, some (.getfield 273, 3, 4, 5, 0), none, none, some (.ireturn, 1, 0, 0, 0), some (.aload_n 0, 1, 0, 0, 0), some (.getfield 96, 3, 11, 10, 0), none, none, some (.getfield 392, 3, 1, 3, 0), none, none, some (.ireturn, 1, 0, 0, 0)], [some (.aload_n 0, 1, 0, 0, 0), some (.getfield 89, 3, 11, 9, 0), none, none, some (.getfield 393, 3, 8, 4, 0), none, none, some (.invokestatic 396, 3, 298, 1, 0), none, none, some (.aload_n 0, 1, 0, 0, 0), some (.getfield 89, 3, 11, 9, 0), none, none, some (.getfield 402, 3, 8, 5, 0), none], [none, some (.invokestatic 396, 3, 298, 1, 0), none, none, some (.iadd, 1, 0, 0, 0), some (.ireturn, 1, 0, 0, 0), some (.aload_n 0, 1, 0, 0, 0), some (.getfield 35, 3, 11, 3, 0), none, none, some (.getfield 404, 3, 3, 5, 0), none, none, some (.ireturn, 1, 0, 0, 0), some (.aload_n 0, 1, 0, 0, 0), some (.getfield 10, 3, 11, 0, 0)], [none, none, some (.getfield 104, 3, 10, 1, 0), none, none, some (.ireturn, 1, 0, 0, 0), some (.iconst (-1), 1, 0, 0, 0), some (.ireturn, 1, 0, 0, 0)]]]
def cd_X11_listenTo : List (List (List (Option ARow))) := [[[some (.aload_n 0, 1, 0, 0, 0), some (.getfield 44, 3, 11, 4, 0), none, none, some (.aload_n 0, 1, 0, 0, 0), some (.getfield 35, 3, 11, 3, 0), none, none, some (.getfield 201, 3, 3, 1, 0), none, none, some (.iload_n 1, 1, 0, 0, 0), some (.laload, 1, 0, 0, 0), some (.aload_n 0, 1, 0, 0, 0), some (.getfield 35, 3, 11, 3, 0), none], [none, some (.getfield 205, 3, 3, 2, 0), none, none, some (.iload_n 1, 1, 0, 0, 0), some (.laload, 1, 0, 0, 0), some (.iconst 1, 1, 0, 0, 0), some (.invokevirtual 407, 3, 1, 0, 0), none, none, some (.return_, 1, 0, 0, 0)]]]
def cd_X11_needStream : List (List (List (Option ARow))) := [[[some (.iload_n 1, 1, 0, 0, 0), some (.ifCond .lt 14, 3, 2, 0, 0), none, none, some (.iload_n 1, 1, 0, 0, 0), some (.aload_n 0, 1, 0, 0, 0), some (.getfield 19, 3, 11, 1, 0), none, none, some (.getfield 383, 3, 9, 0, 0), none, none, some (.if_icmp .lt 14, 3, 2, 0, 0), none, none, none], [none, none, some (.dup, 1, 0, 0, 0), none, none, none, none, none, none, none, some (.return_, 1, 0, 0, 0)]]]
def cd_X11_needCell : List (List (List (Option ARow))) := [[[some (.iload_n 1, 1, 0, 0, 0), some (.ifCond .lt 10, 3, 2, 0, 0), none, none, some (.iload_n 1, 1, 0, 0, 0), some (.sipush 128, 3, 0, 0, 128), none, none, some (.if_icmp .lt 14, 3, 2, 0, 0), none, none, none, none, none, some (.dup, 1, 0, 0, 0), none], [none, none, none, none, none, none, some (.return_, 1, 0, 0, 0)]]]
def cd_X11_needPiece : List (List (List (Option ARow))) := [[[some (.aload_n 0, 1, 0, 0, 0), some (.iload_n 1, 1, 0, 0, 0), some (.iconst 0, 1, 0, 0, 0), some (.bipush 7, 2, 0, 0, 7), none, some (.invokevirtual 151, 3, 184, 0, 0), none, none, some (.return_, 1, 0, 0, 0)]]]
def cd_X11_needQuarter : List (List (List (Option ARow))) := [[[some (.aload_n 0, 1, 0, 0, 0), some (.iload_n 1, 1, 0, 0, 0), some (.iconst 0, 1, 0, 0, 0), some (.bipush 23, 2, 0, 0, 23), none, some (.invokevirtual 151, 3, 184, 0, 0), none, none, some (.return_, 1, 0, 0, 0)]]]
def cd_X11_needWithin : List (List (List (Option ARow))) := [[[some (.iload_n 1, 1, 0, 0, 0), some (.iload_n 2, 1, 0, 0, 0), some (.if_icmp .lt 8, 3, 2, 0, 0), none, none, some (.iload_n 1, 1, 0, 0, 0), some (.iload_n 3, 1, 0, 0, 0), some (.if_icmp .le 14, 3, 5, 0, 0), none, none, none, none, none, some (.dup, 1, 0, 0, 0), none, none], [none, none, none, none, none, some (.return_, 1, 0, 0, 0)]]]
def cd_X12_init : List (List (List (Option ARow))) := [[[some (.aload_n 0, 1, 0, 0, 0), some (.invokespecial 1, 3, 0, 4, 0), none, none, some (.aload_n 0, 1, 0, 0, 0), some (.iconst (-1), 1, 0, 0, 0), some (.putfield 9, 3, 12, 3, 0), none, none, some (.aload_n 0, 1, 0, 0, 0), some (.sipush 200, 3, 0, 0, 200), none, none, some (.newarray .int, 2, 0, 0, 0), none, some (.putfield 13, 3, 12, 9, 0)], [none, none, some (.aload_n 0, 1, 0, 0, 0), some (.sipush 200, 3, 0, 0, 200), none, none, some (.newarray .int, 2, 0, 0, 0), none, some (.putfield 17, 3, 12, 10, 0), none, none, some (.aload_n 0, 1, 0, 0, 0), some (.iconst (-1), 1, 0, 0, 0), some (.putfield 20, 3, 12, 14, 0), none, none], [some (.aload_n 0, 1, 0, 0, 0), some (.bipush 8, 2, 0, 0, 8), none, some (.newarray .int, 2, 0, 0, 0), none, some (.putfield 23, 3, 12, 15, 0), none, none, some (.aload_n 0, 1, 0, 0, 0), some (.iconst 1, 1, 0, 0, 0), some (.putfield 26, 3, 12, 19, 0), none, none, some (.aload_n 0, 1, 0, 0, 0), some (.bipush 8, 2, 0, 0, 8), none], [some (.newarray .int, 2, 0, 0, 0), none, some (.putfield 29, 3, 12, 20, 0), none, none, some (.aload_n 0, 1, 0, 0, 0), some (.bipush 7, 2, 0, 0, 7), none, some (.newarray .int, 2, 0, 0, 0), none, some (.putfield 32, 3, 12, 21, 0), none, none, some (.aload_n 0, 1, 0, 0, 0), some (.bipush 12, 2, 0, 0, 12), none], [some (.newarray .int, 2, 0, 0, 0), none, some (.putfield 35, 3, 12, 23, 0), none, none, some (.aload_n 0, 1, 0, 0, 0), some (.bipush 12, 2, 0, 0, 12), none, some (.newarray .int, 2, 0, 0, 0), none, some (.putfield 38, 3, 12, 24, 0), none, none, some (.aload_n 0, 1, 0, 0, 0), some (.bipush 12, 2, 0, 0, 12), none], [some (.newarray .int, 2, 0, 0, 0), none, some (.putfield 41, 3, 12, 25, 0), none, none, some (.aload_n 0, 1, 0, 0, 0), some (.bipush 24, 2, 0, 0, 24), none, some (.newarray .int, 2, 0, 0, 0), none, some (.putfield 44, 3, 12, 26, 0), none, none, some (.aload_n 0, 1, 0, 0, 0), some (.bipush 12, 2, 0, 0, 12), none], [some (.bipush 24, 2, 0, 0, 24), none, some (.multianewarray 47 2, 4, 0, 0, 0), none, none, none, some (.putfield 49, 3, 12, 28, 0), none, none, some (.aload_n 0, 1, 0, 0, 0), some (.bipush 12, 2, 0, 0, 12), none, some (.sipush 128, 3, 0, 0, 128), none, none, some (.multianewarray 47 2, 4, 0, 0, 0)], [none, none, none, some (.putfield 52, 3, 12, 29, 0), none, none, some (.aload_n 0, 1, 0, 0, 0), some (.bipush 12, 2, 0, 0, 12), none, some (.bipush 24, 2, 0, 0, 24), none, some (.multianewarray 47 2, 4, 0, 0, 0), none, none, none, some (.putfield 55, 3, 12, 30, 0)], [none, none, some (.aload_n 0, 1, 0, 0, 0), some (.bipush 12, 2, 0, 0, 12), none, some (.newarray .int, 2, 0, 0, 0), none, some (.putfield 58, 3, 12, 31, 0), none, none, some (.aload_n 0, 1, 0, 0, 0), some (.bipush 12, 2, 0, 0, 12), none, some (.newarray .int, 2, 0, 0, 0), none, some (.putfield 61, 3, 12, 32, 0)], [none, none, some (.aload_n 0, 1, 0, 0, 0), some (.bipush 12, 2, 0, 0, 12), none, some (.bipush 24, 2, 0, 0, 24), none, some (.multianewarray 47 2, 4, 0, 0, 0), none, none, none, some (.putfield 64, 3, 12, 33, 0), none, none, some (.aload_n 0, 1, 0, 0, 0), some (.bipush 12, 2, 0, 0, 12)], [none, some (.sipush 128, 3, 0, 0, 128), none, none, some (.multianewarray 47 2, 4, 0, 0, 0), none, none, none, some (.putfield 67, 3, 12, 34, 0), none, none, some (.aload_n 0, 1, 0, 0, 0), some (.sipush 128, 3, 0, 0, 128), none, none, some (.newarray .int, 2, 0, 0, 0)], [none, some (.putfield 70, 3, 12, 35, 0), none, none, some (.aload_n 0, 1, 0, 0, 0), some (.bipush 8, 2, 0, 0, 8), none, some (.newarray .int, 2, 0, 0, 0), none, some (.putfield 73, 3, 12, 36, 0), none, none, some (.aload_n 0, 1, 0, 0, 0), some (.sipush 128, 3, 0, 0, 128), none, none], [some (.newarray .boolean, 2, 2, 0, 0), none, some (.putfield 76, 3, 12, 37, 0), none, none, some (.aload_n 0, 1, 0, 0, 0), some (.sipush 128, 3, 0, 0, 128), none, none, some (.newarray .boolean, 2, 2, 0, 0), none, some (.putfield 80, 3, 12, 38, 0), none, none, some (.aload_n 0, 1, 0, 0, 0), some (.sipush 128, 3, 0, 0, 128)], [none, none, some (.newarray .int, 2, 0, 0, 0), none, some (.putfield 83, 3, 12, 39, 0), none, none, some (.aload_n 0, 1, 0, 0, 0), some (.bipush 8, 2, 0, 0, 8), none, some (.newarray .int, 2, 0, 0, 0), none, some (.putfield 86, 3, 12, 40, 0), none, none, some (.aload_n 0, 1, 0, 0, 0)], [some (.sipush 1000, 3, 0, 0, 1000), none, none, some (.putfield 89, 3, 12, 45, 0), none, none, some (.aload_n 0, 1, 0, 0, 0), some (.bipush 8, 2, 0, 0, 8), none, some (.newarray .int, 2, 0, 0, 0), none, some (.putfield 92, 3, 12, 49, 0), none, none, some (.aload_n 0, 1, 0, 0, 0), some (.bipush 8, 2, 0, 0, 8)], [none, some (.newarray .int, 2, 0, 0, 0), none, some (.putfield 95, 3, 12, 50, 0), none, none, some (.aload_n 0, 1, 0, 0, 0), some (.bipush 8, 2, 0, 0, 8), none, some (.newarray .int, 2, 0, 0, 0), none, some (.putfield 98, 3, 12, 51, 0), none, none, some (.aload_n 0, 1, 0, 0, 0), some (.bipush 6, 2, 0, 0, 6)]], [[none, some (.newarray .int, 2, 0, 0, 0), none, some (.putfield 101, 3, 12, 52, 0), none, none, some (.aload_n 0, 1, 0, 0, 0), some (.sipush 256, 3, 0, 0, 256), none, none, some (.newarray .int, 2, 0, 0, 0), none, some (.putfield 104, 3, 12, 53, 0), none, none, some (.aload_n 0, 1, 0, 0, 0)], [some (.sipush 256, 3, 0, 0, 256), none, none, some (.newarray .int, 2, 0, 0, 0), none, some (.putfield 107, 3, 12, 54, 0), none, none, some (.aload_n 0, 1, 0, 0, 0), some (.sipush 256, 3, 0, 0, 256), none, none, some (.newarray .boolean, 2, 2, 0, 0), none, some (.putfield 110, 3, 12, 55, 0), none], [none, some (.aload_n 0, 1, 0, 0, 0), some (.iconst 4, 1, 0, 0, 0), some (.sipush 128, 3, 0, 0, 128), none, none, some (.multianewarray 47 2, 4, 0, 0, 0), none, none, none, some (.putfield 113, 3, 12, 58, 0), none, none, some (.aload_n 0, 1, 0, 0, 0), some (.bipush 25, 2, 0, 0, 25), none], [some (.bipush 6, 2, 0, 0, 6), none, some (.bipush 24, 2, 0, 0, 24), none, some (.multianewarray 116 3, 4, 0, 0, 0), none, none, none, some (.putfield 118, 3, 12, 59, 0), none, none, some (.aload_n 0, 1, 0, 0, 0), some (.bipush 24, 2, 0, 0, 24), none, some (.newarray .int, 2, 0, 0, 0), none], [some (.putfield 121, 3, 12, 60, 0), none, none, some (.aload_n 0, 1, 0, 0, 0), some (.bipush 24, 2, 0, 0, 24), none, some (.newarray .int, 2, 0, 0, 0), none, some (.putfield 124, 3, 12, 61, 0), none, none, some (.aload_n 0, 1, 0, 0, 0), some (.bipush 24, 2, 0, 0, 24), none, some (.newarray .int, 2, 0, 0, 0), none], [some (.putfield 127, 3, 12, 62, 0), none, none, some (.aload_n 0, 1, 0, 0, 0), some (.bipush 8, 2, 0, 0, 8), none, some (.putfield 130, 3, 12, 63, 0), none, none, some (.aload_n 0, 1, 0, 0, 0), some (.iconst 2, 1, 0, 0, 0), some (.putfield 133, 3, 12, 64, 0), none, none, some (.aload_n 0, 1, 0, 0, 0), some (.bipush 8, 2, 0, 0, 8)], [none, some (.newarray .int, 2, 0, 0, 0), none, some (.dup, 1, 0, 0, 0), some (.iconst 0, 1, 0, 0, 0), some (.bipush 24, 2, 0, 0, 24), none, some (.iastore, 1, 0, 0, 0), some (.dup, 1, 0, 0, 0), some (.iconst 1, 1, 0, 0, 0), some (.bipush 24, 2, 0, 0, 24), none, some (.iastore, 1, 0, 0, 0), some (.dup, 1, 0, 0, 0), some (.iconst 2, 1, 0, 0, 0), some (.bipush 24, 2, 0, 0, 24)], [none, some (.iastore, 1, 0, 0, 0), some (.dup, 1, 0, 0, 0), some (.iconst 3, 1, 0, 0, 0), some (.bipush 24, 2, 0, 0, 24), none, some (.iastore, 1, 0, 0, 0), some (.dup, 1, 0, 0, 0), some (.iconst 4, 1, 0, 0, 0), some (.bipush 24, 2, 0, 0, 24), none, some (.iastore, 1, 0, 0, 0), some (.dup, 1, 0, 0, 0), some (.iconst 5, 1, 0, 0, 0), some (.bipush 24, 2, 0, 0, 24), none], [some (.iastore, 1, 0, 0, 0), some (.dup, 1, 0, 0, 0), some (.bipush 6, 2, 0, 0, 6), none, some (.bipush 24, 2, 0, 0, 24), none, some (.iastore, 1, 0, 0, 0), some (.dup, 1, 0, 0, 0), some (.bipush 7, 2, 0, 0, 7), none, some (.bipush 24, 2, 0, 0, 24), none, some (.iastore, 1, 0, 0, 0), some (.putfield 136, 3, 12, 66, 0), none, none], [some (.aload_n 0, 1, 0, 0, 0), some (.sipush 128, 3, 0, 0, 128), none, none, some (.newarray .boolean, 2, 2, 0, 0), none, some (.putfield 139, 3, 12, 67, 0), none, none, some (.aload_n 0, 1, 0, 0, 0), some (.bipush 8, 2, 0, 0, 8), none, some (.newarray .int, 2, 0, 0, 0), none, some (.putfield 142, 3, 12, 68, 0), none], [none, some (.aload_n 0, 1, 0, 0, 0), some (.bipush 12, 2, 0, 0, 12), none, some (.newarray .int, 2, 0, 0, 0), none, some (.putfield 145, 3, 12, 69, 0), none, none, some (.aload_n 0, 1, 0, 0, 0), some (.bipush 12, 2, 0, 0, 12), none, some (.newarray .int, 2, 0, 0, 0), none, some (.putfield 148, 3, 12, 70, 0), none], [none, some (.aload_n 0, 1, 0, 0, 0), some (.bipush 12, 2, 0, 0, 12), none, some (.newarray .int, 2, 0, 0, 0), none, some (.putfield 151, 3, 12, 71, 0), none, none, some (.aload_n 0, 1, 0, 0, 0), some (.sipush 128, 3, 0, 0, 128), none, none, some (.newarray .int, 2, 0, 0, 0), none, some (.putfield 154, 3, 12, 72, 0)], [none, none, some (.aload_n 0, 1, 0, 0, 0), some (.bipush 12, 2, 0, 0, 12), none, some (.bipush 24, 2, 0, 0, 24), none, some (.multianewarray 47 2, 4, 0, 0, 0), none, none, none, some (.putfield 157, 3, 12, 73, 0), none, none, some (.aload_n 0, 1, 0, 0, 0), some (.bipush 40, 2, 0, 0, 40)], [none, some (.iconst 4, 1, 0, 0, 0), some (.multianewarray 47 2, 4, 0, 0, 0), none, none, none, some (.putfield 160, 3, 12, 77, 0), none, none, some (.aload_n 0, 1, 0, 0, 0), some (.bipush 40, 2, 0, 0, 40), none, some (.newarray .int, 2, 0, 0, 0), none, some (.putfield 163, 3, 12, 78, 0), none], [none, some (.aload_n 0, 1, 0, 0, 0), some (.iconst 4, 1, 0, 0, 0), some (.newarray .int, 2, 0, 0, 0), none, some (.putfield 166, 3, 12, 79, 0), none, none, some (.aload_n 0, 1, 0, 0, 0), some (.bipush 40, 2, 0, 0, 40), none, some (.newarray .boolean, 2, 2, 0, 0), none, some (.putfield 169, 3, 12, 80, 0), none, none], [some (.iconst 0, 1, 0, 0, 0), some (.istore_n 1, 1, 0, 0, 0), some (.iload_n 1, 1, 0, 0, 0), some (.bipush 8, 2, 0, 0, 8), none, some (.if_icmp .ge 17, 3, 3, 0, 0), none, none, some (.aload_n 0, 1, 0, 0, 0), some (.getfield 73, 3, 12, 36, 0), none, none, some (.iload_n 1, 1, 0, 0, 0), some (.bipush 40, 2, 0, 0, 40), none, some (.iastore, 1, 0, 0, 0)]], [[some (.iinc 1 1, 3, 0, 0, 0), none, none, some (.goto (-17), 3, 0, 0, 0), none, none, some (.return_, 1, 0, 0, 0)]]]
def cd_X12_thrown : List (List (List (Option ARow))) := [[[some (.aload_n 0, 1, 0, 0, 0), some (.getfield 172, 3, 12, 0, 0), none, none, some (.ireturn, 1, 0, 0, 0)]]]
def cd_X12_bad : List (List (List (Option ARow))) := [[[some (.iload_n 1, 1, 0, 0, 0), some (.ifCond .eq 15, 3, 0, 0, 0), none, none, some (.aload_n 0, 1, 0, 0, 0), some (.getfield 172, 3, 12, 0, 0), none, none, some (.ifCond .ne 8, 3, 1, 0, 0), none, none, some (.aload_n 0, 1, 0, 0, 0), some (.iload_n 2, 1, 0, 0, 0), some (.putfield 172, 3, 12, 0, 0), none, none], [some (.aload_n 0, 1, 0, 0, 0), some (.getfield 172, 3, 12, 0, 0), none, none, some (.ifCond .eq 7, 3, 0, 0, 0), none, none, some (.iconst 1, 1, 0, 0, 0), some (.goto 4, 3, 0, 0, 0), none, none, some (.iconst 0, 1, 0, 0, 0), some (.ireturn, 1, 0, 0, 0)]]]
def cd_X12_in : List (List (List (Option ARow))) := [[[some (.iload_n 0, 1, 0, 0, 0), some (.iload_n 1, 1, 0, 0, 0), some (.if_icmp .lt 12, 3, 2, 0, 0), none, none, some (.iload_n 0, 1, 0, 0, 0), some (.iload_n 2, 1, 0, 0, 0), some (.if_icmp .gt 7, 3, 4, 0, 0), none, none, some (.iconst 1, 1, 0, 0, 0), some (.goto 4, 3, 0, 0, 0), none, none, some (.iconst 0, 1, 0, 0, 0), some (.ireturn, 1, 0, 0, 0)]]]
def cd_X12_amount : List (List (List (Option ARow))) := [[[some (.iload_n 0, 1, 0, 0, 0), some (.ifCond .ge 8, 3, 3, 0, 0), none, none, some (.iload_n 0, 1, 0, 0, 0), some (.ineg, 1, 0, 0, 0), some (.goto 4, 3, 0, 0, 0), none, none, some (.iload_n 0, 1, 0, 0, 0), some (.ireturn, 1, 0, 0, 0)]]]
def cd_X12_beside : List (List (List (Option ARow))) := [[[some (.iload_n 0, 1, 0, 0, 0), some (.bipush 8, 2, 0, 0, 8), none, some (.irem, 1, 0, 0, 0), some (.istore_n 2, 1, 0, 0, 0), some (.iload_n 0, 1, 0, 0, 0), some (.bipush 8, 2, 0, 0, 8), none, some (.idiv, 1, 0, 0, 0), some (.bipush 8, 2, 0, 0, 8), none, some (.irem, 1, 0, 0, 0), some (.istore_n 3, 1, 0, 0, 0), some (.iload_n 0, 1, 0, 0, 0), some (.bipush 64, 2, 0, 0, 64), none], [some (.idiv, 1, 0, 0, 0), some (.istore 4, 2, 0, 0, 0), none, some (.iload_n 1, 1, 0, 0, 0), some (.tableswitch 105 0 4 #[36, 50, 62, 77, 90], 36, 0, 0, 0), none, none, none, none, none, none, none, none, none, none, none], [none, none, none, none, none, none, none, none, none, none, none, none, none, none, none, none], [none, none, none, none, none, none, none, none, some (.iload_n 2, 1, 0, 0, 0), some (.bipush 7, 2, 0, 0, 7), none, some (.if_icmp .ne 7, 3, 1, 0, 0), none, none, some (.iconst (-1), 1, 0, 0, 0), some (.goto 6, 3, 0, 0, 0)], [none, none, some (.iload_n 0, 1, 0, 0, 0), some (.iconst 1, 1, 0, 0, 0), some (.iadd, 1, 0, 0, 0), some (.ireturn, 1, 0, 0, 0), some (.iload_n 2, 1, 0, 0, 0), some (.ifCond .ne 7, 3, 1, 0, 0), none, none, some (.iconst (-1), 1, 0, 0, 0), some (.goto 6, 3, 0, 0, 0), none, none, some (.iload_n 0, 1, 0, 0, 0), some (.iconst 1, 1, 0, 0, 0)], [some (.isub, 1, 0, 0, 0), some (.ireturn, 1, 0, 0, 0), some (.iload_n 3, 1, 0, 0, 0), some (.bipush 7, 2, 0, 0, 7), none, some (.if_icmp .ne 7, 3, 1, 0, 0), none, none, some (.iconst (-1), 1, 0, 0, 0), some (.goto 7, 3, 0, 0, 0), none, none, some (.iload_n 0, 1, 0, 0, 0), some (.bipush 8, 2, 0, 0, 8), none, some (.iadd, 1, 0, 0, 0)], [some (.ireturn, 1, 0, 0, 0), some (.iload_n 3, 1, 0, 0, 0), some (.ifCond .ne 7, 3, 1, 0, 0), none, none, some (.iconst (-1), 1, 0, 0, 0), some (.goto 7, 3, 0, 0, 0), none, none, some (.iload_n 0, 1, 0, 0, 0), some (.bipush 8, 2, 0, 0, 8), none, some (.isub, 1, 0, 0, 0), some (.ireturn, 1, 0, 0, 0), some (.iload 4, 2, 0, 0, 0), none], [some (.iconst 1, 1, 0, 0, 0), some (.if_icmp .ne 7, 3, 1, 0, 0), none, none, some (.iconst (-1), 1, 0, 0, 0), some (.goto 7, 3, 0, 0, 0), none, none, some (.iload_n 0, 1, 0, 0, 0), some (.bipush 64, 2, 0, 0, 64), none, some (.iadd, 1, 0, 0, 0), some (.ireturn, 1, 0, 0, 0), some (.iload 4, 2, 0, 0, 0), none, some (.ifCond .ne 7, 3, 1, 0, 0)], [none, none, some (.iconst (-1), 1, 0, 0, 0), some (.goto 7, 3, 0, 0, 0), none, none, some (.iload_n 0, 1, 0, 0, 0), some (.bipush 64, 2, 0, 0, 64), none, some (.isub, 1, 0, 0, 0), some (.ireturn, 1, 0, 0, 0)]]]
def cd_X12_feed : List (List (List (Option ARow))) := [[[some (.aload_n 0, 1, 0, 0, 0), some (.iconst 0, 1, 0, 0, 0), some (.putfield 172, 3, 12, 0, 0), none, none, some (.aload_n 0, 1, 0, 0, 0), some (.getfield 175, 3, 12, 1, 0), none, none, some (.bipush 20, 2, 0, 0, 20), none, some (.iadd, 1, 0, 0, 0), some (.sipush 200, 3, 0, 0, 200), none, none, some (.if_icmp .le 5, 3, 5, 0, 0)], [none, none, some (.iconst (-1), 1, 0, 0, 0), some (.ireturn, 1, 0, 0, 0), some (.iconst 0, 1, 0, 0, 0), some (.istore 6, 2, 0, 0, 0), none, some (.iload 6, 2, 0, 0, 0), none, some (.bipush 20, 2, 0, 0, 20), none, some (.if_icmp .ge 93, 3, 3, 0, 0), none, none, some (.iload 6, 2, 0, 0, 0), none], [some (.iconst 4, 1, 0, 0, 0), some (.if_icmp .ge 7, 3, 3, 0, 0), none, none, some (.iload_n 1, 1, 0, 0, 0), some (.goto 39, 3, 0, 0, 0), none, none, some (.iload 6, 2, 0, 0, 0), none, some (.bipush 8, 2, 0, 0, 8), none, some (.if_icmp .ge 7, 3, 3, 0, 0), none, none, some (.iload_n 2, 1, 0, 0, 0)], [some (.goto 28, 3, 0, 0, 0), none, none, some (.iload 6, 2, 0, 0, 0), none, some (.bipush 12, 2, 0, 0, 12), none, some (.if_icmp .ge 7, 3, 3, 0, 0), none, none, some (.iload_n 3, 1, 0, 0, 0), some (.goto 17, 3, 0, 0, 0), none, none, some (.iload 6, 2, 0, 0, 0), none], [some (.bipush 16, 2, 0, 0, 16), none, some (.if_icmp .ge 8, 3, 3, 0, 0), none, none, some (.iload 4, 2, 0, 0, 0), none, some (.goto 5, 3, 0, 0, 0), none, none, some (.iload 5, 2, 0, 0, 0), none, some (.istore 7, 2, 0, 0, 0), none, some (.aload_n 0, 1, 0, 0, 0), some (.getfield 13, 3, 12, 9, 0)], [none, none, some (.aload_n 0, 1, 0, 0, 0), some (.getfield 175, 3, 12, 1, 0), none, none, some (.iload 7, 2, 0, 0, 0), none, some (.bipush 24, 2, 0, 0, 24), none, some (.bipush 8, 2, 0, 0, 8), none, some (.iload 6, 2, 0, 0, 0), none, some (.iconst 4, 1, 0, 0, 0), some (.irem, 1, 0, 0, 0)], [some (.imul, 1, 0, 0, 0), some (.isub, 1, 0, 0, 0), some (.ishr, 1, 0, 0, 0), some (.sipush 255, 3, 0, 0, 255), none, none, some (.iand, 1, 0, 0, 0), some (.iastore, 1, 0, 0, 0), some (.aload_n 0, 1, 0, 0, 0), some (.dup, 1, 0, 0, 0), some (.getfield 175, 3, 12, 1, 0), none, none, some (.iconst 1, 1, 0, 0, 0), some (.iadd, 1, 0, 0, 0), some (.putfield 175, 3, 12, 1, 0)], [none, none, some (.iinc 6 1, 3, 0, 0, 0), none, none, some (.goto (-94), 3, 0, 0, 0), none, none, some (.aload_n 0, 1, 0, 0, 0), some (.getfield 175, 3, 12, 1, 0), none, none, some (.ireturn, 1, 0, 0, 0)]]]
def cd_X12_byteAt : List (List (List (Option ARow))) := [[[some (.iload_n 1, 1, 0, 0, 0), some (.aload_n 0, 1, 0, 0, 0), some (.getfield 178, 3, 12, 2, 0), none, none, some (.if_icmp .lt 7, 3, 2, 0, 0), none, none, some (.iconst (-1), 1, 0, 0, 0), some (.goto 25, 3, 0, 0, 0), none, none, some (.aload_n 0, 1, 0, 0, 0), some (.getfield 181, 3, 12, 8, 0), none, none], [some (.ifCond .ne 12, 3, 1, 0, 0), none, none, some (.aload_n 0, 1, 0, 0, 0), some (.getfield 13, 3, 12, 9, 0), none, none, some (.iload_n 1, 1, 0, 0, 0), some (.iaload, 1, 0, 0, 0), some (.goto 9, 3, 0, 0, 0), none, none, some (.aload_n 0, 1, 0, 0, 0), some (.getfield 17, 3, 12, 10, 0), none, none], [some (.iload_n 1, 1, 0, 0, 0), some (.iaload, 1, 0, 0, 0), some (.ireturn, 1, 0, 0, 0)]]]
def cd_X12_blanks : List (List (List (Option ARow))) := [[[some (.aload_n 0, 1, 0, 0, 0), some (.aload_n 0, 1, 0, 0, 0), some (.getfield 184, 3, 12, 4, 0), none, none, some (.invokevirtual 187, 3, 192, 0, 0), none, none, some (.bipush 32, 2, 0, 0, 32), none, some (.if_icmp .ne 16, 3, 1, 0, 0), none, none, some (.aload_n 0, 1, 0, 0, 0), some (.dup, 1, 0, 0, 0), some (.getfield 184, 3, 12, 4, 0)], [none, none, some (.iconst 1, 1, 0, 0, 0), some (.iadd, 1, 0, 0, 0), some (.putfield 184, 3, 12, 4, 0), none, none, some (.goto (-23), 3, 0, 0, 0), none, none, some (.return_, 1, 0, 0, 0)]]]
def cd_X12_wrong : List (List (List (Option ARow))) := [[[some (.aload_n 0, 1, 0, 0, 0), some (.getfield 191, 3, 12, 6, 0), none, none, some (.ifCond .ne 13, 3, 1, 0, 0), none, none, some (.aload_n 0, 1, 0, 0, 0), some (.iload_n 1, 1, 0, 0, 0), some (.putfield 191, 3, 12, 6, 0), none, none, some (.aload_n 0, 1, 0, 0, 0), some (.iload_n 2, 1, 0, 0, 0), some (.putfield 194, 3, 12, 7, 0), none], [none, some (.return_, 1, 0, 0, 0)]]]
def cd_X12_isDigit : List (List (List (Option ARow))) := [[[some (.iload_n 0, 1, 0, 0, 0), some (.bipush 48, 2, 0, 0, 48), none, some (.if_icmp .lt 13, 3, 2, 0, 0), none, none, some (.iload_n 0, 1, 0, 0, 0), some (.bipush 57, 2, 0, 0, 57), none, some (.if_icmp .gt 7, 3, 4, 0, 0), none, none, some (.iconst 1, 1, 0, 0, 0), some (.goto 4, 3, 0, 0, 0), none, none], [some (.iconst 0, 1, 0, 0, 0), some (.ireturn, 1, 0, 0, 0)]]]
def cd_X12_number : List (List (List (Option ARow))) := [[[some (.aload_n 0, 1, 0, 0, 0), some (.invokevirtual 197, 3, 193, 0, 0), none, none, some (.aload_n 0, 1, 0, 0, 0), some (.getfield 184, 3, 12, 4, 0), none, none, some (.istore_n 3, 1, 0, 0, 0), some (.iconst 0, 1, 0, 0, 0), some (.istore 4, 2, 0, 0, 0), none, some (.aload_n 0, 1, 0, 0, 0), some (.aload_n 0, 1, 0, 0, 0), some (.getfield 184, 3, 12, 4, 0), none], [none, some (.invokevirtual 187, 3, 192, 0, 0), none, none, some (.invokestatic 200, 3, 195, 1, 0), none, none, some (.ifCond .ne 12, 3, 1, 0, 0), none, none, some (.aload_n 0, 1, 0, 0, 0), some (.iconst 1, 1, 0, 0, 0), some (.aload_n 0, 1, 0, 0, 0), some (.getfield 184, 3, 12, 4, 0), none, none], [some (.invokevirtual 204, 3, 194, 0, 0), none, none, some (.aload_n 0, 1, 0, 0, 0), some (.aload_n 0, 1, 0, 0, 0), some (.getfield 184, 3, 12, 4, 0), none, none, some (.invokevirtual 187, 3, 192, 0, 0), none, none, some (.invokestatic 200, 3, 195, 1, 0), none, none, some (.ifCond .eq 51, 3, 0, 0, 0), none], [none, some (.bipush 10, 2, 0, 0, 10), none, some (.iload 4, 2, 0, 0, 0), none, some (.imul, 1, 0, 0, 0), some (.aload_n 0, 1, 0, 0, 0), some (.aload_n 0, 1, 0, 0, 0), some (.getfield 184, 3, 12, 4, 0), none, none, some (.invokevirtual 187, 3, 192, 0, 0), none, none, some (.iadd, 1, 0, 0, 0), some (.bipush 48, 2, 0, 0, 48)], [none, some (.isub, 1, 0, 0, 0), some (.istore 4, 2, 0, 0, 0), none, some (.iload 4, 2, 0, 0, 0), none, some (.ldc 208, 2, 0, 0, 100000), none, some (.if_icmp .le 8, 3, 5, 0, 0), none, none, some (.ldc 208, 2, 0, 0, 100000), none, some (.goto 5, 3, 0, 0, 0), none, none], [some (.iload 4, 2, 0, 0, 0), none, some (.istore 4, 2, 0, 0, 0), none, some (.aload_n 0, 1, 0, 0, 0), some (.dup, 1, 0, 0, 0), some (.getfield 184, 3, 12, 4, 0), none, none, some (.iconst 1, 1, 0, 0, 0), some (.iadd, 1, 0, 0, 0), some (.putfield 184, 3, 12, 4, 0), none, none, some (.goto (-59), 3, 0, 0, 0), none], [none, some (.iload 4, 2, 0, 0, 0), none, some (.iload_n 1, 1, 0, 0, 0), some (.iload_n 2, 1, 0, 0, 0), some (.invokestatic 209, 3, 188, 1, 0), none, none, some (.ifCond .ne 9, 3, 1, 0, 0), none, none, some (.aload_n 0, 1, 0, 0, 0), some (.iconst 2, 1, 0, 0, 0), some (.iload_n 3, 1, 0, 0, 0), some (.invokevirtual 204, 3, 194, 0, 0), none], [none, some (.iload 4, 2, 0, 0, 0), none, some (.ireturn, 1, 0, 0, 0)]]]
def cd_X12_beginText : List (List (List (Option ARow))) := [[[some (.aload_n 0, 1, 0, 0, 0), some (.iconst 0, 1, 0, 0, 0), some (.putfield 181, 3, 12, 8, 0), none, none, some (.aload_n 0, 1, 0, 0, 0), some (.iload_n 1, 1, 0, 0, 0), some (.putfield 178, 3, 12, 2, 0), none, none, some (.aload_n 0, 1, 0, 0, 0), some (.iconst 0, 1, 0, 0, 0), some (.putfield 184, 3, 12, 4, 0), none, none, some (.aload_n 0, 1, 0, 0, 0)], [some (.iconst 0, 1, 0, 0, 0), some (.putfield 213, 3, 12, 5, 0), none, none, some (.aload_n 0, 1, 0, 0, 0), some (.iconst 0, 1, 0, 0, 0), some (.putfield 191, 3, 12, 6, 0), none, none, some (.aload_n 0, 1, 0, 0, 0), some (.iconst (-1), 1, 0, 0, 0), some (.putfield 194, 3, 12, 7, 0), none, none, some (.return_, 1, 0, 0, 0)]]]
def cd_X12_isTold : List (List (List (Option ARow))) := [[[some (.iconst 0, 1, 0, 0, 0), some (.istore_n 2, 1, 0, 0, 0), some (.iload_n 2, 1, 0, 0, 0), some (.aload_n 0, 1, 0, 0, 0), some (.getfield 216, 3, 12, 27, 0), none, none, some (.if_icmp .ge 21, 3, 3, 0, 0), none, none, some (.aload_n 0, 1, 0, 0, 0), some (.getfield 44, 3, 12, 26, 0), none, none, some (.iload_n 2, 1, 0, 0, 0), some (.iaload, 1, 0, 0, 0)], [some (.iload_n 1, 1, 0, 0, 0), some (.if_icmp .ne 5, 3, 1, 0, 0), none, none, some (.iconst 1, 1, 0, 0, 0), some (.ireturn, 1, 0, 0, 0), some (.iinc 2 1, 3, 0, 0, 0), none, none, some (.goto (-23), 3, 0, 0, 0), none, none, some (.iconst 0, 1, 0, 0, 0), some (.ireturn, 1, 0, 0, 0)]]]
def cd_X12_move : List (List (List (Option ARow))) := [[[some (.aload_n 0, 1, 0, 0, 0), some (.getfield 184, 3, 12, 4, 0), none, none, some (.istore_n 1, 1, 0, 0, 0), some (.aload_n 0, 1, 0, 0, 0), some (.aload_n 0, 1, 0, 0, 0), some (.getfield 184, 3, 12, 4, 0), none, none, some (.invokevirtual 187, 3, 192, 0, 0), none, none, some (.istore_n 2, 1, 0, 0, 0), some (.iload_n 2, 1, 0, 0, 0), some (.bipush 114, 2, 0, 0, 114)], [none, some (.if_icmp .ne 7, 3, 1, 0, 0), none, none, some (.iconst 0, 1, 0, 0, 0), some (.goto 54, 3, 0, 0, 0), none, none, some (.iload_n 2, 1, 0, 0, 0), some (.bipush 108, 2, 0, 0, 108), none, some (.if_icmp .ne 7, 3, 1, 0, 0), none, none, some (.iconst 1, 1, 0, 0, 0), some (.goto 44, 3, 0, 0, 0)], [none, none, some (.iload_n 2, 1, 0, 0, 0), some (.bipush 100, 2, 0, 0, 100), none, some (.if_icmp .ne 7, 3, 1, 0, 0), none, none, some (.iconst 2, 1, 0, 0, 0), some (.goto 34, 3, 0, 0, 0), none, none, some (.iload_n 2, 1, 0, 0, 0), some (.bipush 117, 2, 0, 0, 117), none, some (.if_icmp .ne 7, 3, 1, 0, 0)], [none, none, some (.iconst 3, 1, 0, 0, 0), some (.goto 24, 3, 0, 0, 0), none, none, some (.iload_n 2, 1, 0, 0, 0), some (.bipush 99, 2, 0, 0, 99), none, some (.if_icmp .ne 7, 3, 1, 0, 0), none, none, some (.iconst 4, 1, 0, 0, 0), some (.goto 14, 3, 0, 0, 0), none, none], [some (.iload_n 2, 1, 0, 0, 0), some (.bipush 115, 2, 0, 0, 115), none, some (.if_icmp .ne 7, 3, 1, 0, 0), none, none, some (.iconst 5, 1, 0, 0, 0), some (.goto 4, 3, 0, 0, 0), none, none, some (.iconst (-1), 1, 0, 0, 0), some (.istore_n 3, 1, 0, 0, 0), some (.iload_n 3, 1, 0, 0, 0), some (.iconst (-1), 1, 0, 0, 0), some (.if_icmp .ne 13, 3, 1, 0, 0), none], [none, some (.aload_n 0, 1, 0, 0, 0), some (.iconst 1, 1, 0, 0, 0), some (.aload_n 0, 1, 0, 0, 0), some (.getfield 184, 3, 12, 4, 0), none, none, some (.invokevirtual 204, 3, 194, 0, 0), none, none, some (.return_, 1, 0, 0, 0), some (.aload_n 0, 1, 0, 0, 0), some (.dup, 1, 0, 0, 0), some (.getfield 184, 3, 12, 4, 0), none, none], [some (.iconst 1, 1, 0, 0, 0), some (.iadd, 1, 0, 0, 0), some (.putfield 184, 3, 12, 4, 0), none, none, some (.aload_n 0, 1, 0, 0, 0), some (.invokevirtual 197, 3, 193, 0, 0), none, none, some (.iload_n 3, 1, 0, 0, 0), some (.iconst 4, 1, 0, 0, 0), some (.if_icmp .ge 27, 3, 3, 0, 0), none, none, some (.aload_n 0, 1, 0, 0, 0), some (.aload_n 0, 1, 0, 0, 0)], [some (.getfield 184, 3, 12, 4, 0), none, none, some (.invokevirtual 187, 3, 192, 0, 0), none, none, some (.invokestatic 200, 3, 195, 1, 0), none, none, some (.ifCond .eq 13, 3, 0, 0, 0), none, none, some (.aload_n 0, 1, 0, 0, 0), some (.iconst 1, 1, 0, 0, 0), some (.bipush 7, 2, 0, 0, 7), none], [some (.invokevirtual 219, 3, 196, 0, 0), none, none, some (.goto 4, 3, 0, 0, 0), none, none, some (.iconst 1, 1, 0, 0, 0), some (.istore 4, 2, 0, 0, 0), none, some (.iconst 0, 1, 0, 0, 0), some (.istore 5, 2, 0, 0, 0), none, some (.iload 5, 2, 0, 0, 0), none, some (.iload 4, 2, 0, 0, 0), none], [some (.if_icmp .ge 101, 3, 3, 0, 0), none, none, some (.aload_n 0, 1, 0, 0, 0), some (.getfield 191, 3, 12, 6, 0), none, none, some (.ifCond .ne 94, 3, 1, 0, 0), none, none, some (.aload_n 0, 1, 0, 0, 0), some (.getfield 44, 3, 12, 26, 0), none, none, some (.aload_n 0, 1, 0, 0, 0), some (.getfield 216, 3, 12, 27, 0)], [none, none, some (.iconst 1, 1, 0, 0, 0), some (.isub, 1, 0, 0, 0), some (.iaload, 1, 0, 0, 0), some (.iload_n 3, 1, 0, 0, 0), some (.invokestatic 223, 3, 190, 1, 0), none, none, some (.istore 6, 2, 0, 0, 0), none, some (.iload 6, 2, 0, 0, 0), none, some (.iconst (-1), 1, 0, 0, 0), some (.if_icmp .ne 12, 3, 1, 0, 0), none], [none, some (.aload_n 0, 1, 0, 0, 0), some (.iconst 3, 1, 0, 0, 0), some (.iload_n 1, 1, 0, 0, 0), some (.invokevirtual 204, 3, 194, 0, 0), none, none, some (.goto 27, 3, 0, 0, 0), none, none, some (.aload_n 0, 1, 0, 0, 0), some (.getfield 216, 3, 12, 27, 0), none, none, some (.bipush 24, 2, 0, 0, 24), none], [some (.if_icmp .eq 12, 3, 0, 0, 0), none, none, some (.aload_n 0, 1, 0, 0, 0), some (.iload 6, 2, 0, 0, 0), none, some (.invokevirtual 226, 3, 198, 0, 0), none, none, some (.ifCond .eq 9, 3, 0, 0, 0), none, none, some (.aload_n 0, 1, 0, 0, 0), some (.iconst 4, 1, 0, 0, 0), some (.iload_n 1, 1, 0, 0, 0), some (.invokevirtual 204, 3, 194, 0, 0)], [none, none, some (.aload_n 0, 1, 0, 0, 0), some (.getfield 191, 3, 12, 6, 0), none, none, some (.ifCond .eq 4, 3, 0, 0, 0), none, none, some (.return_, 1, 0, 0, 0), some (.aload_n 0, 1, 0, 0, 0), some (.getfield 44, 3, 12, 26, 0), none, none, some (.aload_n 0, 1, 0, 0, 0), some (.getfield 216, 3, 12, 27, 0)], [none, none, some (.iload 6, 2, 0, 0, 0), none, some (.iastore, 1, 0, 0, 0), some (.aload_n 0, 1, 0, 0, 0), some (.dup, 1, 0, 0, 0), some (.getfield 216, 3, 12, 27, 0), none, none, some (.iconst 1, 1, 0, 0, 0), some (.iadd, 1, 0, 0, 0), some (.putfield 216, 3, 12, 27, 0), none, none, some (.iinc 5 1, 3, 0, 0, 0)], [none, none, some (.goto (-102), 3, 0, 0, 0), none, none, some (.return_, 1, 0, 0, 0)]]]
def cd_X12_stream : List (List (List (Option ARow))) := [[[some (.aload_n 0, 1, 0, 0, 0), some (.iconst 0, 1, 0, 0, 0), some (.putfield 172, 3, 12, 0, 0), none, none, some (.aload_n 0, 1, 0, 0, 0), some (.iload_n 1, 1, 0, 0, 0), some (.iconst 0, 1, 0, 0, 0), some (.aload_n 0, 1, 0, 0, 0), some (.getfield 175, 3, 12, 1, 0), none, none, some (.bipush 100, 2, 0, 0, 100), none, some (.if_icmp .ge 10, 3, 3, 0, 0), none], [none, some (.aload_n 0, 1, 0, 0, 0), some (.getfield 175, 3, 12, 1, 0), none, none, some (.goto 5, 3, 0, 0, 0), none, none, some (.bipush 100, 2, 0, 0, 100), none, some (.invokestatic 209, 3, 188, 1, 0), none, none, some (.ifCond .ne 7, 3, 1, 0, 0), none, none], [some (.iconst 1, 1, 0, 0, 0), some (.goto 4, 3, 0, 0, 0), none, none, some (.iconst 0, 1, 0, 0, 0), some (.iconst 1, 1, 0, 0, 0), some (.invokevirtual 229, 3, 187, 0, 0), none, none, some (.ifCond .eq 5, 3, 0, 0, 0), none, none, some (.iconst 0, 1, 0, 0, 0), some (.ireturn, 1, 0, 0, 0), some (.aload_n 0, 1, 0, 0, 0), some (.iconst 0, 1, 0, 0, 0)], [some (.putfield 175, 3, 12, 1, 0), none, none, some (.aload_n 0, 1, 0, 0, 0), some (.iconst (-1), 1, 0, 0, 0), some (.putfield 9, 3, 12, 3, 0), none, none, some (.aload_n 0, 1, 0, 0, 0), some (.getfield 233, 3, 12, 22, 0), none, none, some (.bipush 12, 2, 0, 0, 12), none, some (.if_icmp .ne 5, 3, 1, 0, 0), none], [none, some (.iconst (-1), 1, 0, 0, 0), some (.ireturn, 1, 0, 0, 0), some (.aload_n 0, 1, 0, 0, 0), some (.iload_n 1, 1, 0, 0, 0), some (.invokevirtual 236, 3, 197, 0, 0), none, none, some (.aload_n 0, 1, 0, 0, 0), some (.iconst 1, 1, 0, 0, 0), some (.putfield 216, 3, 12, 27, 0), none, none, some (.aload_n 0, 1, 0, 0, 0), some (.getfield 44, 3, 12, 26, 0), none], [none, some (.iconst 0, 1, 0, 0, 0), some (.aload_n 0, 1, 0, 0, 0), some (.iconst 0, 1, 0, 0, 0), some (.bipush 127, 2, 0, 0, 127), none, some (.invokevirtual 219, 3, 196, 0, 0), none, none, some (.iastore, 1, 0, 0, 0), some (.aload_n 0, 1, 0, 0, 0), some (.invokevirtual 197, 3, 193, 0, 0), none, none, some (.aload_n 0, 1, 0, 0, 0), some (.getfield 191, 3, 12, 6, 0)], [none, none, some (.ifCond .ne 25, 3, 1, 0, 0), none, none, some (.aload_n 0, 1, 0, 0, 0), some (.getfield 184, 3, 12, 4, 0), none, none, some (.aload_n 0, 1, 0, 0, 0), some (.getfield 178, 3, 12, 2, 0), none, none, some (.if_icmp .ge 14, 3, 3, 0, 0), none, none], [some (.aload_n 0, 1, 0, 0, 0), some (.invokevirtual 240, 3, 199, 0, 0), none, none, some (.aload_n 0, 1, 0, 0, 0), some (.invokevirtual 197, 3, 193, 0, 0), none, none, some (.goto (-26), 3, 0, 0, 0), none, none, some (.aload_n 0, 1, 0, 0, 0), some (.aload_n 0, 1, 0, 0, 0), some (.getfield 194, 3, 12, 7, 0), none, none], [some (.putfield 9, 3, 12, 3, 0), none, none, some (.aload_n 0, 1, 0, 0, 0), some (.getfield 191, 3, 12, 6, 0), none, none, some (.ifCond .eq 11, 3, 0, 0, 0), none, none, some (.aload_n 0, 1, 0, 0, 0), some (.getfield 191, 3, 12, 6, 0), none, none, some (.bipush 10, 2, 0, 0, 10), none], [some (.isub, 1, 0, 0, 0), some (.ireturn, 1, 0, 0, 0), some (.aload_n 0, 1, 0, 0, 0), some (.getfield 35, 3, 12, 23, 0), none, none, some (.aload_n 0, 1, 0, 0, 0), some (.getfield 233, 3, 12, 22, 0), none, none, some (.aload_n 0, 1, 0, 0, 0), some (.getfield 216, 3, 12, 27, 0), none, none, some (.iastore, 1, 0, 0, 0), some (.iconst 0, 1, 0, 0, 0)], [some (.istore_n 2, 1, 0, 0, 0), some (.iload_n 2, 1, 0, 0, 0), some (.sipush 128, 3, 0, 0, 128), none, none, some (.if_icmp .ge 21, 3, 3, 0, 0), none, none, some (.aload_n 0, 1, 0, 0, 0), some (.getfield 52, 3, 12, 29, 0), none, none, some (.aload_n 0, 1, 0, 0, 0), some (.getfield 233, 3, 12, 22, 0), none, none], [some (.aaload, 1, 0, 0, 0), some (.iload_n 2, 1, 0, 0, 0), some (.iconst (-1), 1, 0, 0, 0), some (.iastore, 1, 0, 0, 0), some (.iinc 2 1, 3, 0, 0, 0), none, none, some (.goto (-22), 3, 0, 0, 0), none, none, some (.iconst 0, 1, 0, 0, 0), some (.istore_n 2, 1, 0, 0, 0), some (.iload_n 2, 1, 0, 0, 0), some (.aload_n 0, 1, 0, 0, 0), some (.getfield 216, 3, 12, 27, 0), none], [none, some (.if_icmp .ge 43, 3, 3, 0, 0), none, none, some (.aload_n 0, 1, 0, 0, 0), some (.getfield 49, 3, 12, 28, 0), none, none, some (.aload_n 0, 1, 0, 0, 0), some (.getfield 233, 3, 12, 22, 0), none, none, some (.aaload, 1, 0, 0, 0), some (.iload_n 2, 1, 0, 0, 0), some (.aload_n 0, 1, 0, 0, 0), some (.getfield 44, 3, 12, 26, 0)], [none, none, some (.iload_n 2, 1, 0, 0, 0), some (.iaload, 1, 0, 0, 0), some (.iastore, 1, 0, 0, 0), some (.aload_n 0, 1, 0, 0, 0), some (.getfield 52, 3, 12, 29, 0), none, none, some (.aload_n 0, 1, 0, 0, 0), some (.getfield 233, 3, 12, 22, 0), none, none, some (.aaload, 1, 0, 0, 0), some (.aload_n 0, 1, 0, 0, 0), some (.getfield 44, 3, 12, 26, 0)], [none, none, some (.iload_n 2, 1, 0, 0, 0), some (.iaload, 1, 0, 0, 0), some (.iload_n 2, 1, 0, 0, 0), some (.iastore, 1, 0, 0, 0), some (.iinc 2 1, 3, 0, 0, 0), none, none, some (.goto (-45), 3, 0, 0, 0), none, none, some (.aload_n 0, 1, 0, 0, 0), some (.dup, 1, 0, 0, 0), some (.getfield 233, 3, 12, 22, 0), none], [none, some (.iconst 1, 1, 0, 0, 0), some (.iadd, 1, 0, 0, 0), some (.putfield 233, 3, 12, 22, 0), none, none, some (.aload_n 0, 1, 0, 0, 0), some (.getfield 233, 3, 12, 22, 0), none, none, some (.iconst 1, 1, 0, 0, 0), some (.isub, 1, 0, 0, 0), some (.ireturn, 1, 0, 0, 0)]]]
def cd_X12_wordHere : List (List (List (Option ARow))) := [[[some (.aload_n 0, 1, 0, 0, 0), some (.invokevirtual 197, 3, 193, 0, 0), none, none, some (.iconst 0, 1, 0, 0, 0), some (.istore_n 1, 1, 0, 0, 0), some (.iconst 0, 1, 0, 0, 0), some (.istore_n 2, 1, 0, 0, 0), some (.aload_n 0, 1, 0, 0, 0), some (.aload_n 0, 1, 0, 0, 0), some (.getfield 184, 3, 12, 4, 0), none, none, some (.iload_n 2, 1, 0, 0, 0), some (.iadd, 1, 0, 0, 0), some (.invokevirtual 187, 3, 192, 0, 0)], [none, none, some (.bipush 97, 2, 0, 0, 97), none, some (.if_icmp .lt 55, 3, 2, 0, 0), none, none, some (.aload_n 0, 1, 0, 0, 0), some (.aload_n 0, 1, 0, 0, 0), some (.getfield 184, 3, 12, 4, 0), none, none, some (.iload_n 2, 1, 0, 0, 0), some (.iadd, 1, 0, 0, 0), some (.invokevirtual 187, 3, 192, 0, 0), none], [none, some (.bipush 122, 2, 0, 0, 122), none, some (.if_icmp .gt 40, 3, 4, 0, 0), none, none, some (.iload_n 2, 1, 0, 0, 0), some (.bipush 6, 2, 0, 0, 6), none, some (.if_icmp .ge 26, 3, 3, 0, 0), none, none, some (.bipush 27, 2, 0, 0, 27), none, some (.iload_n 1, 1, 0, 0, 0), some (.imul, 1, 0, 0, 0)], [some (.aload_n 0, 1, 0, 0, 0), some (.aload_n 0, 1, 0, 0, 0), some (.getfield 184, 3, 12, 4, 0), none, none, some (.iload_n 2, 1, 0, 0, 0), some (.iadd, 1, 0, 0, 0), some (.invokevirtual 187, 3, 192, 0, 0), none, none, some (.iadd, 1, 0, 0, 0), some (.bipush 97, 2, 0, 0, 97), none, some (.isub, 1, 0, 0, 0), some (.iconst 1, 1, 0, 0, 0), some (.iadd, 1, 0, 0, 0)], [some (.goto 4, 3, 0, 0, 0), none, none, some (.iload_n 1, 1, 0, 0, 0), some (.istore_n 1, 1, 0, 0, 0), some (.iinc 2 1, 3, 0, 0, 0), none, none, some (.goto (-64), 3, 0, 0, 0), none, none, some (.iload_n 2, 1, 0, 0, 0), some (.bipush 6, 2, 0, 0, 6), none, some (.if_icmp .le 7, 3, 5, 0, 0), none], [none, some (.iconst (-1), 1, 0, 0, 0), some (.goto 4, 3, 0, 0, 0), none, none, some (.iload_n 1, 1, 0, 0, 0), some (.ireturn, 1, 0, 0, 0)]]]
def cd_X12_word : List (List (List (Option ARow))) := [[[some (.bipush 27, 2, 0, 0, 27), none, some (.iload_n 0, 1, 0, 0, 0), some (.imul, 1, 0, 0, 0), some (.iload_n 1, 1, 0, 0, 0), some (.iadd, 1, 0, 0, 0), some (.istore 6, 2, 0, 0, 0), none, some (.iload_n 2, 1, 0, 0, 0), some (.ifCond .ne 8, 3, 1, 0, 0), none, none, some (.iload 6, 2, 0, 0, 0), none, some (.goto 10, 3, 0, 0, 0), none], [none, some (.bipush 27, 2, 0, 0, 27), none, some (.iload 6, 2, 0, 0, 0), none, some (.imul, 1, 0, 0, 0), some (.iload_n 2, 1, 0, 0, 0), some (.iadd, 1, 0, 0, 0), some (.istore 6, 2, 0, 0, 0), none, some (.iload_n 3, 1, 0, 0, 0), some (.ifCond .ne 8, 3, 1, 0, 0), none, none, some (.iload 6, 2, 0, 0, 0), none], [some (.goto 10, 3, 0, 0, 0), none, none, some (.bipush 27, 2, 0, 0, 27), none, some (.iload 6, 2, 0, 0, 0), none, some (.imul, 1, 0, 0, 0), some (.iload_n 3, 1, 0, 0, 0), some (.iadd, 1, 0, 0, 0), some (.istore 6, 2, 0, 0, 0), none, some (.iload 4, 2, 0, 0, 0), none, some (.ifCond .ne 8, 3, 1, 0, 0), none], [none, some (.iload 6, 2, 0, 0, 0), none, some (.goto 11, 3, 0, 0, 0), none, none, some (.bipush 27, 2, 0, 0, 27), none, some (.iload 6, 2, 0, 0, 0), none, some (.imul, 1, 0, 0, 0), some (.iload 4, 2, 0, 0, 0), none, some (.iadd, 1, 0, 0, 0), some (.istore 6, 2, 0, 0, 0), none], [some (.iload 5, 2, 0, 0, 0), none, some (.ifCond .ne 8, 3, 1, 0, 0), none, none, some (.iload 6, 2, 0, 0, 0), none, some (.goto 11, 3, 0, 0, 0), none, none, some (.bipush 27, 2, 0, 0, 27), none, some (.iload 6, 2, 0, 0, 0), none, some (.imul, 1, 0, 0, 0), some (.iload 5, 2, 0, 0, 0)], [none, some (.iadd, 1, 0, 0, 0), some (.ireturn, 1, 0, 0, 0)]]]
def cd_X12_skipWord : List (List (List (Option ARow))) := [[[some (.aload_n 0, 1, 0, 0, 0), some (.aload_n 0, 1, 0, 0, 0), some (.getfield 184, 3, 12, 4, 0), none, none, some (.invokevirtual 187, 3, 192, 0, 0), none, none, some (.bipush 97, 2, 0, 0, 97), none, some (.if_icmp .lt 29, 3, 2, 0, 0), none, none, some (.aload_n 0, 1, 0, 0, 0), some (.aload_n 0, 1, 0, 0, 0), some (.getfield 184, 3, 12, 4, 0)], [none, none, some (.invokevirtual 187, 3, 192, 0, 0), none, none, some (.bipush 122, 2, 0, 0, 122), none, some (.if_icmp .gt 16, 3, 4, 0, 0), none, none, some (.aload_n 0, 1, 0, 0, 0), some (.dup, 1, 0, 0, 0), some (.getfield 184, 3, 12, 4, 0), none, none, some (.iconst 1, 1, 0, 0, 0)], [some (.iadd, 1, 0, 0, 0), some (.putfield 184, 3, 12, 4, 0), none, none, some (.goto (-36), 3, 0, 0, 0), none, none, some (.return_, 1, 0, 0, 0)]]]
def cd_X12_sign : List (List (List (Option ARow))) := [[[some (.aload_n 0, 1, 0, 0, 0), some (.invokevirtual 197, 3, 193, 0, 0), none, none, some (.aload_n 0, 1, 0, 0, 0), some (.aload_n 0, 1, 0, 0, 0), some (.getfield 184, 3, 12, 4, 0), none, none, some (.invokevirtual 187, 3, 192, 0, 0), none, none, some (.iload_n 1, 1, 0, 0, 0), some (.if_icmp .ne 16, 3, 1, 0, 0), none, none], [some (.aload_n 0, 1, 0, 0, 0), some (.dup, 1, 0, 0, 0), some (.getfield 184, 3, 12, 4, 0), none, none, some (.iconst 1, 1, 0, 0, 0), some (.iadd, 1, 0, 0, 0), some (.putfield 184, 3, 12, 4, 0), none, none, some (.goto 12, 3, 0, 0, 0), none, none, some (.aload_n 0, 1, 0, 0, 0), some (.iconst 1, 1, 0, 0, 0), some (.aload_n 0, 1, 0, 0, 0)], [some (.getfield 184, 3, 12, 4, 0), none, none, some (.invokevirtual 204, 3, 194, 0, 0), none, none, some (.return_, 1, 0, 0, 0)]]]
def cd_X12_opens : List (List (List (Option ARow))) := [[[some (.aload_n 0, 1, 0, 0, 0), some (.getfield 213, 3, 12, 5, 0), none, none, some (.bipush 6, 2, 0, 0, 6), none, some (.if_icmp .ne 12, 3, 1, 0, 0), none, none, some (.aload_n 0, 1, 0, 0, 0), some (.iconst 3, 1, 0, 0, 0), some (.aload_n 0, 1, 0, 0, 0), some (.getfield 184, 3, 12, 4, 0), none, none, some (.invokevirtual 204, 3, 194, 0, 0)], [none, none, some (.aload_n 0, 1, 0, 0, 0), some (.dup, 1, 0, 0, 0), some (.getfield 213, 3, 12, 5, 0), none, none, some (.iconst 1, 1, 0, 0, 0), some (.iadd, 1, 0, 0, 0), some (.putfield 213, 3, 12, 5, 0), none, none, some (.aload_n 0, 1, 0, 0, 0), some (.dup, 1, 0, 0, 0), some (.getfield 184, 3, 12, 4, 0), none], [none, some (.iload_n 1, 1, 0, 0, 0), some (.iadd, 1, 0, 0, 0), some (.putfield 184, 3, 12, 4, 0), none, none, some (.return_, 1, 0, 0, 0)]]]
def cd_X12_nameHere : List (List (List (Option ARow))) := [[[some (.aload_n 0, 1, 0, 0, 0), some (.invokevirtual 243, 3, 201, 0, 0), none, none, some (.istore_n 1, 1, 0, 0, 0), some (.iload_n 1, 1, 0, 0, 0), some (.bipush 23, 2, 0, 0, 23), none, some (.iconst 1, 1, 0, 0, 0), some (.bipush 25, 2, 0, 0, 25), none, some (.bipush 19, 2, 0, 0, 19), none, some (.iconst 0, 1, 0, 0, 0), some (.iconst 0, 1, 0, 0, 0), some (.invokestatic 247, 3, 202, 1, 0)], [none, none, some (.if_icmp .ne 5, 3, 1, 0, 0), none, none, some (.iconst 0, 1, 0, 0, 0), some (.ireturn, 1, 0, 0, 0), some (.iload_n 1, 1, 0, 0, 0), some (.iconst 3, 1, 0, 0, 0), some (.bipush 18, 2, 0, 0, 18), none, some (.bipush 15, 2, 0, 0, 15), none, some (.bipush 19, 2, 0, 0, 19), none, some (.bipush 19, 2, 0, 0, 19)], [none, some (.iconst 0, 1, 0, 0, 0), some (.invokestatic 247, 3, 202, 1, 0), none, none, some (.if_icmp .ne 5, 3, 1, 0, 0), none, none, some (.iconst 1, 1, 0, 0, 0), some (.ireturn, 1, 0, 0, 0), some (.iload_n 1, 1, 0, 0, 0), some (.bipush 15, 2, 0, 0, 15), none, some (.bipush 22, 2, 0, 0, 22), none, some (.iconst 5, 1, 0, 0, 0)], [some (.bipush 18, 2, 0, 0, 18), none, some (.iconst 0, 1, 0, 0, 0), some (.iconst 0, 1, 0, 0, 0), some (.invokestatic 247, 3, 202, 1, 0), none, none, some (.if_icmp .ne 5, 3, 1, 0, 0), none, none, some (.iconst 2, 1, 0, 0, 0), some (.ireturn, 1, 0, 0, 0), some (.iload_n 1, 1, 0, 0, 0), some (.iconst 3, 1, 0, 0, 0), some (.bipush 12, 2, 0, 0, 12), none], [some (.bipush 9, 2, 0, 0, 9), none, some (.bipush 13, 2, 0, 0, 13), none, some (.iconst 2, 1, 0, 0, 0), some (.iconst 0, 1, 0, 0, 0), some (.invokestatic 247, 3, 202, 1, 0), none, none, some (.if_icmp .ne 5, 3, 1, 0, 0), none, none, some (.iconst 3, 1, 0, 0, 0), some (.ireturn, 1, 0, 0, 0), some (.iload_n 1, 1, 0, 0, 0), some (.iconst 3, 1, 0, 0, 0)], [some (.iconst 5, 1, 0, 0, 0), some (.bipush 12, 2, 0, 0, 12), none, some (.bipush 12, 2, 0, 0, 12), none, some (.bipush 19, 2, 0, 0, 19), none, some (.iconst 0, 1, 0, 0, 0), some (.invokestatic 247, 3, 202, 1, 0), none, none, some (.if_icmp .ne 5, 3, 1, 0, 0), none, none, some (.iconst 4, 1, 0, 0, 0), some (.ireturn, 1, 0, 0, 0)], [some (.iload_n 1, 1, 0, 0, 0), some (.bipush 12, 2, 0, 0, 12), none, some (.bipush 15, 2, 0, 0, 15), none, some (.bipush 23, 2, 0, 0, 23), none, some (.iconst 0, 1, 0, 0, 0), some (.iconst 0, 1, 0, 0, 0), some (.iconst 0, 1, 0, 0, 0), some (.invokestatic 247, 3, 202, 1, 0), none, none, some (.if_icmp .ne 5, 3, 1, 0, 0), none, none], [some (.iconst 5, 1, 0, 0, 0), some (.ireturn, 1, 0, 0, 0), some (.iload_n 1, 1, 0, 0, 0), some (.bipush 16, 2, 0, 0, 16), none, some (.bipush 9, 2, 0, 0, 9), none, some (.iconst 5, 1, 0, 0, 0), some (.iconst 3, 1, 0, 0, 0), some (.iconst 5, 1, 0, 0, 0), some (.bipush 19, 2, 0, 0, 19), none, some (.invokestatic 247, 3, 202, 1, 0), none, none, some (.if_icmp .ne 8, 3, 1, 0, 0)], [none, none, some (.bipush 6, 2, 0, 0, 6), none, some (.goto 4, 3, 0, 0, 0), none, none, some (.iconst (-1), 1, 0, 0, 0), some (.ireturn, 1, 0, 0, 0)]]]
def cd_X12_unit : List (List (List (Option ARow))) := [[[some (.aload_n 0, 1, 0, 0, 0), some (.getfield 191, 3, 12, 6, 0), none, none, some (.ifCond .eq 5, 3, 0, 0, 0), none, none, some (.iconst 0, 1, 0, 0, 0), some (.ireturn, 1, 0, 0, 0), some (.aload_n 0, 1, 0, 0, 0), some (.invokevirtual 197, 3, 193, 0, 0), none, none, some (.aload_n 0, 1, 0, 0, 0), some (.aload_n 0, 1, 0, 0, 0), some (.getfield 184, 3, 12, 4, 0)], [none, none, some (.invokevirtual 187, 3, 192, 0, 0), none, none, some (.invokestatic 200, 3, 195, 1, 0), none, none, some (.ifCond .eq 12, 3, 0, 0, 0), none, none, some (.aload_n 0, 1, 0, 0, 0), some (.iconst 0, 1, 0, 0, 0), some (.sipush 999, 3, 0, 0, 999), none, none], [some (.invokevirtual 219, 3, 196, 0, 0), none, none, some (.ireturn, 1, 0, 0, 0), some (.aload_n 0, 1, 0, 0, 0), some (.invokevirtual 251, 3, 206, 0, 0), none, none, some (.istore_n 1, 1, 0, 0, 0), some (.aload_n 0, 1, 0, 0, 0), some (.invokevirtual 243, 3, 201, 0, 0), none, none, some (.istore_n 2, 1, 0, 0, 0), some (.iload_n 1, 1, 0, 0, 0), some (.iconst (-1), 1, 0, 0, 0)], [some (.if_icmp .eq 14, 3, 0, 0, 0), none, none, some (.aload_n 0, 1, 0, 0, 0), some (.invokevirtual 254, 3, 203, 0, 0), none, none, some (.aload_n 0, 1, 0, 0, 0), some (.getfield 32, 3, 12, 21, 0), none, none, some (.iload_n 1, 1, 0, 0, 0), some (.iaload, 1, 0, 0, 0), some (.ireturn, 1, 0, 0, 0), some (.iload_n 2, 1, 0, 0, 0), some (.bipush 12, 2, 0, 0, 12)], [none, some (.iconst 5, 1, 0, 0, 0), some (.iconst 1, 1, 0, 0, 0), some (.bipush 19, 2, 0, 0, 19), none, some (.bipush 20, 2, 0, 0, 20), none, some (.iconst 0, 1, 0, 0, 0), some (.invokestatic 247, 3, 202, 1, 0), none, none, some (.if_icmp .ne 7, 3, 1, 0, 0), none, none, some (.iconst 1, 1, 0, 0, 0), some (.goto 4, 3, 0, 0, 0)], [none, none, some (.iconst 0, 1, 0, 0, 0), some (.istore_n 3, 1, 0, 0, 0), some (.iload_n 2, 1, 0, 0, 0), some (.bipush 13, 2, 0, 0, 13), none, some (.bipush 15, 2, 0, 0, 15), none, some (.bipush 19, 2, 0, 0, 19), none, some (.bipush 20, 2, 0, 0, 20), none, some (.iconst 0, 1, 0, 0, 0), some (.iconst 0, 1, 0, 0, 0), some (.invokestatic 247, 3, 202, 1, 0)], [none, none, some (.if_icmp .ne 7, 3, 1, 0, 0), none, none, some (.iconst 1, 1, 0, 0, 0), some (.goto 4, 3, 0, 0, 0), none, none, some (.iconst 0, 1, 0, 0, 0), some (.istore 4, 2, 0, 0, 0), none, some (.iload_n 3, 1, 0, 0, 0), some (.ifCond .ne 8, 3, 1, 0, 0), none, none], [some (.iload 4, 2, 0, 0, 0), none, some (.ifCond .eq 7, 3, 0, 0, 0), none, none, some (.aload_n 0, 1, 0, 0, 0), some (.invokevirtual 254, 3, 203, 0, 0), none, none, some (.aload_n 0, 1, 0, 0, 0), some (.invokevirtual 197, 3, 193, 0, 0), none, none, some (.aload_n 0, 1, 0, 0, 0), some (.aload_n 0, 1, 0, 0, 0), some (.getfield 184, 3, 12, 4, 0)], [none, none, some (.invokevirtual 187, 3, 192, 0, 0), none, none, some (.bipush 40, 2, 0, 0, 40), none, some (.if_icmp .eq 14, 3, 0, 0, 0), none, none, some (.aload_n 0, 1, 0, 0, 0), some (.iconst 1, 1, 0, 0, 0), some (.aload_n 0, 1, 0, 0, 0), some (.getfield 184, 3, 12, 4, 0), none, none], [some (.invokevirtual 204, 3, 194, 0, 0), none, none, some (.iconst 0, 1, 0, 0, 0), some (.ireturn, 1, 0, 0, 0), some (.aload_n 0, 1, 0, 0, 0), some (.iconst 1, 1, 0, 0, 0), some (.invokevirtual 257, 3, 205, 0, 0), none, none, some (.aload_n 0, 1, 0, 0, 0), some (.invokevirtual 260, 3, 209, 0, 0), none, none, some (.istore 5, 2, 0, 0, 0), none], [some (.iload_n 3, 1, 0, 0, 0), some (.ifCond .ne 8, 3, 1, 0, 0), none, none, some (.iload 4, 2, 0, 0, 0), none, some (.ifCond .eq 40, 3, 0, 0, 0), none, none, some (.aload_n 0, 1, 0, 0, 0), some (.bipush 44, 2, 0, 0, 44), none, some (.invokevirtual 263, 3, 204, 0, 0), none, none, some (.aload_n 0, 1, 0, 0, 0)], [some (.invokevirtual 260, 3, 209, 0, 0), none, none, some (.istore 6, 2, 0, 0, 0), none, some (.iload_n 3, 1, 0, 0, 0), some (.iload 6, 2, 0, 0, 0), none, some (.iload 5, 2, 0, 0, 0), none, some (.if_icmp .ge 7, 3, 3, 0, 0), none, none, some (.iconst 1, 1, 0, 0, 0), some (.goto 4, 3, 0, 0, 0), none], [none, some (.iconst 0, 1, 0, 0, 0), some (.if_icmp .ne 8, 3, 1, 0, 0), none, none, some (.iload 6, 2, 0, 0, 0), none, some (.goto 5, 3, 0, 0, 0), none, none, some (.iload 5, 2, 0, 0, 0), none, some (.istore 5, 2, 0, 0, 0), none, some (.aload_n 0, 1, 0, 0, 0), some (.bipush 41, 2, 0, 0, 41)], [none, some (.invokevirtual 263, 3, 204, 0, 0), none, none, some (.aload_n 0, 1, 0, 0, 0), some (.dup, 1, 0, 0, 0), some (.getfield 213, 3, 12, 5, 0), none, none, some (.iconst 1, 1, 0, 0, 0), some (.isub, 1, 0, 0, 0), some (.putfield 213, 3, 12, 5, 0), none, none, some (.iload 5, 2, 0, 0, 0), none], [some (.ireturn, 1, 0, 0, 0)]]]
def cd_X12_product : List (List (List (Option ARow))) := [[[some (.aload_n 0, 1, 0, 0, 0), some (.invokevirtual 266, 3, 207, 0, 0), none, none, some (.istore_n 1, 1, 0, 0, 0), some (.aload_n 0, 1, 0, 0, 0), some (.invokevirtual 197, 3, 193, 0, 0), none, none, some (.aload_n 0, 1, 0, 0, 0), some (.getfield 191, 3, 12, 6, 0), none, none, some (.ifCond .ne 84, 3, 1, 0, 0), none, none], [some (.aload_n 0, 1, 0, 0, 0), some (.aload_n 0, 1, 0, 0, 0), some (.getfield 184, 3, 12, 4, 0), none, none, some (.invokevirtual 187, 3, 192, 0, 0), none, none, some (.bipush 42, 2, 0, 0, 42), none, some (.if_icmp .eq 16, 3, 0, 0, 0), none, none, some (.aload_n 0, 1, 0, 0, 0), some (.aload_n 0, 1, 0, 0, 0), some (.getfield 184, 3, 12, 4, 0)], [none, none, some (.invokevirtual 187, 3, 192, 0, 0), none, none, some (.bipush 47, 2, 0, 0, 47), none, some (.if_icmp .ne 58, 3, 1, 0, 0), none, none, some (.aload_n 0, 1, 0, 0, 0), some (.aload_n 0, 1, 0, 0, 0), some (.getfield 184, 3, 12, 4, 0), none, none, some (.invokevirtual 187, 3, 192, 0, 0)], [none, none, some (.istore_n 2, 1, 0, 0, 0), some (.aload_n 0, 1, 0, 0, 0), some (.dup, 1, 0, 0, 0), some (.getfield 184, 3, 12, 4, 0), none, none, some (.iconst 1, 1, 0, 0, 0), some (.iadd, 1, 0, 0, 0), some (.putfield 184, 3, 12, 4, 0), none, none, some (.aload_n 0, 1, 0, 0, 0), some (.invokevirtual 266, 3, 207, 0, 0), none], [none, some (.istore_n 3, 1, 0, 0, 0), some (.iload_n 2, 1, 0, 0, 0), some (.bipush 42, 2, 0, 0, 42), none, some (.if_icmp .ne 9, 3, 1, 0, 0), none, none, some (.iload_n 1, 1, 0, 0, 0), some (.iload_n 3, 1, 0, 0, 0), some (.imul, 1, 0, 0, 0), some (.goto 14, 3, 0, 0, 0), none, none, some (.iload_n 3, 1, 0, 0, 0), some (.ifCond .ne 7, 3, 1, 0, 0)], [none, none, some (.iconst 0, 1, 0, 0, 0), some (.goto 6, 3, 0, 0, 0), none, none, some (.iload_n 1, 1, 0, 0, 0), some (.iload_n 3, 1, 0, 0, 0), some (.idiv, 1, 0, 0, 0), some (.istore_n 1, 1, 0, 0, 0), some (.aload_n 0, 1, 0, 0, 0), some (.invokevirtual 197, 3, 193, 0, 0), none, none, some (.goto (-85), 3, 0, 0, 0), none], [none, some (.iload_n 1, 1, 0, 0, 0), some (.ireturn, 1, 0, 0, 0)]]]
def cd_X12_sum : List (List (List (Option ARow))) := [[[some (.aload_n 0, 1, 0, 0, 0), some (.invokevirtual 269, 3, 208, 0, 0), none, none, some (.istore_n 1, 1, 0, 0, 0), some (.aload_n 0, 1, 0, 0, 0), some (.invokevirtual 197, 3, 193, 0, 0), none, none, some (.aload_n 0, 1, 0, 0, 0), some (.getfield 191, 3, 12, 6, 0), none, none, some (.ifCond .ne 76, 3, 1, 0, 0), none, none], [some (.aload_n 0, 1, 0, 0, 0), some (.aload_n 0, 1, 0, 0, 0), some (.getfield 184, 3, 12, 4, 0), none, none, some (.invokevirtual 187, 3, 192, 0, 0), none, none, some (.bipush 43, 2, 0, 0, 43), none, some (.if_icmp .eq 16, 3, 0, 0, 0), none, none, some (.aload_n 0, 1, 0, 0, 0), some (.aload_n 0, 1, 0, 0, 0), some (.getfield 184, 3, 12, 4, 0)], [none, none, some (.invokevirtual 187, 3, 192, 0, 0), none, none, some (.bipush 45, 2, 0, 0, 45), none, some (.if_icmp .ne 50, 3, 1, 0, 0), none, none, some (.aload_n 0, 1, 0, 0, 0), some (.aload_n 0, 1, 0, 0, 0), some (.getfield 184, 3, 12, 4, 0), none, none, some (.invokevirtual 187, 3, 192, 0, 0)], [none, none, some (.istore_n 2, 1, 0, 0, 0), some (.aload_n 0, 1, 0, 0, 0), some (.dup, 1, 0, 0, 0), some (.getfield 184, 3, 12, 4, 0), none, none, some (.iconst 1, 1, 0, 0, 0), some (.iadd, 1, 0, 0, 0), some (.putfield 184, 3, 12, 4, 0), none, none, some (.aload_n 0, 1, 0, 0, 0), some (.invokevirtual 269, 3, 208, 0, 0), none], [none, some (.istore_n 3, 1, 0, 0, 0), some (.iload_n 2, 1, 0, 0, 0), some (.bipush 43, 2, 0, 0, 43), none, some (.if_icmp .ne 9, 3, 1, 0, 0), none, none, some (.iload_n 1, 1, 0, 0, 0), some (.iload_n 3, 1, 0, 0, 0), some (.iadd, 1, 0, 0, 0), some (.goto 6, 3, 0, 0, 0), none, none, some (.iload_n 1, 1, 0, 0, 0), some (.iload_n 3, 1, 0, 0, 0)], [some (.isub, 1, 0, 0, 0), some (.istore_n 1, 1, 0, 0, 0), some (.aload_n 0, 1, 0, 0, 0), some (.invokevirtual 197, 3, 193, 0, 0), none, none, some (.goto (-77), 3, 0, 0, 0), none, none, some (.iload_n 1, 1, 0, 0, 0), some (.ireturn, 1, 0, 0, 0)]]]
def cd_X12_test : List (List (List (Option ARow))) := [[[some (.aload_n 0, 1, 0, 0, 0), some (.getfield 191, 3, 12, 6, 0), none, none, some (.ifCond .eq 5, 3, 0, 0, 0), none, none, some (.iconst 0, 1, 0, 0, 0), some (.ireturn, 1, 0, 0, 0), some (.aload_n 0, 1, 0, 0, 0), some (.invokevirtual 243, 3, 201, 0, 0), none, none, some (.bipush 14, 2, 0, 0, 14), none, some (.bipush 15, 2, 0, 0, 15)], [none, some (.bipush 20, 2, 0, 0, 20), none, some (.iconst 0, 1, 0, 0, 0), some (.iconst 0, 1, 0, 0, 0), some (.iconst 0, 1, 0, 0, 0), some (.invokestatic 247, 3, 202, 1, 0), none, none, some (.if_icmp .ne 33, 3, 1, 0, 0), none, none, some (.aload_n 0, 1, 0, 0, 0), some (.iconst 3, 1, 0, 0, 0), some (.invokevirtual 257, 3, 205, 0, 0), none], [none, some (.aload_n 0, 1, 0, 0, 0), some (.invokevirtual 272, 3, 210, 0, 0), none, none, some (.ifCond .ne 7, 3, 1, 0, 0), none, none, some (.iconst 1, 1, 0, 0, 0), some (.goto 4, 3, 0, 0, 0), none, none, some (.iconst 0, 1, 0, 0, 0), some (.istore_n 1, 1, 0, 0, 0), some (.aload_n 0, 1, 0, 0, 0), some (.dup, 1, 0, 0, 0)], [some (.getfield 213, 3, 12, 5, 0), none, none, some (.iconst 1, 1, 0, 0, 0), some (.isub, 1, 0, 0, 0), some (.putfield 213, 3, 12, 5, 0), none, none, some (.iload_n 1, 1, 0, 0, 0), some (.ireturn, 1, 0, 0, 0), some (.aload_n 0, 1, 0, 0, 0), some (.aload_n 0, 1, 0, 0, 0), some (.getfield 184, 3, 12, 4, 0), none, none, some (.invokevirtual 187, 3, 192, 0, 0)], [none, none, some (.bipush 91, 2, 0, 0, 91), none, some (.if_icmp .ne 31, 3, 1, 0, 0), none, none, some (.aload_n 0, 1, 0, 0, 0), some (.iconst 1, 1, 0, 0, 0), some (.invokevirtual 257, 3, 205, 0, 0), none, none, some (.aload_n 0, 1, 0, 0, 0), some (.invokevirtual 276, 3, 212, 0, 0), none, none], [some (.istore_n 1, 1, 0, 0, 0), some (.aload_n 0, 1, 0, 0, 0), some (.bipush 93, 2, 0, 0, 93), none, some (.invokevirtual 263, 3, 204, 0, 0), none, none, some (.aload_n 0, 1, 0, 0, 0), some (.dup, 1, 0, 0, 0), some (.getfield 213, 3, 12, 5, 0), none, none, some (.iconst 1, 1, 0, 0, 0), some (.isub, 1, 0, 0, 0), some (.putfield 213, 3, 12, 5, 0), none], [none, some (.iload_n 1, 1, 0, 0, 0), some (.ireturn, 1, 0, 0, 0), some (.aload_n 0, 1, 0, 0, 0), some (.invokevirtual 260, 3, 209, 0, 0), none, none, some (.istore_n 1, 1, 0, 0, 0), some (.aload_n 0, 1, 0, 0, 0), some (.invokevirtual 197, 3, 193, 0, 0), none, none, some (.aload_n 0, 1, 0, 0, 0), some (.aload_n 0, 1, 0, 0, 0), some (.getfield 184, 3, 12, 4, 0), none], [none, some (.invokevirtual 187, 3, 192, 0, 0), none, none, some (.istore_n 2, 1, 0, 0, 0), some (.iload_n 2, 1, 0, 0, 0), some (.bipush 60, 2, 0, 0, 60), none, some (.if_icmp .eq 24, 3, 0, 0, 0), none, none, some (.iload_n 2, 1, 0, 0, 0), some (.bipush 62, 2, 0, 0, 62), none, some (.if_icmp .eq 18, 3, 0, 0, 0), none], [none, some (.iload_n 2, 1, 0, 0, 0), some (.bipush 61, 2, 0, 0, 61), none, some (.if_icmp .eq 12, 3, 0, 0, 0), none, none, some (.aload_n 0, 1, 0, 0, 0), some (.iconst 1, 1, 0, 0, 0), some (.aload_n 0, 1, 0, 0, 0), some (.getfield 184, 3, 12, 4, 0), none, none, some (.invokevirtual 204, 3, 194, 0, 0), none, none], [some (.aload_n 0, 1, 0, 0, 0), some (.dup, 1, 0, 0, 0), some (.getfield 184, 3, 12, 4, 0), none, none, some (.iconst 1, 1, 0, 0, 0), some (.iadd, 1, 0, 0, 0), some (.putfield 184, 3, 12, 4, 0), none, none, some (.aload_n 0, 1, 0, 0, 0), some (.invokevirtual 260, 3, 209, 0, 0), none, none, some (.istore_n 3, 1, 0, 0, 0), some (.iload_n 2, 1, 0, 0, 0)], [some (.bipush 60, 2, 0, 0, 60), none, some (.if_icmp .ne 16, 3, 1, 0, 0), none, none, some (.iload_n 1, 1, 0, 0, 0), some (.iload_n 3, 1, 0, 0, 0), some (.if_icmp .ge 7, 3, 3, 0, 0), none, none, some (.iconst 1, 1, 0, 0, 0), some (.goto 36, 3, 0, 0, 0), none, none, some (.iconst 0, 1, 0, 0, 0), some (.goto 32, 3, 0, 0, 0)], [none, none, some (.iload_n 2, 1, 0, 0, 0), some (.bipush 62, 2, 0, 0, 62), none, some (.if_icmp .ne 16, 3, 1, 0, 0), none, none, some (.iload_n 1, 1, 0, 0, 0), some (.iload_n 3, 1, 0, 0, 0), some (.if_icmp .le 7, 3, 5, 0, 0), none, none, some (.iconst 1, 1, 0, 0, 0), some (.goto 17, 3, 0, 0, 0), none], [none, some (.iconst 0, 1, 0, 0, 0), some (.goto 13, 3, 0, 0, 0), none, none, some (.iload_n 1, 1, 0, 0, 0), some (.iload_n 3, 1, 0, 0, 0), some (.if_icmp .ne 7, 3, 1, 0, 0), none, none, some (.iconst 1, 1, 0, 0, 0), some (.goto 4, 3, 0, 0, 0), none, none, some (.iconst 0, 1, 0, 0, 0), some (.ireturn, 1, 0, 0, 0)]]]
def cd_X12_ands : List (List (List (Option ARow))) := [[[some (.aload_n 0, 1, 0, 0, 0), some (.invokevirtual 272, 3, 210, 0, 0), none, none, some (.istore_n 1, 1, 0, 0, 0), some (.aload_n 0, 1, 0, 0, 0), some (.getfield 191, 3, 12, 6, 0), none, none, some (.ifCond .ne 46, 3, 1, 0, 0), none, none, some (.aload_n 0, 1, 0, 0, 0), some (.invokevirtual 243, 3, 201, 0, 0), none, none], [some (.iconst 1, 1, 0, 0, 0), some (.bipush 14, 2, 0, 0, 14), none, some (.iconst 4, 1, 0, 0, 0), some (.iconst 0, 1, 0, 0, 0), some (.iconst 0, 1, 0, 0, 0), some (.iconst 0, 1, 0, 0, 0), some (.invokestatic 247, 3, 202, 1, 0), none, none, some (.if_icmp .ne 29, 3, 1, 0, 0), none, none, some (.aload_n 0, 1, 0, 0, 0), some (.invokevirtual 254, 3, 203, 0, 0), none], [none, some (.aload_n 0, 1, 0, 0, 0), some (.invokevirtual 272, 3, 210, 0, 0), none, none, some (.istore_n 2, 1, 0, 0, 0), some (.iload_n 1, 1, 0, 0, 0), some (.ifCond .eq 11, 3, 0, 0, 0), none, none, some (.iload_n 2, 1, 0, 0, 0), some (.ifCond .eq 7, 3, 0, 0, 0), none, none, some (.iconst 1, 1, 0, 0, 0), some (.goto 4, 3, 0, 0, 0)], [none, none, some (.iconst 0, 1, 0, 0, 0), some (.istore_n 1, 1, 0, 0, 0), some (.goto (-47), 3, 0, 0, 0), none, none, some (.iload_n 1, 1, 0, 0, 0), some (.ireturn, 1, 0, 0, 0)]]]
def cd_X12_ors : List (List (List (Option ARow))) := [[[some (.aload_n 0, 1, 0, 0, 0), some (.invokevirtual 279, 3, 211, 0, 0), none, none, some (.istore_n 1, 1, 0, 0, 0), some (.aload_n 0, 1, 0, 0, 0), some (.getfield 191, 3, 12, 6, 0), none, none, some (.ifCond .ne 47, 3, 1, 0, 0), none, none, some (.aload_n 0, 1, 0, 0, 0), some (.invokevirtual 243, 3, 201, 0, 0), none, none], [some (.bipush 15, 2, 0, 0, 15), none, some (.bipush 18, 2, 0, 0, 18), none, some (.iconst 0, 1, 0, 0, 0), some (.iconst 0, 1, 0, 0, 0), some (.iconst 0, 1, 0, 0, 0), some (.iconst 0, 1, 0, 0, 0), some (.invokestatic 247, 3, 202, 1, 0), none, none, some (.if_icmp .ne 29, 3, 1, 0, 0), none, none, some (.aload_n 0, 1, 0, 0, 0), some (.invokevirtual 254, 3, 203, 0, 0)], [none, none, some (.aload_n 0, 1, 0, 0, 0), some (.invokevirtual 279, 3, 211, 0, 0), none, none, some (.istore_n 2, 1, 0, 0, 0), some (.iload_n 1, 1, 0, 0, 0), some (.ifCond .ne 7, 3, 1, 0, 0), none, none, some (.iload_n 2, 1, 0, 0, 0), some (.ifCond .eq 7, 3, 0, 0, 0), none, none, some (.iconst 1, 1, 0, 0, 0)], [some (.goto 4, 3, 0, 0, 0), none, none, some (.iconst 0, 1, 0, 0, 0), some (.istore_n 1, 1, 0, 0, 0), some (.goto (-48), 3, 0, 0, 0), none, none, some (.iload_n 1, 1, 0, 0, 0), some (.ireturn, 1, 0, 0, 0)]]]
def cd_X12_clause : List (List (List (Option ARow))) := [[[some (.aload_n 0, 1, 0, 0, 0), some (.invokevirtual 243, 3, 201, 0, 0), none, none, some (.istore_n 1, 1, 0, 0, 0), some (.iload_n 1, 1, 0, 0, 0), some (.bipush 12, 2, 0, 0, 12), none, some (.bipush 15, 2, 0, 0, 15), none, some (.iconst 1, 1, 0, 0, 0), some (.iconst 4, 1, 0, 0, 0), some (.iconst 0, 1, 0, 0, 0), some (.iconst 0, 1, 0, 0, 0), some (.invokestatic 247, 3, 202, 1, 0), none], [none, some (.if_icmp .ne 7, 3, 1, 0, 0), none, none, some (.iconst 1, 1, 0, 0, 0), some (.goto 4, 3, 0, 0, 0), none, none, some (.iconst 0, 1, 0, 0, 0), some (.istore_n 2, 1, 0, 0, 0), some (.iload_n 1, 1, 0, 0, 0), some (.bipush 10, 2, 0, 0, 10), none, some (.bipush 15, 2, 0, 0, 15), none, some (.bipush 9, 2, 0, 0, 9)], [none, some (.bipush 14, 2, 0, 0, 14), none, some (.iconst 0, 1, 0, 0, 0), some (.iconst 0, 1, 0, 0, 0), some (.invokestatic 247, 3, 202, 1, 0), none, none, some (.if_icmp .ne 7, 3, 1, 0, 0), none, none, some (.iconst 1, 1, 0, 0, 0), some (.goto 4, 3, 0, 0, 0), none, none, some (.iconst 0, 1, 0, 0, 0)], [some (.istore_n 3, 1, 0, 0, 0), some (.iload_n 2, 1, 0, 0, 0), some (.ifCond .ne 19, 3, 1, 0, 0), none, none, some (.iload_n 3, 1, 0, 0, 0), some (.ifCond .ne 15, 3, 1, 0, 0), none, none, some (.aload_n 0, 1, 0, 0, 0), some (.iconst 1, 1, 0, 0, 0), some (.aload_n 0, 1, 0, 0, 0), some (.getfield 184, 3, 12, 4, 0), none, none, some (.invokevirtual 204, 3, 194, 0, 0)], [none, none, some (.goto 21, 3, 0, 0, 0), none, none, some (.aload_n 0, 1, 0, 0, 0), some (.getfield 282, 3, 12, 16, 0), none, none, some (.bipush 8, 2, 0, 0, 8), none, some (.if_icmp .ne 12, 3, 1, 0, 0), none, none, some (.aload_n 0, 1, 0, 0, 0), some (.iconst 3, 1, 0, 0, 0)], [some (.aload_n 0, 1, 0, 0, 0), some (.getfield 184, 3, 12, 4, 0), none, none, some (.invokevirtual 204, 3, 194, 0, 0), none, none, some (.aload_n 0, 1, 0, 0, 0), some (.getfield 191, 3, 12, 6, 0), none, none, some (.ifCond .eq 4, 3, 0, 0, 0), none, none, some (.return_, 1, 0, 0, 0), some (.aload_n 0, 1, 0, 0, 0)], [some (.invokevirtual 254, 3, 203, 0, 0), none, none, some (.iload_n 2, 1, 0, 0, 0), some (.ifCond .eq 19, 3, 0, 0, 0), none, none, some (.aload_n 0, 1, 0, 0, 0), some (.aload_n 0, 1, 0, 0, 0), some (.getfield 184, 3, 12, 4, 0), none, none, some (.putfield 285, 3, 12, 18, 0), none, none, some (.aload_n 0, 1, 0, 0, 0)], [some (.invokevirtual 260, 3, 209, 0, 0), none, none, some (.pop, 1, 0, 0, 0), some (.goto 31, 3, 0, 0, 0), none, none, some (.aload_n 0, 1, 0, 0, 0), some (.getfield 29, 3, 12, 20, 0), none, none, some (.aload_n 0, 1, 0, 0, 0), some (.getfield 288, 3, 12, 17, 0), none, none, some (.aload_n 0, 1, 0, 0, 0)], [some (.getfield 184, 3, 12, 4, 0), none, none, some (.iastore, 1, 0, 0, 0), some (.aload_n 0, 1, 0, 0, 0), some (.dup, 1, 0, 0, 0), some (.getfield 288, 3, 12, 17, 0), none, none, some (.iconst 1, 1, 0, 0, 0), some (.iadd, 1, 0, 0, 0), some (.putfield 288, 3, 12, 17, 0), none, none, some (.aload_n 0, 1, 0, 0, 0), some (.invokevirtual 276, 3, 212, 0, 0)], [none, none, some (.pop, 1, 0, 0, 0), some (.aload_n 0, 1, 0, 0, 0), some (.getfield 191, 3, 12, 6, 0), none, none, some (.ifCond .ne 9, 3, 1, 0, 0), none, none, some (.aload_n 0, 1, 0, 0, 0), some (.bipush 59, 2, 0, 0, 59), none, some (.invokevirtual 263, 3, 204, 0, 0), none, none], [some (.aload_n 0, 1, 0, 0, 0), some (.dup, 1, 0, 0, 0), some (.getfield 282, 3, 12, 16, 0), none, none, some (.iconst 1, 1, 0, 0, 0), some (.iadd, 1, 0, 0, 0), some (.putfield 282, 3, 12, 16, 0), none, none, some (.return_, 1, 0, 0, 0)]]]
def cd_X12_rules : List (List (List (Option ARow))) := [[[some (.aload_n 0, 1, 0, 0, 0), some (.iconst 0, 1, 0, 0, 0), some (.putfield 172, 3, 12, 0, 0), none, none, some (.aload_n 0, 1, 0, 0, 0), some (.iload_n 1, 1, 0, 0, 0), some (.iconst 0, 1, 0, 0, 0), some (.aload_n 0, 1, 0, 0, 0), some (.getfield 175, 3, 12, 1, 0), none, none, some (.invokestatic 209, 3, 188, 1, 0), none, none, some (.ifCond .ne 7, 3, 1, 0, 0)], [none, none, some (.iconst 1, 1, 0, 0, 0), some (.goto 4, 3, 0, 0, 0), none, none, some (.iconst 0, 1, 0, 0, 0), some (.iconst 1, 1, 0, 0, 0), some (.invokevirtual 229, 3, 187, 0, 0), none, none, some (.ifCond .eq 5, 3, 0, 0, 0), none, none, some (.iconst 0, 1, 0, 0, 0), some (.ireturn, 1, 0, 0, 0)], [some (.aload_n 0, 1, 0, 0, 0), some (.iconst 0, 1, 0, 0, 0), some (.putfield 175, 3, 12, 1, 0), none, none, some (.aload_n 0, 1, 0, 0, 0), some (.iload_n 1, 1, 0, 0, 0), some (.invokevirtual 236, 3, 197, 0, 0), none, none, some (.aload_n 0, 1, 0, 0, 0), some (.iconst 0, 1, 0, 0, 0), some (.putfield 282, 3, 12, 16, 0), none, none, some (.aload_n 0, 1, 0, 0, 0)], [some (.iconst 0, 1, 0, 0, 0), some (.putfield 288, 3, 12, 17, 0), none, none, some (.aload_n 0, 1, 0, 0, 0), some (.iconst (-1), 1, 0, 0, 0), some (.putfield 285, 3, 12, 18, 0), none, none, some (.aload_n 0, 1, 0, 0, 0), some (.invokevirtual 197, 3, 193, 0, 0), none, none, some (.aload_n 0, 1, 0, 0, 0), some (.getfield 191, 3, 12, 6, 0), none], [none, some (.ifCond .ne 25, 3, 1, 0, 0), none, none, some (.aload_n 0, 1, 0, 0, 0), some (.getfield 184, 3, 12, 4, 0), none, none, some (.aload_n 0, 1, 0, 0, 0), some (.getfield 178, 3, 12, 2, 0), none, none, some (.if_icmp .ge 14, 3, 3, 0, 0), none, none, some (.aload_n 0, 1, 0, 0, 0)], [some (.invokevirtual 291, 3, 213, 0, 0), none, none, some (.aload_n 0, 1, 0, 0, 0), some (.invokevirtual 197, 3, 193, 0, 0), none, none, some (.goto (-26), 3, 0, 0, 0), none, none, some (.aload_n 0, 1, 0, 0, 0), some (.aload_n 0, 1, 0, 0, 0), some (.getfield 194, 3, 12, 7, 0), none, none, some (.putfield 9, 3, 12, 3, 0)], [none, none, some (.aload_n 0, 1, 0, 0, 0), some (.getfield 191, 3, 12, 6, 0), none, none, some (.ifCond .eq 11, 3, 0, 0, 0), none, none, some (.aload_n 0, 1, 0, 0, 0), some (.getfield 191, 3, 12, 6, 0), none, none, some (.bipush 10, 2, 0, 0, 10), none, some (.isub, 1, 0, 0, 0)], [some (.ireturn, 1, 0, 0, 0), some (.iconst 0, 1, 0, 0, 0), some (.istore_n 2, 1, 0, 0, 0), some (.iload_n 2, 1, 0, 0, 0), some (.iload_n 1, 1, 0, 0, 0), some (.if_icmp .ge 21, 3, 3, 0, 0), none, none, some (.aload_n 0, 1, 0, 0, 0), some (.getfield 17, 3, 12, 10, 0), none, none, some (.iload_n 2, 1, 0, 0, 0), some (.aload_n 0, 1, 0, 0, 0), some (.getfield 13, 3, 12, 9, 0), none], [none, some (.iload_n 2, 1, 0, 0, 0), some (.iaload, 1, 0, 0, 0), some (.iastore, 1, 0, 0, 0), some (.iinc 2 1, 3, 0, 0, 0), none, none, some (.goto (-20), 3, 0, 0, 0), none, none, some (.aload_n 0, 1, 0, 0, 0), some (.iload_n 1, 1, 0, 0, 0), some (.putfield 294, 3, 12, 11, 0), none, none, some (.aload_n 0, 1, 0, 0, 0)], [some (.aload_n 0, 1, 0, 0, 0), some (.getfield 282, 3, 12, 16, 0), none, none, some (.putfield 297, 3, 12, 12, 0), none, none, some (.aload_n 0, 1, 0, 0, 0), some (.aload_n 0, 1, 0, 0, 0), some (.getfield 288, 3, 12, 17, 0), none, none, some (.putfield 300, 3, 12, 13, 0), none, none, some (.aload_n 0, 1, 0, 0, 0)], [some (.aload_n 0, 1, 0, 0, 0), some (.getfield 285, 3, 12, 18, 0), none, none, some (.putfield 20, 3, 12, 14, 0), none, none, some (.iconst 0, 1, 0, 0, 0), some (.istore_n 2, 1, 0, 0, 0), some (.iload_n 2, 1, 0, 0, 0), some (.aload_n 0, 1, 0, 0, 0), some (.getfield 300, 3, 12, 13, 0), none, none, some (.if_icmp .ge 21, 3, 3, 0, 0), none], [none, some (.aload_n 0, 1, 0, 0, 0), some (.getfield 23, 3, 12, 15, 0), none, none, some (.iload_n 2, 1, 0, 0, 0), some (.aload_n 0, 1, 0, 0, 0), some (.getfield 29, 3, 12, 20, 0), none, none, some (.iload_n 2, 1, 0, 0, 0), some (.iaload, 1, 0, 0, 0), some (.iastore, 1, 0, 0, 0), some (.iinc 2 1, 3, 0, 0, 0), none, none], [some (.goto (-23), 3, 0, 0, 0), none, none, some (.aload_n 0, 1, 0, 0, 0), some (.getfield 297, 3, 12, 12, 0), none, none, some (.ireturn, 1, 0, 0, 0)]]]
def cd_X12_fault : List (List (List (Option ARow))) := [[[some (.aload_n 0, 1, 0, 0, 0), some (.iconst 0, 1, 0, 0, 0), some (.putfield 172, 3, 12, 0, 0), none, none, some (.aload_n 0, 1, 0, 0, 0), some (.getfield 9, 3, 12, 3, 0), none, none, some (.ireturn, 1, 0, 0, 0)]]]
def cd_X12_readsAt : List (List (List (Option ARow))) := [[[some (.aload_n 0, 1, 0, 0, 0), some (.iconst 1, 1, 0, 0, 0), some (.putfield 181, 3, 12, 8, 0), none, none, some (.aload_n 0, 1, 0, 0, 0), some (.aload_n 0, 1, 0, 0, 0), some (.getfield 294, 3, 12, 11, 0), none, none, some (.putfield 178, 3, 12, 2, 0), none, none, some (.aload_n 0, 1, 0, 0, 0), some (.iload_n 1, 1, 0, 0, 0), some (.putfield 184, 3, 12, 4, 0)], [none, none, some (.aload_n 0, 1, 0, 0, 0), some (.iconst 0, 1, 0, 0, 0), some (.putfield 213, 3, 12, 5, 0), none, none, some (.aload_n 0, 1, 0, 0, 0), some (.iconst 0, 1, 0, 0, 0), some (.putfield 191, 3, 12, 6, 0), none, none, some (.return_, 1, 0, 0, 0)]]]
def cd_X12_way : List (List (List (Option ARow))) := [[[some (.aload_n 0, 1, 0, 0, 0), some (.iconst 0, 1, 0, 0, 0), some (.putfield 172, 3, 12, 0, 0), none, none, some (.aload_n 0, 1, 0, 0, 0), some (.iload_n 1, 1, 0, 0, 0), some (.iconst 0, 1, 0, 0, 0), some (.aload_n 0, 1, 0, 0, 0), some (.getfield 233, 3, 12, 22, 0), none, none, some (.iconst 1, 1, 0, 0, 0), some (.isub, 1, 0, 0, 0), some (.invokestatic 209, 3, 188, 1, 0), none], [none, some (.ifCond .ne 7, 3, 1, 0, 0), none, none, some (.iconst 1, 1, 0, 0, 0), some (.goto 4, 3, 0, 0, 0), none, none, some (.iconst 0, 1, 0, 0, 0), some (.iconst 1, 1, 0, 0, 0), some (.invokevirtual 229, 3, 187, 0, 0), none, none, some (.ifCond .eq 5, 3, 0, 0, 0), none, none], [some (.iconst 0, 1, 0, 0, 0), some (.ireturn, 1, 0, 0, 0), some (.iload_n 2, 1, 0, 0, 0), some (.iconst 0, 1, 0, 0, 0), some (.aload_n 0, 1, 0, 0, 0), some (.getfield 35, 3, 12, 23, 0), none, none, some (.iload_n 1, 1, 0, 0, 0), some (.iaload, 1, 0, 0, 0), some (.iconst 1, 1, 0, 0, 0), some (.isub, 1, 0, 0, 0), some (.invokestatic 209, 3, 188, 1, 0), none, none, some (.ifCond .eq 14, 3, 0, 0, 0)], [none, none, some (.aload_n 0, 1, 0, 0, 0), some (.getfield 49, 3, 12, 28, 0), none, none, some (.iload_n 1, 1, 0, 0, 0), some (.aaload, 1, 0, 0, 0), some (.iload_n 2, 1, 0, 0, 0), some (.iaload, 1, 0, 0, 0), some (.goto 4, 3, 0, 0, 0), none, none, some (.iconst (-1), 1, 0, 0, 0), some (.ireturn, 1, 0, 0, 0)]]]
def cd_X12_flow : List (List (List (Option ARow))) := [[[some (.aload_n 0, 1, 0, 0, 0), some (.iconst 0, 1, 0, 0, 0), some (.putfield 172, 3, 12, 0, 0), none, none, some (.aload_n 0, 1, 0, 0, 0), some (.iload_n 1, 1, 0, 0, 0), some (.iconst 0, 1, 0, 0, 0), some (.aload_n 0, 1, 0, 0, 0), some (.getfield 233, 3, 12, 22, 0), none, none, some (.iconst 1, 1, 0, 0, 0), some (.isub, 1, 0, 0, 0), some (.invokestatic 209, 3, 188, 1, 0), none], [none, some (.ifCond .ne 7, 3, 1, 0, 0), none, none, some (.iconst 1, 1, 0, 0, 0), some (.goto 4, 3, 0, 0, 0), none, none, some (.iconst 0, 1, 0, 0, 0), some (.iconst 1, 1, 0, 0, 0), some (.invokevirtual 229, 3, 187, 0, 0), none, none, some (.ifCond .ne 52, 3, 1, 0, 0), none, none], [some (.aload_n 0, 1, 0, 0, 0), some (.iload_n 2, 1, 0, 0, 0), some (.iconst 0, 1, 0, 0, 0), some (.bipush 23, 2, 0, 0, 23), none, some (.invokestatic 209, 3, 188, 1, 0), none, none, some (.ifCond .eq 29, 3, 0, 0, 0), none, none, some (.iload_n 3, 1, 0, 0, 0), some (.iconst 0, 1, 0, 0, 0), some (.bipush 23, 2, 0, 0, 23), none, some (.invokestatic 209, 3, 188, 1, 0)], [none, none, some (.ifCond .eq 19, 3, 0, 0, 0), none, none, some (.iload_n 2, 1, 0, 0, 0), some (.iload_n 3, 1, 0, 0, 0), some (.if_icmp .gt 14, 3, 4, 0, 0), none, none, some (.iload 4, 2, 0, 0, 0), none, some (.iconst 0, 1, 0, 0, 0), some (.bipush 50, 2, 0, 0, 50), none, some (.invokestatic 209, 3, 188, 1, 0)], [none, none, some (.ifCond .ne 7, 3, 1, 0, 0), none, none, some (.iconst 1, 1, 0, 0, 0), some (.goto 4, 3, 0, 0, 0), none, none, some (.iconst 0, 1, 0, 0, 0), some (.iconst 2, 1, 0, 0, 0), some (.invokevirtual 229, 3, 187, 0, 0), none, none, some (.ifCond .eq 4, 3, 0, 0, 0), none], [none, some (.return_, 1, 0, 0, 0), some (.iload_n 2, 1, 0, 0, 0), some (.istore 5, 2, 0, 0, 0), none, some (.iload 5, 2, 0, 0, 0), none, some (.iload_n 3, 1, 0, 0, 0), some (.if_icmp .gt 20, 3, 4, 0, 0), none, none, some (.aload_n 0, 1, 0, 0, 0), some (.getfield 55, 3, 12, 30, 0), none, none, some (.iload_n 1, 1, 0, 0, 0)], [some (.aaload, 1, 0, 0, 0), some (.iload 5, 2, 0, 0, 0), none, some (.iload 4, 2, 0, 0, 0), none, some (.iastore, 1, 0, 0, 0), some (.iinc 5 1, 3, 0, 0, 0), none, none, some (.goto (-20), 3, 0, 0, 0), none, none, some (.return_, 1, 0, 0, 0)]]]
def cd_X12_span : List (List (List (Option ARow))) := [[[some (.aload_n 0, 1, 0, 0, 0), some (.iconst 0, 1, 0, 0, 0), some (.putfield 172, 3, 12, 0, 0), none, none, some (.aload_n 0, 1, 0, 0, 0), some (.iload_n 1, 1, 0, 0, 0), some (.iconst 0, 1, 0, 0, 0), some (.aload_n 0, 1, 0, 0, 0), some (.getfield 233, 3, 12, 22, 0), none, none, some (.iconst 1, 1, 0, 0, 0), some (.isub, 1, 0, 0, 0), some (.invokestatic 209, 3, 188, 1, 0), none], [none, some (.ifCond .ne 7, 3, 1, 0, 0), none, none, some (.iconst 1, 1, 0, 0, 0), some (.goto 4, 3, 0, 0, 0), none, none, some (.iconst 0, 1, 0, 0, 0), some (.iconst 1, 1, 0, 0, 0), some (.invokevirtual 229, 3, 187, 0, 0), none, none, some (.ifCond .ne 34, 3, 1, 0, 0), none, none], [some (.aload_n 0, 1, 0, 0, 0), some (.iload_n 2, 1, 0, 0, 0), some (.iconst 0, 1, 0, 0, 0), some (.iconst 2, 1, 0, 0, 0), some (.invokestatic 209, 3, 188, 1, 0), none, none, some (.ifCond .eq 12, 3, 0, 0, 0), none, none, some (.iload_n 3, 1, 0, 0, 0), some (.iconst 0, 1, 0, 0, 0), some (.iconst 2, 1, 0, 0, 0), some (.invokestatic 209, 3, 188, 1, 0), none, none], [some (.ifCond .ne 7, 3, 1, 0, 0), none, none, some (.iconst 1, 1, 0, 0, 0), some (.goto 4, 3, 0, 0, 0), none, none, some (.iconst 0, 1, 0, 0, 0), some (.iconst 2, 1, 0, 0, 0), some (.invokevirtual 229, 3, 187, 0, 0), none, none, some (.ifCond .eq 4, 3, 0, 0, 0), none, none, some (.return_, 1, 0, 0, 0)], [some (.aload_n 0, 1, 0, 0, 0), some (.getfield 38, 3, 12, 24, 0), none, none, some (.iload_n 1, 1, 0, 0, 0), some (.iload_n 2, 1, 0, 0, 0), some (.iastore, 1, 0, 0, 0), some (.aload_n 0, 1, 0, 0, 0), some (.getfield 41, 3, 12, 25, 0), none, none, some (.iload_n 1, 1, 0, 0, 0), some (.iload_n 3, 1, 0, 0, 0), some (.iastore, 1, 0, 0, 0), some (.return_, 1, 0, 0, 0)]]]
def cd_X12_mostOf : List (List (List (Option ARow))) := [[[some (.iconst 0, 1, 0, 0, 0), some (.istore_n 3, 1, 0, 0, 0), some (.iload_n 2, 1, 0, 0, 0), some (.aload_n 0, 1, 0, 0, 0), some (.getfield 41, 3, 12, 25, 0), none, none, some (.iload_n 1, 1, 0, 0, 0), some (.iaload, 1, 0, 0, 0), some (.isub, 1, 0, 0, 0), some (.istore 4, 2, 0, 0, 0), none, some (.iload 4, 2, 0, 0, 0), none, some (.iload_n 2, 1, 0, 0, 0), some (.aload_n 0, 1, 0, 0, 0)], [some (.getfield 38, 3, 12, 24, 0), none, none, some (.iload_n 1, 1, 0, 0, 0), some (.iaload, 1, 0, 0, 0), some (.iadd, 1, 0, 0, 0), some (.if_icmp .gt 43, 3, 4, 0, 0), none, none, some (.iload 4, 2, 0, 0, 0), none, some (.iconst 0, 1, 0, 0, 0), some (.bipush 23, 2, 0, 0, 23), none, some (.invokestatic 209, 3, 188, 1, 0), none], [none, some (.ifCond .eq 26, 3, 0, 0, 0), none, none, some (.aload_n 0, 1, 0, 0, 0), some (.getfield 55, 3, 12, 30, 0), none, none, some (.iload_n 1, 1, 0, 0, 0), some (.aaload, 1, 0, 0, 0), some (.iload 4, 2, 0, 0, 0), none, some (.iaload, 1, 0, 0, 0), some (.iload_n 3, 1, 0, 0, 0), some (.if_icmp .le 13, 3, 5, 0, 0), none], [none, some (.aload_n 0, 1, 0, 0, 0), some (.getfield 55, 3, 12, 30, 0), none, none, some (.iload_n 1, 1, 0, 0, 0), some (.aaload, 1, 0, 0, 0), some (.iload 4, 2, 0, 0, 0), none, some (.iaload, 1, 0, 0, 0), some (.istore_n 3, 1, 0, 0, 0), some (.iinc 4 1, 3, 0, 0, 0), none, none, some (.goto (-50), 3, 0, 0, 0), none], [none, some (.iload_n 3, 1, 0, 0, 0), some (.ireturn, 1, 0, 0, 0)]]]
def cd_X12_most : List (List (List (Option ARow))) := [[[some (.aload_n 0, 1, 0, 0, 0), some (.iconst 0, 1, 0, 0, 0), some (.putfield 172, 3, 12, 0, 0), none, none, some (.aload_n 0, 1, 0, 0, 0), some (.iload_n 1, 1, 0, 0, 0), some (.iconst 0, 1, 0, 0, 0), some (.aload_n 0, 1, 0, 0, 0), some (.getfield 233, 3, 12, 22, 0), none, none, some (.iconst 1, 1, 0, 0, 0), some (.isub, 1, 0, 0, 0), some (.invokestatic 209, 3, 188, 1, 0), none], [none, some (.ifCond .ne 7, 3, 1, 0, 0), none, none, some (.iconst 1, 1, 0, 0, 0), some (.goto 4, 3, 0, 0, 0), none, none, some (.iconst 0, 1, 0, 0, 0), some (.iconst 1, 1, 0, 0, 0), some (.invokevirtual 229, 3, 187, 0, 0), none, none, some (.ifCond .ne 26, 3, 1, 0, 0), none, none], [some (.aload_n 0, 1, 0, 0, 0), some (.iload_n 2, 1, 0, 0, 0), some (.iconst 0, 1, 0, 0, 0), some (.bipush 23, 2, 0, 0, 23), none, some (.invokestatic 209, 3, 188, 1, 0), none, none, some (.ifCond .ne 7, 3, 1, 0, 0), none, none, some (.iconst 1, 1, 0, 0, 0), some (.goto 4, 3, 0, 0, 0), none, none, some (.iconst 0, 1, 0, 0, 0)], [some (.iconst 2, 1, 0, 0, 0), some (.invokevirtual 229, 3, 187, 0, 0), none, none, some (.ifCond .eq 5, 3, 0, 0, 0), none, none, some (.iconst 0, 1, 0, 0, 0), some (.ireturn, 1, 0, 0, 0), some (.aload_n 0, 1, 0, 0, 0), some (.iload_n 1, 1, 0, 0, 0), some (.iload_n 2, 1, 0, 0, 0), some (.invokevirtual 303, 3, 220, 0, 0), none, none, some (.ireturn, 1, 0, 0, 0)]]]
def cd_X12_asTold : List (List (List (Option ARow))) := [[[some (.aload_n 0, 1, 0, 0, 0), some (.invokevirtual 306, 3, 223, 0, 0), none, none, some (.aload_n 0, 1, 0, 0, 0), some (.iload_n 1, 1, 0, 0, 0), some (.invokevirtual 309, 3, 224, 0, 0), none, none, some (.return_, 1, 0, 0, 0)]]]
def cd_X12_waysAsTold : List (List (List (Option ARow))) := [[[some (.iconst 0, 1, 0, 0, 0), some (.istore_n 1, 1, 0, 0, 0), some (.iload_n 1, 1, 0, 0, 0), some (.aload_n 0, 1, 0, 0, 0), some (.getfield 233, 3, 12, 22, 0), none, none, some (.if_icmp .ge 86, 3, 3, 0, 0), none, none, some (.aload_n 0, 1, 0, 0, 0), some (.getfield 58, 3, 12, 31, 0), none, none, some (.iload_n 1, 1, 0, 0, 0), some (.aload_n 0, 1, 0, 0, 0)], [some (.getfield 35, 3, 12, 23, 0), none, none, some (.iload_n 1, 1, 0, 0, 0), some (.iaload, 1, 0, 0, 0), some (.iastore, 1, 0, 0, 0), some (.iconst 0, 1, 0, 0, 0), some (.istore_n 2, 1, 0, 0, 0), some (.iload_n 2, 1, 0, 0, 0), some (.aload_n 0, 1, 0, 0, 0), some (.getfield 35, 3, 12, 23, 0), none, none, some (.iload_n 1, 1, 0, 0, 0), some (.iaload, 1, 0, 0, 0), some (.if_icmp .ge 25, 3, 3, 0, 0)], [none, none, some (.aload_n 0, 1, 0, 0, 0), some (.getfield 64, 3, 12, 33, 0), none, none, some (.iload_n 1, 1, 0, 0, 0), some (.aaload, 1, 0, 0, 0), some (.iload_n 2, 1, 0, 0, 0), some (.aload_n 0, 1, 0, 0, 0), some (.getfield 49, 3, 12, 28, 0), none, none, some (.iload_n 1, 1, 0, 0, 0), some (.aaload, 1, 0, 0, 0), some (.iload_n 2, 1, 0, 0, 0)], [some (.iaload, 1, 0, 0, 0), some (.iastore, 1, 0, 0, 0), some (.iinc 2 1, 3, 0, 0, 0), none, none, some (.goto (-29), 3, 0, 0, 0), none, none, some (.iconst 0, 1, 0, 0, 0), some (.istore_n 2, 1, 0, 0, 0), some (.iload_n 2, 1, 0, 0, 0), some (.sipush 128, 3, 0, 0, 128), none, none, some (.if_icmp .ge 25, 3, 3, 0, 0), none], [none, some (.aload_n 0, 1, 0, 0, 0), some (.getfield 67, 3, 12, 34, 0), none, none, some (.iload_n 1, 1, 0, 0, 0), some (.aaload, 1, 0, 0, 0), some (.iload_n 2, 1, 0, 0, 0), some (.aload_n 0, 1, 0, 0, 0), some (.getfield 52, 3, 12, 29, 0), none, none, some (.iload_n 1, 1, 0, 0, 0), some (.aaload, 1, 0, 0, 0), some (.iload_n 2, 1, 0, 0, 0), some (.iaload, 1, 0, 0, 0)], [some (.iastore, 1, 0, 0, 0), some (.iinc 2 1, 3, 0, 0, 0), none, none, some (.goto (-26), 3, 0, 0, 0), none, none, some (.iinc 1 1, 3, 0, 0, 0), none, none, some (.goto (-88), 3, 0, 0, 0), none, none, some (.return_, 1, 0, 0, 0)]]]
def cd_X12_numbersIn : List (List (List (Option ARow))) := [[[some (.iconst 0, 1, 0, 0, 0), some (.istore_n 2, 1, 0, 0, 0), some (.iload_n 2, 1, 0, 0, 0), some (.aload_n 0, 1, 0, 0, 0), some (.getfield 233, 3, 12, 22, 0), none, none, some (.if_icmp .ge 21, 3, 3, 0, 0), none, none, some (.aload_n 0, 1, 0, 0, 0), some (.getfield 61, 3, 12, 32, 0), none, none, some (.iload_n 2, 1, 0, 0, 0), some (.aload_n 0, 1, 0, 0, 0)], [some (.iload_n 2, 1, 0, 0, 0), some (.iload_n 1, 1, 0, 0, 0), some (.invokevirtual 303, 3, 220, 0, 0), none, none, some (.iastore, 1, 0, 0, 0), some (.iinc 2 1, 3, 0, 0, 0), none, none, some (.goto (-23), 3, 0, 0, 0), none, none, some (.return_, 1, 0, 0, 0)]]]
def cd_X12_stepOf : List (List (List (Option ARow))) := [[[some (.iload_n 1, 1, 0, 0, 0), some (.iload_n 0, 1, 0, 0, 0), some (.isub, 1, 0, 0, 0), some (.iconst 1, 1, 0, 0, 0), some (.if_icmp .ne 7, 3, 1, 0, 0), none, none, some (.iconst 0, 1, 0, 0, 0), some (.goto 51, 3, 0, 0, 0), none, none, some (.iload_n 1, 1, 0, 0, 0), some (.iload_n 0, 1, 0, 0, 0), some (.isub, 1, 0, 0, 0), some (.iconst (-1), 1, 0, 0, 0), some (.if_icmp .ne 7, 3, 1, 0, 0)], [none, none, some (.iconst 1, 1, 0, 0, 0), some (.goto 40, 3, 0, 0, 0), none, none, some (.iload_n 1, 1, 0, 0, 0), some (.iload_n 0, 1, 0, 0, 0), some (.isub, 1, 0, 0, 0), some (.bipush 8, 2, 0, 0, 8), none, some (.if_icmp .ne 7, 3, 1, 0, 0), none, none, some (.iconst 2, 1, 0, 0, 0), some (.goto 28, 3, 0, 0, 0)], [none, none, some (.iload_n 1, 1, 0, 0, 0), some (.iload_n 0, 1, 0, 0, 0), some (.isub, 1, 0, 0, 0), some (.bipush (-8), 2, 0, 0, (-8)), none, some (.if_icmp .ne 7, 3, 1, 0, 0), none, none, some (.iconst 3, 1, 0, 0, 0), some (.goto 16, 3, 0, 0, 0), none, none, some (.iload_n 1, 1, 0, 0, 0), some (.iload_n 0, 1, 0, 0, 0)], [some (.isub, 1, 0, 0, 0), some (.bipush 64, 2, 0, 0, 64), none, some (.if_icmp .ne 7, 3, 1, 0, 0), none, none, some (.iconst 4, 1, 0, 0, 0), some (.goto 4, 3, 0, 0, 0), none, none, some (.iconst 5, 1, 0, 0, 0), some (.ireturn, 1, 0, 0, 0)]]]
def cd_X12_goes : List (List (List (Option ARow))) := [[[some (.aload_n 0, 1, 0, 0, 0), some (.getfield 58, 3, 12, 31, 0), none, none, some (.iload_n 1, 1, 0, 0, 0), some (.iaload, 1, 0, 0, 0), some (.iconst 1, 1, 0, 0, 0), some (.if_icmp .ne 8, 3, 1, 0, 0), none, none, some (.bipush 6, 2, 0, 0, 6), none, some (.goto 60, 3, 0, 0, 0), none, none, some (.iload_n 2, 1, 0, 0, 0)], [some (.aload_n 0, 1, 0, 0, 0), some (.getfield 58, 3, 12, 31, 0), none, none, some (.iload_n 1, 1, 0, 0, 0), some (.iaload, 1, 0, 0, 0), some (.iconst 1, 1, 0, 0, 0), some (.isub, 1, 0, 0, 0), some (.if_icmp .ne 27, 3, 1, 0, 0), none, none, some (.aload_n 0, 1, 0, 0, 0), some (.getfield 64, 3, 12, 33, 0), none, none, some (.iload_n 1, 1, 0, 0, 0)], [some (.aaload, 1, 0, 0, 0), some (.iload_n 2, 1, 0, 0, 0), some (.iconst 1, 1, 0, 0, 0), some (.isub, 1, 0, 0, 0), some (.iaload, 1, 0, 0, 0), some (.aload_n 0, 1, 0, 0, 0), some (.getfield 64, 3, 12, 33, 0), none, none, some (.iload_n 1, 1, 0, 0, 0), some (.aaload, 1, 0, 0, 0), some (.iload_n 2, 1, 0, 0, 0), some (.iaload, 1, 0, 0, 0), some (.invokestatic 312, 3, 225, 1, 0), none, none], [some (.goto 24, 3, 0, 0, 0), none, none, some (.aload_n 0, 1, 0, 0, 0), some (.getfield 64, 3, 12, 33, 0), none, none, some (.iload_n 1, 1, 0, 0, 0), some (.aaload, 1, 0, 0, 0), some (.iload_n 2, 1, 0, 0, 0), some (.iaload, 1, 0, 0, 0), some (.aload_n 0, 1, 0, 0, 0), some (.getfield 64, 3, 12, 33, 0), none, none, some (.iload_n 1, 1, 0, 0, 0)], [some (.aaload, 1, 0, 0, 0), some (.iload_n 2, 1, 0, 0, 0), some (.iconst 1, 1, 0, 0, 0), some (.iadd, 1, 0, 0, 0), some (.iaload, 1, 0, 0, 0), some (.invokestatic 312, 3, 225, 1, 0), none, none, some (.ireturn, 1, 0, 0, 0)]]]
def cd_X12_listen : List (List (List (Option ARow))) := [[[some (.iconst 0, 1, 0, 0, 0), some (.istore_n 1, 1, 0, 0, 0), some (.iload_n 1, 1, 0, 0, 0), some (.bipush 7, 2, 0, 0, 7), none, some (.if_icmp .ge 16, 3, 3, 0, 0), none, none, some (.aload_n 0, 1, 0, 0, 0), some (.getfield 32, 3, 12, 21, 0), none, none, some (.iload_n 1, 1, 0, 0, 0), some (.iconst 0, 1, 0, 0, 0), some (.iastore, 1, 0, 0, 0), some (.iinc 1 1, 3, 0, 0, 0)], [none, none, some (.goto (-16), 3, 0, 0, 0), none, none, some (.iconst 0, 1, 0, 0, 0), some (.istore_n 1, 1, 0, 0, 0), some (.iload_n 1, 1, 0, 0, 0), some (.aload_n 0, 1, 0, 0, 0), some (.getfield 233, 3, 12, 22, 0), none, none, some (.if_icmp .ge 285, 3, 3, 0, 0), none, none, some (.iconst 0, 1, 0, 0, 0)], [some (.istore_n 2, 1, 0, 0, 0), some (.iconst 0, 1, 0, 0, 0), some (.istore_n 3, 1, 0, 0, 0), some (.iload_n 3, 1, 0, 0, 0), some (.aload_n 0, 1, 0, 0, 0), some (.getfield 58, 3, 12, 31, 0), none, none, some (.iload_n 1, 1, 0, 0, 0), some (.iaload, 1, 0, 0, 0), some (.if_icmp .ge 242, 3, 3, 0, 0), none, none, some (.aload_n 0, 1, 0, 0, 0), some (.getfield 64, 3, 12, 33, 0), none], [none, some (.iload_n 1, 1, 0, 0, 0), some (.aaload, 1, 0, 0, 0), some (.iload_n 3, 1, 0, 0, 0), some (.iaload, 1, 0, 0, 0), some (.istore 4, 2, 0, 0, 0), none, some (.iload_n 2, 1, 0, 0, 0), some (.ifCond .ne 13, 3, 1, 0, 0), none, none, some (.aload_n 0, 1, 0, 0, 0), some (.getfield 76, 3, 12, 37, 0), none, none, some (.iload 4, 2, 0, 0, 0)], [none, some (.baload, 1, 0, 0, 0), some (.ifCond .eq 7, 3, 0, 0, 0), none, none, some (.iconst 1, 1, 0, 0, 0), some (.goto 4, 3, 0, 0, 0), none, none, some (.iconst 0, 1, 0, 0, 0), some (.istore_n 2, 1, 0, 0, 0), some (.iload_n 3, 1, 0, 0, 0), some (.ifCond .le 96, 3, 5, 0, 0), none, none, some (.aload_n 0, 1, 0, 0, 0)], [some (.getfield 76, 3, 12, 37, 0), none, none, some (.aload_n 0, 1, 0, 0, 0), some (.getfield 64, 3, 12, 33, 0), none, none, some (.iload_n 1, 1, 0, 0, 0), some (.aaload, 1, 0, 0, 0), some (.iload_n 3, 1, 0, 0, 0), some (.iconst 1, 1, 0, 0, 0), some (.isub, 1, 0, 0, 0), some (.iaload, 1, 0, 0, 0), some (.baload, 1, 0, 0, 0), some (.istore 5, 2, 0, 0, 0), none], [some (.iload 5, 2, 0, 0, 0), none, some (.aload_n 0, 1, 0, 0, 0), some (.getfield 76, 3, 12, 37, 0), none, none, some (.iload 4, 2, 0, 0, 0), none, some (.baload, 1, 0, 0, 0), some (.if_icmp .eq 18, 3, 0, 0, 0), none, none, some (.aload_n 0, 1, 0, 0, 0), some (.getfield 32, 3, 12, 21, 0), none, none], [some (.iconst 2, 1, 0, 0, 0), some (.dup2, 1, 0, 0, 0), some (.iaload, 1, 0, 0, 0), some (.aload_n 0, 1, 0, 0, 0), some (.getfield 61, 3, 12, 32, 0), none, none, some (.iload_n 1, 1, 0, 0, 0), some (.iaload, 1, 0, 0, 0), some (.iadd, 1, 0, 0, 0), some (.iastore, 1, 0, 0, 0), some (.iload 5, 2, 0, 0, 0), none, some (.ifCond .eq 47, 3, 0, 0, 0), none, none], [some (.aload_n 0, 1, 0, 0, 0), some (.getfield 76, 3, 12, 37, 0), none, none, some (.iload 4, 2, 0, 0, 0), none, some (.baload, 1, 0, 0, 0), some (.ifCond .eq 37, 3, 0, 0, 0), none, none, some (.aload_n 0, 1, 0, 0, 0), some (.getfield 64, 3, 12, 33, 0), none, none, some (.iload_n 1, 1, 0, 0, 0), some (.aaload, 1, 0, 0, 0)], [some (.iload_n 3, 1, 0, 0, 0), some (.iconst 1, 1, 0, 0, 0), some (.isub, 1, 0, 0, 0), some (.iaload, 1, 0, 0, 0), some (.iload 4, 2, 0, 0, 0), none, some (.invokestatic 312, 3, 225, 1, 0), none, none, some (.iconst 3, 1, 0, 0, 0), some (.if_icmp .le 18, 3, 5, 0, 0), none, none, some (.aload_n 0, 1, 0, 0, 0), some (.getfield 32, 3, 12, 21, 0), none], [none, some (.iconst 3, 1, 0, 0, 0), some (.dup2, 1, 0, 0, 0), some (.iaload, 1, 0, 0, 0), some (.aload_n 0, 1, 0, 0, 0), some (.getfield 61, 3, 12, 32, 0), none, none, some (.iload_n 1, 1, 0, 0, 0), some (.iaload, 1, 0, 0, 0), some (.iadd, 1, 0, 0, 0), some (.iastore, 1, 0, 0, 0), some (.iload_n 1, 1, 0, 0, 0), some (.iconst 1, 1, 0, 0, 0), some (.iadd, 1, 0, 0, 0), some (.istore 5, 2, 0, 0, 0)], [none, some (.iload 5, 2, 0, 0, 0), none, some (.aload_n 0, 1, 0, 0, 0), some (.getfield 233, 3, 12, 22, 0), none, none, some (.if_icmp .ge 95, 3, 3, 0, 0), none, none, some (.aload_n 0, 1, 0, 0, 0), some (.getfield 76, 3, 12, 37, 0), none, none, some (.iload 4, 2, 0, 0, 0), none], [some (.baload, 1, 0, 0, 0), some (.ifCond .eq 85, 3, 0, 0, 0), none, none, some (.aload_n 0, 1, 0, 0, 0), some (.getfield 67, 3, 12, 34, 0), none, none, some (.iload 5, 2, 0, 0, 0), none, some (.aaload, 1, 0, 0, 0), some (.iload 4, 2, 0, 0, 0), none, some (.iaload, 1, 0, 0, 0), some (.istore 6, 2, 0, 0, 0), none], [some (.iload 6, 2, 0, 0, 0), none, some (.iconst (-1), 1, 0, 0, 0), some (.if_icmp .eq 61, 3, 0, 0, 0), none, none, some (.aload_n 0, 1, 0, 0, 0), some (.iload_n 1, 1, 0, 0, 0), some (.iload_n 3, 1, 0, 0, 0), some (.invokevirtual 315, 3, 226, 0, 0), none, none, some (.aload_n 0, 1, 0, 0, 0), some (.iload 5, 2, 0, 0, 0), none, some (.iload 6, 2, 0, 0, 0)], [none, some (.invokevirtual 315, 3, 226, 0, 0), none, none, some (.if_icmp .eq 44, 3, 0, 0, 0), none, none, some (.aload_n 0, 1, 0, 0, 0), some (.getfield 32, 3, 12, 21, 0), none, none, some (.iconst 1, 1, 0, 0, 0), some (.dup2, 1, 0, 0, 0), some (.iaload, 1, 0, 0, 0), some (.aload_n 0, 1, 0, 0, 0), some (.getfield 61, 3, 12, 32, 0)], [none, none, some (.iload_n 1, 1, 0, 0, 0), some (.iaload, 1, 0, 0, 0), some (.aload_n 0, 1, 0, 0, 0), some (.getfield 61, 3, 12, 32, 0), none, none, some (.iload 5, 2, 0, 0, 0), none, some (.iaload, 1, 0, 0, 0), some (.if_icmp .ge 12, 3, 3, 0, 0), none, none, some (.aload_n 0, 1, 0, 0, 0), some (.getfield 61, 3, 12, 32, 0)]], [[none, none, some (.iload_n 1, 1, 0, 0, 0), some (.iaload, 1, 0, 0, 0), some (.goto 10, 3, 0, 0, 0), none, none, some (.aload_n 0, 1, 0, 0, 0), some (.getfield 61, 3, 12, 32, 0), none, none, some (.iload 5, 2, 0, 0, 0), none, some (.iaload, 1, 0, 0, 0), some (.iadd, 1, 0, 0, 0), some (.iastore, 1, 0, 0, 0)], [some (.iinc 5 1, 3, 0, 0, 0), none, none, some (.goto (-98), 3, 0, 0, 0), none, none, some (.iinc 3 1, 3, 0, 0, 0), none, none, some (.goto (-246), 3, 0, 0, 0), none, none, some (.aload_n 0, 1, 0, 0, 0), some (.getfield 32, 3, 12, 21, 0), none, none], [some (.iconst 0, 1, 0, 0, 0), some (.dup2, 1, 0, 0, 0), some (.iaload, 1, 0, 0, 0), some (.iload_n 2, 1, 0, 0, 0), some (.ifCond .eq 12, 3, 0, 0, 0), none, none, some (.aload_n 0, 1, 0, 0, 0), some (.getfield 61, 3, 12, 32, 0), none, none, some (.iload_n 1, 1, 0, 0, 0), some (.iaload, 1, 0, 0, 0), some (.goto 4, 3, 0, 0, 0), none, none], [some (.iconst 0, 1, 0, 0, 0), some (.iadd, 1, 0, 0, 0), some (.iastore, 1, 0, 0, 0), some (.iinc 1 1, 3, 0, 0, 0), none, none, some (.goto (-287), 3, 0, 0, 0), none, none, some (.iconst 0, 1, 0, 0, 0), some (.istore_n 1, 1, 0, 0, 0), some (.iload_n 1, 1, 0, 0, 0), some (.sipush 128, 3, 0, 0, 128), none, none, some (.if_icmp .ge 51, 3, 3, 0, 0)], [none, none, some (.aload_n 0, 1, 0, 0, 0), some (.getfield 76, 3, 12, 37, 0), none, none, some (.iload_n 1, 1, 0, 0, 0), some (.baload, 1, 0, 0, 0), some (.ifCond .ne 6, 3, 1, 0, 0), none, none, some (.goto 33, 3, 0, 0, 0), none, none, some (.aload_n 0, 1, 0, 0, 0), some (.getfield 32, 3, 12, 21, 0)], [none, none, some (.iconst 4, 1, 0, 0, 0), some (.dup2, 1, 0, 0, 0), some (.iaload, 1, 0, 0, 0), some (.iconst 1, 1, 0, 0, 0), some (.iadd, 1, 0, 0, 0), some (.iastore, 1, 0, 0, 0), some (.aload_n 0, 1, 0, 0, 0), some (.getfield 32, 3, 12, 21, 0), none, none, some (.iconst 5, 1, 0, 0, 0), some (.dup2, 1, 0, 0, 0), some (.iaload, 1, 0, 0, 0), some (.iload_n 1, 1, 0, 0, 0)], [some (.bipush 64, 2, 0, 0, 64), none, some (.if_icmp .ge 7, 3, 3, 0, 0), none, none, some (.iconst 1, 1, 0, 0, 0), some (.goto 4, 3, 0, 0, 0), none, none, some (.iconst 0, 1, 0, 0, 0), some (.iadd, 1, 0, 0, 0), some (.iastore, 1, 0, 0, 0), some (.iinc 1 1, 3, 0, 0, 0), none, none, some (.goto (-52), 3, 0, 0, 0)], [none, none, some (.aload_n 0, 1, 0, 0, 0), some (.getfield 32, 3, 12, 21, 0), none, none, some (.bipush 6, 2, 0, 0, 6), none, some (.aload_n 0, 1, 0, 0, 0), some (.getfield 26, 3, 12, 19, 0), none, none, some (.iastore, 1, 0, 0, 0), some (.return_, 1, 0, 0, 0)]]]
def cd_X12_load : List (List (List (Option ARow))) := [[[some (.aload_n 0, 1, 0, 0, 0), some (.invokevirtual 318, 3, 227, 0, 0), none, none, some (.aload_n 0, 1, 0, 0, 0), some (.getfield 20, 3, 12, 14, 0), none, none, some (.iconst (-1), 1, 0, 0, 0), some (.if_icmp .ne 26, 3, 1, 0, 0), none, none, some (.aload_n 0, 1, 0, 0, 0), some (.getfield 32, 3, 12, 21, 0), none, none], [some (.iconst 0, 1, 0, 0, 0), some (.iaload, 1, 0, 0, 0), some (.iconst 2, 1, 0, 0, 0), some (.aload_n 0, 1, 0, 0, 0), some (.getfield 32, 3, 12, 21, 0), none, none, some (.iconst 1, 1, 0, 0, 0), some (.iaload, 1, 0, 0, 0), some (.imul, 1, 0, 0, 0), some (.iadd, 1, 0, 0, 0), some (.aload_n 0, 1, 0, 0, 0), some (.getfield 32, 3, 12, 21, 0), none, none, some (.iconst 2, 1, 0, 0, 0)], [some (.iaload, 1, 0, 0, 0), some (.iadd, 1, 0, 0, 0), some (.ireturn, 1, 0, 0, 0), some (.aload_n 0, 1, 0, 0, 0), some (.aload_n 0, 1, 0, 0, 0), some (.getfield 20, 3, 12, 14, 0), none, none, some (.invokevirtual 321, 3, 216, 0, 0), none, none, some (.aload_n 0, 1, 0, 0, 0), some (.invokevirtual 260, 3, 209, 0, 0), none, none, some (.ireturn, 1, 0, 0, 0)]]]
def cd_X12_joinsHold : List (List (List (Option ARow))) := [[[some (.iconst 1, 1, 0, 0, 0), some (.istore_n 1, 1, 0, 0, 0), some (.iconst 0, 1, 0, 0, 0), some (.istore_n 2, 1, 0, 0, 0), some (.iload_n 2, 1, 0, 0, 0), some (.aload_n 0, 1, 0, 0, 0), some (.getfield 300, 3, 12, 13, 0), none, none, some (.if_icmp .ge 36, 3, 3, 0, 0), none, none, some (.aload_n 0, 1, 0, 0, 0), some (.aload_n 0, 1, 0, 0, 0), some (.getfield 23, 3, 12, 15, 0), none], [none, some (.iload_n 2, 1, 0, 0, 0), some (.iaload, 1, 0, 0, 0), some (.invokevirtual 321, 3, 216, 0, 0), none, none, some (.aload_n 0, 1, 0, 0, 0), some (.invokevirtual 276, 3, 212, 0, 0), none, none, some (.ifCond .eq 11, 3, 0, 0, 0), none, none, some (.iload_n 1, 1, 0, 0, 0), some (.ifCond .eq 7, 3, 0, 0, 0), none], [none, some (.iconst 1, 1, 0, 0, 0), some (.goto 4, 3, 0, 0, 0), none, none, some (.iconst 0, 1, 0, 0, 0), some (.istore_n 1, 1, 0, 0, 0), some (.iinc 2 1, 3, 0, 0, 0), none, none, some (.goto (-38), 3, 0, 0, 0), none, none, some (.iload_n 1, 1, 0, 0, 0), some (.ireturn, 1, 0, 0, 0)]]]
def cd_X12_setOf : List (List (List (Option ARow))) := [[[some (.iconst 0, 1, 0, 0, 0), some (.istore_n 2, 1, 0, 0, 0), some (.iload_n 2, 1, 0, 0, 0), some (.sipush 128, 3, 0, 0, 128), none, none, some (.if_icmp .ge 30, 3, 3, 0, 0), none, none, some (.aload_n 0, 1, 0, 0, 0), some (.getfield 76, 3, 12, 37, 0), none, none, some (.iload_n 2, 1, 0, 0, 0), some (.aload_n 0, 1, 0, 0, 0), some (.getfield 70, 3, 12, 35, 0)], [none, none, some (.iload_n 2, 1, 0, 0, 0), some (.iaload, 1, 0, 0, 0), some (.iload_n 1, 1, 0, 0, 0), some (.if_icmp .ne 7, 3, 1, 0, 0), none, none, some (.iconst 1, 1, 0, 0, 0), some (.goto 4, 3, 0, 0, 0), none, none, some (.iconst 0, 1, 0, 0, 0), some (.bastore, 1, 0, 0, 0), some (.iinc 2 1, 3, 0, 0, 0), none], [none, some (.goto (-31), 3, 0, 0, 0), none, none, some (.return_, 1, 0, 0, 0)]]]
def cd_X12_peakOfSet : List (List (List (Option ARow))) := [[[some (.iconst 0, 1, 0, 0, 0), some (.istore_n 1, 1, 0, 0, 0), some (.aload_n 0, 1, 0, 0, 0), some (.invokevirtual 306, 3, 223, 0, 0), none, none, some (.iconst 0, 1, 0, 0, 0), some (.istore_n 2, 1, 0, 0, 0), some (.iload_n 2, 1, 0, 0, 0), some (.bipush 24, 2, 0, 0, 24), none, some (.if_icmp .ge 34, 3, 3, 0, 0), none, none, some (.aload_n 0, 1, 0, 0, 0), some (.iload_n 2, 1, 0, 0, 0)], [some (.invokevirtual 309, 3, 224, 0, 0), none, none, some (.aload_n 0, 1, 0, 0, 0), some (.invokevirtual 324, 3, 228, 0, 0), none, none, some (.istore_n 3, 1, 0, 0, 0), some (.iload_n 2, 1, 0, 0, 0), some (.ifCond .eq 8, 3, 0, 0, 0), none, none, some (.iload_n 3, 1, 0, 0, 0), some (.iload_n 1, 1, 0, 0, 0), some (.if_icmp .le 7, 3, 5, 0, 0), none], [none, some (.iload_n 3, 1, 0, 0, 0), some (.goto 4, 3, 0, 0, 0), none, none, some (.iload_n 1, 1, 0, 0, 0), some (.istore_n 1, 1, 0, 0, 0), some (.iinc 2 1, 3, 0, 0, 0), none, none, some (.goto (-34), 3, 0, 0, 0), none, none, some (.iload_n 1, 1, 0, 0, 0), some (.ireturn, 1, 0, 0, 0)]]]
def cd_X12_peakOfPiece : List (List (List (Option ARow))) := [[[some (.aload_n 0, 1, 0, 0, 0), some (.iload_n 1, 1, 0, 0, 0), some (.invokevirtual 327, 3, 230, 0, 0), none, none, some (.aload_n 0, 1, 0, 0, 0), some (.invokevirtual 330, 3, 231, 0, 0), none, none, some (.ireturn, 1, 0, 0, 0)]]]
def cd_X12_hasCells : List (List (List (Option ARow))) := [[[some (.iconst 0, 1, 0, 0, 0), some (.istore_n 2, 1, 0, 0, 0), some (.iload_n 2, 1, 0, 0, 0), some (.sipush 128, 3, 0, 0, 128), none, none, some (.if_icmp .ge 21, 3, 3, 0, 0), none, none, some (.aload_n 0, 1, 0, 0, 0), some (.getfield 70, 3, 12, 35, 0), none, none, some (.iload_n 2, 1, 0, 0, 0), some (.iaload, 1, 0, 0, 0), some (.iload_n 1, 1, 0, 0, 0)], [some (.if_icmp .ne 5, 3, 1, 0, 0), none, none, some (.iconst 1, 1, 0, 0, 0), some (.ireturn, 1, 0, 0, 0), some (.iinc 2 1, 3, 0, 0, 0), none, none, some (.goto (-22), 3, 0, 0, 0), none, none, some (.iconst 0, 1, 0, 0, 0), some (.ireturn, 1, 0, 0, 0)]]]
def cd_X12_assign : List (List (List (Option ARow))) := [[[some (.aload_n 0, 1, 0, 0, 0), some (.iconst 0, 1, 0, 0, 0), some (.putfield 172, 3, 12, 0, 0), none, none, some (.aload_n 0, 1, 0, 0, 0), some (.iload_n 1, 1, 0, 0, 0), some (.iconst 0, 1, 0, 0, 0), some (.bipush 127, 2, 0, 0, 127), none, some (.invokestatic 209, 3, 188, 1, 0), none, none, some (.ifCond .ne 7, 3, 1, 0, 0), none, none], [some (.iconst 1, 1, 0, 0, 0), some (.goto 4, 3, 0, 0, 0), none, none, some (.iconst 0, 1, 0, 0, 0), some (.iconst 1, 1, 0, 0, 0), some (.invokevirtual 229, 3, 187, 0, 0), none, none, some (.ifCond .ne 26, 3, 1, 0, 0), none, none, some (.aload_n 0, 1, 0, 0, 0), some (.iload_n 2, 1, 0, 0, 0), some (.iconst (-1), 1, 0, 0, 0), some (.bipush 7, 2, 0, 0, 7)], [none, some (.invokestatic 209, 3, 188, 1, 0), none, none, some (.ifCond .ne 7, 3, 1, 0, 0), none, none, some (.iconst 1, 1, 0, 0, 0), some (.goto 4, 3, 0, 0, 0), none, none, some (.iconst 0, 1, 0, 0, 0), some (.iconst 2, 1, 0, 0, 0), some (.invokevirtual 229, 3, 187, 0, 0), none, none], [some (.ifCond .eq 5, 3, 0, 0, 0), none, none, some (.iconst 0, 1, 0, 0, 0), some (.ireturn, 1, 0, 0, 0), some (.aload_n 0, 1, 0, 0, 0), some (.getfield 70, 3, 12, 35, 0), none, none, some (.iload_n 1, 1, 0, 0, 0), some (.iaload, 1, 0, 0, 0), some (.istore_n 3, 1, 0, 0, 0), some (.aload_n 0, 1, 0, 0, 0), some (.getfield 70, 3, 12, 35, 0), none, none], [some (.iload_n 1, 1, 0, 0, 0), some (.iload_n 2, 1, 0, 0, 0), some (.iastore, 1, 0, 0, 0), some (.iload_n 3, 1, 0, 0, 0), some (.ireturn, 1, 0, 0, 0)]]]
def cd_X12_paint : List (List (List (Option ARow))) := [[[some (.aload_n 0, 1, 0, 0, 0), some (.iconst 0, 1, 0, 0, 0), some (.putfield 172, 3, 12, 0, 0), none, none, some (.aload_n 0, 1, 0, 0, 0), some (.iload_n 1, 1, 0, 0, 0), some (.iconst 0, 1, 0, 0, 0), some (.bipush 127, 2, 0, 0, 127), none, some (.invokestatic 209, 3, 188, 1, 0), none, none, some (.ifCond .eq 13, 3, 0, 0, 0), none, none], [some (.iload_n 2, 1, 0, 0, 0), some (.iconst 0, 1, 0, 0, 0), some (.bipush 127, 2, 0, 0, 127), none, some (.invokestatic 209, 3, 188, 1, 0), none, none, some (.ifCond .ne 7, 3, 1, 0, 0), none, none, some (.iconst 1, 1, 0, 0, 0), some (.goto 4, 3, 0, 0, 0), none, none, some (.iconst 0, 1, 0, 0, 0), some (.iconst 1, 1, 0, 0, 0)], [some (.invokevirtual 229, 3, 187, 0, 0), none, none, some (.ifCond .ne 65, 3, 1, 0, 0), none, none, some (.aload_n 0, 1, 0, 0, 0), some (.iload_n 3, 1, 0, 0, 0), some (.iconst (-1), 1, 0, 0, 0), some (.bipush 7, 2, 0, 0, 7), none, some (.invokestatic 209, 3, 188, 1, 0), none, none, some (.ifCond .eq 42, 3, 0, 0, 0), none], [none, some (.iload_n 1, 1, 0, 0, 0), some (.bipush 64, 2, 0, 0, 64), none, some (.idiv, 1, 0, 0, 0), some (.iload_n 2, 1, 0, 0, 0), some (.bipush 64, 2, 0, 0, 64), none, some (.idiv, 1, 0, 0, 0), some (.if_icmp .ne 31, 3, 1, 0, 0), none, none, some (.iload_n 1, 1, 0, 0, 0), some (.bipush 8, 2, 0, 0, 8), none, some (.irem, 1, 0, 0, 0)], [some (.iload_n 2, 1, 0, 0, 0), some (.bipush 8, 2, 0, 0, 8), none, some (.irem, 1, 0, 0, 0), some (.if_icmp .gt 20, 3, 4, 0, 0), none, none, some (.iload_n 1, 1, 0, 0, 0), some (.bipush 8, 2, 0, 0, 8), none, some (.idiv, 1, 0, 0, 0), some (.bipush 8, 2, 0, 0, 8), none, some (.irem, 1, 0, 0, 0), some (.iload_n 2, 1, 0, 0, 0), some (.bipush 8, 2, 0, 0, 8)], [none, some (.idiv, 1, 0, 0, 0), some (.bipush 8, 2, 0, 0, 8), none, some (.irem, 1, 0, 0, 0), some (.if_icmp .le 7, 3, 5, 0, 0), none, none, some (.iconst 1, 1, 0, 0, 0), some (.goto 4, 3, 0, 0, 0), none, none, some (.iconst 0, 1, 0, 0, 0), some (.iconst 2, 1, 0, 0, 0), some (.invokevirtual 229, 3, 187, 0, 0), none], [none, some (.ifCond .eq 5, 3, 0, 0, 0), none, none, some (.iconst 0, 1, 0, 0, 0), some (.ireturn, 1, 0, 0, 0), some (.iconst 0, 1, 0, 0, 0), some (.istore 4, 2, 0, 0, 0), none, some (.bipush 64, 2, 0, 0, 64), none, some (.iload_n 1, 1, 0, 0, 0), some (.bipush 64, 2, 0, 0, 64), none, some (.idiv, 1, 0, 0, 0), some (.imul, 1, 0, 0, 0)], [some (.istore 5, 2, 0, 0, 0), none, some (.iload 5, 2, 0, 0, 0), none, some (.bipush 64, 2, 0, 0, 64), none, some (.iload_n 1, 1, 0, 0, 0), some (.bipush 64, 2, 0, 0, 64), none, some (.idiv, 1, 0, 0, 0), some (.imul, 1, 0, 0, 0), some (.bipush 64, 2, 0, 0, 64), none, some (.iadd, 1, 0, 0, 0), some (.if_icmp .ge 88, 3, 3, 0, 0), none], [none, some (.iload 5, 2, 0, 0, 0), none, some (.bipush 8, 2, 0, 0, 8), none, some (.irem, 1, 0, 0, 0), some (.iload_n 1, 1, 0, 0, 0), some (.bipush 8, 2, 0, 0, 8), none, some (.irem, 1, 0, 0, 0), some (.iload_n 2, 1, 0, 0, 0), some (.bipush 8, 2, 0, 0, 8), none, some (.irem, 1, 0, 0, 0), some (.invokestatic 209, 3, 188, 1, 0), none], [none, some (.ifCond .eq 63, 3, 0, 0, 0), none, none, some (.iload 5, 2, 0, 0, 0), none, some (.bipush 8, 2, 0, 0, 8), none, some (.idiv, 1, 0, 0, 0), some (.bipush 8, 2, 0, 0, 8), none, some (.irem, 1, 0, 0, 0), some (.iload_n 1, 1, 0, 0, 0), some (.bipush 8, 2, 0, 0, 8), none, some (.idiv, 1, 0, 0, 0)], [some (.bipush 8, 2, 0, 0, 8), none, some (.irem, 1, 0, 0, 0), some (.iload_n 2, 1, 0, 0, 0), some (.bipush 8, 2, 0, 0, 8), none, some (.idiv, 1, 0, 0, 0), some (.bipush 8, 2, 0, 0, 8), none, some (.irem, 1, 0, 0, 0), some (.invokestatic 209, 3, 188, 1, 0), none, none, some (.ifCond .ne 6, 3, 1, 0, 0), none, none], [some (.goto 32, 3, 0, 0, 0), none, none, some (.iload 4, 2, 0, 0, 0), none, some (.aload_n 0, 1, 0, 0, 0), some (.getfield 70, 3, 12, 35, 0), none, none, some (.iload 5, 2, 0, 0, 0), none, some (.iaload, 1, 0, 0, 0), some (.iload_n 3, 1, 0, 0, 0), some (.if_icmp .ne 7, 3, 1, 0, 0), none, none], [some (.iconst 0, 1, 0, 0, 0), some (.goto 4, 3, 0, 0, 0), none, none, some (.iconst 1, 1, 0, 0, 0), some (.iadd, 1, 0, 0, 0), some (.istore 4, 2, 0, 0, 0), none, some (.aload_n 0, 1, 0, 0, 0), some (.getfield 70, 3, 12, 35, 0), none, none, some (.iload 5, 2, 0, 0, 0), none, some (.iload_n 3, 1, 0, 0, 0), some (.iastore, 1, 0, 0, 0)], [some (.iinc 5 1, 3, 0, 0, 0), none, none, some (.goto (-97), 3, 0, 0, 0), none, none, some (.iload 4, 2, 0, 0, 0), none, some (.ireturn, 1, 0, 0, 0)]]]
def cd_X12_limit : List (List (List (Option ARow))) := [[[some (.aload_n 0, 1, 0, 0, 0), some (.iconst 0, 1, 0, 0, 0), some (.putfield 172, 3, 12, 0, 0), none, none, some (.aload_n 0, 1, 0, 0, 0), some (.iload_n 1, 1, 0, 0, 0), some (.iconst 0, 1, 0, 0, 0), some (.bipush 7, 2, 0, 0, 7), none, some (.invokestatic 209, 3, 188, 1, 0), none, none, some (.ifCond .eq 14, 3, 0, 0, 0), none, none], [some (.iload_n 2, 1, 0, 0, 0), some (.iconst 0, 1, 0, 0, 0), some (.sipush 9999, 3, 0, 0, 9999), none, none, some (.invokestatic 209, 3, 188, 1, 0), none, none, some (.ifCond .ne 7, 3, 1, 0, 0), none, none, some (.iconst 1, 1, 0, 0, 0), some (.goto 4, 3, 0, 0, 0), none, none, some (.iconst 0, 1, 0, 0, 0)], [some (.iconst 1, 1, 0, 0, 0), some (.invokevirtual 229, 3, 187, 0, 0), none, none, some (.ifCond .eq 5, 3, 0, 0, 0), none, none, some (.iconst 0, 1, 0, 0, 0), some (.ireturn, 1, 0, 0, 0), some (.aload_n 0, 1, 0, 0, 0), some (.getfield 73, 3, 12, 36, 0), none, none, some (.iload_n 1, 1, 0, 0, 0), some (.iaload, 1, 0, 0, 0), some (.istore_n 3, 1, 0, 0, 0)], [some (.aload_n 0, 1, 0, 0, 0), some (.getfield 73, 3, 12, 36, 0), none, none, some (.iload_n 1, 1, 0, 0, 0), some (.iload_n 2, 1, 0, 0, 0), some (.iastore, 1, 0, 0, 0), some (.iload_n 3, 1, 0, 0, 0), some (.ireturn, 1, 0, 0, 0)]]]
def cd_X12_hears : List (List (List (Option ARow))) := [[[some (.aload_n 0, 1, 0, 0, 0), some (.iconst 0, 1, 0, 0, 0), some (.putfield 172, 3, 12, 0, 0), none, none, some (.aload_n 0, 1, 0, 0, 0), some (.iload_n 1, 1, 0, 0, 0), some (.iconst 0, 1, 0, 0, 0), some (.bipush 7, 2, 0, 0, 7), none, some (.invokestatic 209, 3, 188, 1, 0), none, none, some (.ifCond .eq 22, 3, 0, 0, 0), none, none], [some (.iload_n 2, 1, 0, 0, 0), some (.iconst 0, 1, 0, 0, 0), some (.bipush 23, 2, 0, 0, 23), none, some (.invokestatic 209, 3, 188, 1, 0), none, none, some (.ifCond .eq 12, 3, 0, 0, 0), none, none, some (.iload_n 3, 1, 0, 0, 0), some (.iconst 0, 1, 0, 0, 0), some (.iconst 4, 1, 0, 0, 0), some (.invokestatic 209, 3, 188, 1, 0), none, none], [some (.ifCond .ne 7, 3, 1, 0, 0), none, none, some (.iconst 1, 1, 0, 0, 0), some (.goto 4, 3, 0, 0, 0), none, none, some (.iconst 0, 1, 0, 0, 0), some (.iconst 1, 1, 0, 0, 0), some (.invokevirtual 229, 3, 187, 0, 0), none, none, some (.ifCond .eq 5, 3, 0, 0, 0), none, none, some (.iconst 0, 1, 0, 0, 0)], [some (.ireturn, 1, 0, 0, 0), some (.aload_n 0, 1, 0, 0, 0), some (.iload_n 1, 1, 0, 0, 0), some (.invokevirtual 327, 3, 230, 0, 0), none, none, some (.aload_n 0, 1, 0, 0, 0), some (.iload_n 2, 1, 0, 0, 0), some (.invokevirtual 333, 3, 222, 0, 0), none, none, some (.aload_n 0, 1, 0, 0, 0), some (.invokevirtual 324, 3, 228, 0, 0), none, none, some (.istore 4, 2, 0, 0, 0)], [none, some (.iload_n 3, 1, 0, 0, 0), some (.iconst 4, 1, 0, 0, 0), some (.if_icmp .ne 8, 3, 1, 0, 0), none, none, some (.iload 4, 2, 0, 0, 0), none, some (.goto 9, 3, 0, 0, 0), none, none, some (.aload_n 0, 1, 0, 0, 0), some (.getfield 32, 3, 12, 21, 0), none, none, some (.iload_n 3, 1, 0, 0, 0)], [some (.iaload, 1, 0, 0, 0), some (.ireturn, 1, 0, 0, 0)]]]
def cd_X12_peak : List (List (List (Option ARow))) := [[[some (.aload_n 0, 1, 0, 0, 0), some (.iconst 0, 1, 0, 0, 0), some (.putfield 172, 3, 12, 0, 0), none, none, some (.aload_n 0, 1, 0, 0, 0), some (.iload_n 1, 1, 0, 0, 0), some (.iconst 0, 1, 0, 0, 0), some (.bipush 7, 2, 0, 0, 7), none, some (.invokestatic 209, 3, 188, 1, 0), none, none, some (.ifCond .eq 12, 3, 0, 0, 0), none, none], [some (.iload_n 2, 1, 0, 0, 0), some (.iconst 0, 1, 0, 0, 0), some (.iconst 1, 1, 0, 0, 0), some (.invokestatic 209, 3, 188, 1, 0), none, none, some (.ifCond .ne 7, 3, 1, 0, 0), none, none, some (.iconst 1, 1, 0, 0, 0), some (.goto 4, 3, 0, 0, 0), none, none, some (.iconst 0, 1, 0, 0, 0), some (.iconst 1, 1, 0, 0, 0), some (.invokevirtual 229, 3, 187, 0, 0)], [none, none, some (.ifCond .eq 5, 3, 0, 0, 0), none, none, some (.iconst 0, 1, 0, 0, 0), some (.ireturn, 1, 0, 0, 0), some (.aload_n 0, 1, 0, 0, 0), some (.iload_n 1, 1, 0, 0, 0), some (.invokevirtual 336, 3, 232, 0, 0), none, none, some (.istore_n 3, 1, 0, 0, 0), some (.iconst 0, 1, 0, 0, 0), some (.istore 4, 2, 0, 0, 0), none], [some (.iload 4, 2, 0, 0, 0), none, some (.bipush 24, 2, 0, 0, 24), none, some (.if_icmp .ge 31, 3, 3, 0, 0), none, none, some (.iload_n 2, 1, 0, 0, 0), some (.iconst 1, 1, 0, 0, 0), some (.if_icmp .ne 26, 3, 1, 0, 0), none, none, some (.aload_n 0, 1, 0, 0, 0), some (.iload 4, 2, 0, 0, 0), none, some (.invokevirtual 333, 3, 222, 0, 0)], [none, none, some (.aload_n 0, 1, 0, 0, 0), some (.invokevirtual 324, 3, 228, 0, 0), none, none, some (.iload_n 3, 1, 0, 0, 0), some (.if_icmp .ne 6, 3, 1, 0, 0), none, none, some (.iload 4, 2, 0, 0, 0), none, some (.ireturn, 1, 0, 0, 0), some (.iinc 4 1, 3, 0, 0, 0), none, none], [some (.goto (-32), 3, 0, 0, 0), none, none, some (.iload_n 3, 1, 0, 0, 0), some (.ireturn, 1, 0, 0, 0)]]]
def cd_X12_hangs : List (List (List (Option ARow))) := [[[some (.iconst 0, 1, 0, 0, 0), some (.istore_n 1, 1, 0, 0, 0), some (.iconst 0, 1, 0, 0, 0), some (.istore_n 2, 1, 0, 0, 0), some (.iconst (-1), 1, 0, 0, 0), some (.istore_n 3, 1, 0, 0, 0), some (.bipush 127, 2, 0, 0, 127), none, some (.istore 4, 2, 0, 0, 0), none, some (.iload 4, 2, 0, 0, 0), none, some (.ifCond .lt 52, 3, 2, 0, 0), none, none, some (.aload_n 0, 1, 0, 0, 0)], [some (.getfield 80, 3, 12, 38, 0), none, none, some (.iload 4, 2, 0, 0, 0), none, some (.iconst 0, 1, 0, 0, 0), some (.bastore, 1, 0, 0, 0), some (.iload_n 2, 1, 0, 0, 0), some (.aload_n 0, 1, 0, 0, 0), some (.getfield 76, 3, 12, 37, 0), none, none, some (.iload 4, 2, 0, 0, 0), none, some (.baload, 1, 0, 0, 0), some (.ifCond .eq 7, 3, 0, 0, 0)], [none, none, some (.iconst 1, 1, 0, 0, 0), some (.goto 4, 3, 0, 0, 0), none, none, some (.iconst 0, 1, 0, 0, 0), some (.iadd, 1, 0, 0, 0), some (.istore_n 2, 1, 0, 0, 0), some (.aload_n 0, 1, 0, 0, 0), some (.getfield 76, 3, 12, 37, 0), none, none, some (.iload 4, 2, 0, 0, 0), none, some (.baload, 1, 0, 0, 0)], [some (.ifCond .eq 8, 3, 0, 0, 0), none, none, some (.iload 4, 2, 0, 0, 0), none, some (.goto 4, 3, 0, 0, 0), none, none, some (.iload_n 3, 1, 0, 0, 0), some (.istore_n 3, 1, 0, 0, 0), some (.iinc 4 (-1), 3, 0, 0, 0), none, none, some (.goto (-51), 3, 0, 0, 0), none, none], [some (.iload_n 3, 1, 0, 0, 0), some (.iconst (-1), 1, 0, 0, 0), some (.if_icmp .ne 5, 3, 1, 0, 0), none, none, some (.iconst 1, 1, 0, 0, 0), some (.ireturn, 1, 0, 0, 0), some (.aload_n 0, 1, 0, 0, 0), some (.getfield 83, 3, 12, 39, 0), none, none, some (.iconst 0, 1, 0, 0, 0), some (.iload_n 3, 1, 0, 0, 0), some (.iastore, 1, 0, 0, 0), some (.aload_n 0, 1, 0, 0, 0), some (.getfield 80, 3, 12, 38, 0)], [none, none, some (.iload_n 3, 1, 0, 0, 0), some (.iconst 1, 1, 0, 0, 0), some (.bastore, 1, 0, 0, 0), some (.iconst 1, 1, 0, 0, 0), some (.istore_n 1, 1, 0, 0, 0), some (.iconst 0, 1, 0, 0, 0), some (.istore 4, 2, 0, 0, 0), none, some (.iload 4, 2, 0, 0, 0), none, some (.iload_n 1, 1, 0, 0, 0), some (.if_icmp .ge 87, 3, 3, 0, 0), none, none], [some (.iconst 0, 1, 0, 0, 0), some (.istore 5, 2, 0, 0, 0), none, some (.iload 5, 2, 0, 0, 0), none, some (.bipush 6, 2, 0, 0, 6), none, some (.if_icmp .ge 71, 3, 3, 0, 0), none, none, some (.aload_n 0, 1, 0, 0, 0), some (.getfield 83, 3, 12, 39, 0), none, none, some (.iload 4, 2, 0, 0, 0), none], [some (.iaload, 1, 0, 0, 0), some (.iload 5, 2, 0, 0, 0), none, some (.invokestatic 223, 3, 190, 1, 0), none, none, some (.istore 6, 2, 0, 0, 0), none, some (.iload 6, 2, 0, 0, 0), none, some (.iconst (-1), 1, 0, 0, 0), some (.if_icmp .eq 45, 3, 0, 0, 0), none, none, some (.aload_n 0, 1, 0, 0, 0), some (.getfield 76, 3, 12, 37, 0)], [none, none, some (.iload 6, 2, 0, 0, 0), none, some (.baload, 1, 0, 0, 0), some (.ifCond .eq 35, 3, 0, 0, 0), none, none, some (.aload_n 0, 1, 0, 0, 0), some (.getfield 80, 3, 12, 38, 0), none, none, some (.iload 6, 2, 0, 0, 0), none, some (.baload, 1, 0, 0, 0), some (.ifCond .eq 6, 3, 0, 0, 0)], [none, none, some (.goto 22, 3, 0, 0, 0), none, none, some (.aload_n 0, 1, 0, 0, 0), some (.getfield 80, 3, 12, 38, 0), none, none, some (.iload 6, 2, 0, 0, 0), none, some (.iconst 1, 1, 0, 0, 0), some (.bastore, 1, 0, 0, 0), some (.aload_n 0, 1, 0, 0, 0), some (.getfield 83, 3, 12, 39, 0), none], [none, some (.iload_n 1, 1, 0, 0, 0), some (.iload 6, 2, 0, 0, 0), none, some (.iastore, 1, 0, 0, 0), some (.iinc 1 1, 3, 0, 0, 0), none, none, some (.iinc 5 1, 3, 0, 0, 0), none, none, some (.goto (-72), 3, 0, 0, 0), none, none, some (.iinc 4 1, 3, 0, 0, 0), none], [none, some (.goto (-87), 3, 0, 0, 0), none, none, some (.iload_n 1, 1, 0, 0, 0), some (.iload_n 2, 1, 0, 0, 0), some (.if_icmp .ne 7, 3, 1, 0, 0), none, none, some (.iconst 1, 1, 0, 0, 0), some (.goto 4, 3, 0, 0, 0), none, none, some (.iconst 0, 1, 0, 0, 0), some (.ireturn, 1, 0, 0, 0)]]]
def cd_X12_isWhole : List (List (List (Option ARow))) := [[[some (.aload_n 0, 1, 0, 0, 0), some (.iload_n 1, 1, 0, 0, 0), some (.invokevirtual 327, 3, 230, 0, 0), none, none, some (.aload_n 0, 1, 0, 0, 0), some (.invokevirtual 339, 3, 239, 0, 0), none, none, some (.ireturn, 1, 0, 0, 0)]]]
def cd_X12_whole : List (List (List (Option ARow))) := [[[some (.aload_n 0, 1, 0, 0, 0), some (.iconst 0, 1, 0, 0, 0), some (.putfield 172, 3, 12, 0, 0), none, none, some (.aload_n 0, 1, 0, 0, 0), some (.iload_n 1, 1, 0, 0, 0), some (.iconst 0, 1, 0, 0, 0), some (.bipush 7, 2, 0, 0, 7), none, some (.invokestatic 209, 3, 188, 1, 0), none, none, some (.ifCond .ne 7, 3, 1, 0, 0), none, none], [some (.iconst 1, 1, 0, 0, 0), some (.goto 4, 3, 0, 0, 0), none, none, some (.iconst 0, 1, 0, 0, 0), some (.iconst 1, 1, 0, 0, 0), some (.invokevirtual 229, 3, 187, 0, 0), none, none, some (.ifCond .eq 5, 3, 0, 0, 0), none, none, some (.iconst 0, 1, 0, 0, 0), some (.ireturn, 1, 0, 0, 0), some (.aload_n 0, 1, 0, 0, 0), some (.iload_n 1, 1, 0, 0, 0)], [some (.invokevirtual 342, 3, 240, 0, 0), none, none, some (.ireturn, 1, 0, 0, 0)]]]
def cd_X12_neck : List (List (List (Option ARow))) := [[[some (.aload_n 0, 1, 0, 0, 0), some (.iconst 0, 1, 0, 0, 0), some (.putfield 172, 3, 12, 0, 0), none, none, some (.aload_n 0, 1, 0, 0, 0), some (.iload_n 1, 1, 0, 0, 0), some (.iconst 0, 1, 0, 0, 0), some (.bipush 7, 2, 0, 0, 7), none, some (.invokestatic 209, 3, 188, 1, 0), none, none, some (.ifCond .ne 7, 3, 1, 0, 0), none, none], [some (.iconst 1, 1, 0, 0, 0), some (.goto 4, 3, 0, 0, 0), none, none, some (.iconst 0, 1, 0, 0, 0), some (.iconst 1, 1, 0, 0, 0), some (.invokevirtual 229, 3, 187, 0, 0), none, none, some (.ifCond .eq 5, 3, 0, 0, 0), none, none, some (.iconst 0, 1, 0, 0, 0), some (.ireturn, 1, 0, 0, 0), some (.aload_n 0, 1, 0, 0, 0), some (.iload_n 1, 1, 0, 0, 0)], [some (.invokevirtual 342, 3, 240, 0, 0), none, none, some (.ifCond .ne 5, 3, 1, 0, 0), none, none, some (.iconst (-1), 1, 0, 0, 0), some (.ireturn, 1, 0, 0, 0), some (.iconst 0, 1, 0, 0, 0), some (.istore_n 3, 1, 0, 0, 0), some (.iconst 0, 1, 0, 0, 0), some (.istore 4, 2, 0, 0, 0), none, some (.iload 4, 2, 0, 0, 0), none, some (.sipush 128, 3, 0, 0, 128)], [none, none, some (.if_icmp .ge 71, 3, 3, 0, 0), none, none, some (.aload_n 0, 1, 0, 0, 0), some (.getfield 76, 3, 12, 37, 0), none, none, some (.iload 4, 2, 0, 0, 0), none, some (.baload, 1, 0, 0, 0), some (.ifCond .ne 6, 3, 1, 0, 0), none, none, some (.goto 52, 3, 0, 0, 0)], [none, none, some (.aload_n 0, 1, 0, 0, 0), some (.getfield 76, 3, 12, 37, 0), none, none, some (.iload 4, 2, 0, 0, 0), none, some (.iconst 0, 1, 0, 0, 0), some (.bastore, 1, 0, 0, 0), some (.aload_n 0, 1, 0, 0, 0), some (.invokevirtual 339, 3, 239, 0, 0), none, none, some (.ifCond .ne 7, 3, 1, 0, 0), none], [none, some (.iconst 1, 1, 0, 0, 0), some (.goto 4, 3, 0, 0, 0), none, none, some (.iconst 0, 1, 0, 0, 0), some (.istore 5, 2, 0, 0, 0), none, some (.aload_n 0, 1, 0, 0, 0), some (.getfield 76, 3, 12, 37, 0), none, none, some (.iload 4, 2, 0, 0, 0), none, some (.iconst 1, 1, 0, 0, 0), some (.bastore, 1, 0, 0, 0)], [some (.iload 5, 2, 0, 0, 0), none, some (.ifCond .ne 6, 3, 1, 0, 0), none, none, some (.goto 14, 3, 0, 0, 0), none, none, some (.iload_n 3, 1, 0, 0, 0), some (.iload_n 2, 1, 0, 0, 0), some (.if_icmp .ne 6, 3, 1, 0, 0), none, none, some (.iload 4, 2, 0, 0, 0), none, some (.ireturn, 1, 0, 0, 0)], [some (.iinc 3 1, 3, 0, 0, 0), none, none, some (.iinc 4 1, 3, 0, 0, 0), none, none, some (.goto (-73), 3, 0, 0, 0), none, none, some (.iconst (-1), 1, 0, 0, 0), some (.ireturn, 1, 0, 0, 0)]]]
def cd_X12_shorts : List (List (List (Option ARow))) := [[[some (.aload_n 0, 1, 0, 0, 0), some (.iconst 0, 1, 0, 0, 0), some (.putfield 172, 3, 12, 0, 0), none, none, some (.aload_n 0, 1, 0, 0, 0), some (.iload_n 1, 1, 0, 0, 0), some (.iconst 0, 1, 0, 0, 0), some (.bipush 7, 2, 0, 0, 7), none, some (.invokestatic 209, 3, 188, 1, 0), none, none, some (.ifCond .ne 7, 3, 1, 0, 0), none, none], [some (.iconst 1, 1, 0, 0, 0), some (.goto 4, 3, 0, 0, 0), none, none, some (.iconst 0, 1, 0, 0, 0), some (.iconst 1, 1, 0, 0, 0), some (.invokevirtual 229, 3, 187, 0, 0), none, none, some (.ifCond .eq 5, 3, 0, 0, 0), none, none, some (.iconst 0, 1, 0, 0, 0), some (.ireturn, 1, 0, 0, 0), some (.iconst 0, 1, 0, 0, 0), some (.istore_n 2, 1, 0, 0, 0)], [some (.iconst 0, 1, 0, 0, 0), some (.istore_n 3, 1, 0, 0, 0), some (.iload_n 3, 1, 0, 0, 0), some (.aload_n 0, 1, 0, 0, 0), some (.getfield 233, 3, 12, 22, 0), none, none, some (.if_icmp .ge 108, 3, 3, 0, 0), none, none, some (.iconst 0, 1, 0, 0, 0), some (.istore 4, 2, 0, 0, 0), none, some (.iconst 0, 1, 0, 0, 0), some (.istore 5, 2, 0, 0, 0), none], [some (.iload 5, 2, 0, 0, 0), none, some (.aload_n 0, 1, 0, 0, 0), some (.getfield 35, 3, 12, 23, 0), none, none, some (.iload_n 3, 1, 0, 0, 0), some (.iaload, 1, 0, 0, 0), some (.if_icmp .gt 85, 3, 4, 0, 0), none, none, some (.iload 5, 2, 0, 0, 0), none, some (.aload_n 0, 1, 0, 0, 0), some (.getfield 35, 3, 12, 23, 0), none], [none, some (.iload_n 3, 1, 0, 0, 0), some (.iaload, 1, 0, 0, 0), some (.if_icmp .ge 25, 3, 3, 0, 0), none, none, some (.aload_n 0, 1, 0, 0, 0), some (.getfield 70, 3, 12, 35, 0), none, none, some (.aload_n 0, 1, 0, 0, 0), some (.getfield 49, 3, 12, 28, 0), none, none, some (.iload_n 3, 1, 0, 0, 0), some (.aaload, 1, 0, 0, 0)], [some (.iload 5, 2, 0, 0, 0), none, some (.iaload, 1, 0, 0, 0), some (.iaload, 1, 0, 0, 0), some (.iload_n 1, 1, 0, 0, 0), some (.if_icmp .ne 7, 3, 1, 0, 0), none, none, some (.iconst 1, 1, 0, 0, 0), some (.goto 4, 3, 0, 0, 0), none, none, some (.iconst 0, 1, 0, 0, 0), some (.istore 6, 2, 0, 0, 0), none, some (.iload 6, 2, 0, 0, 0)], [none, some (.ifCond .ne 23, 3, 1, 0, 0), none, none, some (.iload 4, 2, 0, 0, 0), none, some (.ifCond .le 18, 3, 5, 0, 0), none, none, some (.iload 4, 2, 0, 0, 0), none, some (.aload_n 0, 1, 0, 0, 0), some (.getfield 345, 3, 12, 44, 0), none, none, some (.if_icmp .ge 9, 3, 3, 0, 0)], [none, none, some (.iload_n 2, 1, 0, 0, 0), some (.iconst 1, 1, 0, 0, 0), some (.iload_n 3, 1, 0, 0, 0), some (.ishl, 1, 0, 0, 0), some (.ior, 1, 0, 0, 0), some (.istore_n 2, 1, 0, 0, 0), some (.iload 6, 2, 0, 0, 0), none, some (.ifCond .eq 10, 3, 0, 0, 0), none, none, some (.iload 4, 2, 0, 0, 0), none, some (.iconst 1, 1, 0, 0, 0)], [some (.iadd, 1, 0, 0, 0), some (.goto 4, 3, 0, 0, 0), none, none, some (.iconst 0, 1, 0, 0, 0), some (.istore 4, 2, 0, 0, 0), none, some (.iinc 5 1, 3, 0, 0, 0), none, none, some (.goto (-90), 3, 0, 0, 0), none, none, some (.iinc 3 1, 3, 0, 0, 0), none, none], [some (.goto (-110), 3, 0, 0, 0), none, none, some (.iload_n 2, 1, 0, 0, 0), some (.ireturn, 1, 0, 0, 0)]]]
def cd_X12_length : List (List (List (Option ARow))) := [[[some (.aload_n 0, 1, 0, 0, 0), some (.iconst 0, 1, 0, 0, 0), some (.putfield 172, 3, 12, 0, 0), none, none, some (.aload_n 0, 1, 0, 0, 0), some (.iload_n 1, 1, 0, 0, 0), some (.iconst 0, 1, 0, 0, 0), some (.bipush 9, 2, 0, 0, 9), none, some (.invokestatic 209, 3, 188, 1, 0), none, none, some (.ifCond .ne 7, 3, 1, 0, 0), none, none], [some (.iconst 1, 1, 0, 0, 0), some (.goto 4, 3, 0, 0, 0), none, none, some (.iconst 0, 1, 0, 0, 0), some (.iconst 1, 1, 0, 0, 0), some (.invokevirtual 229, 3, 187, 0, 0), none, none, some (.ifCond .eq 5, 3, 0, 0, 0), none, none, some (.iconst 0, 1, 0, 0, 0), some (.ireturn, 1, 0, 0, 0), some (.aload_n 0, 1, 0, 0, 0), some (.getfield 345, 3, 12, 44, 0)], [none, none, some (.istore_n 2, 1, 0, 0, 0), some (.aload_n 0, 1, 0, 0, 0), some (.iload_n 1, 1, 0, 0, 0), some (.putfield 345, 3, 12, 44, 0), none, none, some (.iload_n 2, 1, 0, 0, 0), some (.ireturn, 1, 0, 0, 0)]]]
def cd_X12_isCrossing : List (List (List (Option ARow))) := [[[some (.aload_n 0, 1, 0, 0, 0), some (.iconst 0, 1, 0, 0, 0), some (.invokevirtual 333, 3, 222, 0, 0), none, none, some (.iconst 0, 1, 0, 0, 0), some (.istore_n 2, 1, 0, 0, 0), some (.iload_n 2, 1, 0, 0, 0), some (.aload_n 0, 1, 0, 0, 0), some (.getfield 233, 3, 12, 22, 0), none, none, some (.if_icmp .ge 82, 3, 3, 0, 0), none, none, some (.iload_n 2, 1, 0, 0, 0)], [some (.iconst 1, 1, 0, 0, 0), some (.iadd, 1, 0, 0, 0), some (.istore_n 3, 1, 0, 0, 0), some (.iload_n 3, 1, 0, 0, 0), some (.aload_n 0, 1, 0, 0, 0), some (.getfield 233, 3, 12, 22, 0), none, none, some (.if_icmp .ge 64, 3, 3, 0, 0), none, none, some (.aload_n 0, 1, 0, 0, 0), some (.getfield 52, 3, 12, 29, 0), none, none, some (.iload_n 2, 1, 0, 0, 0)], [some (.aaload, 1, 0, 0, 0), some (.iload_n 1, 1, 0, 0, 0), some (.iaload, 1, 0, 0, 0), some (.iconst (-1), 1, 0, 0, 0), some (.if_icmp .eq 46, 3, 0, 0, 0), none, none, some (.aload_n 0, 1, 0, 0, 0), some (.getfield 52, 3, 12, 29, 0), none, none, some (.iload_n 3, 1, 0, 0, 0), some (.aaload, 1, 0, 0, 0), some (.iload_n 1, 1, 0, 0, 0), some (.iaload, 1, 0, 0, 0), some (.iconst (-1), 1, 0, 0, 0)], [some (.if_icmp .eq 34, 3, 0, 0, 0), none, none, some (.aload_n 0, 1, 0, 0, 0), some (.iload_n 2, 1, 0, 0, 0), some (.aload_n 0, 1, 0, 0, 0), some (.getfield 52, 3, 12, 29, 0), none, none, some (.iload_n 2, 1, 0, 0, 0), some (.aaload, 1, 0, 0, 0), some (.iload_n 1, 1, 0, 0, 0), some (.iaload, 1, 0, 0, 0), some (.invokevirtual 315, 3, 226, 0, 0), none, none], [some (.aload_n 0, 1, 0, 0, 0), some (.iload_n 3, 1, 0, 0, 0), some (.aload_n 0, 1, 0, 0, 0), some (.getfield 52, 3, 12, 29, 0), none, none, some (.iload_n 3, 1, 0, 0, 0), some (.aaload, 1, 0, 0, 0), some (.iload_n 1, 1, 0, 0, 0), some (.iaload, 1, 0, 0, 0), some (.invokevirtual 315, 3, 226, 0, 0), none, none, some (.if_icmp .eq 5, 3, 0, 0, 0), none, none], [some (.iconst 1, 1, 0, 0, 0), some (.ireturn, 1, 0, 0, 0), some (.iinc 3 1, 3, 0, 0, 0), none, none, some (.goto (-66), 3, 0, 0, 0), none, none, some (.iinc 2 1, 3, 0, 0, 0), none, none, some (.goto (-84), 3, 0, 0, 0), none, none, some (.iconst 0, 1, 0, 0, 0), some (.ireturn, 1, 0, 0, 0)]]]
def cd_X12_edge : List (List (List (Option ARow))) := [[[some (.aload_n 0, 1, 0, 0, 0), some (.iconst 0, 1, 0, 0, 0), some (.putfield 172, 3, 12, 0, 0), none, none, some (.aload_n 0, 1, 0, 0, 0), some (.iload_n 1, 1, 0, 0, 0), some (.iconst 0, 1, 0, 0, 0), some (.bipush 7, 2, 0, 0, 7), none, some (.invokestatic 209, 3, 188, 1, 0), none, none, some (.ifCond .ne 7, 3, 1, 0, 0), none, none], [some (.iconst 1, 1, 0, 0, 0), some (.goto 4, 3, 0, 0, 0), none, none, some (.iconst 0, 1, 0, 0, 0), some (.iconst 1, 1, 0, 0, 0), some (.invokevirtual 229, 3, 187, 0, 0), none, none, some (.ifCond .eq 5, 3, 0, 0, 0), none, none, some (.iconst 0, 1, 0, 0, 0), some (.ireturn, 1, 0, 0, 0), some (.iconst 0, 1, 0, 0, 0), some (.istore_n 2, 1, 0, 0, 0)], [some (.iconst 0, 1, 0, 0, 0), some (.istore_n 3, 1, 0, 0, 0), some (.iload_n 3, 1, 0, 0, 0), some (.sipush 128, 3, 0, 0, 128), none, none, some (.if_icmp .ge 99, 3, 3, 0, 0), none, none, some (.aload_n 0, 1, 0, 0, 0), some (.getfield 70, 3, 12, 35, 0), none, none, some (.iload_n 3, 1, 0, 0, 0), some (.iaload, 1, 0, 0, 0), some (.iload_n 1, 1, 0, 0, 0)], [some (.if_icmp .ne 83, 3, 1, 0, 0), none, none, some (.aload_n 0, 1, 0, 0, 0), some (.iload_n 3, 1, 0, 0, 0), some (.invokevirtual 348, 3, 245, 0, 0), none, none, some (.ifCond .ne 6, 3, 1, 0, 0), none, none, some (.goto 72, 3, 0, 0, 0), none, none, some (.iconst 0, 1, 0, 0, 0), some (.istore 4, 2, 0, 0, 0)], [none, some (.iconst 0, 1, 0, 0, 0), some (.istore 5, 2, 0, 0, 0), none, some (.iload 5, 2, 0, 0, 0), none, some (.bipush 6, 2, 0, 0, 6), none, some (.if_icmp .ge 46, 3, 3, 0, 0), none, none, some (.iload 4, 2, 0, 0, 0), none, some (.ifCond .ne 28, 3, 1, 0, 0), none, none], [some (.iload_n 3, 1, 0, 0, 0), some (.iload 5, 2, 0, 0, 0), none, some (.invokestatic 223, 3, 190, 1, 0), none, none, some (.iconst (-1), 1, 0, 0, 0), some (.if_icmp .eq 22, 3, 0, 0, 0), none, none, some (.aload_n 0, 1, 0, 0, 0), some (.getfield 70, 3, 12, 35, 0), none, none, some (.iload_n 3, 1, 0, 0, 0), some (.iload 5, 2, 0, 0, 0)], [none, some (.invokestatic 223, 3, 190, 1, 0), none, none, some (.iaload, 1, 0, 0, 0), some (.iload_n 1, 1, 0, 0, 0), some (.if_icmp .eq 7, 3, 0, 0, 0), none, none, some (.iconst 1, 1, 0, 0, 0), some (.goto 4, 3, 0, 0, 0), none, none, some (.iconst 0, 1, 0, 0, 0), some (.istore 4, 2, 0, 0, 0), none], [some (.iinc 5 1, 3, 0, 0, 0), none, none, some (.goto (-47), 3, 0, 0, 0), none, none, some (.iload_n 2, 1, 0, 0, 0), some (.iload 4, 2, 0, 0, 0), none, some (.ifCond .eq 7, 3, 0, 0, 0), none, none, some (.iconst 1, 1, 0, 0, 0), some (.goto 4, 3, 0, 0, 0), none, none], [some (.iconst 0, 1, 0, 0, 0), some (.iadd, 1, 0, 0, 0), some (.istore_n 2, 1, 0, 0, 0), some (.iinc 3 1, 3, 0, 0, 0), none, none, some (.goto (-100), 3, 0, 0, 0), none, none, some (.iload_n 2, 1, 0, 0, 0), some (.ireturn, 1, 0, 0, 0)]]]
def cd_X12_holds : List (List (List (Option ARow))) := [[[some (.aload_n 0, 1, 0, 0, 0), some (.iconst 0, 1, 0, 0, 0), some (.putfield 172, 3, 12, 0, 0), none, none, some (.iconst 0, 1, 0, 0, 0), some (.istore_n 1, 1, 0, 0, 0), some (.iload_n 1, 1, 0, 0, 0), some (.bipush 8, 2, 0, 0, 8), none, some (.if_icmp .ge 41, 3, 3, 0, 0), none, none, some (.aload_n 0, 1, 0, 0, 0), some (.iload_n 1, 1, 0, 0, 0), some (.invokevirtual 342, 3, 240, 0, 0)], [none, none, some (.ifCond .eq 25, 3, 0, 0, 0), none, none, some (.aload_n 0, 1, 0, 0, 0), some (.iload_n 1, 1, 0, 0, 0), some (.invokevirtual 351, 3, 233, 0, 0), none, none, some (.ifCond .eq 19, 3, 0, 0, 0), none, none, some (.aload_n 0, 1, 0, 0, 0), some (.iload_n 1, 1, 0, 0, 0), some (.invokevirtual 336, 3, 232, 0, 0)], [none, none, some (.aload_n 0, 1, 0, 0, 0), some (.getfield 73, 3, 12, 36, 0), none, none, some (.iload_n 1, 1, 0, 0, 0), some (.iaload, 1, 0, 0, 0), some (.if_icmp .le 5, 3, 5, 0, 0), none, none, some (.iconst 0, 1, 0, 0, 0), some (.ireturn, 1, 0, 0, 0), some (.iinc 1 1, 3, 0, 0, 0), none, none], [some (.goto (-41), 3, 0, 0, 0), none, none, some (.iconst 1, 1, 0, 0, 0), some (.ireturn, 1, 0, 0, 0)]]]
def cd_X12_total : List (List (List (Option ARow))) := [[[some (.iconst 0, 1, 0, 0, 0), some (.istore_n 2, 1, 0, 0, 0), some (.iconst 0, 1, 0, 0, 0), some (.istore_n 3, 1, 0, 0, 0), some (.iload_n 3, 1, 0, 0, 0), some (.bipush 24, 2, 0, 0, 24), none, some (.if_icmp .ge 20, 3, 3, 0, 0), none, none, some (.iload_n 2, 1, 0, 0, 0), some (.aload_n 0, 1, 0, 0, 0), some (.getfield 55, 3, 12, 30, 0), none, none, some (.iload_n 1, 1, 0, 0, 0)], [some (.aaload, 1, 0, 0, 0), some (.iload_n 3, 1, 0, 0, 0), some (.iaload, 1, 0, 0, 0), some (.iadd, 1, 0, 0, 0), some (.istore_n 2, 1, 0, 0, 0), some (.iinc 3 1, 3, 0, 0, 0), none, none, some (.goto (-20), 3, 0, 0, 0), none, none, some (.iload_n 2, 1, 0, 0, 0), some (.ireturn, 1, 0, 0, 0)]]]
def cd_X12_stepsCost : List (List (List (Option ARow))) := [[[some (.iconst 0, 1, 0, 0, 0), some (.istore_n 1, 1, 0, 0, 0), some (.iconst 0, 1, 0, 0, 0), some (.istore_n 2, 1, 0, 0, 0), some (.iload_n 2, 1, 0, 0, 0), some (.aload_n 0, 1, 0, 0, 0), some (.getfield 233, 3, 12, 22, 0), none, none, some (.if_icmp .ge 84, 3, 3, 0, 0), none, none, some (.iconst 1, 1, 0, 0, 0), some (.istore_n 3, 1, 0, 0, 0), some (.iload_n 3, 1, 0, 0, 0), some (.aload_n 0, 1, 0, 0, 0)], [some (.getfield 35, 3, 12, 23, 0), none, none, some (.iload_n 2, 1, 0, 0, 0), some (.iaload, 1, 0, 0, 0), some (.if_icmp .ge 66, 3, 3, 0, 0), none, none, some (.aload_n 0, 1, 0, 0, 0), some (.getfield 70, 3, 12, 35, 0), none, none, some (.aload_n 0, 1, 0, 0, 0), some (.getfield 49, 3, 12, 28, 0), none, none], [some (.iload_n 2, 1, 0, 0, 0), some (.aaload, 1, 0, 0, 0), some (.iload_n 3, 1, 0, 0, 0), some (.iconst 1, 1, 0, 0, 0), some (.isub, 1, 0, 0, 0), some (.iaload, 1, 0, 0, 0), some (.iaload, 1, 0, 0, 0), some (.istore 4, 2, 0, 0, 0), none, some (.aload_n 0, 1, 0, 0, 0), some (.getfield 70, 3, 12, 35, 0), none, none, some (.aload_n 0, 1, 0, 0, 0), some (.getfield 49, 3, 12, 28, 0), none], [none, some (.iload_n 2, 1, 0, 0, 0), some (.aaload, 1, 0, 0, 0), some (.iload_n 3, 1, 0, 0, 0), some (.iaload, 1, 0, 0, 0), some (.iaload, 1, 0, 0, 0), some (.istore 5, 2, 0, 0, 0), none, some (.iload_n 1, 1, 0, 0, 0), some (.iload 4, 2, 0, 0, 0), none, some (.iload 5, 2, 0, 0, 0), none, some (.if_icmp .ne 9, 3, 1, 0, 0), none, none], [some (.iload 4, 2, 0, 0, 0), none, some (.iconst (-1), 1, 0, 0, 0), some (.if_icmp .ne 11, 3, 1, 0, 0), none, none, some (.aload_n 0, 1, 0, 0, 0), some (.iload_n 2, 1, 0, 0, 0), some (.invokevirtual 354, 3, 248, 0, 0), none, none, some (.goto 4, 3, 0, 0, 0), none, none, some (.iconst 0, 1, 0, 0, 0), some (.iadd, 1, 0, 0, 0)], [some (.istore_n 1, 1, 0, 0, 0), some (.iinc 3 1, 3, 0, 0, 0), none, none, some (.goto (-70), 3, 0, 0, 0), none, none, some (.iinc 2 1, 3, 0, 0, 0), none, none, some (.goto (-86), 3, 0, 0, 0), none, none, some (.iload_n 1, 1, 0, 0, 0), some (.ireturn, 1, 0, 0, 0)]]]
def cd_X12_findPeaks : List (List (List (Option ARow))) := [[[some (.iconst 0, 1, 0, 0, 0), some (.istore_n 1, 1, 0, 0, 0), some (.iload_n 1, 1, 0, 0, 0), some (.bipush 8, 2, 0, 0, 8), none, some (.if_icmp .ge 20, 3, 3, 0, 0), none, none, some (.aload_n 0, 1, 0, 0, 0), some (.getfield 86, 3, 12, 40, 0), none, none, some (.iload_n 1, 1, 0, 0, 0), some (.aload_n 0, 1, 0, 0, 0), some (.iload_n 1, 1, 0, 0, 0), some (.invokevirtual 336, 3, 232, 0, 0)], [none, none, some (.iastore, 1, 0, 0, 0), some (.iinc 1 1, 3, 0, 0, 0), none, none, some (.goto (-20), 3, 0, 0, 0), none, none, some (.return_, 1, 0, 0, 0)]]]
def cd_X12_costByPeaks : List (List (List (Option ARow))) := [[[some (.iconst 0, 1, 0, 0, 0), some (.istore_n 1, 1, 0, 0, 0), some (.iconst 0, 1, 0, 0, 0), some (.istore_n 2, 1, 0, 0, 0), some (.iconst 0, 1, 0, 0, 0), some (.istore_n 3, 1, 0, 0, 0), some (.iconst 0, 1, 0, 0, 0), some (.istore 4, 2, 0, 0, 0), none, some (.iload 4, 2, 0, 0, 0), none, some (.bipush 8, 2, 0, 0, 8), none, some (.if_icmp .ge 78, 3, 3, 0, 0), none, none], [some (.aload_n 0, 1, 0, 0, 0), some (.iload 4, 2, 0, 0, 0), none, some (.invokevirtual 351, 3, 233, 0, 0), none, none, some (.ifCond .ne 6, 3, 1, 0, 0), none, none, some (.goto 60, 3, 0, 0, 0), none, none, some (.iload_n 3, 1, 0, 0, 0), some (.ifCond .eq 14, 3, 0, 0, 0), none, none], [some (.aload_n 0, 1, 0, 0, 0), some (.getfield 86, 3, 12, 40, 0), none, none, some (.iload 4, 2, 0, 0, 0), none, some (.iaload, 1, 0, 0, 0), some (.iload_n 1, 1, 0, 0, 0), some (.if_icmp .ge 13, 3, 3, 0, 0), none, none, some (.aload_n 0, 1, 0, 0, 0), some (.getfield 86, 3, 12, 40, 0), none, none, some (.iload 4, 2, 0, 0, 0)], [none, some (.iaload, 1, 0, 0, 0), some (.goto 4, 3, 0, 0, 0), none, none, some (.iload_n 1, 1, 0, 0, 0), some (.istore_n 1, 1, 0, 0, 0), some (.iload_n 3, 1, 0, 0, 0), some (.ifCond .eq 14, 3, 0, 0, 0), none, none, some (.aload_n 0, 1, 0, 0, 0), some (.getfield 86, 3, 12, 40, 0), none, none, some (.iload 4, 2, 0, 0, 0)], [none, some (.iaload, 1, 0, 0, 0), some (.iload_n 2, 1, 0, 0, 0), some (.if_icmp .le 13, 3, 5, 0, 0), none, none, some (.aload_n 0, 1, 0, 0, 0), some (.getfield 86, 3, 12, 40, 0), none, none, some (.iload 4, 2, 0, 0, 0), none, some (.iaload, 1, 0, 0, 0), some (.goto 4, 3, 0, 0, 0), none, none], [some (.iload_n 2, 1, 0, 0, 0), some (.istore_n 2, 1, 0, 0, 0), some (.iinc 3 1, 3, 0, 0, 0), none, none, some (.iinc 4 1, 3, 0, 0, 0), none, none, some (.goto (-79), 3, 0, 0, 0), none, none, some (.aload_n 0, 1, 0, 0, 0), some (.invokevirtual 357, 3, 249, 0, 0), none, none, some (.bipush 10, 2, 0, 0, 10)], [none, some (.iload_n 2, 1, 0, 0, 0), some (.iload_n 1, 1, 0, 0, 0), some (.isub, 1, 0, 0, 0), some (.imul, 1, 0, 0, 0), some (.iadd, 1, 0, 0, 0), some (.ireturn, 1, 0, 0, 0)]]]
def cd_X12_costOf : List (List (List (Option ARow))) := [[[some (.aload_n 0, 1, 0, 0, 0), some (.invokevirtual 360, 3, 250, 0, 0), none, none, some (.aload_n 0, 1, 0, 0, 0), some (.invokevirtual 363, 3, 251, 0, 0), none, none, some (.ireturn, 1, 0, 0, 0)]]]
def cd_X12_cost : List (List (List (Option ARow))) := [[[some (.aload_n 0, 1, 0, 0, 0), some (.iconst 0, 1, 0, 0, 0), some (.putfield 172, 3, 12, 0, 0), none, none, some (.aload_n 0, 1, 0, 0, 0), some (.invokevirtual 366, 3, 252, 0, 0), none, none, some (.ireturn, 1, 0, 0, 0)]]]
def cd_X12_findMove : List (List (List (Option ARow))) := [[[some (.aload_n 0, 1, 0, 0, 0), some (.iconst (-1), 1, 0, 0, 0), some (.putfield 369, 3, 12, 41, 0), none, none, some (.aload_n 0, 1, 0, 0, 0), some (.aload_n 0, 1, 0, 0, 0), some (.invokevirtual 366, 3, 252, 0, 0), none, none, some (.putfield 372, 3, 12, 43, 0), none, none, some (.iconst 0, 1, 0, 0, 0), some (.istore_n 1, 1, 0, 0, 0), some (.iload_n 1, 1, 0, 0, 0)], [some (.sipush 128, 3, 0, 0, 128), none, none, some (.if_icmp .ge 106, 3, 3, 0, 0), none, none, some (.iconst 0, 1, 0, 0, 0), some (.istore_n 2, 1, 0, 0, 0), some (.iload_n 2, 1, 0, 0, 0), some (.bipush 8, 2, 0, 0, 8), none, some (.if_icmp .ge 92, 3, 3, 0, 0), none, none, some (.aload_n 0, 1, 0, 0, 0), some (.getfield 70, 3, 12, 35, 0)], [none, none, some (.iload_n 1, 1, 0, 0, 0), some (.iaload, 1, 0, 0, 0), some (.iconst (-1), 1, 0, 0, 0), some (.if_icmp .eq 82, 3, 0, 0, 0), none, none, some (.iconst 0, 1, 0, 0, 0), some (.istore_n 3, 1, 0, 0, 0), some (.iconst 0, 1, 0, 0, 0), some (.istore 4, 2, 0, 0, 0), none, some (.iload 4, 2, 0, 0, 0), none, some (.bipush 6, 2, 0, 0, 6)], [none, some (.if_icmp .ge 44, 3, 3, 0, 0), none, none, some (.iload_n 3, 1, 0, 0, 0), some (.ifCond .ne 28, 3, 1, 0, 0), none, none, some (.iload_n 1, 1, 0, 0, 0), some (.iload 4, 2, 0, 0, 0), none, some (.invokestatic 223, 3, 190, 1, 0), none, none, some (.iconst (-1), 1, 0, 0, 0), some (.if_icmp .eq 22, 3, 0, 0, 0)], [none, none, some (.aload_n 0, 1, 0, 0, 0), some (.getfield 70, 3, 12, 35, 0), none, none, some (.iload_n 1, 1, 0, 0, 0), some (.iload 4, 2, 0, 0, 0), none, some (.invokestatic 223, 3, 190, 1, 0), none, none, some (.iaload, 1, 0, 0, 0), some (.iload_n 2, 1, 0, 0, 0), some (.if_icmp .ne 7, 3, 1, 0, 0), none], [none, some (.iconst 1, 1, 0, 0, 0), some (.goto 4, 3, 0, 0, 0), none, none, some (.iconst 0, 1, 0, 0, 0), some (.istore_n 3, 1, 0, 0, 0), some (.iinc 4 1, 3, 0, 0, 0), none, none, some (.goto (-45), 3, 0, 0, 0), none, none, some (.iload_n 3, 1, 0, 0, 0), some (.ifCond .eq 19, 3, 0, 0, 0), none], [none, some (.iload_n 2, 1, 0, 0, 0), some (.aload_n 0, 1, 0, 0, 0), some (.getfield 70, 3, 12, 35, 0), none, none, some (.iload_n 1, 1, 0, 0, 0), some (.iaload, 1, 0, 0, 0), some (.if_icmp .eq 9, 3, 0, 0, 0), none, none, some (.aload_n 0, 1, 0, 0, 0), some (.iload_n 1, 1, 0, 0, 0), some (.iload_n 2, 1, 0, 0, 0), some (.invokevirtual 375, 3, 255, 0, 0), none], [none, some (.iinc 2 1, 3, 0, 0, 0), none, none, some (.goto (-92), 3, 0, 0, 0), none, none, some (.iinc 1 1, 3, 0, 0, 0), none, none, some (.goto (-107), 3, 0, 0, 0), none, none, some (.return_, 1, 0, 0, 0)]]]
def cd_X12_tries : List (List (List (Option ARow))) := [[[some (.aload_n 0, 1, 0, 0, 0), some (.getfield 70, 3, 12, 35, 0), none, none, some (.iload_n 1, 1, 0, 0, 0), some (.iaload, 1, 0, 0, 0), some (.istore_n 3, 1, 0, 0, 0), some (.aload_n 0, 1, 0, 0, 0), some (.getfield 86, 3, 12, 40, 0), none, none, some (.iload_n 3, 1, 0, 0, 0), some (.iaload, 1, 0, 0, 0), some (.istore 4, 2, 0, 0, 0), none, some (.aload_n 0, 1, 0, 0, 0)], [some (.getfield 86, 3, 12, 40, 0), none, none, some (.iload_n 2, 1, 0, 0, 0), some (.iaload, 1, 0, 0, 0), some (.istore 5, 2, 0, 0, 0), none, some (.aload_n 0, 1, 0, 0, 0), some (.getfield 70, 3, 12, 35, 0), none, none, some (.iload_n 1, 1, 0, 0, 0), some (.iload_n 2, 1, 0, 0, 0), some (.iastore, 1, 0, 0, 0), some (.aload_n 0, 1, 0, 0, 0), some (.iload_n 3, 1, 0, 0, 0)], [some (.invokevirtual 351, 3, 233, 0, 0), none, none, some (.ifCond .eq 102, 3, 0, 0, 0), none, none, some (.aload_n 0, 1, 0, 0, 0), some (.iload_n 3, 1, 0, 0, 0), some (.invokevirtual 342, 3, 240, 0, 0), none, none, some (.ifCond .eq 94, 3, 0, 0, 0), none, none, some (.aload_n 0, 1, 0, 0, 0), some (.iload_n 2, 1, 0, 0, 0)], [some (.invokevirtual 342, 3, 240, 0, 0), none, none, some (.ifCond .eq 86, 3, 0, 0, 0), none, none, some (.aload_n 0, 1, 0, 0, 0), some (.getfield 86, 3, 12, 40, 0), none, none, some (.iload_n 3, 1, 0, 0, 0), some (.aload_n 0, 1, 0, 0, 0), some (.iload_n 3, 1, 0, 0, 0), some (.invokevirtual 336, 3, 232, 0, 0), none, none], [some (.iastore, 1, 0, 0, 0), some (.aload_n 0, 1, 0, 0, 0), some (.getfield 86, 3, 12, 40, 0), none, none, some (.iload_n 2, 1, 0, 0, 0), some (.aload_n 0, 1, 0, 0, 0), some (.iload_n 2, 1, 0, 0, 0), some (.invokevirtual 336, 3, 232, 0, 0), none, none, some (.iastore, 1, 0, 0, 0), some (.aload_n 0, 1, 0, 0, 0), some (.invokevirtual 363, 3, 251, 0, 0), none, none], [some (.istore 6, 2, 0, 0, 0), none, some (.aload_n 0, 1, 0, 0, 0), some (.getfield 86, 3, 12, 40, 0), none, none, some (.iload_n 3, 1, 0, 0, 0), some (.iaload, 1, 0, 0, 0), some (.aload_n 0, 1, 0, 0, 0), some (.getfield 73, 3, 12, 36, 0), none, none, some (.iload_n 3, 1, 0, 0, 0), some (.iaload, 1, 0, 0, 0), some (.if_icmp .gt 43, 3, 4, 0, 0), none], [none, some (.aload_n 0, 1, 0, 0, 0), some (.getfield 86, 3, 12, 40, 0), none, none, some (.iload_n 2, 1, 0, 0, 0), some (.iaload, 1, 0, 0, 0), some (.aload_n 0, 1, 0, 0, 0), some (.getfield 73, 3, 12, 36, 0), none, none, some (.iload_n 2, 1, 0, 0, 0), some (.iaload, 1, 0, 0, 0), some (.if_icmp .gt 28, 3, 4, 0, 0), none, none], [some (.iload 6, 2, 0, 0, 0), none, some (.aload_n 0, 1, 0, 0, 0), some (.getfield 372, 3, 12, 43, 0), none, none, some (.if_icmp .ge 19, 3, 3, 0, 0), none, none, some (.aload_n 0, 1, 0, 0, 0), some (.iload_n 1, 1, 0, 0, 0), some (.putfield 369, 3, 12, 41, 0), none, none, some (.aload_n 0, 1, 0, 0, 0), some (.iload_n 2, 1, 0, 0, 0)], [some (.putfield 378, 3, 12, 42, 0), none, none, some (.aload_n 0, 1, 0, 0, 0), some (.iload 6, 2, 0, 0, 0), none, some (.putfield 372, 3, 12, 43, 0), none, none, some (.aload_n 0, 1, 0, 0, 0), some (.getfield 70, 3, 12, 35, 0), none, none, some (.iload_n 1, 1, 0, 0, 0), some (.iload_n 3, 1, 0, 0, 0), some (.iastore, 1, 0, 0, 0)], [some (.aload_n 0, 1, 0, 0, 0), some (.getfield 86, 3, 12, 40, 0), none, none, some (.iload_n 3, 1, 0, 0, 0), some (.iload 4, 2, 0, 0, 0), none, some (.iastore, 1, 0, 0, 0), some (.aload_n 0, 1, 0, 0, 0), some (.getfield 86, 3, 12, 40, 0), none, none, some (.iload_n 2, 1, 0, 0, 0), some (.iload 5, 2, 0, 0, 0), none, some (.iastore, 1, 0, 0, 0)], [some (.return_, 1, 0, 0, 0)]]]
def cd_X12_better : List (List (List (Option ARow))) := [[[some (.aload_n 0, 1, 0, 0, 0), some (.iconst 0, 1, 0, 0, 0), some (.putfield 172, 3, 12, 0, 0), none, none, some (.aload_n 0, 1, 0, 0, 0), some (.iload_n 1, 1, 0, 0, 0), some (.iconst 0, 1, 0, 0, 0), some (.iconst 2, 1, 0, 0, 0), some (.invokestatic 209, 3, 188, 1, 0), none, none, some (.ifCond .ne 7, 3, 1, 0, 0), none, none, some (.iconst 1, 1, 0, 0, 0)], [some (.goto 4, 3, 0, 0, 0), none, none, some (.iconst 0, 1, 0, 0, 0), some (.iconst 1, 1, 0, 0, 0), some (.invokevirtual 229, 3, 187, 0, 0), none, none, some (.ifCond .eq 5, 3, 0, 0, 0), none, none, some (.iconst 0, 1, 0, 0, 0), some (.ireturn, 1, 0, 0, 0), some (.aload_n 0, 1, 0, 0, 0), some (.invokevirtual 381, 3, 254, 0, 0), none], [none, some (.aload_n 0, 1, 0, 0, 0), some (.getfield 369, 3, 12, 41, 0), none, none, some (.iconst (-1), 1, 0, 0, 0), some (.if_icmp .ne 7, 3, 1, 0, 0), none, none, some (.iconst (-1), 1, 0, 0, 0), some (.goto 30, 3, 0, 0, 0), none, none, some (.iload_n 1, 1, 0, 0, 0), some (.ifCond .ne 10, 3, 1, 0, 0), none], [none, some (.aload_n 0, 1, 0, 0, 0), some (.getfield 369, 3, 12, 41, 0), none, none, some (.goto 19, 3, 0, 0, 0), none, none, some (.iload_n 1, 1, 0, 0, 0), some (.iconst 1, 1, 0, 0, 0), some (.if_icmp .ne 10, 3, 1, 0, 0), none, none, some (.aload_n 0, 1, 0, 0, 0), some (.getfield 378, 3, 12, 42, 0), none], [none, some (.goto 7, 3, 0, 0, 0), none, none, some (.aload_n 0, 1, 0, 0, 0), some (.getfield 372, 3, 12, 43, 0), none, none, some (.ireturn, 1, 0, 0, 0)]]]
def cd_X12_grow : List (List (List (Option ARow))) := [[[some (.aload_n 0, 1, 0, 0, 0), some (.iconst 0, 1, 0, 0, 0), some (.putfield 172, 3, 12, 0, 0), none, none, some (.aload_n 0, 1, 0, 0, 0), some (.iload_n 1, 1, 0, 0, 0), some (.iconst 0, 1, 0, 0, 0), some (.bipush 20, 2, 0, 0, 20), none, some (.invokestatic 209, 3, 188, 1, 0), none, none, some (.ifCond .ne 7, 3, 1, 0, 0), none, none], [some (.iconst 1, 1, 0, 0, 0), some (.goto 4, 3, 0, 0, 0), none, none, some (.iconst 0, 1, 0, 0, 0), some (.iconst 1, 1, 0, 0, 0), some (.invokevirtual 229, 3, 187, 0, 0), none, none, some (.ifCond .eq 5, 3, 0, 0, 0), none, none, some (.iconst 0, 1, 0, 0, 0), some (.ireturn, 1, 0, 0, 0), some (.iconst 0, 1, 0, 0, 0), some (.istore_n 2, 1, 0, 0, 0)], [some (.iload_n 2, 1, 0, 0, 0), some (.iload_n 1, 1, 0, 0, 0), some (.if_icmp .ge 36, 3, 3, 0, 0), none, none, some (.aload_n 0, 1, 0, 0, 0), some (.invokevirtual 381, 3, 254, 0, 0), none, none, some (.aload_n 0, 1, 0, 0, 0), some (.getfield 369, 3, 12, 41, 0), none, none, some (.iconst (-1), 1, 0, 0, 0), some (.if_icmp .ne 5, 3, 1, 0, 0), none], [none, some (.iload_n 2, 1, 0, 0, 0), some (.ireturn, 1, 0, 0, 0), some (.aload_n 0, 1, 0, 0, 0), some (.getfield 70, 3, 12, 35, 0), none, none, some (.aload_n 0, 1, 0, 0, 0), some (.getfield 369, 3, 12, 41, 0), none, none, some (.aload_n 0, 1, 0, 0, 0), some (.getfield 378, 3, 12, 42, 0), none, none, some (.iastore, 1, 0, 0, 0)], [some (.iinc 2 1, 3, 0, 0, 0), none, none, some (.goto (-35), 3, 0, 0, 0), none, none, some (.iload_n 1, 1, 0, 0, 0), some (.ireturn, 1, 0, 0, 0)]]]
def cd_X12_region : List (List (List (Option ARow))) := [[[some (.aload_n 0, 1, 0, 0, 0), some (.iconst 0, 1, 0, 0, 0), some (.putfield 172, 3, 12, 0, 0), none, none, some (.aload_n 0, 1, 0, 0, 0), some (.iload_n 1, 1, 0, 0, 0), some (.iconst 0, 1, 0, 0, 0), some (.bipush 127, 2, 0, 0, 127), none, some (.invokestatic 209, 3, 188, 1, 0), none, none, some (.ifCond .ne 7, 3, 1, 0, 0), none, none], [some (.iconst 1, 1, 0, 0, 0), some (.goto 4, 3, 0, 0, 0), none, none, some (.iconst 0, 1, 0, 0, 0), some (.iconst 1, 1, 0, 0, 0), some (.invokevirtual 229, 3, 187, 0, 0), none, none, some (.ifCond .eq 5, 3, 0, 0, 0), none, none, some (.iconst 0, 1, 0, 0, 0), some (.ireturn, 1, 0, 0, 0), some (.aload_n 0, 1, 0, 0, 0), some (.getfield 384, 3, 12, 46, 0)], [none, none, some (.bipush 8, 2, 0, 0, 8), none, some (.if_icmp .ne 5, 3, 1, 0, 0), none, none, some (.iconst (-1), 1, 0, 0, 0), some (.ireturn, 1, 0, 0, 0), some (.iconst 0, 1, 0, 0, 0), some (.istore_n 2, 1, 0, 0, 0), some (.iload_n 2, 1, 0, 0, 0), some (.aload_n 0, 1, 0, 0, 0), some (.getfield 384, 3, 12, 46, 0), none, none], [some (.if_icmp .ge 22, 3, 3, 0, 0), none, none, some (.aload_n 0, 1, 0, 0, 0), some (.getfield 92, 3, 12, 49, 0), none, none, some (.iload_n 2, 1, 0, 0, 0), some (.iaload, 1, 0, 0, 0), some (.iload_n 1, 1, 0, 0, 0), some (.if_icmp .ne 6, 3, 1, 0, 0), none, none, some (.bipush (-2), 2, 0, 0, (-2)), none, some (.ireturn, 1, 0, 0, 0)], [some (.iinc 2 1, 3, 0, 0, 0), none, none, some (.goto (-24), 3, 0, 0, 0), none, none, some (.aload_n 0, 1, 0, 0, 0), some (.getfield 92, 3, 12, 49, 0), none, none, some (.aload_n 0, 1, 0, 0, 0), some (.getfield 384, 3, 12, 46, 0), none, none, some (.iload_n 1, 1, 0, 0, 0), some (.iastore, 1, 0, 0, 0)], [some (.aload_n 0, 1, 0, 0, 0), some (.dup, 1, 0, 0, 0), some (.getfield 384, 3, 12, 46, 0), none, none, some (.iconst 1, 1, 0, 0, 0), some (.iadd, 1, 0, 0, 0), some (.putfield 384, 3, 12, 46, 0), none, none, some (.aload_n 0, 1, 0, 0, 0), some (.getfield 384, 3, 12, 46, 0), none, none, some (.ireturn, 1, 0, 0, 0)]]]
def cd_X12_clear : List (List (List (Option ARow))) := [[[some (.aload_n 0, 1, 0, 0, 0), some (.iconst 0, 1, 0, 0, 0), some (.putfield 172, 3, 12, 0, 0), none, none, some (.aload_n 0, 1, 0, 0, 0), some (.getfield 384, 3, 12, 46, 0), none, none, some (.istore_n 1, 1, 0, 0, 0), some (.aload_n 0, 1, 0, 0, 0), some (.iconst 0, 1, 0, 0, 0), some (.putfield 384, 3, 12, 46, 0), none, none, some (.iload_n 1, 1, 0, 0, 0)], [some (.ireturn, 1, 0, 0, 0)]]]
def cd_X12_findSets : List (List (List (Option ARow))) := [[[some (.iconst 1, 1, 0, 0, 0), some (.istore_n 1, 1, 0, 0, 0), some (.iload_n 1, 1, 0, 0, 0), some (.iconst 1, 1, 0, 0, 0), some (.aload_n 0, 1, 0, 0, 0), some (.getfield 384, 3, 12, 46, 0), none, none, some (.ishl, 1, 0, 0, 0), some (.if_icmp .ge 174, 3, 3, 0, 0), none, none, some (.iconst 0, 1, 0, 0, 0), some (.istore_n 2, 1, 0, 0, 0), some (.iload_n 2, 1, 0, 0, 0), some (.sipush 128, 3, 0, 0, 128)], [none, none, some (.if_icmp .ge 16, 3, 3, 0, 0), none, none, some (.aload_n 0, 1, 0, 0, 0), some (.getfield 76, 3, 12, 37, 0), none, none, some (.iload_n 2, 1, 0, 0, 0), some (.iconst 0, 1, 0, 0, 0), some (.bastore, 1, 0, 0, 0), some (.iinc 2 1, 3, 0, 0, 0), none, none, some (.goto (-17), 3, 0, 0, 0)], [none, none, some (.iconst 0, 1, 0, 0, 0), some (.istore_n 2, 1, 0, 0, 0), some (.iload_n 2, 1, 0, 0, 0), some (.aload_n 0, 1, 0, 0, 0), some (.getfield 384, 3, 12, 46, 0), none, none, some (.if_icmp .ge 30, 3, 3, 0, 0), none, none, some (.iload_n 1, 1, 0, 0, 0), some (.iload_n 2, 1, 0, 0, 0), some (.ishr, 1, 0, 0, 0), some (.iconst 1, 1, 0, 0, 0)], [some (.iand, 1, 0, 0, 0), some (.iconst 1, 1, 0, 0, 0), some (.if_icmp .ne 15, 3, 1, 0, 0), none, none, some (.aload_n 0, 1, 0, 0, 0), some (.getfield 76, 3, 12, 37, 0), none, none, some (.aload_n 0, 1, 0, 0, 0), some (.getfield 92, 3, 12, 49, 0), none, none, some (.iload_n 2, 1, 0, 0, 0), some (.iaload, 1, 0, 0, 0), some (.iconst 1, 1, 0, 0, 0)], [some (.bastore, 1, 0, 0, 0), some (.iinc 2 1, 3, 0, 0, 0), none, none, some (.goto (-32), 3, 0, 0, 0), none, none, some (.aload_n 0, 1, 0, 0, 0), some (.getfield 110, 3, 12, 55, 0), none, none, some (.iload_n 1, 1, 0, 0, 0), some (.aload_n 0, 1, 0, 0, 0), some (.invokevirtual 339, 3, 239, 0, 0), none, none], [some (.bastore, 1, 0, 0, 0), some (.aload_n 0, 1, 0, 0, 0), some (.getfield 104, 3, 12, 53, 0), none, none, some (.iload_n 1, 1, 0, 0, 0), some (.iconst 0, 1, 0, 0, 0), some (.iastore, 1, 0, 0, 0), some (.aload_n 0, 1, 0, 0, 0), some (.getfield 107, 3, 12, 54, 0), none, none, some (.iload_n 1, 1, 0, 0, 0), some (.iconst 0, 1, 0, 0, 0), some (.iastore, 1, 0, 0, 0), some (.aload_n 0, 1, 0, 0, 0)], [some (.invokevirtual 306, 3, 223, 0, 0), none, none, some (.iconst 0, 1, 0, 0, 0), some (.istore_n 2, 1, 0, 0, 0), some (.iload_n 2, 1, 0, 0, 0), some (.bipush 24, 2, 0, 0, 24), none, some (.if_icmp .ge 73, 3, 3, 0, 0), none, none, some (.aload_n 0, 1, 0, 0, 0), some (.getfield 110, 3, 12, 55, 0), none, none, some (.iload_n 1, 1, 0, 0, 0)], [some (.baload, 1, 0, 0, 0), some (.ifCond .eq 64, 3, 0, 0, 0), none, none, some (.aload_n 0, 1, 0, 0, 0), some (.iload_n 2, 1, 0, 0, 0), some (.invokevirtual 309, 3, 224, 0, 0), none, none, some (.aload_n 0, 1, 0, 0, 0), some (.invokevirtual 324, 3, 228, 0, 0), none, none, some (.istore_n 3, 1, 0, 0, 0), some (.aload_n 0, 1, 0, 0, 0), some (.getfield 104, 3, 12, 53, 0)], [none, none, some (.iload_n 1, 1, 0, 0, 0), some (.iload_n 2, 1, 0, 0, 0), some (.ifCond .eq 13, 3, 0, 0, 0), none, none, some (.iload_n 3, 1, 0, 0, 0), some (.aload_n 0, 1, 0, 0, 0), some (.getfield 104, 3, 12, 53, 0), none, none, some (.iload_n 1, 1, 0, 0, 0), some (.iaload, 1, 0, 0, 0), some (.if_icmp .le 7, 3, 5, 0, 0), none], [none, some (.iload_n 3, 1, 0, 0, 0), some (.goto 9, 3, 0, 0, 0), none, none, some (.aload_n 0, 1, 0, 0, 0), some (.getfield 104, 3, 12, 53, 0), none, none, some (.iload_n 1, 1, 0, 0, 0), some (.iaload, 1, 0, 0, 0), some (.iastore, 1, 0, 0, 0), some (.aload_n 0, 1, 0, 0, 0), some (.getfield 107, 3, 12, 54, 0), none, none], [some (.iload_n 1, 1, 0, 0, 0), some (.dup2, 1, 0, 0, 0), some (.iaload, 1, 0, 0, 0), some (.aload_n 0, 1, 0, 0, 0), some (.getfield 32, 3, 12, 21, 0), none, none, some (.iconst 2, 1, 0, 0, 0), some (.iaload, 1, 0, 0, 0), some (.iadd, 1, 0, 0, 0), some (.iastore, 1, 0, 0, 0), some (.iinc 2 1, 3, 0, 0, 0), none, none, some (.goto (-73), 3, 0, 0, 0), none], [none, some (.iinc 1 1, 3, 0, 0, 0), none, none, some (.goto (-178), 3, 0, 0, 0), none, none, some (.return_, 1, 0, 0, 0)]]]
def cd_X12_parts : List (List (List (Option ARow))) := [[[some (.iload_n 1, 1, 0, 0, 0), some (.aload_n 0, 1, 0, 0, 0), some (.getfield 384, 3, 12, 46, 0), none, none, some (.if_icmp .ne 9, 3, 1, 0, 0), none, none, some (.aload_n 0, 1, 0, 0, 0), some (.iload_n 2, 1, 0, 0, 0), some (.invokevirtual 387, 3, 262, 0, 0), none, none, some (.return_, 1, 0, 0, 0), some (.iconst 0, 1, 0, 0, 0), some (.istore 4, 2, 0, 0, 0)], [none, some (.iload 4, 2, 0, 0, 0), none, some (.iload_n 2, 1, 0, 0, 0), some (.if_icmp .gt 44, 3, 4, 0, 0), none, none, some (.iload 4, 2, 0, 0, 0), none, some (.iload_n 3, 1, 0, 0, 0), some (.if_icmp .ge 38, 3, 3, 0, 0), none, none, some (.aload_n 0, 1, 0, 0, 0), some (.getfield 95, 3, 12, 50, 0), none], [none, some (.iload_n 1, 1, 0, 0, 0), some (.iload 4, 2, 0, 0, 0), none, some (.iastore, 1, 0, 0, 0), some (.aload_n 0, 1, 0, 0, 0), some (.iload_n 1, 1, 0, 0, 0), some (.iconst 1, 1, 0, 0, 0), some (.iadd, 1, 0, 0, 0), some (.iload 4, 2, 0, 0, 0), none, some (.iload_n 2, 1, 0, 0, 0), some (.if_icmp .ne 9, 3, 1, 0, 0), none, none, some (.iload_n 2, 1, 0, 0, 0)], [some (.iconst 1, 1, 0, 0, 0), some (.iadd, 1, 0, 0, 0), some (.goto 4, 3, 0, 0, 0), none, none, some (.iload_n 2, 1, 0, 0, 0), some (.iload_n 3, 1, 0, 0, 0), some (.invokevirtual 390, 3, 261, 0, 0), none, none, some (.iinc 4 1, 3, 0, 0, 0), none, none, some (.goto (-44), 3, 0, 0, 0), none, none], [some (.return_, 1, 0, 0, 0)]]]
def cd_X12_judges : List (List (List (Option ARow))) := [[[some (.iconst 0, 1, 0, 0, 0), some (.istore_n 2, 1, 0, 0, 0), some (.iconst 0, 1, 0, 0, 0), some (.istore_n 3, 1, 0, 0, 0), some (.iconst 0, 1, 0, 0, 0), some (.istore 4, 2, 0, 0, 0), none, some (.iload 4, 2, 0, 0, 0), none, some (.iload_n 1, 1, 0, 0, 0), some (.if_icmp .ge 104, 3, 3, 0, 0), none, none, some (.iconst 0, 1, 0, 0, 0), some (.istore 5, 2, 0, 0, 0), none], [some (.iconst 0, 1, 0, 0, 0), some (.istore 6, 2, 0, 0, 0), none, some (.iload 6, 2, 0, 0, 0), none, some (.aload_n 0, 1, 0, 0, 0), some (.getfield 384, 3, 12, 46, 0), none, none, some (.if_icmp .ge 34, 3, 3, 0, 0), none, none, some (.iload 5, 2, 0, 0, 0), none, some (.aload_n 0, 1, 0, 0, 0), some (.getfield 95, 3, 12, 50, 0)], [none, none, some (.iload 6, 2, 0, 0, 0), none, some (.iaload, 1, 0, 0, 0), some (.iload 4, 2, 0, 0, 0), none, some (.if_icmp .ne 10, 3, 1, 0, 0), none, none, some (.iconst 1, 1, 0, 0, 0), some (.iload 6, 2, 0, 0, 0), none, some (.ishl, 1, 0, 0, 0), some (.goto 4, 3, 0, 0, 0), none], [none, some (.iconst 0, 1, 0, 0, 0), some (.ior, 1, 0, 0, 0), some (.istore 5, 2, 0, 0, 0), none, some (.iinc 6 1, 3, 0, 0, 0), none, none, some (.goto (-37), 3, 0, 0, 0), none, none, some (.aload_n 0, 1, 0, 0, 0), some (.getfield 110, 3, 12, 55, 0), none, none, some (.iload 5, 2, 0, 0, 0)], [none, some (.baload, 1, 0, 0, 0), some (.ifCond .ne 4, 3, 1, 0, 0), none, none, some (.return_, 1, 0, 0, 0), some (.iload 4, 2, 0, 0, 0), none, some (.ifCond .eq 14, 3, 0, 0, 0), none, none, some (.aload_n 0, 1, 0, 0, 0), some (.getfield 104, 3, 12, 53, 0), none, none, some (.iload 5, 2, 0, 0, 0)], [none, some (.iaload, 1, 0, 0, 0), some (.iload_n 2, 1, 0, 0, 0), some (.if_icmp .le 13, 3, 5, 0, 0), none, none, some (.aload_n 0, 1, 0, 0, 0), some (.getfield 104, 3, 12, 53, 0), none, none, some (.iload 5, 2, 0, 0, 0), none, some (.iaload, 1, 0, 0, 0), some (.goto 4, 3, 0, 0, 0), none, none], [some (.iload_n 2, 1, 0, 0, 0), some (.istore_n 2, 1, 0, 0, 0), some (.iload_n 3, 1, 0, 0, 0), some (.aload_n 0, 1, 0, 0, 0), some (.getfield 107, 3, 12, 54, 0), none, none, some (.iload 5, 2, 0, 0, 0), none, some (.iaload, 1, 0, 0, 0), some (.iadd, 1, 0, 0, 0), some (.istore_n 3, 1, 0, 0, 0), some (.iinc 4 1, 3, 0, 0, 0), none, none, some (.goto (-104), 3, 0, 0, 0)], [none, none, some (.aload_n 0, 1, 0, 0, 0), some (.getfield 98, 3, 12, 51, 0), none, none, some (.iconst 0, 1, 0, 0, 0), some (.iaload, 1, 0, 0, 0), some (.iconst (-1), 1, 0, 0, 0), some (.if_icmp .eq 28, 3, 0, 0, 0), none, none, some (.iload_n 2, 1, 0, 0, 0), some (.aload_n 0, 1, 0, 0, 0), some (.getfield 394, 3, 12, 56, 0), none], [none, some (.if_icmp .gt 19, 3, 4, 0, 0), none, none, some (.iload_n 2, 1, 0, 0, 0), some (.aload_n 0, 1, 0, 0, 0), some (.getfield 394, 3, 12, 56, 0), none, none, some (.if_icmp .ne 12, 3, 1, 0, 0), none, none, some (.iload_n 3, 1, 0, 0, 0), some (.aload_n 0, 1, 0, 0, 0), some (.getfield 397, 3, 12, 57, 0), none], [none, some (.if_icmp .lt 4, 3, 2, 0, 0), none, none, some (.return_, 1, 0, 0, 0), some (.aload_n 0, 1, 0, 0, 0), some (.iload_n 2, 1, 0, 0, 0), some (.putfield 394, 3, 12, 56, 0), none, none, some (.aload_n 0, 1, 0, 0, 0), some (.iload_n 3, 1, 0, 0, 0), some (.putfield 397, 3, 12, 57, 0), none, none, some (.iconst 0, 1, 0, 0, 0)], [some (.istore 4, 2, 0, 0, 0), none, some (.iload 4, 2, 0, 0, 0), none, some (.aload_n 0, 1, 0, 0, 0), some (.getfield 384, 3, 12, 46, 0), none, none, some (.if_icmp .ge 23, 3, 3, 0, 0), none, none, some (.aload_n 0, 1, 0, 0, 0), some (.getfield 98, 3, 12, 51, 0), none, none, some (.iload 4, 2, 0, 0, 0)], [none, some (.aload_n 0, 1, 0, 0, 0), some (.getfield 95, 3, 12, 50, 0), none, none, some (.iload 4, 2, 0, 0, 0), none, some (.iaload, 1, 0, 0, 0), some (.iastore, 1, 0, 0, 0), some (.iinc 4 1, 3, 0, 0, 0), none, none, some (.goto (-26), 3, 0, 0, 0), none, none, some (.return_, 1, 0, 0, 0)]]]
def cd_X12_parted : List (List (List (Option ARow))) := [[[some (.aload_n 0, 1, 0, 0, 0), some (.iconst 0, 1, 0, 0, 0), some (.putfield 172, 3, 12, 0, 0), none, none, some (.aload_n 0, 1, 0, 0, 0), some (.iload_n 1, 1, 0, 0, 0), some (.iconst 1, 1, 0, 0, 0), some (.iconst 3, 1, 0, 0, 0), some (.invokestatic 209, 3, 188, 1, 0), none, none, some (.ifCond .eq 14, 3, 0, 0, 0), none, none, some (.iload_n 2, 1, 0, 0, 0)], [some (.bipush (-2), 2, 0, 0, (-2)), none, some (.bipush 7, 2, 0, 0, 7), none, some (.invokestatic 209, 3, 188, 1, 0), none, none, some (.ifCond .ne 7, 3, 1, 0, 0), none, none, some (.iconst 1, 1, 0, 0, 0), some (.goto 4, 3, 0, 0, 0), none, none, some (.iconst 0, 1, 0, 0, 0), some (.iconst 1, 1, 0, 0, 0)], [some (.invokevirtual 229, 3, 187, 0, 0), none, none, some (.ifCond .eq 5, 3, 0, 0, 0), none, none, some (.iconst 0, 1, 0, 0, 0), some (.ireturn, 1, 0, 0, 0), some (.aload_n 0, 1, 0, 0, 0), some (.getfield 384, 3, 12, 46, 0), none, none, some (.ifCond .ne 5, 3, 1, 0, 0), none, none, some (.iconst (-1), 1, 0, 0, 0)], [some (.ireturn, 1, 0, 0, 0), some (.aload_n 0, 1, 0, 0, 0), some (.invokevirtual 400, 3, 260, 0, 0), none, none, some (.aload_n 0, 1, 0, 0, 0), some (.getfield 98, 3, 12, 51, 0), none, none, some (.iconst 0, 1, 0, 0, 0), some (.iconst (-1), 1, 0, 0, 0), some (.iastore, 1, 0, 0, 0), some (.aload_n 0, 1, 0, 0, 0), some (.iconst 0, 1, 0, 0, 0), some (.iconst 0, 1, 0, 0, 0), some (.iload_n 1, 1, 0, 0, 0)], [some (.invokevirtual 390, 3, 261, 0, 0), none, none, some (.aload_n 0, 1, 0, 0, 0), some (.getfield 98, 3, 12, 51, 0), none, none, some (.iconst 0, 1, 0, 0, 0), some (.iaload, 1, 0, 0, 0), some (.iconst (-1), 1, 0, 0, 0), some (.if_icmp .ne 5, 3, 1, 0, 0), none, none, some (.iconst (-1), 1, 0, 0, 0), some (.ireturn, 1, 0, 0, 0), some (.iload_n 2, 1, 0, 0, 0)], [some (.iconst (-1), 1, 0, 0, 0), some (.if_icmp .ne 10, 3, 1, 0, 0), none, none, some (.aload_n 0, 1, 0, 0, 0), some (.getfield 394, 3, 12, 56, 0), none, none, some (.goto 34, 3, 0, 0, 0), none, none, some (.iload_n 2, 1, 0, 0, 0), some (.bipush (-2), 2, 0, 0, (-2)), none, some (.if_icmp .ne 10, 3, 1, 0, 0), none], [none, some (.aload_n 0, 1, 0, 0, 0), some (.getfield 397, 3, 12, 57, 0), none, none, some (.goto 21, 3, 0, 0, 0), none, none, some (.iload_n 2, 1, 0, 0, 0), some (.aload_n 0, 1, 0, 0, 0), some (.getfield 384, 3, 12, 46, 0), none, none, some (.if_icmp .ge 12, 3, 3, 0, 0), none, none], [some (.aload_n 0, 1, 0, 0, 0), some (.getfield 98, 3, 12, 51, 0), none, none, some (.iload_n 2, 1, 0, 0, 0), some (.iaload, 1, 0, 0, 0), some (.goto 4, 3, 0, 0, 0), none, none, some (.iconst (-1), 1, 0, 0, 0), some (.ireturn, 1, 0, 0, 0)]]]
def cd_X12_configure : List (List (List (Option ARow))) := [[[some (.aload_n 0, 1, 0, 0, 0), some (.iconst 0, 1, 0, 0, 0), some (.putfield 172, 3, 12, 0, 0), none, none, some (.aload_n 0, 1, 0, 0, 0), some (.iload_n 1, 1, 0, 0, 0), some (.ifCond .lt 10, 3, 2, 0, 0), none, none, some (.iload_n 1, 1, 0, 0, 0), some (.ldc_w 403, 3, 0, 0, 16777216), none, none, some (.if_icmp .lt 7, 3, 2, 0, 0), none], [none, some (.iconst 1, 1, 0, 0, 0), some (.goto 4, 3, 0, 0, 0), none, none, some (.iconst 0, 1, 0, 0, 0), some (.iconst 1, 1, 0, 0, 0), some (.invokevirtual 229, 3, 187, 0, 0), none, none, some (.ifCond .eq 5, 3, 0, 0, 0), none, none, some (.iconst 0, 1, 0, 0, 0), some (.ireturn, 1, 0, 0, 0), some (.aload_n 0, 1, 0, 0, 0)], [some (.getfield 404, 3, 12, 48, 0), none, none, some (.bipush 6, 2, 0, 0, 6), none, some (.if_icmp .ne 5, 3, 1, 0, 0), none, none, some (.iconst (-1), 1, 0, 0, 0), some (.ireturn, 1, 0, 0, 0), some (.aload_n 0, 1, 0, 0, 0), some (.getfield 101, 3, 12, 52, 0), none, none, some (.aload_n 0, 1, 0, 0, 0), some (.getfield 404, 3, 12, 48, 0)], [none, none, some (.iload_n 1, 1, 0, 0, 0), some (.iastore, 1, 0, 0, 0), some (.aload_n 0, 1, 0, 0, 0), some (.dup, 1, 0, 0, 0), some (.getfield 404, 3, 12, 48, 0), none, none, some (.iconst 1, 1, 0, 0, 0), some (.iadd, 1, 0, 0, 0), some (.putfield 404, 3, 12, 48, 0), none, none, some (.aload_n 0, 1, 0, 0, 0), some (.getfield 404, 3, 12, 48, 0)], [none, none, some (.iconst 1, 1, 0, 0, 0), some (.isub, 1, 0, 0, 0), some (.ireturn, 1, 0, 0, 0)]]]
def cd_X12_groupOf : List (List (List (Option ARow))) := [[[some (.aload_n 0, 1, 0, 0, 0), some (.getfield 101, 3, 12, 52, 0), none, none, some (.iload_n 1, 1, 0, 0, 0), some (.iaload, 1, 0, 0, 0), some (.iconst 3, 1, 0, 0, 0), some (.iload_n 2, 1, 0, 0, 0), some (.imul, 1, 0, 0, 0), some (.ishr, 1, 0, 0, 0), some (.bipush 7, 2, 0, 0, 7), none, some (.iand, 1, 0, 0, 0), some (.ireturn, 1, 0, 0, 0)]]]
def cd_X12_pairsOf : List (List (List (Option ARow))) := [[[some (.iconst 0, 1, 0, 0, 0), some (.istore_n 2, 1, 0, 0, 0), some (.iconst 0, 1, 0, 0, 0), some (.istore_n 3, 1, 0, 0, 0), some (.iload_n 3, 1, 0, 0, 0), some (.bipush 8, 2, 0, 0, 8), none, some (.if_icmp .ge 199, 3, 3, 0, 0), none, none, some (.iconst (-1), 1, 0, 0, 0), some (.istore 4, 2, 0, 0, 0), none, some (.iconst 0, 1, 0, 0, 0), some (.istore 5, 2, 0, 0, 0), none], [some (.iconst 0, 1, 0, 0, 0), some (.istore 6, 2, 0, 0, 0), none, some (.iload 6, 2, 0, 0, 0), none, some (.sipush 128, 3, 0, 0, 128), none, none, some (.if_icmp .ge 17, 3, 3, 0, 0), none, none, some (.aload_n 0, 1, 0, 0, 0), some (.getfield 76, 3, 12, 37, 0), none, none, some (.iload 6, 2, 0, 0, 0)], [none, some (.iconst 0, 1, 0, 0, 0), some (.bastore, 1, 0, 0, 0), some (.iinc 6 1, 3, 0, 0, 0), none, none, some (.goto (-19), 3, 0, 0, 0), none, none, some (.bipush 7, 2, 0, 0, 7), none, some (.istore 6, 2, 0, 0, 0), none, some (.iload 6, 2, 0, 0, 0), none, some (.ifCond .lt 90, 3, 2, 0, 0)], [none, none, some (.aload_n 0, 1, 0, 0, 0), some (.iload_n 1, 1, 0, 0, 0), some (.iload 6, 2, 0, 0, 0), none, some (.invokevirtual 407, 3, 265, 0, 0), none, none, some (.iload_n 3, 1, 0, 0, 0), some (.if_icmp .ne 73, 3, 1, 0, 0), none, none, some (.aload_n 0, 1, 0, 0, 0), some (.iload 6, 2, 0, 0, 0), none], [some (.invokevirtual 351, 3, 233, 0, 0), none, none, some (.ifCond .ne 6, 3, 1, 0, 0), none, none, some (.goto 61, 3, 0, 0, 0), none, none, some (.iload 6, 2, 0, 0, 0), none, some (.istore 4, 2, 0, 0, 0), none, some (.iinc 5 1, 3, 0, 0, 0), none, none], [some (.iconst 0, 1, 0, 0, 0), some (.istore 7, 2, 0, 0, 0), none, some (.iload 7, 2, 0, 0, 0), none, some (.sipush 128, 3, 0, 0, 128), none, none, some (.if_icmp .ge 43, 3, 3, 0, 0), none, none, some (.aload_n 0, 1, 0, 0, 0), some (.getfield 76, 3, 12, 37, 0), none, none, some (.iload 7, 2, 0, 0, 0)], [none, some (.aload_n 0, 1, 0, 0, 0), some (.getfield 76, 3, 12, 37, 0), none, none, some (.iload 7, 2, 0, 0, 0), none, some (.baload, 1, 0, 0, 0), some (.ifCond .ne 15, 3, 1, 0, 0), none, none, some (.aload_n 0, 1, 0, 0, 0), some (.getfield 70, 3, 12, 35, 0), none, none, some (.iload 7, 2, 0, 0, 0)], [none, some (.iaload, 1, 0, 0, 0), some (.iload 6, 2, 0, 0, 0), none, some (.if_icmp .ne 7, 3, 1, 0, 0), none, none, some (.iconst 1, 1, 0, 0, 0), some (.goto 4, 3, 0, 0, 0), none, none, some (.iconst 0, 1, 0, 0, 0), some (.bastore, 1, 0, 0, 0), some (.iinc 7 1, 3, 0, 0, 0), none, none], [some (.goto (-45), 3, 0, 0, 0), none, none, some (.iinc 6 (-1), 3, 0, 0, 0), none, none, some (.goto (-89), 3, 0, 0, 0), none, none, some (.iload 5, 2, 0, 0, 0), none, some (.ifCond .ne 6, 3, 1, 0, 0), none, none, some (.goto 58, 3, 0, 0, 0), none], [none, some (.aload_n 0, 1, 0, 0, 0), some (.iload 5, 2, 0, 0, 0), none, some (.putfield 26, 3, 12, 19, 0), none, none, some (.aload_n 0, 1, 0, 0, 0), some (.invokevirtual 324, 3, 228, 0, 0), none, none, some (.aload_n 0, 1, 0, 0, 0), some (.getfield 73, 3, 12, 36, 0), none, none, some (.iload 4, 2, 0, 0, 0)], [none, some (.iaload, 1, 0, 0, 0), some (.if_icmp .gt 20, 3, 4, 0, 0), none, none, some (.iload 5, 2, 0, 0, 0), none, some (.iconst 1, 1, 0, 0, 0), some (.if_icmp .eq 10, 3, 0, 0, 0), none, none, some (.aload_n 0, 1, 0, 0, 0), some (.invokevirtual 410, 3, 229, 0, 0), none, none, some (.ifCond .eq 7, 3, 0, 0, 0)], [none, none, some (.iconst 1, 1, 0, 0, 0), some (.goto 4, 3, 0, 0, 0), none, none, some (.iconst 0, 1, 0, 0, 0), some (.istore 6, 2, 0, 0, 0), none, some (.aload_n 0, 1, 0, 0, 0), some (.iconst 1, 1, 0, 0, 0), some (.putfield 26, 3, 12, 19, 0), none, none, some (.iload 6, 2, 0, 0, 0), none], [some (.ifCond .ne 5, 3, 1, 0, 0), none, none, some (.iconst (-1), 1, 0, 0, 0), some (.ireturn, 1, 0, 0, 0), some (.iinc 2 1, 3, 0, 0, 0), none, none, some (.iinc 3 1, 3, 0, 0, 0), none, none, some (.goto (-199), 3, 0, 0, 0), none, none, some (.iload_n 2, 1, 0, 0, 0), some (.ireturn, 1, 0, 0, 0)]]]
def cd_X12_pairs : List (List (List (Option ARow))) := [[[some (.aload_n 0, 1, 0, 0, 0), some (.iconst 0, 1, 0, 0, 0), some (.putfield 172, 3, 12, 0, 0), none, none, some (.aload_n 0, 1, 0, 0, 0), some (.iload_n 1, 1, 0, 0, 0), some (.iconst 0, 1, 0, 0, 0), some (.aload_n 0, 1, 0, 0, 0), some (.getfield 404, 3, 12, 48, 0), none, none, some (.iconst 1, 1, 0, 0, 0), some (.isub, 1, 0, 0, 0), some (.invokestatic 209, 3, 188, 1, 0), none], [none, some (.ifCond .ne 7, 3, 1, 0, 0), none, none, some (.iconst 1, 1, 0, 0, 0), some (.goto 4, 3, 0, 0, 0), none, none, some (.iconst 0, 1, 0, 0, 0), some (.iconst 1, 1, 0, 0, 0), some (.invokevirtual 229, 3, 187, 0, 0), none, none, some (.ifCond .ne 26, 3, 1, 0, 0), none, none], [some (.aload_n 0, 1, 0, 0, 0), some (.iload_n 2, 1, 0, 0, 0), some (.iconst 0, 1, 0, 0, 0), some (.bipush 23, 2, 0, 0, 23), none, some (.invokestatic 209, 3, 188, 1, 0), none, none, some (.ifCond .ne 7, 3, 1, 0, 0), none, none, some (.iconst 1, 1, 0, 0, 0), some (.goto 4, 3, 0, 0, 0), none, none, some (.iconst 0, 1, 0, 0, 0)], [some (.iconst 2, 1, 0, 0, 0), some (.invokevirtual 229, 3, 187, 0, 0), none, none, some (.ifCond .eq 5, 3, 0, 0, 0), none, none, some (.iconst 0, 1, 0, 0, 0), some (.ireturn, 1, 0, 0, 0), some (.aload_n 0, 1, 0, 0, 0), some (.iload_n 2, 1, 0, 0, 0), some (.invokevirtual 333, 3, 222, 0, 0), none, none, some (.aload_n 0, 1, 0, 0, 0), some (.iload_n 1, 1, 0, 0, 0)], [some (.invokevirtual 413, 3, 266, 0, 0), none, none, some (.ireturn, 1, 0, 0, 0)]]]
def cd_X12_busy : List (List (List (Option ARow))) := [[[some (.aload_n 0, 1, 0, 0, 0), some (.iconst 0, 1, 0, 0, 0), some (.putfield 172, 3, 12, 0, 0), none, none, some (.aload_n 0, 1, 0, 0, 0), some (.iload_n 1, 1, 0, 0, 0), some (.iconst 0, 1, 0, 0, 0), some (.ldc 208, 2, 0, 0, 100000), none, some (.invokestatic 209, 3, 188, 1, 0), none, none, some (.ifCond .ne 7, 3, 1, 0, 0), none, none], [some (.iconst 1, 1, 0, 0, 0), some (.goto 4, 3, 0, 0, 0), none, none, some (.iconst 0, 1, 0, 0, 0), some (.iconst 1, 1, 0, 0, 0), some (.invokevirtual 229, 3, 187, 0, 0), none, none, some (.ifCond .eq 5, 3, 0, 0, 0), none, none, some (.iconst 0, 1, 0, 0, 0), some (.ireturn, 1, 0, 0, 0), some (.aload_n 0, 1, 0, 0, 0), some (.getfield 89, 3, 12, 45, 0)], [none, none, some (.istore_n 2, 1, 0, 0, 0), some (.aload_n 0, 1, 0, 0, 0), some (.iload_n 1, 1, 0, 0, 0), some (.putfield 89, 3, 12, 45, 0), none, none, some (.iload_n 2, 1, 0, 0, 0), some (.ireturn, 1, 0, 0, 0)]]]
def cd_X12_isBusy : List (List (List (Option ARow))) := [[[some (.iconst 0, 1, 0, 0, 0), some (.istore_n 2, 1, 0, 0, 0), some (.aload_n 0, 1, 0, 0, 0), some (.iload_n 1, 1, 0, 0, 0), some (.invokevirtual 333, 3, 222, 0, 0), none, none, some (.iconst 0, 1, 0, 0, 0), some (.istore_n 3, 1, 0, 0, 0), some (.iload_n 3, 1, 0, 0, 0), some (.bipush 8, 2, 0, 0, 8), none, some (.if_icmp .ge 32, 3, 3, 0, 0), none, none, some (.aload_n 0, 1, 0, 0, 0)], [some (.iload_n 3, 1, 0, 0, 0), some (.invokevirtual 351, 3, 233, 0, 0), none, none, some (.ifCond .ne 6, 3, 1, 0, 0), none, none, some (.goto 15, 3, 0, 0, 0), none, none, some (.aload_n 0, 1, 0, 0, 0), some (.iload_n 3, 1, 0, 0, 0), some (.invokevirtual 327, 3, 230, 0, 0), none, none, some (.iload_n 2, 1, 0, 0, 0)], [some (.aload_n 0, 1, 0, 0, 0), some (.invokevirtual 324, 3, 228, 0, 0), none, none, some (.iadd, 1, 0, 0, 0), some (.istore_n 2, 1, 0, 0, 0), some (.iinc 3 1, 3, 0, 0, 0), none, none, some (.goto (-32), 3, 0, 0, 0), none, none, some (.iload_n 2, 1, 0, 0, 0), some (.aload_n 0, 1, 0, 0, 0), some (.getfield 89, 3, 12, 45, 0), none], [none, some (.if_icmp .le 7, 3, 5, 0, 0), none, none, some (.iconst 1, 1, 0, 0, 0), some (.goto 4, 3, 0, 0, 0), none, none, some (.iconst 0, 1, 0, 0, 0), some (.ireturn, 1, 0, 0, 0)]]]
def cd_X12_findPlan : List (List (List (Option ARow))) := [[[some (.iconst 0, 1, 0, 0, 0), some (.istore_n 2, 1, 0, 0, 0), some (.iload_n 2, 1, 0, 0, 0), some (.aload_n 0, 1, 0, 0, 0), some (.getfield 404, 3, 12, 48, 0), none, none, some (.if_icmp .ge 34, 3, 3, 0, 0), none, none, some (.iconst 0, 1, 0, 0, 0), some (.istore_n 3, 1, 0, 0, 0), some (.iload_n 3, 1, 0, 0, 0), some (.iload_n 1, 1, 0, 0, 0), some (.if_icmp .gt 21, 3, 4, 0, 0), none], [none, some (.aload_n 0, 1, 0, 0, 0), some (.getfield 118, 3, 12, 59, 0), none, none, some (.bipush 24, 2, 0, 0, 24), none, some (.aaload, 1, 0, 0, 0), some (.iload_n 2, 1, 0, 0, 0), some (.aaload, 1, 0, 0, 0), some (.iload_n 3, 1, 0, 0, 0), some (.iconst 0, 1, 0, 0, 0), some (.iastore, 1, 0, 0, 0), some (.iinc 3 1, 3, 0, 0, 0), none, none], [some (.goto (-20), 3, 0, 0, 0), none, none, some (.iinc 2 1, 3, 0, 0, 0), none, none, some (.goto (-36), 3, 0, 0, 0), none, none, some (.bipush 23, 2, 0, 0, 23), none, some (.istore_n 2, 1, 0, 0, 0), some (.iload_n 2, 1, 0, 0, 0), some (.ifCond .lt 244, 3, 2, 0, 0), none, none], [some (.iload_n 2, 1, 0, 0, 0), some (.bipush 23, 2, 0, 0, 23), none, some (.if_icmp .ge 17, 3, 3, 0, 0), none, none, some (.aload_n 0, 1, 0, 0, 0), some (.iload_n 2, 1, 0, 0, 0), some (.iconst 1, 1, 0, 0, 0), some (.iadd, 1, 0, 0, 0), some (.invokevirtual 416, 3, 269, 0, 0), none, none, some (.ifCond .eq 7, 3, 0, 0, 0), none, none], [some (.iconst 1, 1, 0, 0, 0), some (.goto 4, 3, 0, 0, 0), none, none, some (.iconst 0, 1, 0, 0, 0), some (.istore_n 3, 1, 0, 0, 0), some (.aload_n 0, 1, 0, 0, 0), some (.iload_n 2, 1, 0, 0, 0), some (.invokevirtual 333, 3, 222, 0, 0), none, none, some (.iconst 0, 1, 0, 0, 0), some (.istore 4, 2, 0, 0, 0), none, some (.iload 4, 2, 0, 0, 0), none], [some (.aload_n 0, 1, 0, 0, 0), some (.getfield 404, 3, 12, 48, 0), none, none, some (.if_icmp .ge 199, 3, 3, 0, 0), none, none, some (.aload_n 0, 1, 0, 0, 0), some (.iload 4, 2, 0, 0, 0), none, some (.invokevirtual 413, 3, 266, 0, 0), none, none, some (.istore 5, 2, 0, 0, 0), none, some (.iconst 0, 1, 0, 0, 0)], [some (.istore 6, 2, 0, 0, 0), none, some (.iload 6, 2, 0, 0, 0), none, some (.iload_n 1, 1, 0, 0, 0), some (.if_icmp .gt 176, 3, 4, 0, 0), none, none, some (.iload 5, 2, 0, 0, 0), none, some (.iconst (-1), 1, 0, 0, 0), some (.if_icmp .ne 7, 3, 1, 0, 0), none, none, some (.iconst (-1), 1, 0, 0, 0), some (.goto 27, 3, 0, 0, 0)], [none, none, some (.iload_n 2, 1, 0, 0, 0), some (.bipush 23, 2, 0, 0, 23), none, some (.if_icmp .ne 7, 3, 1, 0, 0), none, none, some (.iconst 0, 1, 0, 0, 0), some (.goto 17, 3, 0, 0, 0), none, none, some (.aload_n 0, 1, 0, 0, 0), some (.getfield 118, 3, 12, 59, 0), none, none], [some (.iload_n 2, 1, 0, 0, 0), some (.iconst 1, 1, 0, 0, 0), some (.iadd, 1, 0, 0, 0), some (.aaload, 1, 0, 0, 0), some (.iload 4, 2, 0, 0, 0), none, some (.aaload, 1, 0, 0, 0), some (.iload 6, 2, 0, 0, 0), none, some (.iaload, 1, 0, 0, 0), some (.istore 7, 2, 0, 0, 0), none, some (.iconst 0, 1, 0, 0, 0), some (.istore 8, 2, 0, 0, 0), none, some (.iload 8, 2, 0, 0, 0)], [none, some (.aload_n 0, 1, 0, 0, 0), some (.getfield 404, 3, 12, 48, 0), none, none, some (.if_icmp .ge 86, 3, 3, 0, 0), none, none, some (.iload 5, 2, 0, 0, 0), none, some (.iconst (-1), 1, 0, 0, 0), some (.if_icmp .eq 80, 3, 0, 0, 0), none, none, some (.iload_n 2, 1, 0, 0, 0), some (.bipush 23, 2, 0, 0, 23)], [none, some (.if_icmp .ge 74, 3, 3, 0, 0), none, none, some (.iload 6, 2, 0, 0, 0), none, some (.ifCond .le 69, 3, 5, 0, 0), none, none, some (.iload_n 3, 1, 0, 0, 0), some (.ifCond .ne 65, 3, 1, 0, 0), none, none, some (.iload 8, 2, 0, 0, 0), none, some (.iload 4, 2, 0, 0, 0)], [none, some (.if_icmp .ne 7, 3, 1, 0, 0), none, none, some (.iconst (-1), 1, 0, 0, 0), some (.goto 19, 3, 0, 0, 0), none, none, some (.aload_n 0, 1, 0, 0, 0), some (.getfield 118, 3, 12, 59, 0), none, none, some (.iload_n 2, 1, 0, 0, 0), some (.iconst 1, 1, 0, 0, 0), some (.iadd, 1, 0, 0, 0), some (.aaload, 1, 0, 0, 0)], [some (.iload 8, 2, 0, 0, 0), none, some (.aaload, 1, 0, 0, 0), some (.iload 6, 2, 0, 0, 0), none, some (.iconst 1, 1, 0, 0, 0), some (.isub, 1, 0, 0, 0), some (.iaload, 1, 0, 0, 0), some (.istore 9, 2, 0, 0, 0), none, some (.iload 9, 2, 0, 0, 0), none, some (.iconst (-1), 1, 0, 0, 0), some (.if_icmp .eq 24, 3, 0, 0, 0), none, none], [some (.iload 7, 2, 0, 0, 0), none, some (.iconst (-1), 1, 0, 0, 0), some (.if_icmp .eq 12, 3, 0, 0, 0), none, none, some (.iload 9, 2, 0, 0, 0), none, some (.iconst 1, 1, 0, 0, 0), some (.iadd, 1, 0, 0, 0), some (.iload 7, 2, 0, 0, 0), none, some (.if_icmp .ge 9, 3, 3, 0, 0), none, none, some (.iload 9, 2, 0, 0, 0)], [none, some (.iconst 1, 1, 0, 0, 0), some (.iadd, 1, 0, 0, 0), some (.istore 7, 2, 0, 0, 0), none, some (.iinc 8 1, 3, 0, 0, 0), none, none, some (.goto (-89), 3, 0, 0, 0), none, none, some (.aload_n 0, 1, 0, 0, 0), some (.getfield 118, 3, 12, 59, 0), none, none, some (.iload_n 2, 1, 0, 0, 0)], [some (.aaload, 1, 0, 0, 0), some (.iload 4, 2, 0, 0, 0), none, some (.aaload, 1, 0, 0, 0), some (.iload 6, 2, 0, 0, 0), none, some (.iload 5, 2, 0, 0, 0), none, some (.iconst (-1), 1, 0, 0, 0), some (.if_icmp .eq 9, 3, 0, 0, 0), none, none, some (.iload 7, 2, 0, 0, 0), none, some (.iconst (-1), 1, 0, 0, 0), some (.if_icmp .ne 7, 3, 1, 0, 0)]], [[none, none, some (.iconst (-1), 1, 0, 0, 0), some (.goto 11, 3, 0, 0, 0), none, none, some (.iload 7, 2, 0, 0, 0), none, some (.bipush 100, 2, 0, 0, 100), none, some (.iload 5, 2, 0, 0, 0), none, some (.imul, 1, 0, 0, 0), some (.iadd, 1, 0, 0, 0), some (.iastore, 1, 0, 0, 0), some (.iinc 6 1, 3, 0, 0, 0)], [none, none, some (.goto (-176), 3, 0, 0, 0), none, none, some (.iinc 4 1, 3, 0, 0, 0), none, none, some (.goto (-202), 3, 0, 0, 0), none, none, some (.iinc 2 (-1), 3, 0, 0, 0), none, none, some (.goto (-242), 3, 0, 0, 0), none], [none, some (.aload_n 0, 1, 0, 0, 0), some (.iload_n 1, 1, 0, 0, 0), some (.invokevirtual 419, 3, 271, 0, 0), none, none, some (.ireturn, 1, 0, 0, 0)]]]
def cd_X12_tells : List (List (List (Option ARow))) := [[[some (.iconst (-1), 1, 0, 0, 0), some (.istore_n 2, 1, 0, 0, 0), some (.iload_n 1, 1, 0, 0, 0), some (.istore_n 3, 1, 0, 0, 0), some (.iconst 0, 1, 0, 0, 0), some (.istore 4, 2, 0, 0, 0), none, some (.iload 4, 2, 0, 0, 0), none, some (.aload_n 0, 1, 0, 0, 0), some (.getfield 404, 3, 12, 48, 0), none, none, some (.if_icmp .ge 56, 3, 3, 0, 0), none, none], [some (.aload_n 0, 1, 0, 0, 0), some (.getfield 118, 3, 12, 59, 0), none, none, some (.iconst 0, 1, 0, 0, 0), some (.aaload, 1, 0, 0, 0), some (.iload 4, 2, 0, 0, 0), none, some (.aaload, 1, 0, 0, 0), some (.iload_n 1, 1, 0, 0, 0), some (.iaload, 1, 0, 0, 0), some (.iconst (-1), 1, 0, 0, 0), some (.if_icmp .eq 35, 3, 0, 0, 0), none, none, some (.iload_n 2, 1, 0, 0, 0)], [some (.iconst (-1), 1, 0, 0, 0), some (.if_icmp .eq 27, 3, 0, 0, 0), none, none, some (.aload_n 0, 1, 0, 0, 0), some (.getfield 118, 3, 12, 59, 0), none, none, some (.iconst 0, 1, 0, 0, 0), some (.aaload, 1, 0, 0, 0), some (.iload 4, 2, 0, 0, 0), none, some (.aaload, 1, 0, 0, 0), some (.iload_n 1, 1, 0, 0, 0), some (.iaload, 1, 0, 0, 0), some (.aload_n 0, 1, 0, 0, 0)], [some (.getfield 118, 3, 12, 59, 0), none, none, some (.iconst 0, 1, 0, 0, 0), some (.aaload, 1, 0, 0, 0), some (.iload_n 2, 1, 0, 0, 0), some (.aaload, 1, 0, 0, 0), some (.iload_n 1, 1, 0, 0, 0), some (.iaload, 1, 0, 0, 0), some (.if_icmp .ge 6, 3, 3, 0, 0), none, none, some (.iload 4, 2, 0, 0, 0), none, some (.istore_n 2, 1, 0, 0, 0), some (.iinc 4 1, 3, 0, 0, 0)], [none, none, some (.goto (-59), 3, 0, 0, 0), none, none, some (.iload_n 2, 1, 0, 0, 0), some (.iconst (-1), 1, 0, 0, 0), some (.if_icmp .ne 5, 3, 1, 0, 0), none, none, some (.iconst 0, 1, 0, 0, 0), some (.ireturn, 1, 0, 0, 0), some (.iconst 0, 1, 0, 0, 0), some (.istore 4, 2, 0, 0, 0), none, some (.iload 4, 2, 0, 0, 0)], [none, some (.bipush 24, 2, 0, 0, 24), none, some (.if_icmp .ge 184, 3, 3, 0, 0), none, none, some (.aload_n 0, 1, 0, 0, 0), some (.getfield 121, 3, 12, 60, 0), none, none, some (.iload 4, 2, 0, 0, 0), none, some (.iload_n 2, 1, 0, 0, 0), some (.iastore, 1, 0, 0, 0), some (.aload_n 0, 1, 0, 0, 0), some (.iload 4, 2, 0, 0, 0)], [none, some (.invokevirtual 333, 3, 222, 0, 0), none, none, some (.aload_n 0, 1, 0, 0, 0), some (.getfield 124, 3, 12, 61, 0), none, none, some (.iload 4, 2, 0, 0, 0), none, some (.aload_n 0, 1, 0, 0, 0), some (.iload_n 2, 1, 0, 0, 0), some (.invokevirtual 413, 3, 266, 0, 0), none, none, some (.iastore, 1, 0, 0, 0)], [some (.iload 4, 2, 0, 0, 0), none, some (.bipush 23, 2, 0, 0, 23), none, some (.if_icmp .ne 5, 3, 1, 0, 0), none, none, some (.iconst 1, 1, 0, 0, 0), some (.ireturn, 1, 0, 0, 0), some (.aload_n 0, 1, 0, 0, 0), some (.getfield 118, 3, 12, 59, 0), none, none, some (.iload 4, 2, 0, 0, 0), none, some (.aaload, 1, 0, 0, 0)], [some (.iload_n 2, 1, 0, 0, 0), some (.aaload, 1, 0, 0, 0), some (.iload_n 3, 1, 0, 0, 0), some (.iaload, 1, 0, 0, 0), some (.bipush 100, 2, 0, 0, 100), none, some (.aload_n 0, 1, 0, 0, 0), some (.getfield 124, 3, 12, 61, 0), none, none, some (.iload 4, 2, 0, 0, 0), none, some (.iaload, 1, 0, 0, 0), some (.imul, 1, 0, 0, 0), some (.isub, 1, 0, 0, 0), some (.istore 5, 2, 0, 0, 0)], [none, some (.iconst 0, 1, 0, 0, 0), some (.istore 6, 2, 0, 0, 0), none, some (.aload_n 0, 1, 0, 0, 0), some (.iload 4, 2, 0, 0, 0), none, some (.iconst 1, 1, 0, 0, 0), some (.iadd, 1, 0, 0, 0), some (.invokevirtual 416, 3, 269, 0, 0), none, none, some (.istore 7, 2, 0, 0, 0), none, some (.iload 6, 2, 0, 0, 0), none], [some (.iload_n 2, 1, 0, 0, 0), some (.if_icmp .ne 25, 3, 1, 0, 0), none, none, some (.aload_n 0, 1, 0, 0, 0), some (.getfield 118, 3, 12, 59, 0), none, none, some (.iload 4, 2, 0, 0, 0), none, some (.iconst 1, 1, 0, 0, 0), some (.iadd, 1, 0, 0, 0), some (.aaload, 1, 0, 0, 0), some (.iload 6, 2, 0, 0, 0), none, some (.aaload, 1, 0, 0, 0)], [some (.iload_n 3, 1, 0, 0, 0), some (.iaload, 1, 0, 0, 0), some (.iload 5, 2, 0, 0, 0), none, some (.if_icmp .ne 58, 3, 1, 0, 0), none, none, some (.goto 61, 3, 0, 0, 0), none, none, some (.iload_n 3, 1, 0, 0, 0), some (.ifCond .le 51, 3, 5, 0, 0), none, none, some (.iload 7, 2, 0, 0, 0), none], [some (.ifCond .ne 46, 3, 1, 0, 0), none, none, some (.aload_n 0, 1, 0, 0, 0), some (.getfield 118, 3, 12, 59, 0), none, none, some (.iload 4, 2, 0, 0, 0), none, some (.iconst 1, 1, 0, 0, 0), some (.iadd, 1, 0, 0, 0), some (.aaload, 1, 0, 0, 0), some (.iload 6, 2, 0, 0, 0), none, some (.aaload, 1, 0, 0, 0), some (.iload_n 3, 1, 0, 0, 0)], [some (.iconst 1, 1, 0, 0, 0), some (.isub, 1, 0, 0, 0), some (.iaload, 1, 0, 0, 0), some (.iconst (-1), 1, 0, 0, 0), some (.if_icmp .eq 26, 3, 0, 0, 0), none, none, some (.aload_n 0, 1, 0, 0, 0), some (.getfield 118, 3, 12, 59, 0), none, none, some (.iload 4, 2, 0, 0, 0), none, some (.iconst 1, 1, 0, 0, 0), some (.iadd, 1, 0, 0, 0), some (.aaload, 1, 0, 0, 0)], [some (.iload 6, 2, 0, 0, 0), none, some (.aaload, 1, 0, 0, 0), some (.iload_n 3, 1, 0, 0, 0), some (.iconst 1, 1, 0, 0, 0), some (.isub, 1, 0, 0, 0), some (.iaload, 1, 0, 0, 0), some (.iconst 1, 1, 0, 0, 0), some (.iadd, 1, 0, 0, 0), some (.iload 5, 2, 0, 0, 0), none, some (.if_icmp .eq 9, 3, 0, 0, 0), none, none, some (.iinc 6 1, 3, 0, 0, 0), none], [none, some (.goto (-83), 3, 0, 0, 0), none, none, some (.iload_n 3, 1, 0, 0, 0), some (.iload 6, 2, 0, 0, 0), none, some (.iload_n 2, 1, 0, 0, 0), some (.if_icmp .ne 7, 3, 1, 0, 0), none, none, some (.iconst 0, 1, 0, 0, 0), some (.goto 4, 3, 0, 0, 0), none, none, some (.iconst 1, 1, 0, 0, 0)]], [[some (.isub, 1, 0, 0, 0), some (.istore_n 3, 1, 0, 0, 0), some (.iload 6, 2, 0, 0, 0), none, some (.istore_n 2, 1, 0, 0, 0), some (.iinc 4 1, 3, 0, 0, 0), none, none, some (.goto (-185), 3, 0, 0, 0), none, none, some (.iconst 1, 1, 0, 0, 0), some (.ireturn, 1, 0, 0, 0)]]]
def cd_X12_plan : List (List (List (Option ARow))) := [[[some (.aload_n 0, 1, 0, 0, 0), some (.iconst 0, 1, 0, 0, 0), some (.putfield 172, 3, 12, 0, 0), none, none, some (.aload_n 0, 1, 0, 0, 0), some (.iload_n 1, 1, 0, 0, 0), some (.iconst 0, 1, 0, 0, 0), some (.bipush 23, 2, 0, 0, 23), none, some (.invokestatic 209, 3, 188, 1, 0), none, none, some (.ifCond .eq 14, 3, 0, 0, 0), none, none], [some (.iload_n 2, 1, 0, 0, 0), some (.bipush (-2), 2, 0, 0, (-2)), none, some (.bipush 23, 2, 0, 0, 23), none, some (.invokestatic 209, 3, 188, 1, 0), none, none, some (.ifCond .ne 7, 3, 1, 0, 0), none, none, some (.iconst 1, 1, 0, 0, 0), some (.goto 4, 3, 0, 0, 0), none, none, some (.iconst 0, 1, 0, 0, 0)], [some (.iconst 1, 1, 0, 0, 0), some (.invokevirtual 229, 3, 187, 0, 0), none, none, some (.ifCond .eq 5, 3, 0, 0, 0), none, none, some (.iconst 0, 1, 0, 0, 0), some (.ireturn, 1, 0, 0, 0), some (.aload_n 0, 1, 0, 0, 0), some (.iload_n 1, 1, 0, 0, 0), some (.invokevirtual 422, 3, 270, 0, 0), none, none, some (.ifCond .ne 5, 3, 1, 0, 0), none], [none, some (.iconst (-1), 1, 0, 0, 0), some (.ireturn, 1, 0, 0, 0), some (.iconst 0, 1, 0, 0, 0), some (.istore_n 3, 1, 0, 0, 0), some (.iconst 0, 1, 0, 0, 0), some (.istore 4, 2, 0, 0, 0), none, some (.iconst 0, 1, 0, 0, 0), some (.istore 5, 2, 0, 0, 0), none, some (.iload 5, 2, 0, 0, 0), none, some (.bipush 24, 2, 0, 0, 24), none, some (.if_icmp .ge 53, 3, 3, 0, 0)], [none, none, some (.iload_n 3, 1, 0, 0, 0), some (.aload_n 0, 1, 0, 0, 0), some (.getfield 124, 3, 12, 61, 0), none, none, some (.iload 5, 2, 0, 0, 0), none, some (.iaload, 1, 0, 0, 0), some (.iadd, 1, 0, 0, 0), some (.istore_n 3, 1, 0, 0, 0), some (.iload 4, 2, 0, 0, 0), none, some (.iload 5, 2, 0, 0, 0), none], [some (.ifCond .le 26, 3, 5, 0, 0), none, none, some (.aload_n 0, 1, 0, 0, 0), some (.getfield 121, 3, 12, 60, 0), none, none, some (.iload 5, 2, 0, 0, 0), none, some (.iaload, 1, 0, 0, 0), some (.aload_n 0, 1, 0, 0, 0), some (.getfield 121, 3, 12, 60, 0), none, none, some (.iload 5, 2, 0, 0, 0), none], [some (.iconst 1, 1, 0, 0, 0), some (.isub, 1, 0, 0, 0), some (.iaload, 1, 0, 0, 0), some (.if_icmp .eq 7, 3, 0, 0, 0), none, none, some (.iconst 1, 1, 0, 0, 0), some (.goto 4, 3, 0, 0, 0), none, none, some (.iconst 0, 1, 0, 0, 0), some (.iadd, 1, 0, 0, 0), some (.istore 4, 2, 0, 0, 0), none, some (.iinc 5 1, 3, 0, 0, 0), none], [none, some (.goto (-54), 3, 0, 0, 0), none, none, some (.iload_n 2, 1, 0, 0, 0), some (.iconst (-1), 1, 0, 0, 0), some (.if_icmp .ne 7, 3, 1, 0, 0), none, none, some (.iload_n 3, 1, 0, 0, 0), some (.goto 20, 3, 0, 0, 0), none, none, some (.iload_n 2, 1, 0, 0, 0), some (.bipush (-2), 2, 0, 0, (-2)), none], [some (.if_icmp .ne 8, 3, 1, 0, 0), none, none, some (.iload 4, 2, 0, 0, 0), none, some (.goto 9, 3, 0, 0, 0), none, none, some (.aload_n 0, 1, 0, 0, 0), some (.getfield 121, 3, 12, 60, 0), none, none, some (.iload_n 2, 1, 0, 0, 0), some (.iaload, 1, 0, 0, 0), some (.ireturn, 1, 0, 0, 0)]]]
def cd_X12_hours : List (List (List (Option ARow))) := [[[some (.aload_n 0, 1, 0, 0, 0), some (.iconst 0, 1, 0, 0, 0), some (.putfield 172, 3, 12, 0, 0), none, none, some (.aload_n 0, 1, 0, 0, 0), some (.iload_n 1, 1, 0, 0, 0), some (.iconst 0, 1, 0, 0, 0), some (.iconst 1, 1, 0, 0, 0), some (.invokestatic 209, 3, 188, 1, 0), none, none, some (.ifCond .eq 22, 3, 0, 0, 0), none, none, some (.iload_n 2, 1, 0, 0, 0)], [some (.iconst 1, 1, 0, 0, 0), some (.iload_n 1, 1, 0, 0, 0), some (.ifCond .ne 8, 3, 1, 0, 0), none, none, some (.bipush 24, 2, 0, 0, 24), none, some (.goto 5, 3, 0, 0, 0), none, none, some (.bipush 8, 2, 0, 0, 8), none, some (.invokestatic 209, 3, 188, 1, 0), none, none, some (.ifCond .ne 7, 3, 1, 0, 0)], [none, none, some (.iconst 1, 1, 0, 0, 0), some (.goto 4, 3, 0, 0, 0), none, none, some (.iconst 0, 1, 0, 0, 0), some (.iconst 1, 1, 0, 0, 0), some (.invokevirtual 229, 3, 187, 0, 0), none, none, some (.ifCond .eq 5, 3, 0, 0, 0), none, none, some (.iconst 0, 1, 0, 0, 0), some (.ireturn, 1, 0, 0, 0)], [some (.iload_n 1, 1, 0, 0, 0), some (.ifCond .ne 10, 3, 1, 0, 0), none, none, some (.aload_n 0, 1, 0, 0, 0), some (.getfield 130, 3, 12, 63, 0), none, none, some (.goto 7, 3, 0, 0, 0), none, none, some (.aload_n 0, 1, 0, 0, 0), some (.getfield 133, 3, 12, 64, 0), none, none, some (.istore_n 3, 1, 0, 0, 0)], [some (.iload_n 1, 1, 0, 0, 0), some (.ifCond .ne 11, 3, 1, 0, 0), none, none, some (.aload_n 0, 1, 0, 0, 0), some (.iload_n 2, 1, 0, 0, 0), some (.putfield 130, 3, 12, 63, 0), none, none, some (.goto 8, 3, 0, 0, 0), none, none, some (.aload_n 0, 1, 0, 0, 0), some (.iload_n 2, 1, 0, 0, 0), some (.putfield 133, 3, 12, 64, 0), none], [none, some (.iload_n 3, 1, 0, 0, 0), some (.ireturn, 1, 0, 0, 0)]]]
def cd_X12_ill : List (List (List (Option ARow))) := [[[some (.aload_n 0, 1, 0, 0, 0), some (.iconst 0, 1, 0, 0, 0), some (.putfield 172, 3, 12, 0, 0), none, none, some (.aload_n 0, 1, 0, 0, 0), some (.iload_n 1, 1, 0, 0, 0), some (.iconst 0, 1, 0, 0, 0), some (.bipush 7, 2, 0, 0, 7), none, some (.invokestatic 209, 3, 188, 1, 0), none, none, some (.ifCond .ne 7, 3, 1, 0, 0), none, none], [some (.iconst 1, 1, 0, 0, 0), some (.goto 4, 3, 0, 0, 0), none, none, some (.iconst 0, 1, 0, 0, 0), some (.iconst 1, 1, 0, 0, 0), some (.invokevirtual 229, 3, 187, 0, 0), none, none, some (.ifCond .ne 26, 3, 1, 0, 0), none, none, some (.aload_n 0, 1, 0, 0, 0), some (.iload_n 2, 1, 0, 0, 0), some (.iconst 0, 1, 0, 0, 0), some (.bipush 24, 2, 0, 0, 24)], [none, some (.invokestatic 209, 3, 188, 1, 0), none, none, some (.ifCond .ne 7, 3, 1, 0, 0), none, none, some (.iconst 1, 1, 0, 0, 0), some (.goto 4, 3, 0, 0, 0), none, none, some (.iconst 0, 1, 0, 0, 0), some (.iconst 2, 1, 0, 0, 0), some (.invokevirtual 229, 3, 187, 0, 0), none, none], [some (.ifCond .eq 5, 3, 0, 0, 0), none, none, some (.iconst 0, 1, 0, 0, 0), some (.ireturn, 1, 0, 0, 0), some (.aload_n 0, 1, 0, 0, 0), some (.getfield 136, 3, 12, 66, 0), none, none, some (.iload_n 1, 1, 0, 0, 0), some (.iaload, 1, 0, 0, 0), some (.istore_n 3, 1, 0, 0, 0), some (.aload_n 0, 1, 0, 0, 0), some (.getfield 136, 3, 12, 66, 0), none, none], [some (.iload_n 1, 1, 0, 0, 0), some (.iload_n 2, 1, 0, 0, 0), some (.iastore, 1, 0, 0, 0), some (.iload_n 3, 1, 0, 0, 0), some (.ireturn, 1, 0, 0, 0)]]]
def cd_X12_findRota : List (List (List (Option ARow))) := [[[some (.bipush 8, 2, 0, 0, 8), none, some (.newarray .int, 2, 0, 0, 0), none, some (.astore_n 2, 1, 0, 0, 0), some (.bipush 8, 2, 0, 0, 8), none, some (.newarray .int, 2, 0, 0, 0), none, some (.astore_n 3, 1, 0, 0, 0), some (.bipush 8, 2, 0, 0, 8), none, some (.newarray .int, 2, 0, 0, 0), none, some (.astore 4, 2, 0, 0, 0), none], [some (.iconst 0, 1, 0, 0, 0), some (.istore 5, 2, 0, 0, 0), none, some (.iload 5, 2, 0, 0, 0), none, some (.bipush 8, 2, 0, 0, 8), none, some (.if_icmp .ge 16, 3, 3, 0, 0), none, none, some (.aload 4, 2, 0, 0, 0), none, some (.iload 5, 2, 0, 0, 0), none, some (.bipush (-100), 2, 0, 0, (-100)), none], [some (.iastore, 1, 0, 0, 0), some (.iinc 5 1, 3, 0, 0, 0), none, none, some (.goto (-17), 3, 0, 0, 0), none, none, some (.aload_n 0, 1, 0, 0, 0), some (.iconst 0, 1, 0, 0, 0), some (.putfield 425, 3, 12, 65, 0), none, none, some (.iconst 0, 1, 0, 0, 0), some (.istore 5, 2, 0, 0, 0), none, some (.iload 5, 2, 0, 0, 0)], [none, some (.bipush 24, 2, 0, 0, 24), none, some (.if_icmp .ge 302, 3, 3, 0, 0), none, none, some (.aload_n 0, 1, 0, 0, 0), some (.getfield 127, 3, 12, 62, 0), none, none, some (.iload 5, 2, 0, 0, 0), none, some (.iconst 0, 1, 0, 0, 0), some (.iastore, 1, 0, 0, 0), some (.aload_n 0, 1, 0, 0, 0), some (.getfield 124, 3, 12, 61, 0)], [none, none, some (.iload 5, 2, 0, 0, 0), none, some (.iaload, 1, 0, 0, 0), some (.istore 6, 2, 0, 0, 0), none, some (.iconst 0, 1, 0, 0, 0), some (.istore 7, 2, 0, 0, 0), none, some (.iload 7, 2, 0, 0, 0), none, some (.iconst 2, 1, 0, 0, 0), some (.if_icmp .ge 185, 3, 3, 0, 0), none, none], [some (.iconst 0, 1, 0, 0, 0), some (.istore 8, 2, 0, 0, 0), none, some (.iload 6, 2, 0, 0, 0), none, some (.ifCond .le 171, 3, 5, 0, 0), none, none, some (.iload 8, 2, 0, 0, 0), none, some (.iconst (-1), 1, 0, 0, 0), some (.if_icmp .eq 165, 3, 0, 0, 0), none, none, some (.iconst (-1), 1, 0, 0, 0), some (.istore 8, 2, 0, 0, 0)], [none, some (.iconst 0, 1, 0, 0, 0), some (.istore 9, 2, 0, 0, 0), none, some (.iload 9, 2, 0, 0, 0), none, some (.iload_n 1, 1, 0, 0, 0), some (.if_icmp .ge 124, 3, 3, 0, 0), none, none, some (.aload_n 0, 1, 0, 0, 0), some (.getfield 127, 3, 12, 62, 0), none, none, some (.iload 5, 2, 0, 0, 0), none], [some (.iaload, 1, 0, 0, 0), some (.iload 9, 2, 0, 0, 0), none, some (.ishr, 1, 0, 0, 0), some (.iconst 1, 1, 0, 0, 0), some (.iand, 1, 0, 0, 0), some (.iconst 1, 1, 0, 0, 0), some (.if_icmp .eq 102, 3, 0, 0, 0), none, none, some (.iload 5, 2, 0, 0, 0), none, some (.aload_n 0, 1, 0, 0, 0), some (.getfield 136, 3, 12, 66, 0), none, none], [some (.iload 9, 2, 0, 0, 0), none, some (.iaload, 1, 0, 0, 0), some (.if_icmp .lt 6, 3, 2, 0, 0), none, none, some (.goto 87, 3, 0, 0, 0), none, none, some (.iload 7, 2, 0, 0, 0), none, some (.ifCond .ne 34, 3, 1, 0, 0), none, none, some (.aload 4, 2, 0, 0, 0), none], [some (.iload 9, 2, 0, 0, 0), none, some (.iaload, 1, 0, 0, 0), some (.iload 5, 2, 0, 0, 0), none, some (.iconst 1, 1, 0, 0, 0), some (.isub, 1, 0, 0, 0), some (.if_icmp .ne 18, 3, 1, 0, 0), none, none, some (.aload_n 3, 1, 0, 0, 0), some (.iload 9, 2, 0, 0, 0), none, some (.iaload, 1, 0, 0, 0), some (.aload_n 0, 1, 0, 0, 0), some (.getfield 130, 3, 12, 63, 0)], [none, none, some (.if_icmp .ge 7, 3, 3, 0, 0), none, none, some (.iconst 1, 1, 0, 0, 0), some (.goto 27, 3, 0, 0, 0), none, none, some (.iconst 0, 1, 0, 0, 0), some (.goto 23, 3, 0, 0, 0), none, none, some (.aload 4, 2, 0, 0, 0), none, some (.iload 9, 2, 0, 0, 0)], [none, some (.iaload, 1, 0, 0, 0), some (.iload 5, 2, 0, 0, 0), none, some (.aload_n 0, 1, 0, 0, 0), some (.getfield 133, 3, 12, 64, 0), none, none, some (.isub, 1, 0, 0, 0), some (.if_icmp .ge 7, 3, 3, 0, 0), none, none, some (.iconst 1, 1, 0, 0, 0), some (.goto 4, 3, 0, 0, 0), none, none], [some (.iconst 0, 1, 0, 0, 0), some (.istore 10, 2, 0, 0, 0), none, some (.iload 10, 2, 0, 0, 0), none, some (.ifCond .eq 24, 3, 0, 0, 0), none, none, some (.iload 8, 2, 0, 0, 0), none, some (.iconst (-1), 1, 0, 0, 0), some (.if_icmp .eq 14, 3, 0, 0, 0), none, none, some (.aload_n 2, 1, 0, 0, 0), some (.iload 9, 2, 0, 0, 0)], [none, some (.iaload, 1, 0, 0, 0), some (.aload_n 2, 1, 0, 0, 0), some (.iload 8, 2, 0, 0, 0), none, some (.iaload, 1, 0, 0, 0), some (.if_icmp .ge 7, 3, 3, 0, 0), none, none, some (.iload 9, 2, 0, 0, 0), none, some (.istore 8, 2, 0, 0, 0), none, some (.iinc 9 1, 3, 0, 0, 0), none, none], [some (.goto (-124), 3, 0, 0, 0), none, none, some (.iload 8, 2, 0, 0, 0), none, some (.iconst (-1), 1, 0, 0, 0), some (.if_icmp .ne 6, 3, 1, 0, 0), none, none, some (.goto (-150), 3, 0, 0, 0), none, none, some (.aload_n 0, 1, 0, 0, 0), some (.getfield 127, 3, 12, 62, 0), none, none], [some (.iload 5, 2, 0, 0, 0), none, some (.dup2, 1, 0, 0, 0), some (.iaload, 1, 0, 0, 0), some (.iconst 1, 1, 0, 0, 0), some (.iload 8, 2, 0, 0, 0), none, some (.ishl, 1, 0, 0, 0), some (.ior, 1, 0, 0, 0), some (.iastore, 1, 0, 0, 0), some (.iinc 6 (-1), 3, 0, 0, 0), none, none, some (.goto (-170), 3, 0, 0, 0), none, none]], [[some (.iinc 7 1, 3, 0, 0, 0), none, none, some (.goto (-185), 3, 0, 0, 0), none, none, some (.aload_n 0, 1, 0, 0, 0), some (.dup, 1, 0, 0, 0), some (.getfield 425, 3, 12, 65, 0), none, none, some (.iload 6, 2, 0, 0, 0), none, some (.iadd, 1, 0, 0, 0), some (.putfield 425, 3, 12, 65, 0), none], [none, some (.iconst 0, 1, 0, 0, 0), some (.istore 7, 2, 0, 0, 0), none, some (.iload 7, 2, 0, 0, 0), none, some (.iload_n 1, 1, 0, 0, 0), some (.if_icmp .ge 68, 3, 3, 0, 0), none, none, some (.aload_n 0, 1, 0, 0, 0), some (.getfield 127, 3, 12, 62, 0), none, none, some (.iload 5, 2, 0, 0, 0), none], [some (.iaload, 1, 0, 0, 0), some (.iload 7, 2, 0, 0, 0), none, some (.ishr, 1, 0, 0, 0), some (.iconst 1, 1, 0, 0, 0), some (.iand, 1, 0, 0, 0), some (.ifCond .ne 6, 3, 1, 0, 0), none, none, some (.goto 44, 3, 0, 0, 0), none, none, some (.aload_n 3, 1, 0, 0, 0), some (.iload 7, 2, 0, 0, 0), none, some (.aload 4, 2, 0, 0, 0)], [none, some (.iload 7, 2, 0, 0, 0), none, some (.iaload, 1, 0, 0, 0), some (.iload 5, 2, 0, 0, 0), none, some (.iconst 1, 1, 0, 0, 0), some (.isub, 1, 0, 0, 0), some (.if_icmp .ne 12, 3, 1, 0, 0), none, none, some (.aload_n 3, 1, 0, 0, 0), some (.iload 7, 2, 0, 0, 0), none, some (.iaload, 1, 0, 0, 0), some (.iconst 1, 1, 0, 0, 0)], [some (.iadd, 1, 0, 0, 0), some (.goto 4, 3, 0, 0, 0), none, none, some (.iconst 1, 1, 0, 0, 0), some (.iastore, 1, 0, 0, 0), some (.aload 4, 2, 0, 0, 0), none, some (.iload 7, 2, 0, 0, 0), none, some (.iload 5, 2, 0, 0, 0), none, some (.iastore, 1, 0, 0, 0), some (.aload_n 2, 1, 0, 0, 0), some (.iload 7, 2, 0, 0, 0), none], [some (.dup2, 1, 0, 0, 0), some (.iaload, 1, 0, 0, 0), some (.iconst 1, 1, 0, 0, 0), some (.iadd, 1, 0, 0, 0), some (.iastore, 1, 0, 0, 0), some (.iinc 7 1, 3, 0, 0, 0), none, none, some (.goto (-68), 3, 0, 0, 0), none, none, some (.iinc 5 1, 3, 0, 0, 0), none, none, some (.goto (-303), 3, 0, 0, 0), none], [none, some (.return_, 1, 0, 0, 0)]]]
def cd_X12_rota : List (List (List (Option ARow))) := [[[some (.aload_n 0, 1, 0, 0, 0), some (.iconst 0, 1, 0, 0, 0), some (.putfield 172, 3, 12, 0, 0), none, none, some (.aload_n 0, 1, 0, 0, 0), some (.iload_n 1, 1, 0, 0, 0), some (.iconst 1, 1, 0, 0, 0), some (.bipush 8, 2, 0, 0, 8), none, some (.invokestatic 209, 3, 188, 1, 0), none, none, some (.ifCond .eq 23, 3, 0, 0, 0), none, none], [some (.iload_n 2, 1, 0, 0, 0), some (.iconst 0, 1, 0, 0, 0), some (.bipush 23, 2, 0, 0, 23), none, some (.invokestatic 209, 3, 188, 1, 0), none, none, some (.ifCond .eq 13, 3, 0, 0, 0), none, none, some (.iload_n 3, 1, 0, 0, 0), some (.iconst 0, 1, 0, 0, 0), some (.bipush 23, 2, 0, 0, 23), none, some (.invokestatic 209, 3, 188, 1, 0), none], [none, some (.ifCond .ne 7, 3, 1, 0, 0), none, none, some (.iconst 1, 1, 0, 0, 0), some (.goto 4, 3, 0, 0, 0), none, none, some (.iconst 0, 1, 0, 0, 0), some (.iconst 1, 1, 0, 0, 0), some (.invokevirtual 229, 3, 187, 0, 0), none, none, some (.ifCond .eq 5, 3, 0, 0, 0), none, none], [some (.iconst 0, 1, 0, 0, 0), some (.ireturn, 1, 0, 0, 0), some (.aload_n 0, 1, 0, 0, 0), some (.iload_n 2, 1, 0, 0, 0), some (.invokevirtual 422, 3, 270, 0, 0), none, none, some (.ifCond .ne 5, 3, 1, 0, 0), none, none, some (.iconst (-1), 1, 0, 0, 0), some (.ireturn, 1, 0, 0, 0), some (.aload_n 0, 1, 0, 0, 0), some (.iload_n 1, 1, 0, 0, 0), some (.invokevirtual 428, 3, 275, 0, 0), none], [none, some (.aload_n 0, 1, 0, 0, 0), some (.getfield 127, 3, 12, 62, 0), none, none, some (.iload_n 3, 1, 0, 0, 0), some (.iaload, 1, 0, 0, 0), some (.ireturn, 1, 0, 0, 0)]]]
def cd_X12_lacks : List (List (List (Option ARow))) := [[[some (.aload_n 0, 1, 0, 0, 0), some (.iconst 0, 1, 0, 0, 0), some (.putfield 172, 3, 12, 0, 0), none, none, some (.aload_n 0, 1, 0, 0, 0), some (.iload_n 1, 1, 0, 0, 0), some (.iconst 1, 1, 0, 0, 0), some (.bipush 8, 2, 0, 0, 8), none, some (.invokestatic 209, 3, 188, 1, 0), none, none, some (.ifCond .eq 13, 3, 0, 0, 0), none, none], [some (.iload_n 2, 1, 0, 0, 0), some (.iconst 0, 1, 0, 0, 0), some (.bipush 23, 2, 0, 0, 23), none, some (.invokestatic 209, 3, 188, 1, 0), none, none, some (.ifCond .ne 7, 3, 1, 0, 0), none, none, some (.iconst 1, 1, 0, 0, 0), some (.goto 4, 3, 0, 0, 0), none, none, some (.iconst 0, 1, 0, 0, 0), some (.iconst 1, 1, 0, 0, 0)], [some (.invokevirtual 229, 3, 187, 0, 0), none, none, some (.ifCond .eq 5, 3, 0, 0, 0), none, none, some (.iconst 0, 1, 0, 0, 0), some (.ireturn, 1, 0, 0, 0), some (.aload_n 0, 1, 0, 0, 0), some (.iload_n 2, 1, 0, 0, 0), some (.invokevirtual 422, 3, 270, 0, 0), none, none, some (.ifCond .ne 5, 3, 1, 0, 0), none, none], [some (.iconst (-1), 1, 0, 0, 0), some (.ireturn, 1, 0, 0, 0), some (.aload_n 0, 1, 0, 0, 0), some (.iload_n 1, 1, 0, 0, 0), some (.invokevirtual 428, 3, 275, 0, 0), none, none, some (.aload_n 0, 1, 0, 0, 0), some (.getfield 425, 3, 12, 65, 0), none, none, some (.ireturn, 1, 0, 0, 0)]]]
def cd_X12_enough : List (List (List (Option ARow))) := [[[some (.aload_n 0, 1, 0, 0, 0), some (.iconst 0, 1, 0, 0, 0), some (.putfield 172, 3, 12, 0, 0), none, none, some (.aload_n 0, 1, 0, 0, 0), some (.iload_n 1, 1, 0, 0, 0), some (.iconst 0, 1, 0, 0, 0), some (.bipush 23, 2, 0, 0, 23), none, some (.invokestatic 209, 3, 188, 1, 0), none, none, some (.ifCond .ne 7, 3, 1, 0, 0), none, none], [some (.iconst 1, 1, 0, 0, 0), some (.goto 4, 3, 0, 0, 0), none, none, some (.iconst 0, 1, 0, 0, 0), some (.iconst 1, 1, 0, 0, 0), some (.invokevirtual 229, 3, 187, 0, 0), none, none, some (.ifCond .eq 5, 3, 0, 0, 0), none, none, some (.iconst 0, 1, 0, 0, 0), some (.ireturn, 1, 0, 0, 0), some (.aload_n 0, 1, 0, 0, 0), some (.iload_n 1, 1, 0, 0, 0)], [some (.invokevirtual 422, 3, 270, 0, 0), none, none, some (.ifCond .ne 5, 3, 1, 0, 0), none, none, some (.iconst (-1), 1, 0, 0, 0), some (.ireturn, 1, 0, 0, 0), some (.iconst 1, 1, 0, 0, 0), some (.istore_n 2, 1, 0, 0, 0), some (.iload_n 2, 1, 0, 0, 0), some (.bipush 8, 2, 0, 0, 8), none, some (.if_icmp .gt 23, 3, 4, 0, 0), none, none], [some (.aload_n 0, 1, 0, 0, 0), some (.iload_n 2, 1, 0, 0, 0), some (.invokevirtual 428, 3, 275, 0, 0), none, none, some (.aload_n 0, 1, 0, 0, 0), some (.getfield 425, 3, 12, 65, 0), none, none, some (.ifCond .ne 5, 3, 1, 0, 0), none, none, some (.iload_n 2, 1, 0, 0, 0), some (.ireturn, 1, 0, 0, 0), some (.iinc 2 1, 3, 0, 0, 0), none], [none, some (.goto (-23), 3, 0, 0, 0), none, none, some (.iconst (-1), 1, 0, 0, 0), some (.ireturn, 1, 0, 0, 0)]]]
def cd_X12_storm : List (List (List (Option ARow))) := [[[some (.aload_n 0, 1, 0, 0, 0), some (.iconst 0, 1, 0, 0, 0), some (.putfield 172, 3, 12, 0, 0), none, none, some (.aload_n 0, 1, 0, 0, 0), some (.iload_n 1, 1, 0, 0, 0), some (.iconst 0, 1, 0, 0, 0), some (.bipush 127, 2, 0, 0, 127), none, some (.invokestatic 209, 3, 188, 1, 0), none, none, some (.ifCond .ne 7, 3, 1, 0, 0), none, none], [some (.iconst 1, 1, 0, 0, 0), some (.goto 4, 3, 0, 0, 0), none, none, some (.iconst 0, 1, 0, 0, 0), some (.iconst 1, 1, 0, 0, 0), some (.invokevirtual 229, 3, 187, 0, 0), none, none, some (.ifCond .eq 5, 3, 0, 0, 0), none, none, some (.iconst 0, 1, 0, 0, 0), some (.ireturn, 1, 0, 0, 0), some (.aload_n 0, 1, 0, 0, 0), some (.getfield 139, 3, 12, 67, 0)], [none, none, some (.iload_n 1, 1, 0, 0, 0), some (.baload, 1, 0, 0, 0), some (.istore_n 3, 1, 0, 0, 0), some (.aload_n 0, 1, 0, 0, 0), some (.getfield 139, 3, 12, 67, 0), none, none, some (.iload_n 1, 1, 0, 0, 0), some (.iload_n 2, 1, 0, 0, 0), some (.bastore, 1, 0, 0, 0), some (.iload_n 3, 1, 0, 0, 0), some (.ireturn, 1, 0, 0, 0)]]]
def cd_X12_isHit : List (List (List (Option ARow))) := [[[some (.iconst 0, 1, 0, 0, 0), some (.istore_n 3, 1, 0, 0, 0), some (.iconst 0, 1, 0, 0, 0), some (.istore 4, 2, 0, 0, 0), none, some (.iload 4, 2, 0, 0, 0), none, some (.aload_n 0, 1, 0, 0, 0), some (.getfield 35, 3, 12, 23, 0), none, none, some (.iload_n 1, 1, 0, 0, 0), some (.iaload, 1, 0, 0, 0), some (.if_icmp .ge 36, 3, 3, 0, 0), none, none], [some (.iload_n 3, 1, 0, 0, 0), some (.ifCond .ne 20, 3, 1, 0, 0), none, none, some (.aload_n 0, 1, 0, 0, 0), some (.getfield 139, 3, 12, 67, 0), none, none, some (.aload_n 0, 1, 0, 0, 0), some (.getfield 49, 3, 12, 28, 0), none, none, some (.iload_n 1, 1, 0, 0, 0), some (.aaload, 1, 0, 0, 0), some (.iload 4, 2, 0, 0, 0), none], [some (.iaload, 1, 0, 0, 0), some (.baload, 1, 0, 0, 0), some (.ifCond .eq 7, 3, 0, 0, 0), none, none, some (.iconst 1, 1, 0, 0, 0), some (.goto 4, 3, 0, 0, 0), none, none, some (.iconst 0, 1, 0, 0, 0), some (.istore_n 3, 1, 0, 0, 0), some (.iinc 4 1, 3, 0, 0, 0), none, none, some (.goto (-41), 3, 0, 0, 0), none], [none, some (.iload_n 3, 1, 0, 0, 0), some (.ifCond .eq 16, 3, 0, 0, 0), none, none, some (.aload_n 0, 1, 0, 0, 0), some (.iload_n 1, 1, 0, 0, 0), some (.iload_n 2, 1, 0, 0, 0), some (.invokevirtual 303, 3, 220, 0, 0), none, none, some (.ifCond .le 7, 3, 5, 0, 0), none, none, some (.iconst 1, 1, 0, 0, 0), some (.goto 4, 3, 0, 0, 0)], [none, none, some (.iconst 0, 1, 0, 0, 0), some (.ireturn, 1, 0, 0, 0)]]]
def cd_X12_findRound : List (List (List (Option ARow))) := [[[some (.aload_n 0, 1, 0, 0, 0), some (.getfield 49, 3, 12, 28, 0), none, none, some (.iload_n 1, 1, 0, 0, 0), some (.aaload, 1, 0, 0, 0), some (.iconst 0, 1, 0, 0, 0), some (.iaload, 1, 0, 0, 0), some (.istore_n 2, 1, 0, 0, 0), some (.aload_n 0, 1, 0, 0, 0), some (.getfield 49, 3, 12, 28, 0), none, none, some (.iload_n 1, 1, 0, 0, 0), some (.aaload, 1, 0, 0, 0), some (.aload_n 0, 1, 0, 0, 0)], [some (.getfield 35, 3, 12, 23, 0), none, none, some (.iload_n 1, 1, 0, 0, 0), some (.iaload, 1, 0, 0, 0), some (.iconst 1, 1, 0, 0, 0), some (.isub, 1, 0, 0, 0), some (.iaload, 1, 0, 0, 0), some (.istore_n 3, 1, 0, 0, 0), some (.aload_n 0, 1, 0, 0, 0), some (.getfield 151, 3, 12, 71, 0), none, none, some (.iload_n 1, 1, 0, 0, 0), some (.iconst 0, 1, 0, 0, 0), some (.iastore, 1, 0, 0, 0)], [some (.aload_n 0, 1, 0, 0, 0), some (.getfield 139, 3, 12, 67, 0), none, none, some (.iload_n 2, 1, 0, 0, 0), some (.baload, 1, 0, 0, 0), some (.ifCond .ne 12, 3, 1, 0, 0), none, none, some (.aload_n 0, 1, 0, 0, 0), some (.getfield 139, 3, 12, 67, 0), none, none, some (.iload_n 3, 1, 0, 0, 0), some (.baload, 1, 0, 0, 0), some (.ifCond .eq 4, 3, 0, 0, 0)], [none, none, some (.return_, 1, 0, 0, 0), some (.iconst 0, 1, 0, 0, 0), some (.istore 4, 2, 0, 0, 0), none, some (.iload 4, 2, 0, 0, 0), none, some (.sipush 128, 3, 0, 0, 128), none, none, some (.if_icmp .ge 17, 3, 3, 0, 0), none, none, some (.aload_n 0, 1, 0, 0, 0), some (.getfield 154, 3, 12, 72, 0)], [none, none, some (.iload 4, 2, 0, 0, 0), none, some (.iconst (-1), 1, 0, 0, 0), some (.iastore, 1, 0, 0, 0), some (.iinc 4 1, 3, 0, 0, 0), none, none, some (.goto (-19), 3, 0, 0, 0), none, none, some (.aload_n 0, 1, 0, 0, 0), some (.getfield 154, 3, 12, 72, 0), none, none], [some (.iload_n 3, 1, 0, 0, 0), some (.iconst 0, 1, 0, 0, 0), some (.iastore, 1, 0, 0, 0), some (.aload_n 0, 1, 0, 0, 0), some (.getfield 83, 3, 12, 39, 0), none, none, some (.iconst 0, 1, 0, 0, 0), some (.iload_n 3, 1, 0, 0, 0), some (.iastore, 1, 0, 0, 0), some (.iconst 1, 1, 0, 0, 0), some (.istore 4, 2, 0, 0, 0), none, some (.iconst 0, 1, 0, 0, 0), some (.istore 5, 2, 0, 0, 0), none], [some (.iload 5, 2, 0, 0, 0), none, some (.iload 4, 2, 0, 0, 0), none, some (.if_icmp .ge 102, 3, 3, 0, 0), none, none, some (.iconst 0, 1, 0, 0, 0), some (.istore 6, 2, 0, 0, 0), none, some (.iload 6, 2, 0, 0, 0), none, some (.bipush 6, 2, 0, 0, 6), none, some (.if_icmp .ge 86, 3, 3, 0, 0), none], [none, some (.aload_n 0, 1, 0, 0, 0), some (.getfield 83, 3, 12, 39, 0), none, none, some (.iload 5, 2, 0, 0, 0), none, some (.iaload, 1, 0, 0, 0), some (.iload 6, 2, 0, 0, 0), none, some (.invokestatic 223, 3, 190, 1, 0), none, none, some (.istore 7, 2, 0, 0, 0), none, some (.iload 7, 2, 0, 0, 0)], [none, some (.iconst (-1), 1, 0, 0, 0), some (.if_icmp .eq 60, 3, 0, 0, 0), none, none, some (.aload_n 0, 1, 0, 0, 0), some (.getfield 139, 3, 12, 67, 0), none, none, some (.iload 7, 2, 0, 0, 0), none, some (.baload, 1, 0, 0, 0), some (.ifCond .ne 50, 3, 1, 0, 0), none, none, some (.aload_n 0, 1, 0, 0, 0)], [some (.getfield 154, 3, 12, 72, 0), none, none, some (.iload 7, 2, 0, 0, 0), none, some (.iaload, 1, 0, 0, 0), some (.iconst (-1), 1, 0, 0, 0), some (.if_icmp .eq 6, 3, 0, 0, 0), none, none, some (.goto 36, 3, 0, 0, 0), none, none, some (.aload_n 0, 1, 0, 0, 0), some (.getfield 154, 3, 12, 72, 0), none], [none, some (.iload 7, 2, 0, 0, 0), none, some (.aload_n 0, 1, 0, 0, 0), some (.getfield 154, 3, 12, 72, 0), none, none, some (.aload_n 0, 1, 0, 0, 0), some (.getfield 83, 3, 12, 39, 0), none, none, some (.iload 5, 2, 0, 0, 0), none, some (.iaload, 1, 0, 0, 0), some (.iaload, 1, 0, 0, 0), some (.iconst 1, 1, 0, 0, 0)], [some (.iadd, 1, 0, 0, 0), some (.iastore, 1, 0, 0, 0), some (.aload_n 0, 1, 0, 0, 0), some (.getfield 83, 3, 12, 39, 0), none, none, some (.iload 4, 2, 0, 0, 0), none, some (.iload 7, 2, 0, 0, 0), none, some (.iastore, 1, 0, 0, 0), some (.iinc 4 1, 3, 0, 0, 0), none, none, some (.iinc 6 1, 3, 0, 0, 0), none], [none, some (.goto (-87), 3, 0, 0, 0), none, none, some (.iinc 5 1, 3, 0, 0, 0), none, none, some (.goto (-103), 3, 0, 0, 0), none, none, some (.aload_n 0, 1, 0, 0, 0), some (.getfield 154, 3, 12, 72, 0), none, none, some (.iload_n 2, 1, 0, 0, 0), some (.iaload, 1, 0, 0, 0)], [some (.iconst (-1), 1, 0, 0, 0), some (.if_icmp .eq 14, 3, 0, 0, 0), none, none, some (.aload_n 0, 1, 0, 0, 0), some (.getfield 154, 3, 12, 72, 0), none, none, some (.iload_n 2, 1, 0, 0, 0), some (.iaload, 1, 0, 0, 0), some (.bipush 23, 2, 0, 0, 23), none, some (.if_icmp .le 4, 3, 5, 0, 0), none, none, some (.return_, 1, 0, 0, 0)], [some (.aload_n 0, 1, 0, 0, 0), some (.getfield 151, 3, 12, 71, 0), none, none, some (.iload_n 1, 1, 0, 0, 0), some (.aload_n 0, 1, 0, 0, 0), some (.getfield 154, 3, 12, 72, 0), none, none, some (.iload_n 2, 1, 0, 0, 0), some (.iaload, 1, 0, 0, 0), some (.iconst 1, 1, 0, 0, 0), some (.iadd, 1, 0, 0, 0), some (.iastore, 1, 0, 0, 0), some (.aload_n 0, 1, 0, 0, 0), some (.getfield 157, 3, 12, 73, 0)], [none, none, some (.iload_n 1, 1, 0, 0, 0), some (.aaload, 1, 0, 0, 0), some (.iconst 0, 1, 0, 0, 0), some (.iload_n 2, 1, 0, 0, 0), some (.iastore, 1, 0, 0, 0), some (.iconst 1, 1, 0, 0, 0), some (.istore 5, 2, 0, 0, 0), none, some (.iload 5, 2, 0, 0, 0), none, some (.aload_n 0, 1, 0, 0, 0), some (.getfield 151, 3, 12, 71, 0), none, none]], [[some (.iload_n 1, 1, 0, 0, 0), some (.iaload, 1, 0, 0, 0), some (.if_icmp .ge 118, 3, 3, 0, 0), none, none, some (.iconst (-1), 1, 0, 0, 0), some (.istore 6, 2, 0, 0, 0), none, some (.iconst 0, 1, 0, 0, 0), some (.istore 7, 2, 0, 0, 0), none, some (.iload 7, 2, 0, 0, 0), none, some (.bipush 6, 2, 0, 0, 6), none, some (.if_icmp .ge 88, 3, 3, 0, 0)], [none, none, some (.aload_n 0, 1, 0, 0, 0), some (.getfield 157, 3, 12, 73, 0), none, none, some (.iload_n 1, 1, 0, 0, 0), some (.aaload, 1, 0, 0, 0), some (.iload 5, 2, 0, 0, 0), none, some (.iconst 1, 1, 0, 0, 0), some (.isub, 1, 0, 0, 0), some (.iaload, 1, 0, 0, 0), some (.iload 7, 2, 0, 0, 0), none, some (.invokestatic 223, 3, 190, 1, 0)], [none, none, some (.istore 8, 2, 0, 0, 0), none, some (.iload 8, 2, 0, 0, 0), none, some (.iconst (-1), 1, 0, 0, 0), some (.if_icmp .eq 58, 3, 0, 0, 0), none, none, some (.aload_n 0, 1, 0, 0, 0), some (.getfield 139, 3, 12, 67, 0), none, none, some (.iload 8, 2, 0, 0, 0), none], [some (.baload, 1, 0, 0, 0), some (.ifCond .ne 48, 3, 1, 0, 0), none, none, some (.aload_n 0, 1, 0, 0, 0), some (.getfield 154, 3, 12, 72, 0), none, none, some (.iload 8, 2, 0, 0, 0), none, some (.iaload, 1, 0, 0, 0), some (.aload_n 0, 1, 0, 0, 0), some (.getfield 154, 3, 12, 72, 0), none, none, some (.aload_n 0, 1, 0, 0, 0)], [some (.getfield 157, 3, 12, 73, 0), none, none, some (.iload_n 1, 1, 0, 0, 0), some (.aaload, 1, 0, 0, 0), some (.iload 5, 2, 0, 0, 0), none, some (.iconst 1, 1, 0, 0, 0), some (.isub, 1, 0, 0, 0), some (.iaload, 1, 0, 0, 0), some (.iaload, 1, 0, 0, 0), some (.iconst 1, 1, 0, 0, 0), some (.isub, 1, 0, 0, 0), some (.if_icmp .ne 20, 3, 1, 0, 0), none, none], [some (.iload 6, 2, 0, 0, 0), none, some (.iconst (-1), 1, 0, 0, 0), some (.if_icmp .eq 10, 3, 0, 0, 0), none, none, some (.iload 8, 2, 0, 0, 0), none, some (.iload 6, 2, 0, 0, 0), none, some (.if_icmp .ge 7, 3, 3, 0, 0), none, none, some (.iload 8, 2, 0, 0, 0), none, some (.istore 6, 2, 0, 0, 0)], [none, some (.iinc 7 1, 3, 0, 0, 0), none, none, some (.goto (-89), 3, 0, 0, 0), none, none, some (.aload_n 0, 1, 0, 0, 0), some (.getfield 157, 3, 12, 73, 0), none, none, some (.iload_n 1, 1, 0, 0, 0), some (.aaload, 1, 0, 0, 0), some (.iload 5, 2, 0, 0, 0), none, some (.iload 6, 2, 0, 0, 0)], [none, some (.iastore, 1, 0, 0, 0), some (.iinc 5 1, 3, 0, 0, 0), none, none, some (.goto (-123), 3, 0, 0, 0), none, none, some (.return_, 1, 0, 0, 0)]]]
def cd_X12_minutesOf : List (List (List (Option ARow))) := [[[some (.aload_n 0, 1, 0, 0, 0), some (.getfield 151, 3, 12, 71, 0), none, none, some (.iload_n 1, 1, 0, 0, 0), some (.iaload, 1, 0, 0, 0), some (.aload_n 0, 1, 0, 0, 0), some (.getfield 35, 3, 12, 23, 0), none, none, some (.iload_n 1, 1, 0, 0, 0), some (.iaload, 1, 0, 0, 0), some (.isub, 1, 0, 0, 0), some (.istore 4, 2, 0, 0, 0), none, some (.aload_n 0, 1, 0, 0, 0)], [some (.iload_n 1, 1, 0, 0, 0), some (.iload_n 3, 1, 0, 0, 0), some (.invokevirtual 303, 3, 220, 0, 0), none, none, some (.iload_n 2, 1, 0, 0, 0), some (.iconst 1, 1, 0, 0, 0), some (.if_icmp .ne 19, 3, 1, 0, 0), none, none, some (.iconst 2, 1, 0, 0, 0), some (.iload 4, 2, 0, 0, 0), none, some (.ifCond .le 8, 3, 5, 0, 0), none, none], [some (.iload 4, 2, 0, 0, 0), none, some (.goto 4, 3, 0, 0, 0), none, none, some (.iconst 0, 1, 0, 0, 0), some (.imul, 1, 0, 0, 0), some (.goto 15, 3, 0, 0, 0), none, none, some (.iload_n 2, 1, 0, 0, 0), some (.iconst 2, 1, 0, 0, 0), some (.if_icmp .ne 8, 3, 1, 0, 0), none, none, some (.bipush 15, 2, 0, 0, 15)], [none, some (.goto 5, 3, 0, 0, 0), none, none, some (.bipush 60, 2, 0, 0, 60), none, some (.imul, 1, 0, 0, 0), some (.ireturn, 1, 0, 0, 0)]]]
def cd_X12_isNoneFull : List (List (List (Option ARow))) := [[[some (.iconst 0, 1, 0, 0, 0), some (.istore_n 1, 1, 0, 0, 0), some (.iload_n 1, 1, 0, 0, 0), some (.bipush 8, 2, 0, 0, 8), none, some (.if_icmp .ge 37, 3, 3, 0, 0), none, none, some (.aload_n 0, 1, 0, 0, 0), some (.iload_n 1, 1, 0, 0, 0), some (.invokevirtual 327, 3, 230, 0, 0), none, none, some (.aload_n 0, 1, 0, 0, 0), some (.iload_n 1, 1, 0, 0, 0), some (.invokevirtual 351, 3, 233, 0, 0)], [none, none, some (.ifCond .eq 18, 3, 0, 0, 0), none, none, some (.aload_n 0, 1, 0, 0, 0), some (.invokevirtual 324, 3, 228, 0, 0), none, none, some (.aload_n 0, 1, 0, 0, 0), some (.getfield 73, 3, 12, 36, 0), none, none, some (.iload_n 1, 1, 0, 0, 0), some (.iaload, 1, 0, 0, 0), some (.if_icmp .le 5, 3, 5, 0, 0)], [none, none, some (.iconst 0, 1, 0, 0, 0), some (.ireturn, 1, 0, 0, 0), some (.iinc 1 1, 3, 0, 0, 0), none, none, some (.goto (-37), 3, 0, 0, 0), none, none, some (.iconst 1, 1, 0, 0, 0), some (.ireturn, 1, 0, 0, 0)]]]
def cd_X12_asMended : List (List (List (Option ARow))) := [[[some (.aload_n 0, 1, 0, 0, 0), some (.iload_n 1, 1, 0, 0, 0), some (.invokevirtual 333, 3, 222, 0, 0), none, none, some (.iconst 0, 1, 0, 0, 0), some (.istore_n 2, 1, 0, 0, 0), some (.iload_n 2, 1, 0, 0, 0), some (.aload_n 0, 1, 0, 0, 0), some (.getfield 431, 3, 12, 74, 0), none, none, some (.if_icmp .ge 131, 3, 3, 0, 0), none, none, some (.aload_n 0, 1, 0, 0, 0)], [some (.getfield 142, 3, 12, 68, 0), none, none, some (.iload_n 2, 1, 0, 0, 0), some (.iaload, 1, 0, 0, 0), some (.istore_n 3, 1, 0, 0, 0), some (.aload_n 0, 1, 0, 0, 0), some (.getfield 145, 3, 12, 69, 0), none, none, some (.iload_n 3, 1, 0, 0, 0), some (.iaload, 1, 0, 0, 0), some (.iconst 1, 1, 0, 0, 0), some (.if_icmp .le 13, 3, 5, 0, 0), none, none], [some (.aload_n 0, 1, 0, 0, 0), some (.getfield 61, 3, 12, 32, 0), none, none, some (.iload_n 3, 1, 0, 0, 0), some (.iconst 0, 1, 0, 0, 0), some (.iastore, 1, 0, 0, 0), some (.goto 98, 3, 0, 0, 0), none, none, some (.aload_n 0, 1, 0, 0, 0), some (.getfield 58, 3, 12, 31, 0), none, none, some (.iload_n 3, 1, 0, 0, 0), some (.aload_n 0, 1, 0, 0, 0)], [some (.getfield 151, 3, 12, 71, 0), none, none, some (.iload_n 3, 1, 0, 0, 0), some (.iaload, 1, 0, 0, 0), some (.iastore, 1, 0, 0, 0), some (.iconst 0, 1, 0, 0, 0), some (.istore 4, 2, 0, 0, 0), none, some (.iload 4, 2, 0, 0, 0), none, some (.sipush 128, 3, 0, 0, 128), none, none, some (.if_icmp .ge 19, 3, 3, 0, 0), none], [none, some (.aload_n 0, 1, 0, 0, 0), some (.getfield 67, 3, 12, 34, 0), none, none, some (.iload_n 3, 1, 0, 0, 0), some (.aaload, 1, 0, 0, 0), some (.iload 4, 2, 0, 0, 0), none, some (.iconst (-1), 1, 0, 0, 0), some (.iastore, 1, 0, 0, 0), some (.iinc 4 1, 3, 0, 0, 0), none, none, some (.goto (-21), 3, 0, 0, 0), none], [none, some (.iconst 0, 1, 0, 0, 0), some (.istore 4, 2, 0, 0, 0), none, some (.iload 4, 2, 0, 0, 0), none, some (.aload_n 0, 1, 0, 0, 0), some (.getfield 151, 3, 12, 71, 0), none, none, some (.iload_n 3, 1, 0, 0, 0), some (.iaload, 1, 0, 0, 0), some (.if_icmp .ge 45, 3, 3, 0, 0), none, none, some (.aload_n 0, 1, 0, 0, 0)], [some (.getfield 64, 3, 12, 33, 0), none, none, some (.iload_n 3, 1, 0, 0, 0), some (.aaload, 1, 0, 0, 0), some (.iload 4, 2, 0, 0, 0), none, some (.aload_n 0, 1, 0, 0, 0), some (.getfield 157, 3, 12, 73, 0), none, none, some (.iload_n 3, 1, 0, 0, 0), some (.aaload, 1, 0, 0, 0), some (.iload 4, 2, 0, 0, 0), none, some (.iaload, 1, 0, 0, 0)], [some (.iastore, 1, 0, 0, 0), some (.aload_n 0, 1, 0, 0, 0), some (.getfield 67, 3, 12, 34, 0), none, none, some (.iload_n 3, 1, 0, 0, 0), some (.aaload, 1, 0, 0, 0), some (.aload_n 0, 1, 0, 0, 0), some (.getfield 157, 3, 12, 73, 0), none, none, some (.iload_n 3, 1, 0, 0, 0), some (.aaload, 1, 0, 0, 0), some (.iload 4, 2, 0, 0, 0), none, some (.iaload, 1, 0, 0, 0)], [some (.iload 4, 2, 0, 0, 0), none, some (.iastore, 1, 0, 0, 0), some (.iinc 4 1, 3, 0, 0, 0), none, none, some (.goto (-50), 3, 0, 0, 0), none, none, some (.iinc 2 1, 3, 0, 0, 0), none, none, some (.goto (-133), 3, 0, 0, 0), none, none, some (.return_, 1, 0, 0, 0)]]]
def cd_X12_goThrough : List (List (List (Option ARow))) := [[[some (.aload_n 0, 1, 0, 0, 0), some (.getfield 434, 3, 12, 75, 0), none, none, some (.iconst (-1), 1, 0, 0, 0), some (.if_icmp .eq 13, 3, 0, 0, 0), none, none, some (.iload 5, 2, 0, 0, 0), none, some (.aload_n 0, 1, 0, 0, 0), some (.getfield 434, 3, 12, 75, 0), none, none, some (.if_icmp .lt 4, 3, 2, 0, 0), none], [none, some (.return_, 1, 0, 0, 0), some (.iload_n 1, 1, 0, 0, 0), some (.aload_n 0, 1, 0, 0, 0), some (.getfield 431, 3, 12, 74, 0), none, none, some (.if_icmp .ne 53, 3, 1, 0, 0), none, none, some (.aload_n 0, 1, 0, 0, 0), some (.iload_n 2, 1, 0, 0, 0), some (.invokevirtual 437, 3, 284, 0, 0), none, none, some (.aload_n 0, 1, 0, 0, 0)], [some (.invokevirtual 440, 3, 283, 0, 0), none, none, some (.ifCond .ne 4, 3, 1, 0, 0), none, none, some (.return_, 1, 0, 0, 0), some (.aload_n 0, 1, 0, 0, 0), some (.iload 5, 2, 0, 0, 0), none, some (.putfield 434, 3, 12, 75, 0), none, none, some (.iconst 0, 1, 0, 0, 0), some (.istore 6, 2, 0, 0, 0), none], [some (.iload 6, 2, 0, 0, 0), none, some (.bipush 12, 2, 0, 0, 12), none, some (.if_icmp .ge 23, 3, 3, 0, 0), none, none, some (.aload_n 0, 1, 0, 0, 0), some (.getfield 148, 3, 12, 70, 0), none, none, some (.iload 6, 2, 0, 0, 0), none, some (.aload_n 0, 1, 0, 0, 0), some (.getfield 145, 3, 12, 69, 0), none], [none, some (.iload 6, 2, 0, 0, 0), none, some (.iaload, 1, 0, 0, 0), some (.iastore, 1, 0, 0, 0), some (.iinc 6 1, 3, 0, 0, 0), none, none, some (.goto (-24), 3, 0, 0, 0), none, none, some (.return_, 1, 0, 0, 0), some (.aload_n 0, 1, 0, 0, 0), some (.getfield 142, 3, 12, 68, 0), none, none], [some (.iload_n 1, 1, 0, 0, 0), some (.iaload, 1, 0, 0, 0), some (.istore 6, 2, 0, 0, 0), none, some (.iconst 1, 1, 0, 0, 0), some (.istore 7, 2, 0, 0, 0), none, some (.iload 7, 2, 0, 0, 0), none, some (.iconst 4, 1, 0, 0, 0), some (.if_icmp .ge 106, 3, 3, 0, 0), none, none, some (.iload 7, 2, 0, 0, 0), none, some (.iconst 1, 1, 0, 0, 0)], [some (.if_icmp .ne 13, 3, 1, 0, 0), none, none, some (.aload_n 0, 1, 0, 0, 0), some (.getfield 151, 3, 12, 71, 0), none, none, some (.iload 6, 2, 0, 0, 0), none, some (.iaload, 1, 0, 0, 0), some (.ifCond .eq 84, 3, 0, 0, 0), none, none, some (.iload 7, 2, 0, 0, 0), none, some (.iconst 2, 1, 0, 0, 0)], [some (.if_icmp .ne 7, 3, 1, 0, 0), none, none, some (.iload_n 3, 1, 0, 0, 0), some (.ifCond .eq 74, 3, 0, 0, 0), none, none, some (.iload 7, 2, 0, 0, 0), none, some (.iconst 3, 1, 0, 0, 0), some (.if_icmp .ne 11, 3, 1, 0, 0), none, none, some (.iload 4, 2, 0, 0, 0), none, some (.ifCond .ne 6, 3, 1, 0, 0)], [none, none, some (.goto 60, 3, 0, 0, 0), none, none, some (.aload_n 0, 1, 0, 0, 0), some (.getfield 145, 3, 12, 69, 0), none, none, some (.iload 6, 2, 0, 0, 0), none, some (.iload 7, 2, 0, 0, 0), none, some (.iastore, 1, 0, 0, 0), some (.aload_n 0, 1, 0, 0, 0), some (.iload_n 1, 1, 0, 0, 0)], [some (.iconst 1, 1, 0, 0, 0), some (.iadd, 1, 0, 0, 0), some (.iload_n 2, 1, 0, 0, 0), some (.iload 7, 2, 0, 0, 0), none, some (.iconst 2, 1, 0, 0, 0), some (.if_icmp .ne 9, 3, 1, 0, 0), none, none, some (.iload_n 3, 1, 0, 0, 0), some (.iconst 1, 1, 0, 0, 0), some (.isub, 1, 0, 0, 0), some (.goto 4, 3, 0, 0, 0), none, none, some (.iload_n 3, 1, 0, 0, 0)], [some (.iload 7, 2, 0, 0, 0), none, some (.iconst 3, 1, 0, 0, 0), some (.if_icmp .ne 10, 3, 1, 0, 0), none, none, some (.iload 4, 2, 0, 0, 0), none, some (.iconst 1, 1, 0, 0, 0), some (.isub, 1, 0, 0, 0), some (.goto 5, 3, 0, 0, 0), none, none, some (.iload 4, 2, 0, 0, 0), none, some (.iload 5, 2, 0, 0, 0)], [none, some (.aload_n 0, 1, 0, 0, 0), some (.iload 6, 2, 0, 0, 0), none, some (.iload 7, 2, 0, 0, 0), none, some (.iload_n 2, 1, 0, 0, 0), some (.invokevirtual 443, 3, 282, 0, 0), none, none, some (.iadd, 1, 0, 0, 0), some (.invokevirtual 447, 3, 285, 0, 0), none, none, some (.iinc 7 1, 3, 0, 0, 0), none], [none, some (.goto (-106), 3, 0, 0, 0), none, none, some (.aload_n 0, 1, 0, 0, 0), some (.getfield 145, 3, 12, 69, 0), none, none, some (.iload 6, 2, 0, 0, 0), none, some (.iconst 0, 1, 0, 0, 0), some (.iastore, 1, 0, 0, 0), some (.return_, 1, 0, 0, 0)]]]
def cd_X12_mends : List (List (List (Option ARow))) := [[[some (.aload_n 0, 1, 0, 0, 0), some (.iconst 0, 1, 0, 0, 0), some (.putfield 172, 3, 12, 0, 0), none, none, some (.aload_n 0, 1, 0, 0, 0), some (.iload_n 1, 1, 0, 0, 0), some (.iconst 0, 1, 0, 0, 0), some (.bipush 23, 2, 0, 0, 23), none, some (.invokestatic 209, 3, 188, 1, 0), none, none, some (.ifCond .eq 35, 3, 0, 0, 0), none, none], [some (.iload_n 2, 1, 0, 0, 0), some (.iconst 0, 1, 0, 0, 0), some (.bipush 8, 2, 0, 0, 8), none, some (.invokestatic 209, 3, 188, 1, 0), none, none, some (.ifCond .eq 25, 3, 0, 0, 0), none, none, some (.iload_n 3, 1, 0, 0, 0), some (.iconst 0, 1, 0, 0, 0), some (.bipush 8, 2, 0, 0, 8), none, some (.invokestatic 209, 3, 188, 1, 0), none], [none, some (.ifCond .eq 15, 3, 0, 0, 0), none, none, some (.iload 4, 2, 0, 0, 0), none, some (.bipush (-2), 2, 0, 0, (-2)), none, some (.bipush 11, 2, 0, 0, 11), none, some (.invokestatic 209, 3, 188, 1, 0), none, none, some (.ifCond .ne 7, 3, 1, 0, 0), none, none], [some (.iconst 1, 1, 0, 0, 0), some (.goto 4, 3, 0, 0, 0), none, none, some (.iconst 0, 1, 0, 0, 0), some (.iconst 1, 1, 0, 0, 0), some (.invokevirtual 229, 3, 187, 0, 0), none, none, some (.ifCond .eq 5, 3, 0, 0, 0), none, none, some (.iconst 0, 1, 0, 0, 0), some (.ireturn, 1, 0, 0, 0), some (.iconst 0, 1, 0, 0, 0), some (.istore 5, 2, 0, 0, 0)], [none, some (.aload_n 0, 1, 0, 0, 0), some (.iconst 0, 1, 0, 0, 0), some (.putfield 431, 3, 12, 74, 0), none, none, some (.iconst 0, 1, 0, 0, 0), some (.istore 6, 2, 0, 0, 0), none, some (.iload 6, 2, 0, 0, 0), none, some (.aload_n 0, 1, 0, 0, 0), some (.getfield 233, 3, 12, 22, 0), none, none, some (.if_icmp .ge 69, 3, 3, 0, 0)], [none, none, some (.aload_n 0, 1, 0, 0, 0), some (.getfield 145, 3, 12, 69, 0), none, none, some (.iload 6, 2, 0, 0, 0), none, some (.iconst 0, 1, 0, 0, 0), some (.iastore, 1, 0, 0, 0), some (.aload_n 0, 1, 0, 0, 0), some (.iload 6, 2, 0, 0, 0), none, some (.iload_n 1, 1, 0, 0, 0), some (.invokevirtual 451, 3, 280, 0, 0), none], [none, some (.ifCond .ne 6, 3, 1, 0, 0), none, none, some (.goto 42, 3, 0, 0, 0), none, none, some (.iload 5, 2, 0, 0, 0), none, some (.iconst 1, 1, 0, 0, 0), some (.iload 6, 2, 0, 0, 0), none, some (.ishl, 1, 0, 0, 0), some (.ior, 1, 0, 0, 0), some (.istore 5, 2, 0, 0, 0), none], [some (.aload_n 0, 1, 0, 0, 0), some (.getfield 431, 3, 12, 74, 0), none, none, some (.bipush 8, 2, 0, 0, 8), none, some (.if_icmp .ge 14, 3, 3, 0, 0), none, none, some (.aload_n 0, 1, 0, 0, 0), some (.getfield 142, 3, 12, 68, 0), none, none, some (.aload_n 0, 1, 0, 0, 0), some (.getfield 431, 3, 12, 74, 0), none], [none, some (.iload 6, 2, 0, 0, 0), none, some (.iastore, 1, 0, 0, 0), some (.aload_n 0, 1, 0, 0, 0), some (.dup, 1, 0, 0, 0), some (.getfield 431, 3, 12, 74, 0), none, none, some (.iconst 1, 1, 0, 0, 0), some (.iadd, 1, 0, 0, 0), some (.putfield 431, 3, 12, 74, 0), none, none, some (.iinc 6 1, 3, 0, 0, 0), none], [none, some (.goto (-72), 3, 0, 0, 0), none, none, some (.iload 4, 2, 0, 0, 0), none, some (.bipush (-2), 2, 0, 0, (-2)), none, some (.if_icmp .ne 6, 3, 1, 0, 0), none, none, some (.iload 5, 2, 0, 0, 0), none, some (.ireturn, 1, 0, 0, 0), some (.aload_n 0, 1, 0, 0, 0), some (.iconst (-1), 1, 0, 0, 0)], [some (.putfield 434, 3, 12, 75, 0), none, none, some (.aload_n 0, 1, 0, 0, 0), some (.getfield 431, 3, 12, 74, 0), none, none, some (.bipush 8, 2, 0, 0, 8), none, some (.if_icmp .le 5, 3, 5, 0, 0), none, none, some (.iconst (-1), 1, 0, 0, 0), some (.ireturn, 1, 0, 0, 0), some (.iconst 0, 1, 0, 0, 0), some (.istore 6, 2, 0, 0, 0)], [none, some (.iload 6, 2, 0, 0, 0), none, some (.aload_n 0, 1, 0, 0, 0), some (.getfield 431, 3, 12, 74, 0), none, none, some (.if_icmp .ge 20, 3, 3, 0, 0), none, none, some (.aload_n 0, 1, 0, 0, 0), some (.aload_n 0, 1, 0, 0, 0), some (.getfield 142, 3, 12, 68, 0), none, none, some (.iload 6, 2, 0, 0, 0)], [none, some (.iaload, 1, 0, 0, 0), some (.invokevirtual 455, 3, 281, 0, 0), none, none, some (.iinc 6 1, 3, 0, 0, 0), none, none, some (.goto (-23), 3, 0, 0, 0), none, none, some (.aload_n 0, 1, 0, 0, 0), some (.iconst 0, 1, 0, 0, 0), some (.iload_n 1, 1, 0, 0, 0), some (.iload_n 2, 1, 0, 0, 0), some (.iload_n 3, 1, 0, 0, 0)], [some (.iconst 0, 1, 0, 0, 0), some (.invokevirtual 447, 3, 285, 0, 0), none, none, some (.aload_n 0, 1, 0, 0, 0), some (.getfield 434, 3, 12, 75, 0), none, none, some (.iconst (-1), 1, 0, 0, 0), some (.if_icmp .ne 7, 3, 1, 0, 0), none, none, some (.iconst (-1), 1, 0, 0, 0), some (.goto 36, 3, 0, 0, 0), none, none], [some (.iload 4, 2, 0, 0, 0), none, some (.iconst (-1), 1, 0, 0, 0), some (.if_icmp .ne 10, 3, 1, 0, 0), none, none, some (.aload_n 0, 1, 0, 0, 0), some (.getfield 434, 3, 12, 75, 0), none, none, some (.goto 23, 3, 0, 0, 0), none, none, some (.iload 4, 2, 0, 0, 0), none, some (.aload_n 0, 1, 0, 0, 0)], [some (.getfield 233, 3, 12, 22, 0), none, none, some (.if_icmp .ge 13, 3, 3, 0, 0), none, none, some (.aload_n 0, 1, 0, 0, 0), some (.getfield 148, 3, 12, 70, 0), none, none, some (.iload 4, 2, 0, 0, 0), none, some (.iaload, 1, 0, 0, 0), some (.goto 4, 3, 0, 0, 0), none, none]], [[some (.iconst 0, 1, 0, 0, 0), some (.ireturn, 1, 0, 0, 0)]]]
def cd_X12_did : List (List (List (Option ARow))) := [[[some (.aload_n 0, 1, 0, 0, 0), some (.iconst 0, 1, 0, 0, 0), some (.putfield 172, 3, 12, 0, 0), none, none, some (.aload_n 0, 1, 0, 0, 0), some (.iload_n 1, 1, 0, 0, 0), some (.iconst 0, 1, 0, 0, 0), some (.bipush 7, 2, 0, 0, 7), none, some (.invokestatic 209, 3, 188, 1, 0), none, none, some (.ifCond .eq 24, 3, 0, 0, 0), none, none], [some (.iload_n 2, 1, 0, 0, 0), some (.iconst 0, 1, 0, 0, 0), some (.bipush 23, 2, 0, 0, 23), none, some (.invokestatic 209, 3, 188, 1, 0), none, none, some (.ifCond .eq 14, 3, 0, 0, 0), none, none, some (.iload_n 3, 1, 0, 0, 0), some (.iconst 0, 1, 0, 0, 0), some (.sipush 9999, 3, 0, 0, 9999), none, none, some (.invokestatic 209, 3, 188, 1, 0)], [none, none, some (.ifCond .ne 7, 3, 1, 0, 0), none, none, some (.iconst 1, 1, 0, 0, 0), some (.goto 4, 3, 0, 0, 0), none, none, some (.iconst 0, 1, 0, 0, 0), some (.iconst 1, 1, 0, 0, 0), some (.invokevirtual 229, 3, 187, 0, 0), none, none, some (.ifCond .eq 5, 3, 0, 0, 0), none], [none, some (.iconst 0, 1, 0, 0, 0), some (.ireturn, 1, 0, 0, 0), some (.aload_n 0, 1, 0, 0, 0), some (.getfield 458, 3, 12, 76, 0), none, none, some (.bipush 40, 2, 0, 0, 40), none, some (.if_icmp .ne 5, 3, 1, 0, 0), none, none, some (.iconst (-1), 1, 0, 0, 0), some (.ireturn, 1, 0, 0, 0), some (.aload_n 0, 1, 0, 0, 0), some (.iload_n 1, 1, 0, 0, 0)], [some (.invokevirtual 327, 3, 230, 0, 0), none, none, some (.aload_n 0, 1, 0, 0, 0), some (.iload_n 2, 1, 0, 0, 0), some (.invokevirtual 333, 3, 222, 0, 0), none, none, some (.aload_n 0, 1, 0, 0, 0), some (.invokevirtual 318, 3, 227, 0, 0), none, none, some (.iconst 0, 1, 0, 0, 0), some (.istore 5, 2, 0, 0, 0), none, some (.iload 5, 2, 0, 0, 0)], [none, some (.iconst 4, 1, 0, 0, 0), some (.if_icmp .ge 28, 3, 3, 0, 0), none, none, some (.aload_n 0, 1, 0, 0, 0), some (.getfield 160, 3, 12, 77, 0), none, none, some (.aload_n 0, 1, 0, 0, 0), some (.getfield 458, 3, 12, 76, 0), none, none, some (.aaload, 1, 0, 0, 0), some (.iload 5, 2, 0, 0, 0), none], [some (.aload_n 0, 1, 0, 0, 0), some (.getfield 32, 3, 12, 21, 0), none, none, some (.iload 5, 2, 0, 0, 0), none, some (.iaload, 1, 0, 0, 0), some (.iastore, 1, 0, 0, 0), some (.iinc 5 1, 3, 0, 0, 0), none, none, some (.goto (-28), 3, 0, 0, 0), none, none, some (.aload_n 0, 1, 0, 0, 0), some (.getfield 163, 3, 12, 78, 0)], [none, none, some (.aload_n 0, 1, 0, 0, 0), some (.getfield 458, 3, 12, 76, 0), none, none, some (.iload_n 3, 1, 0, 0, 0), some (.iastore, 1, 0, 0, 0), some (.aload_n 0, 1, 0, 0, 0), some (.getfield 169, 3, 12, 80, 0), none, none, some (.aload_n 0, 1, 0, 0, 0), some (.getfield 458, 3, 12, 76, 0), none, none], [some (.iload 4, 2, 0, 0, 0), none, some (.bastore, 1, 0, 0, 0), some (.aload_n 0, 1, 0, 0, 0), some (.dup, 1, 0, 0, 0), some (.getfield 458, 3, 12, 76, 0), none, none, some (.iconst 1, 1, 0, 0, 0), some (.iadd, 1, 0, 0, 0), some (.putfield 458, 3, 12, 76, 0), none, none, some (.aload_n 0, 1, 0, 0, 0), some (.getfield 458, 3, 12, 76, 0), none], [none, some (.iconst 1, 1, 0, 0, 0), some (.isub, 1, 0, 0, 0), some (.ireturn, 1, 0, 0, 0)]]]
def cd_X12_offOf : List (List (List (Option ARow))) := [[[some (.iconst 0, 1, 0, 0, 0), some (.istore_n 3, 1, 0, 0, 0), some (.iconst 0, 1, 0, 0, 0), some (.istore 4, 2, 0, 0, 0), none, some (.iload 4, 2, 0, 0, 0), none, some (.aload_n 0, 1, 0, 0, 0), some (.getfield 458, 3, 12, 76, 0), none, none, some (.if_icmp .ge 103, 3, 3, 0, 0), none, none, some (.aload_n 0, 1, 0, 0, 0), some (.getfield 163, 3, 12, 78, 0)], [none, none, some (.iload 4, 2, 0, 0, 0), none, some (.iaload, 1, 0, 0, 0), some (.iload_n 1, 1, 0, 0, 0), some (.bipush 125, 2, 0, 0, 125), none, some (.idiv, 1, 0, 0, 0), some (.aload_n 0, 1, 0, 0, 0), some (.getfield 160, 3, 12, 77, 0), none, none, some (.iload 4, 2, 0, 0, 0), none, some (.aaload, 1, 0, 0, 0)], [some (.iconst 0, 1, 0, 0, 0), some (.iaload, 1, 0, 0, 0), some (.imul, 1, 0, 0, 0), some (.isub, 1, 0, 0, 0), some (.iload_n 1, 1, 0, 0, 0), some (.bipush 25, 2, 0, 0, 25), none, some (.idiv, 1, 0, 0, 0), some (.iconst 5, 1, 0, 0, 0), some (.irem, 1, 0, 0, 0), some (.aload_n 0, 1, 0, 0, 0), some (.getfield 160, 3, 12, 77, 0), none, none, some (.iload 4, 2, 0, 0, 0), none], [some (.aaload, 1, 0, 0, 0), some (.iconst 1, 1, 0, 0, 0), some (.iaload, 1, 0, 0, 0), some (.imul, 1, 0, 0, 0), some (.isub, 1, 0, 0, 0), some (.iload_n 1, 1, 0, 0, 0), some (.iconst 5, 1, 0, 0, 0), some (.idiv, 1, 0, 0, 0), some (.iconst 5, 1, 0, 0, 0), some (.irem, 1, 0, 0, 0), some (.aload_n 0, 1, 0, 0, 0), some (.getfield 160, 3, 12, 77, 0), none, none, some (.iload 4, 2, 0, 0, 0), none], [some (.aaload, 1, 0, 0, 0), some (.iconst 2, 1, 0, 0, 0), some (.iaload, 1, 0, 0, 0), some (.imul, 1, 0, 0, 0), some (.isub, 1, 0, 0, 0), some (.iload_n 1, 1, 0, 0, 0), some (.iconst 5, 1, 0, 0, 0), some (.irem, 1, 0, 0, 0), some (.aload_n 0, 1, 0, 0, 0), some (.getfield 160, 3, 12, 77, 0), none, none, some (.iload 4, 2, 0, 0, 0), none, some (.aaload, 1, 0, 0, 0), some (.iconst 3, 1, 0, 0, 0)], [some (.iaload, 1, 0, 0, 0), some (.imul, 1, 0, 0, 0), some (.isub, 1, 0, 0, 0), some (.istore 5, 2, 0, 0, 0), none, some (.iload_n 3, 1, 0, 0, 0), some (.aload_n 0, 1, 0, 0, 0), some (.getfield 169, 3, 12, 80, 0), none, none, some (.iload 4, 2, 0, 0, 0), none, some (.baload, 1, 0, 0, 0), some (.iload_n 2, 1, 0, 0, 0), some (.if_icmp .ne 11, 3, 1, 0, 0), none], [none, some (.iload 5, 2, 0, 0, 0), none, some (.invokestatic 461, 3, 189, 1, 0), none, none, some (.goto 4, 3, 0, 0, 0), none, none, some (.iconst 0, 1, 0, 0, 0), some (.iadd, 1, 0, 0, 0), some (.istore_n 3, 1, 0, 0, 0), some (.iinc 4 1, 3, 0, 0, 0), none, none, some (.goto (-106), 3, 0, 0, 0)], [none, none, some (.iload_n 3, 1, 0, 0, 0), some (.ireturn, 1, 0, 0, 0)]]]
def cd_X12_fit : List (List (List (Option ARow))) := [[[some (.aload_n 0, 1, 0, 0, 0), some (.iconst 0, 1, 0, 0, 0), some (.putfield 172, 3, 12, 0, 0), none, none, some (.aload_n 0, 1, 0, 0, 0), some (.iload_n 1, 1, 0, 0, 0), some (.iconst 0, 1, 0, 0, 0), some (.iconst 5, 1, 0, 0, 0), some (.invokestatic 209, 3, 188, 1, 0), none, none, some (.ifCond .ne 7, 3, 1, 0, 0), none, none, some (.iconst 1, 1, 0, 0, 0)], [some (.goto 4, 3, 0, 0, 0), none, none, some (.iconst 0, 1, 0, 0, 0), some (.iconst 1, 1, 0, 0, 0), some (.invokevirtual 229, 3, 187, 0, 0), none, none, some (.ifCond .eq 5, 3, 0, 0, 0), none, none, some (.iconst 0, 1, 0, 0, 0), some (.ireturn, 1, 0, 0, 0), some (.iconst 0, 1, 0, 0, 0), some (.istore_n 2, 1, 0, 0, 0), some (.iconst 0, 1, 0, 0, 0)], [some (.istore_n 3, 1, 0, 0, 0), some (.iload_n 3, 1, 0, 0, 0), some (.aload_n 0, 1, 0, 0, 0), some (.getfield 458, 3, 12, 76, 0), none, none, some (.if_icmp .ge 28, 3, 3, 0, 0), none, none, some (.iload_n 2, 1, 0, 0, 0), some (.ifCond .ne 12, 3, 1, 0, 0), none, none, some (.aload_n 0, 1, 0, 0, 0), some (.getfield 169, 3, 12, 80, 0), none], [none, some (.iload_n 3, 1, 0, 0, 0), some (.baload, 1, 0, 0, 0), some (.ifCond .ne 7, 3, 1, 0, 0), none, none, some (.iconst 1, 1, 0, 0, 0), some (.goto 4, 3, 0, 0, 0), none, none, some (.iconst 0, 1, 0, 0, 0), some (.istore_n 2, 1, 0, 0, 0), some (.iinc 3 1, 3, 0, 0, 0), none, none, some (.goto (-30), 3, 0, 0, 0)], [none, none, some (.iload_n 2, 1, 0, 0, 0), some (.ifCond .ne 5, 3, 1, 0, 0), none, none, some (.iconst (-1), 1, 0, 0, 0), some (.ireturn, 1, 0, 0, 0), some (.iconst 0, 1, 0, 0, 0), some (.istore_n 3, 1, 0, 0, 0), some (.aload_n 0, 1, 0, 0, 0), some (.iconst 0, 1, 0, 0, 0), some (.iconst 0, 1, 0, 0, 0), some (.invokevirtual 464, 3, 288, 0, 0), none, none], [some (.istore 4, 2, 0, 0, 0), none, some (.iconst 1, 1, 0, 0, 0), some (.istore 5, 2, 0, 0, 0), none, some (.iload 5, 2, 0, 0, 0), none, some (.sipush 625, 3, 0, 0, 625), none, none, some (.if_icmp .ge 35, 3, 3, 0, 0), none, none, some (.aload_n 0, 1, 0, 0, 0), some (.iload 5, 2, 0, 0, 0), none], [some (.iconst 0, 1, 0, 0, 0), some (.invokevirtual 464, 3, 288, 0, 0), none, none, some (.istore 6, 2, 0, 0, 0), none, some (.iload 6, 2, 0, 0, 0), none, some (.iload 4, 2, 0, 0, 0), none, some (.if_icmp .lt 6, 3, 2, 0, 0), none, none, some (.goto 10, 3, 0, 0, 0), none, none], [some (.iload 5, 2, 0, 0, 0), none, some (.istore_n 3, 1, 0, 0, 0), some (.iload 6, 2, 0, 0, 0), none, some (.istore 4, 2, 0, 0, 0), none, some (.iinc 5 1, 3, 0, 0, 0), none, none, some (.goto (-37), 3, 0, 0, 0), none, none, some (.iload_n 1, 1, 0, 0, 0), some (.iconst 3, 1, 0, 0, 0), some (.if_icmp .le 20, 3, 5, 0, 0)], [none, none, some (.iload_n 1, 1, 0, 0, 0), some (.iconst 4, 1, 0, 0, 0), some (.if_icmp .ne 8, 3, 1, 0, 0), none, none, some (.iload 4, 2, 0, 0, 0), none, some (.goto 9, 3, 0, 0, 0), none, none, some (.aload_n 0, 1, 0, 0, 0), some (.iload_n 3, 1, 0, 0, 0), some (.iconst 1, 1, 0, 0, 0), some (.invokevirtual 464, 3, 288, 0, 0)], [none, none, some (.ireturn, 1, 0, 0, 0), some (.iload_n 1, 1, 0, 0, 0), some (.ifCond .ne 10, 3, 1, 0, 0), none, none, some (.iload_n 3, 1, 0, 0, 0), some (.bipush 125, 2, 0, 0, 125), none, some (.idiv, 1, 0, 0, 0), some (.goto 33, 3, 0, 0, 0), none, none, some (.iload_n 1, 1, 0, 0, 0), some (.iconst 1, 1, 0, 0, 0)], [some (.if_icmp .ne 12, 3, 1, 0, 0), none, none, some (.iload_n 3, 1, 0, 0, 0), some (.bipush 25, 2, 0, 0, 25), none, some (.idiv, 1, 0, 0, 0), some (.iconst 5, 1, 0, 0, 0), some (.irem, 1, 0, 0, 0), some (.goto 19, 3, 0, 0, 0), none, none, some (.iload_n 1, 1, 0, 0, 0), some (.iconst 2, 1, 0, 0, 0), some (.if_icmp .ne 11, 3, 1, 0, 0), none], [none, some (.iload_n 3, 1, 0, 0, 0), some (.iconst 5, 1, 0, 0, 0), some (.idiv, 1, 0, 0, 0), some (.iconst 5, 1, 0, 0, 0), some (.irem, 1, 0, 0, 0), some (.goto 6, 3, 0, 0, 0), none, none, some (.iload_n 3, 1, 0, 0, 0), some (.iconst 5, 1, 0, 0, 0), some (.irem, 1, 0, 0, 0), some (.ireturn, 1, 0, 0, 0)]]]
def cd_X12_lead : List (List (List (Option ARow))) := [[[some (.aload_n 0, 1, 0, 0, 0), some (.iconst 0, 1, 0, 0, 0), some (.putfield 172, 3, 12, 0, 0), none, none, some (.aload_n 0, 1, 0, 0, 0), some (.iload_n 1, 1, 0, 0, 0), some (.iconst 0, 1, 0, 0, 0), some (.bipush 7, 2, 0, 0, 7), none, some (.invokestatic 209, 3, 188, 1, 0), none, none, some (.ifCond .eq 13, 3, 0, 0, 0), none, none], [some (.iload_n 2, 1, 0, 0, 0), some (.iconst 0, 1, 0, 0, 0), some (.bipush 23, 2, 0, 0, 23), none, some (.invokestatic 209, 3, 188, 1, 0), none, none, some (.ifCond .ne 7, 3, 1, 0, 0), none, none, some (.iconst 1, 1, 0, 0, 0), some (.goto 4, 3, 0, 0, 0), none, none, some (.iconst 0, 1, 0, 0, 0), some (.iconst 1, 1, 0, 0, 0)], [some (.invokevirtual 229, 3, 187, 0, 0), none, none, some (.ifCond .eq 5, 3, 0, 0, 0), none, none, some (.iconst 0, 1, 0, 0, 0), some (.ireturn, 1, 0, 0, 0), some (.aload_n 0, 1, 0, 0, 0), some (.iload_n 1, 1, 0, 0, 0), some (.invokevirtual 327, 3, 230, 0, 0), none, none, some (.aload_n 0, 1, 0, 0, 0), some (.iload_n 2, 1, 0, 0, 0), some (.invokevirtual 333, 3, 222, 0, 0)], [none, none, some (.aload_n 0, 1, 0, 0, 0), some (.invokevirtual 324, 3, 228, 0, 0), none, none, some (.istore 5, 2, 0, 0, 0), none, some (.bipush 12, 2, 0, 0, 12), none, some (.newarray .int, 2, 0, 0, 0), none, some (.astore 6, 2, 0, 0, 0), none, some (.iconst 0, 1, 0, 0, 0), some (.istore 7, 2, 0, 0, 0)], [none, some (.iload 7, 2, 0, 0, 0), none, some (.aload_n 0, 1, 0, 0, 0), some (.getfield 233, 3, 12, 22, 0), none, none, some (.if_icmp .ge 47, 3, 3, 0, 0), none, none, some (.aload_n 0, 1, 0, 0, 0), some (.getfield 61, 3, 12, 32, 0), none, none, some (.iload 7, 2, 0, 0, 0), none], [some (.iaload, 1, 0, 0, 0), some (.istore 8, 2, 0, 0, 0), none, some (.aload_n 0, 1, 0, 0, 0), some (.getfield 61, 3, 12, 32, 0), none, none, some (.iload 7, 2, 0, 0, 0), none, some (.iconst 0, 1, 0, 0, 0), some (.iastore, 1, 0, 0, 0), some (.aload 6, 2, 0, 0, 0), none, some (.iload 7, 2, 0, 0, 0), none, some (.iload 5, 2, 0, 0, 0)], [none, some (.aload_n 0, 1, 0, 0, 0), some (.invokevirtual 324, 3, 228, 0, 0), none, none, some (.isub, 1, 0, 0, 0), some (.iastore, 1, 0, 0, 0), some (.aload_n 0, 1, 0, 0, 0), some (.getfield 61, 3, 12, 32, 0), none, none, some (.iload 7, 2, 0, 0, 0), none, some (.iload 8, 2, 0, 0, 0), none, some (.iastore, 1, 0, 0, 0)], [some (.iinc 7 1, 3, 0, 0, 0), none, none, some (.goto (-50), 3, 0, 0, 0), none, none, some (.iconst 0, 1, 0, 0, 0), some (.istore 7, 2, 0, 0, 0), none, some (.iload 7, 2, 0, 0, 0), none, some (.aload_n 0, 1, 0, 0, 0), some (.getfield 233, 3, 12, 22, 0), none, none, some (.if_icmp .ge 111, 3, 3, 0, 0)], [none, none, some (.iconst 0, 1, 0, 0, 0), some (.istore 8, 2, 0, 0, 0), none, some (.iconst 0, 1, 0, 0, 0), some (.istore 9, 2, 0, 0, 0), none, some (.iload 9, 2, 0, 0, 0), none, some (.aload_n 0, 1, 0, 0, 0), some (.getfield 233, 3, 12, 22, 0), none, none, some (.if_icmp .ge 60, 3, 3, 0, 0), none], [none, some (.iload 8, 2, 0, 0, 0), none, some (.aload 6, 2, 0, 0, 0), none, some (.iload 9, 2, 0, 0, 0), none, some (.iaload, 1, 0, 0, 0), some (.ifCond .eq 40, 3, 0, 0, 0), none, none, some (.aload 6, 2, 0, 0, 0), none, some (.iload 9, 2, 0, 0, 0), none, some (.iaload, 1, 0, 0, 0)], [some (.aload 6, 2, 0, 0, 0), none, some (.iload 7, 2, 0, 0, 0), none, some (.iaload, 1, 0, 0, 0), some (.if_icmp .gt 23, 3, 4, 0, 0), none, none, some (.aload 6, 2, 0, 0, 0), none, some (.iload 9, 2, 0, 0, 0), none, some (.iaload, 1, 0, 0, 0), some (.aload 6, 2, 0, 0, 0), none, some (.iload 7, 2, 0, 0, 0)], [none, some (.iaload, 1, 0, 0, 0), some (.if_icmp .ne 14, 3, 1, 0, 0), none, none, some (.iload 9, 2, 0, 0, 0), none, some (.iload 7, 2, 0, 0, 0), none, some (.if_icmp .ge 7, 3, 3, 0, 0), none, none, some (.iconst 1, 1, 0, 0, 0), some (.goto 4, 3, 0, 0, 0), none, none], [some (.iconst 0, 1, 0, 0, 0), some (.iadd, 1, 0, 0, 0), some (.istore 8, 2, 0, 0, 0), none, some (.iinc 9 1, 3, 0, 0, 0), none, none, some (.goto (-63), 3, 0, 0, 0), none, none, some (.aload 6, 2, 0, 0, 0), none, some (.iload 7, 2, 0, 0, 0), none, some (.iaload, 1, 0, 0, 0), some (.ifCond .eq 25, 3, 0, 0, 0)], [none, none, some (.iload 8, 2, 0, 0, 0), none, some (.iload_n 3, 1, 0, 0, 0), some (.if_icmp .ne 19, 3, 1, 0, 0), none, none, some (.iload 4, 2, 0, 0, 0), none, some (.ifCond .eq 11, 3, 0, 0, 0), none, none, some (.aload 6, 2, 0, 0, 0), none, some (.iload 7, 2, 0, 0, 0)], [none, some (.iaload, 1, 0, 0, 0), some (.goto 5, 3, 0, 0, 0), none, none, some (.iload 7, 2, 0, 0, 0), none, some (.ireturn, 1, 0, 0, 0), some (.iinc 7 1, 3, 0, 0, 0), none, none, some (.goto (-114), 3, 0, 0, 0), none, none, some (.iconst (-1), 1, 0, 0, 0), some (.ireturn, 1, 0, 0, 0)]]]
def cd_X12_worth : List (List (List (Option ARow))) := [[[some (.aload_n 0, 1, 0, 0, 0), some (.iconst 0, 1, 0, 0, 0), some (.putfield 172, 3, 12, 0, 0), none, none, some (.aload_n 0, 1, 0, 0, 0), some (.iload_n 1, 1, 0, 0, 0), some (.iconst 0, 1, 0, 0, 0), some (.bipush 127, 2, 0, 0, 127), none, some (.invokestatic 209, 3, 188, 1, 0), none, none, some (.ifCond .ne 7, 3, 1, 0, 0), none, none], [some (.iconst 1, 1, 0, 0, 0), some (.goto 4, 3, 0, 0, 0), none, none, some (.iconst 0, 1, 0, 0, 0), some (.iconst 1, 1, 0, 0, 0), some (.invokevirtual 229, 3, 187, 0, 0), none, none, some (.ifCond .ne 46, 3, 1, 0, 0), none, none, some (.aload_n 0, 1, 0, 0, 0), some (.iload_n 2, 1, 0, 0, 0), some (.iconst 0, 1, 0, 0, 0), some (.bipush 7, 2, 0, 0, 7)], [none, some (.invokestatic 209, 3, 188, 1, 0), none, none, some (.ifCond .eq 23, 3, 0, 0, 0), none, none, some (.aload_n 0, 1, 0, 0, 0), some (.getfield 70, 3, 12, 35, 0), none, none, some (.iload_n 1, 1, 0, 0, 0), some (.iaload, 1, 0, 0, 0), some (.iconst (-1), 1, 0, 0, 0), some (.if_icmp .eq 13, 3, 0, 0, 0), none], [none, some (.aload_n 0, 1, 0, 0, 0), some (.getfield 70, 3, 12, 35, 0), none, none, some (.iload_n 1, 1, 0, 0, 0), some (.iaload, 1, 0, 0, 0), some (.iload_n 2, 1, 0, 0, 0), some (.if_icmp .ne 7, 3, 1, 0, 0), none, none, some (.iconst 1, 1, 0, 0, 0), some (.goto 4, 3, 0, 0, 0), none, none, some (.iconst 0, 1, 0, 0, 0)], [some (.iconst 2, 1, 0, 0, 0), some (.invokevirtual 229, 3, 187, 0, 0), none, none, some (.ifCond .eq 5, 3, 0, 0, 0), none, none, some (.iconst 0, 1, 0, 0, 0), some (.ireturn, 1, 0, 0, 0), some (.aload_n 0, 1, 0, 0, 0), some (.invokevirtual 366, 3, 252, 0, 0), none, none, some (.istore_n 3, 1, 0, 0, 0), some (.aload_n 0, 1, 0, 0, 0), some (.getfield 70, 3, 12, 35, 0)], [none, none, some (.iload_n 1, 1, 0, 0, 0), some (.iaload, 1, 0, 0, 0), some (.istore 4, 2, 0, 0, 0), none, some (.aload_n 0, 1, 0, 0, 0), some (.getfield 70, 3, 12, 35, 0), none, none, some (.iload_n 1, 1, 0, 0, 0), some (.iload_n 2, 1, 0, 0, 0), some (.iastore, 1, 0, 0, 0), some (.aload_n 0, 1, 0, 0, 0), some (.invokevirtual 366, 3, 252, 0, 0), none], [none, some (.istore 5, 2, 0, 0, 0), none, some (.aload_n 0, 1, 0, 0, 0), some (.getfield 70, 3, 12, 35, 0), none, none, some (.iload_n 1, 1, 0, 0, 0), some (.iload 4, 2, 0, 0, 0), none, some (.iastore, 1, 0, 0, 0), some (.iload_n 3, 1, 0, 0, 0), some (.iload 5, 2, 0, 0, 0), none, some (.isub, 1, 0, 0, 0), some (.ireturn, 1, 0, 0, 0)]]]
def cd_X12_quiet : List (List (List (Option ARow))) := [[[some (.aload_n 0, 1, 0, 0, 0), some (.iconst 0, 1, 0, 0, 0), some (.putfield 172, 3, 12, 0, 0), none, none, some (.aload_n 0, 1, 0, 0, 0), some (.iload_n 1, 1, 0, 0, 0), some (.iconst 0, 1, 0, 0, 0), some (.bipush 127, 2, 0, 0, 127), none, some (.invokestatic 209, 3, 188, 1, 0), none, none, some (.ifCond .ne 7, 3, 1, 0, 0), none, none], [some (.iconst 1, 1, 0, 0, 0), some (.goto 4, 3, 0, 0, 0), none, none, some (.iconst 0, 1, 0, 0, 0), some (.iconst 1, 1, 0, 0, 0), some (.invokevirtual 229, 3, 187, 0, 0), none, none, some (.ifCond .eq 5, 3, 0, 0, 0), none, none, some (.iconst 0, 1, 0, 0, 0), some (.ireturn, 1, 0, 0, 0), some (.iconst 0, 1, 0, 0, 0), some (.istore_n 2, 1, 0, 0, 0)], [some (.iconst 0, 1, 0, 0, 0), some (.istore_n 3, 1, 0, 0, 0), some (.iload_n 3, 1, 0, 0, 0), some (.aload_n 0, 1, 0, 0, 0), some (.getfield 233, 3, 12, 22, 0), none, none, some (.if_icmp .ge 33, 3, 3, 0, 0), none, none, some (.iload_n 2, 1, 0, 0, 0), some (.aload_n 0, 1, 0, 0, 0), some (.getfield 52, 3, 12, 29, 0), none, none, some (.iload_n 3, 1, 0, 0, 0)], [some (.aaload, 1, 0, 0, 0), some (.iload_n 1, 1, 0, 0, 0), some (.iaload, 1, 0, 0, 0), some (.iconst (-1), 1, 0, 0, 0), some (.if_icmp .ne 7, 3, 1, 0, 0), none, none, some (.iconst 0, 1, 0, 0, 0), some (.goto 8, 3, 0, 0, 0), none, none, some (.aload_n 0, 1, 0, 0, 0), some (.iload_n 3, 1, 0, 0, 0), some (.invokevirtual 354, 3, 248, 0, 0), none, none], [some (.iadd, 1, 0, 0, 0), some (.istore_n 2, 1, 0, 0, 0), some (.iinc 3 1, 3, 0, 0, 0), none, none, some (.goto (-35), 3, 0, 0, 0), none, none, some (.iload_n 2, 1, 0, 0, 0), some (.ireturn, 1, 0, 0, 0)]]]
def cd_X12_mark : List (List (List (Option ARow))) := [[[some (.aload_n 0, 1, 0, 0, 0), some (.iconst 0, 1, 0, 0, 0), some (.putfield 172, 3, 12, 0, 0), none, none, some (.aload_n 0, 1, 0, 0, 0), some (.getfield 468, 3, 12, 47, 0), none, none, some (.iconst 4, 1, 0, 0, 0), some (.if_icmp .ne 5, 3, 1, 0, 0), none, none, some (.iconst (-1), 1, 0, 0, 0), some (.ireturn, 1, 0, 0, 0), some (.iconst 0, 1, 0, 0, 0)], [some (.istore_n 1, 1, 0, 0, 0), some (.iload_n 1, 1, 0, 0, 0), some (.sipush 128, 3, 0, 0, 128), none, none, some (.if_icmp .ge 26, 3, 3, 0, 0), none, none, some (.aload_n 0, 1, 0, 0, 0), some (.getfield 113, 3, 12, 58, 0), none, none, some (.aload_n 0, 1, 0, 0, 0), some (.getfield 468, 3, 12, 47, 0), none, none], [some (.aaload, 1, 0, 0, 0), some (.iload_n 1, 1, 0, 0, 0), some (.aload_n 0, 1, 0, 0, 0), some (.getfield 70, 3, 12, 35, 0), none, none, some (.iload_n 1, 1, 0, 0, 0), some (.iaload, 1, 0, 0, 0), some (.iastore, 1, 0, 0, 0), some (.iinc 1 1, 3, 0, 0, 0), none, none, some (.goto (-27), 3, 0, 0, 0), none, none, some (.aload_n 0, 1, 0, 0, 0)], [some (.dup, 1, 0, 0, 0), some (.getfield 468, 3, 12, 47, 0), none, none, some (.iconst 1, 1, 0, 0, 0), some (.iadd, 1, 0, 0, 0), some (.putfield 468, 3, 12, 47, 0), none, none, some (.aload_n 0, 1, 0, 0, 0), some (.getfield 468, 3, 12, 47, 0), none, none, some (.ireturn, 1, 0, 0, 0)]]]
def cd_X12_back : List (List (List (Option ARow))) := [[[some (.aload_n 0, 1, 0, 0, 0), some (.iconst 0, 1, 0, 0, 0), some (.putfield 172, 3, 12, 0, 0), none, none, some (.aload_n 0, 1, 0, 0, 0), some (.getfield 468, 3, 12, 47, 0), none, none, some (.ifCond .ne 5, 3, 1, 0, 0), none, none, some (.iconst (-1), 1, 0, 0, 0), some (.ireturn, 1, 0, 0, 0), some (.aload_n 0, 1, 0, 0, 0), some (.dup, 1, 0, 0, 0)], [some (.getfield 468, 3, 12, 47, 0), none, none, some (.iconst 1, 1, 0, 0, 0), some (.isub, 1, 0, 0, 0), some (.putfield 468, 3, 12, 47, 0), none, none, some (.iconst 0, 1, 0, 0, 0), some (.istore_n 1, 1, 0, 0, 0), some (.iload_n 1, 1, 0, 0, 0), some (.sipush 128, 3, 0, 0, 128), none, none, some (.if_icmp .ge 26, 3, 3, 0, 0), none], [none, some (.aload_n 0, 1, 0, 0, 0), some (.getfield 70, 3, 12, 35, 0), none, none, some (.iload_n 1, 1, 0, 0, 0), some (.aload_n 0, 1, 0, 0, 0), some (.getfield 113, 3, 12, 58, 0), none, none, some (.aload_n 0, 1, 0, 0, 0), some (.getfield 468, 3, 12, 47, 0), none, none, some (.aaload, 1, 0, 0, 0), some (.iload_n 1, 1, 0, 0, 0)], [some (.iaload, 1, 0, 0, 0), some (.iastore, 1, 0, 0, 0), some (.iinc 1 1, 3, 0, 0, 0), none, none, some (.goto (-27), 3, 0, 0, 0), none, none, some (.aload_n 0, 1, 0, 0, 0), some (.getfield 468, 3, 12, 47, 0), none, none, some (.ireturn, 1, 0, 0, 0)]]]
def cd_X12_count : List (List (List (Option ARow))) := [[[some (.aload_n 0, 1, 0, 0, 0), some (.iconst 0, 1, 0, 0, 0), some (.putfield 172, 3, 12, 0, 0), none, none, some (.iconst 0, 1, 0, 0, 0), some (.istore_n 2, 1, 0, 0, 0), some (.iconst 0, 1, 0, 0, 0), some (.istore_n 3, 1, 0, 0, 0), some (.iconst 0, 1, 0, 0, 0), some (.istore 4, 2, 0, 0, 0), none, some (.iconst 0, 1, 0, 0, 0), some (.istore 5, 2, 0, 0, 0), none, some (.iload 5, 2, 0, 0, 0)], [none, some (.bipush 8, 2, 0, 0, 8), none, some (.if_icmp .ge 26, 3, 3, 0, 0), none, none, some (.iload_n 2, 1, 0, 0, 0), some (.aload_n 0, 1, 0, 0, 0), some (.iload 5, 2, 0, 0, 0), none, some (.invokevirtual 351, 3, 233, 0, 0), none, none, some (.ifCond .eq 7, 3, 0, 0, 0), none, none], [some (.iconst 1, 1, 0, 0, 0), some (.goto 4, 3, 0, 0, 0), none, none, some (.iconst 0, 1, 0, 0, 0), some (.iadd, 1, 0, 0, 0), some (.istore_n 2, 1, 0, 0, 0), some (.iinc 5 1, 3, 0, 0, 0), none, none, some (.goto (-27), 3, 0, 0, 0), none, none, some (.iconst 0, 1, 0, 0, 0), some (.istore 5, 2, 0, 0, 0), none], [some (.iload 5, 2, 0, 0, 0), none, some (.sipush 128, 3, 0, 0, 128), none, none, some (.if_icmp .ge 48, 3, 3, 0, 0), none, none, some (.iload_n 3, 1, 0, 0, 0), some (.aload_n 0, 1, 0, 0, 0), some (.getfield 70, 3, 12, 35, 0), none, none, some (.iload 5, 2, 0, 0, 0), none, some (.iaload, 1, 0, 0, 0)], [some (.iconst (-1), 1, 0, 0, 0), some (.if_icmp .ne 7, 3, 1, 0, 0), none, none, some (.iconst 1, 1, 0, 0, 0), some (.goto 4, 3, 0, 0, 0), none, none, some (.iconst 0, 1, 0, 0, 0), some (.iadd, 1, 0, 0, 0), some (.istore_n 3, 1, 0, 0, 0), some (.iload 4, 2, 0, 0, 0), none, some (.aload_n 0, 1, 0, 0, 0), some (.getfield 139, 3, 12, 67, 0), none], [none, some (.iload 5, 2, 0, 0, 0), none, some (.baload, 1, 0, 0, 0), some (.ifCond .eq 7, 3, 0, 0, 0), none, none, some (.iconst 1, 1, 0, 0, 0), some (.goto 4, 3, 0, 0, 0), none, none, some (.iconst 0, 1, 0, 0, 0), some (.iadd, 1, 0, 0, 0), some (.istore 4, 2, 0, 0, 0), none, some (.iinc 5 1, 3, 0, 0, 0)], [none, none, some (.goto (-50), 3, 0, 0, 0), none, none, some (.iload_n 1, 1, 0, 0, 0), some (.tableswitch 96 0 9 #[54, 59, 64, 66, 68, 73, 78, 83, 86, 91], 54, 0, 0, 0), none, none, none, none, none, none, none, none, none], [none, none, none, none, none, none, none, none, none, none, none, none, none, none, none, none], [none, none, none, none, none, none, none, none, none, none, none, none, none, none, none, none], [none, none, none, none, none, none, none, none, none, none, none, none, some (.aload_n 0, 1, 0, 0, 0), some (.getfield 233, 3, 12, 22, 0), none, none], [some (.ireturn, 1, 0, 0, 0), some (.aload_n 0, 1, 0, 0, 0), some (.getfield 297, 3, 12, 12, 0), none, none, some (.ireturn, 1, 0, 0, 0), some (.iload_n 2, 1, 0, 0, 0), some (.ireturn, 1, 0, 0, 0), some (.iload_n 3, 1, 0, 0, 0), some (.ireturn, 1, 0, 0, 0), some (.aload_n 0, 1, 0, 0, 0), some (.getfield 384, 3, 12, 46, 0), none, none, some (.ireturn, 1, 0, 0, 0), some (.aload_n 0, 1, 0, 0, 0)], [some (.getfield 404, 3, 12, 48, 0), none, none, some (.ireturn, 1, 0, 0, 0), some (.aload_n 0, 1, 0, 0, 0), some (.getfield 458, 3, 12, 76, 0), none, none, some (.ireturn, 1, 0, 0, 0), some (.iload 4, 2, 0, 0, 0), none, some (.ireturn, 1, 0, 0, 0), some (.aload_n 0, 1, 0, 0, 0), some (.getfield 468, 3, 12, 47, 0), none, none], [some (.ireturn, 1, 0, 0, 0), some (.aload_n 0, 1, 0, 0, 0), some (.getfield 175, 3, 12, 1, 0), none, none, some (.ireturn, 1, 0, 0, 0), some (.iconst (-1), 1, 0, 0, 0), some (.ireturn, 1, 0, 0, 0)]]]
def cd_J6_bitCount_0f7a4 : List (List (List (Option ARow))) := [[[some (.iload_n 0, 1, 0, 0, 0), some (.iload_n 0, 1, 0, 0, 0), some (.iconst 1, 1, 0, 0, 0), some (.iushr, 1, 0, 0, 0), some (.ldc_w 265, 3, 0, 0, 1431655765), none, none, some (.iand, 1, 0, 0, 0), some (.isub, 1, 0, 0, 0), some (.istore_n 0, 1, 0, 0, 0), some (.iload_n 0, 1, 0, 0, 0), some (.ldc_w 266, 3, 0, 0, 858993459), none, none, some (.iand, 1, 0, 0, 0), some (.iload_n 0, 1, 0, 0, 0)], [some (.iconst 2, 1, 0, 0, 0), some (.iushr, 1, 0, 0, 0), some (.ldc_w 266, 3, 0, 0, 858993459), none, none, some (.iand, 1, 0, 0, 0), some (.iadd, 1, 0, 0, 0), some (.istore_n 0, 1, 0, 0, 0), some (.iload_n 0, 1, 0, 0, 0), some (.iload_n 0, 1, 0, 0, 0), some (.iconst 4, 1, 0, 0, 0), some (.iushr, 1, 0, 0, 0), some (.iadd, 1, 0, 0, 0), some (.ldc_w 267, 3, 0, 0, 252645135), none, none], [some (.iand, 1, 0, 0, 0), some (.istore_n 0, 1, 0, 0, 0), some (.iload_n 0, 1, 0, 0, 0), some (.iload_n 0, 1, 0, 0, 0), some (.bipush 8, 2, 0, 0, 8), none, some (.iushr, 1, 0, 0, 0), some (.iadd, 1, 0, 0, 0), some (.istore_n 0, 1, 0, 0, 0), some (.iload_n 0, 1, 0, 0, 0), some (.iload_n 0, 1, 0, 0, 0), some (.bipush 16, 2, 0, 0, 16), none, some (.iushr, 1, 0, 0, 0), some (.iadd, 1, 0, 0, 0), some (.istore_n 0, 1, 0, 0, 0)], [some (.iload_n 0, 1, 0, 0, 0), some (.bipush 63, 2, 0, 0, 63), none, some (.iand, 1, 0, 0, 0), some (.ireturn, 1, 0, 0, 0)]]]
def cd_J13_lowestOneBit_067f4 : List (List (List (Option ARow))) := [[[some (.lload_n 0, 1, 0, 0, 0), some (.lload_n 0, 1, 0, 0, 0), some (.lneg, 1, 0, 0, 0), some (.land, 1, 0, 0, 0), some (.lreturn, 1, 0, 0, 0)]]]
def cd_J13_bitCount_95d88 : List (List (List (Option ARow))) := [[[some (.lload_n 0, 1, 0, 0, 0), some (.lload_n 0, 1, 0, 0, 0), some (.iconst 1, 1, 0, 0, 0), some (.lushr, 1, 0, 0, 0), some (.ldc2_w 314, 3, 6148914691236517205, 0, 0), none, none, some (.land, 1, 0, 0, 0), some (.lsub, 1, 0, 0, 0), some (.lstore_n 0, 1, 0, 0, 0), some (.lload_n 0, 1, 0, 0, 0), some (.ldc2_w 316, 3, 3689348814741910323, 0, 0), none, none, some (.land, 1, 0, 0, 0), some (.lload_n 0, 1, 0, 0, 0)], [some (.iconst 2, 1, 0, 0, 0), some (.lushr, 1, 0, 0, 0), some (.ldc2_w 316, 3, 3689348814741910323, 0, 0), none, none, some (.land, 1, 0, 0, 0), some (.ladd, 1, 0, 0, 0), some (.lstore_n 0, 1, 0, 0, 0), some (.lload_n 0, 1, 0, 0, 0), some (.lload_n 0, 1, 0, 0, 0), some (.iconst 4, 1, 0, 0, 0), some (.lushr, 1, 0, 0, 0), some (.ladd, 1, 0, 0, 0), some (.ldc2_w 318, 3, 1085102592571150095, 0, 0), none, none], [some (.land, 1, 0, 0, 0), some (.lstore_n 0, 1, 0, 0, 0), some (.lload_n 0, 1, 0, 0, 0), some (.lload_n 0, 1, 0, 0, 0), some (.bipush 8, 2, 0, 0, 8), none, some (.lushr, 1, 0, 0, 0), some (.ladd, 1, 0, 0, 0), some (.lstore_n 0, 1, 0, 0, 0), some (.lload_n 0, 1, 0, 0, 0), some (.lload_n 0, 1, 0, 0, 0), some (.bipush 16, 2, 0, 0, 16), none, some (.lushr, 1, 0, 0, 0), some (.ladd, 1, 0, 0, 0), some (.lstore_n 0, 1, 0, 0, 0)], [some (.lload_n 0, 1, 0, 0, 0), some (.lload_n 0, 1, 0, 0, 0), some (.bipush 32, 2, 0, 0, 32), none, some (.lushr, 1, 0, 0, 0), some (.ladd, 1, 0, 0, 0), some (.lstore_n 0, 1, 0, 0, 0), some (.lload_n 0, 1, 0, 0, 0), some (.l2i, 1, 0, 0, 0), some (.bipush 127, 2, 0, 0, 127), none, some (.iand, 1, 0, 0, 0), some (.ireturn, 1, 0, 0, 0)]]]
def cd_J9_abs_0f7a4 : List (List (List (Option ARow))) := [[[some (.iload_n 0, 1, 0, 0, 0), some (.ifCond .ge 8, 3, 3, 0, 0), none, none, some (.iload_n 0, 1, 0, 0, 0), some (.ineg, 1, 0, 0, 0), some (.goto 4, 3, 0, 0, 0), none, none, some (.iload_n 0, 1, 0, 0, 0), some (.ireturn, 1, 0, 0, 0)]]]
def cd_J9_max_7cf53 : List (List (List (Option ARow))) := [[[some (.iload_n 0, 1, 0, 0, 0), some (.iload_n 1, 1, 0, 0, 0), some (.if_icmp .lt 7, 3, 2, 0, 0), none, none, some (.iload_n 0, 1, 0, 0, 0), some (.goto 4, 3, 0, 0, 0), none, none, some (.iload_n 1, 1, 0, 0, 0), some (.ireturn, 1, 0, 0, 0)]]]
def cd_J9_min_7cf53 : List (List (List (Option ARow))) := [[[some (.iload_n 0, 1, 0, 0, 0), some (.iload_n 1, 1, 0, 0, 0), some (.if_icmp .gt 7, 3, 4, 0, 0), none, none, some (.iload_n 0, 1, 0, 0, 0), some (.goto 4, 3, 0, 0, 0), none, none, some (.iload_n 1, 1, 0, 0, 0), some (.ireturn, 1, 0, 0, 0)]]]
def cd_J7_fill_53178 : List (List (List (Option ARow))) := [[[some (.iconst 0, 1, 0, 0, 0), some (.istore_n 2, 1, 0, 0, 0), some (.aload_n 0, 1, 0, 0, 0), some (.arraylength, 1, 0, 0, 0), some (.istore_n 3, 1, 0, 0, 0), some (.iload_n 2, 1, 0, 0, 0), some (.iload_n 3, 1, 0, 0, 0), some (.if_icmp .ge 13, 3, 3, 0, 0), none, none, some (.aload_n 0, 1, 0, 0, 0), some (.iload_n 2, 1, 0, 0, 0), some (.iload_n 1, 1, 0, 0, 0), some (.iastore, 1, 0, 0, 0), some (.iinc 2 1, 3, 0, 0, 0), none], [none, some (.goto (-12), 3, 0, 0, 0), none, none, some (.return_, 1, 0, 0, 0)]]]
def cdAll : List (List (List (List (List (List (Option ARow)))))) := [[[cd_X0_init, cd_X0_listen, cd_X0_followSteps, cd_X0_hear, cd_X0_loadAt, cd_X0_findPeak, cd_X0_keptCounts, cd_X0_overInAll, cd_X0_leadAt, cd_X0_aheadOf, cd_X1_init, cd_X1_add, cd_X1_solve, cd_X1_offBack, cd_X1_anyRow, cd_X1_nextTrial], [cd_X1_offOf, cd_X2_init, cd_X2_stands, cd_X2_isWhole, cd_X2_measure, cd_X2_weigh, cd_X2_priceNow, cd_X2_seek, cd_X2_mayMatter, cd_X2_tryCell, cd_X2_compare, cd_X3_init, cd_X3_put, cd_X3_putAll, cd_X3_hasCells, cd_X3_countPieces], [cd_X3_countShut, cd_X3_beside, cd_X3_hangs, cd_X3_reaches, cd_X3_neckAt, cd_X3_hangsWithout, cd_X3_countAtEdge, cd_X3_piecesBeside, cd_X3_keepMark, cd_X3_goBack, cd_X4_init, cd_X4_add, cd_X4_needAt, cd_X4_judge, cd_X4_judgeGroup, cd_X4_addLoads], [cd_X4_solve, cd_X4_placeOf, cd_X4_fewestBehind, cd_X4_choose, cd_X4_nextOf, cd_X5_init, cd_X5_add, cd_X5_solve, cd_X5_hearSubset, cd_X5_place, cd_X5_compare, cd_X6_init, cd_X6_setWork, cd_X6_setRest, cd_X6_run, cd_X6_mayGoOn], [cd_X6_mayBegin, cd_X6_fewestOf, cd_X6_settle, cd_X7_init, cd_X7_read, cd_X7_adopt, cd_X7_beginOf, cd_X7_readClause, cd_X7_readEither, cd_X7_readBoth, cd_X7_readTest, cd_X7_readSum, cd_X7_readProduct, cd_X7_readUnit, cd_X7_readOfTwo, cd_X7_codeOfName], [cd_X7_enter, cd_X7_pass, cd_X7_put, cd_X7_joinsHold, cd_X7_work, cd_X7_joined, cd_X8_init, cd_X8_shut, cd_X8_isShut, cd_X8_findHits, cd_X8_mendOf, cd_X8_solve, cd_X8_layWays, cd_X8_findRound, cd_X8_spreadFrom, cd_X8_nearerThan], [cd_X8_tryMends, cd_X8_fits, cd_X8_anyFull, cd_X9_init, cd_X9_stepFrom, cd_X9_goOf, cd_X9_goBetween, cd_X9_readWay, cd_X9_readMove, cd_X9_lengthen, cd_X9_addTrial, cd_X9_setWay, cd_X9_wipe, cd_X9_setStep, cd_X9_pairUp, cd_X9_meetsOf], [cd_X9_allMeets, cd_X9_cellAt, cd_X9_setCounts, cd_X9_setSpan, cd_X9_retell, cd_X9_mostIn, cd_X9_twinOf, cd_X9_shorterThan, cd_X9_shortestStretch, cd_X9_countsAt, cd_X9_isVisited, cd_X9_comesTo, cd_X9_countsOfSteps, cd_X10_init, cd_X10_takeAll, cd_X10_take], [cd_X10_open, cd_X10_step, cd_X10_kindOf, cd_X10_says, cd_X10_refuse, cd_X10_refuseAt, cd_X11_init, cd_X11_feed, cd_X11_stream, cd_X11_rules, cd_X11_fault, cd_X11_way, cd_X11_flow, cd_X11_span, cd_X11_most, cd_X11_assign], [cd_X11_paint, cd_X11_limit, cd_X11_hears, cd_X11_peak, cd_X11_whole, cd_X11_neck, cd_X11_shorts, cd_X11_length, cd_X11_edge, cd_X11_holds, cd_X11_cost, cd_X11_better, cd_X11_grow, cd_X11_region, cd_X11_parted, cd_X11_clear], [cd_X11_configure, cd_X11_pairs, cd_X11_busy, cd_X11_plan, cd_X11_hours, cd_X11_ill, cd_X11_rota, cd_X11_lacks, cd_X11_enough, cd_X11_storm, cd_X11_mends, cd_X11_did, cd_X11_fit, cd_X11_lead, cd_X11_worth, cd_X11_quiet], [cd_X11_mark, cd_X11_back, cd_X11_count, cd_X11_listenTo, cd_X11_needStream, cd_X11_needCell, cd_X11_needPiece, cd_X11_needQuarter, cd_X11_needWithin, cd_X12_init, cd_X12_thrown, cd_X12_bad, cd_X12_in, cd_X12_amount, cd_X12_beside, cd_X12_feed], [cd_X12_byteAt, cd_X12_blanks, cd_X12_wrong, cd_X12_isDigit, cd_X12_number, cd_X12_beginText, cd_X12_isTold, cd_X12_move, cd_X12_stream, cd_X12_wordHere, cd_X12_word, cd_X12_skipWord, cd_X12_sign, cd_X12_opens, cd_X12_nameHere, cd_X12_unit], [cd_X12_product, cd_X12_sum, cd_X12_test, cd_X12_ands, cd_X12_ors, cd_X12_clause, cd_X12_rules, cd_X12_fault, cd_X12_readsAt, cd_X12_way, cd_X12_flow, cd_X12_span, cd_X12_mostOf, cd_X12_most, cd_X12_asTold, cd_X12_waysAsTold], [cd_X12_numbersIn, cd_X12_stepOf, cd_X12_goes, cd_X12_listen, cd_X12_load, cd_X12_joinsHold, cd_X12_setOf, cd_X12_peakOfSet, cd_X12_peakOfPiece, cd_X12_hasCells, cd_X12_assign, cd_X12_paint, cd_X12_limit, cd_X12_hears, cd_X12_peak, cd_X12_hangs], [cd_X12_isWhole, cd_X12_whole, cd_X12_neck, cd_X12_shorts, cd_X12_length, cd_X12_isCrossing, cd_X12_edge, cd_X12_holds, cd_X12_total, cd_X12_stepsCost, cd_X12_findPeaks, cd_X12_costByPeaks, cd_X12_costOf, cd_X12_cost, cd_X12_findMove, cd_X12_tries]], [[cd_X12_better, cd_X12_grow, cd_X12_region, cd_X12_clear, cd_X12_findSets, cd_X12_parts, cd_X12_judges, cd_X12_parted, cd_X12_configure, cd_X12_groupOf, cd_X12_pairsOf, cd_X12_pairs, cd_X12_busy, cd_X12_isBusy, cd_X12_findPlan, cd_X12_tells], [cd_X12_plan, cd_X12_hours, cd_X12_ill, cd_X12_findRota, cd_X12_rota, cd_X12_lacks, cd_X12_enough, cd_X12_storm, cd_X12_isHit, cd_X12_findRound, cd_X12_minutesOf, cd_X12_isNoneFull, cd_X12_asMended, cd_X12_goThrough, cd_X12_mends, cd_X12_did], [cd_X12_offOf, cd_X12_fit, cd_X12_lead, cd_X12_worth, cd_X12_quiet, cd_X12_mark, cd_X12_back, cd_X12_count, cd_J6_bitCount_0f7a4, cd_J13_lowestOneBit_067f4, cd_J13_bitCount_95d88, cd_J9_abs_0f7a4, cd_J9_max_7cf53, cd_J9_min_7cf53, [], []], [[], [], [], [], [], [], [], [], cd_J7_fill_53178]]]
def miAll : List (List (List AM)) := [[[(0, 3, 0, 3, 1, 20, 9, 265), (0, 8, 0, 4, 2, 57, 0, 0), (0, 17, 0, 4, 1, 21, 0, 0), (0, 10, 0, 3, 1, 21, 0, 0), (0, 3, 1, 3, 2, 50, 0, 0), (0, 4, 1, 1, 3, 72, 0, 0), (0, 3, 1, 1, 0, 0, 0, 0), (0, 3, 1, 1, 0, 0, 0, 0), (0, 5, 1, 3, 3, 72, 0, 0), (0, 4, 1, 2, 0, 0, 0, 0), (1, 1, 0, 1, 1, 20, 5, 248), (1, 4, 1, 4, 1, 60, 0, 0), (1, 4, 2, 1, 2, 60, 0, 0), (1, 1, 1, 1, 2, 46, 0, 0), (1, 2, 2, 1, 0, 0, 0, 0), (1, 2, 2, 1, 0, 0, 0, 0)], [(1, 7, 1, 3, 1, 20, 0, 0), (2, 4, 0, 4, 1, 20, 4, 32), (2, 2, 2, 2, 4, 103, 0, 0), (2, 2, 2, 2, 3, 82, 0, 0), (2, 2, 0, 1, 5, 116, 0, 0), (2, 2, 2, 2, 4, 95, 0, 0), (2, 6, 1, 1, 1, 22, 0, 0), (2, 4, 2, 1, 6, 145, 0, 0), (2, 2, 2, 2, 2, 44, 0, 0), (2, 10, 0, 4, 5, 116, 0, 0), (2, 4, 0, 4, 0, 0, 0, 0), (3, 1, 0, 1, 1, 23, 5, 664), (3, 7, 1, 3, 0, 0, 0, 0), (3, 7, 1, 4, 1, 26, 0, 0), (3, 2, 2, 2, 0, 0, 0, 0), (3, 3, 1, 1, 1, 21, 0, 0)], [(3, 3, 1, 1, 1, 21, 0, 0), (3, 4, 3, 2, 0, 0, 0, 0), (3, 4, 2, 2, 2, 59, 0, 0), (3, 17, 2, 4, 1, 23, 0, 0), (3, 5, 1, 3, 3, 89, 0, 0), (3, 11, 2, 3, 2, 59, 0, 0), (3, 10, 1, 4, 1, 23, 0, 0), (3, 5, 1, 2, 1, 21, 0, 0), (3, 1, 1, 1, 1, 60, 0, 0), (3, 2, 1, 1, 1, 26, 0, 0), (4, 5, 0, 5, 1, 20, 6, 3660), (4, 2, 1, 2, 0, 0, 0, 0), (4, 2, 1, 2, 0, 0, 0, 0), (4, 10, 0, 2, 4, 97, 0, 0), (4, 6, 0, 4, 3, 72, 0, 0), (4, 4, 0, 1, 3, 84, 0, 0)], [(4, 6, 2, 2, 5, 126, 0, 0), (4, 3, 1, 3, 0, 0, 0, 0), (4, 6, 1, 4, 1, 22, 0, 0), (4, 5, 2, 2, 2, 47, 0, 0), (4, 6, 1, 4, 1, 22, 0, 0), (5, 3, 0, 3, 1, 20, 7, 795), (5, 3, 1, 2, 0, 0, 0, 0), (5, 3, 2, 2, 5, 123, 0, 0), (5, 9, 0, 2, 4, 95, 0, 0), (5, 5, 0, 4, 2, 85, 0, 0), (5, 6, 0, 2, 1, 60, 0, 0), (6, 2, 0, 2, 1, 23, 5, 56), (6, 3, 1, 2, 0, 0, 0, 0), (6, 3, 1, 2, 0, 0, 0, 0), (6, 5, 0, 2, 1, 27, 0, 0), (6, 5, 1, 3, 0, 0, 0, 0)], [(6, 5, 1, 3, 0, 0, 0, 0), (6, 8, 1, 3, 0, 0, 0, 0), (6, 5, 0, 4, 0, 0, 0, 0), (7, 2, 0, 2, 1, 20, 5, 616), (7, 2, 2, 1, 14, 298, 0, 0), (7, 5, 0, 2, 1, 21, 0, 0), (7, 2, 1, 2, 0, 0, 0, 0), (7, 3, 2, 2, 13, 276, 0, 0), (7, 2, 2, 1, 12, 255, 0, 0), (7, 2, 2, 1, 11, 234, 0, 0), (7, 2, 2, 1, 10, 213, 0, 0), (7, 3, 2, 1, 9, 191, 0, 0), (7, 3, 2, 1, 8, 169, 0, 0), (7, 2, 2, 1, 7, 148, 0, 0), (7, 2, 2, 2, 3, 64, 0, 0), (7, 1, 1, 1, 6, 128, 0, 0)], [(7, 1, 2, 1, 2, 43, 0, 0), (7, 2, 2, 2, 2, 43, 0, 0), (7, 2, 0, 2, 0, 0, 0, 0), (7, 3, 2, 2, 2, 47, 0, 0), (7, 6, 1, 3, 1, 22, 0, 0), (7, 3, 1, 3, 0, 0, 0, 0), (8, 5, 0, 4, 2, 42, 105, 4252), (8, 6, 2, 3, 1, 21, 0, 0), (8, 2, 2, 2, 0, 0, 0, 0), (8, 4, 0, 2, 0, 0, 0, 0), (8, 3, 1, 2, 0, 0, 0, 0), (8, 3, 2, 3, 6, 142, 0, 0), (8, 5, 0, 1, 3, 89, 0, 0), (8, 5, 1, 3, 2, 48, 0, 0), (8, 6, 0, 2, 1, 23, 0, 0), (8, 7, 1, 2, 1, 21, 0, 0)], [(8, 7, 0, 6, 5, 116, 0, 0), (8, 2, 2, 2, 4, 95, 0, 0), (8, 4, 2, 2, 3, 72, 0, 0), (9, 1, 0, 1, 1, 20, 15, 1422), (9, 2, 1, 2, 0, 0, 0, 0), (9, 1, 1, 1, 0, 0, 0, 0), (9, 2, 1, 2, 0, 0, 0, 0), (9, 3, 2, 2, 3, 70, 0, 0), (9, 7, 2, 2, 2, 44, 0, 0), (9, 4, 1, 2, 1, 21, 0, 0), (9, 1, 1, 1, 2, 89, 0, 0), (9, 10, 0, 5, 1, 60, 0, 0), (9, 3, 0, 2, 0, 0, 0, 0), (9, 5, 0, 4, 0, 0, 0, 0), (9, 7, 0, 1, 1, 26, 0, 0), (9, 7, 3, 4, 0, 0, 0, 0)], [(9, 5, 3, 2, 0, 0, 0, 0), (9, 3, 1, 3, 0, 0, 0, 0), (9, 6, 0, 5, 3, 70, 0, 0), (9, 4, 0, 4, 3, 70, 0, 0), (9, 4, 0, 2, 2, 47, 0, 0), (9, 7, 1, 3, 1, 21, 0, 0), (9, 4, 1, 2, 0, 0, 0, 0), (9, 8, 1, 4, 2, 50, 0, 0), (9, 10, 1, 4, 1, 21, 0, 0), (9, 4, 1, 2, 1, 22, 0, 0), (9, 3, 2, 2, 1, 22, 0, 0), (9, 3, 2, 3, 0, 0, 0, 0), (9, 3, 1, 1, 0, 0, 0, 0), (10, 1, 0, 1, 1, 20, 1, 200), (10, 6, 1, 6, 1, 22, 0, 0), (10, 3, 0, 2, 0, 0, 0, 0)], [(10, 3, 0, 3, 2, 41, 0, 0), (10, 1, 0, 1, 1, 21, 0, 0), (10, 2, 1, 2, 0, 0, 0, 0), (10, 3, 2, 2, 5, 106, 0, 0), (10, 2, 2, 2, 1, 22, 0, 0), (10, 3, 2, 3, 0, 0, 0, 0), (11, 1, 0, 1, 3, 66, 178, 12345), (11, 6, 1, 6, 2, 47, 0, 0), (11, 2, 1, 2, 6, 109, 1, 6), (11, 2, 1, 2, 15, 319, 1, 6), (11, 1, 1, 1, 0, 0, 0, 0), (11, 3, 1, 3, 7, 111, 1, 6), (11, 5, 0, 5, 8, 134, 4, 24), (11, 4, 0, 4, 7, 113, 3, 18), (11, 3, 1, 3, 8, 134, 2, 12), (11, 3, 1, 3, 7, 113, 2, 12)], [(11, 4, 1, 4, 7, 113, 3, 18), (11, 4, 1, 3, 8, 134, 2, 12), (11, 5, 1, 4, 8, 134, 3, 18), (11, 4, 1, 3, 8, 134, 2, 12), (11, 2, 2, 2, 8, 134, 1, 6), (11, 3, 1, 3, 8, 134, 1, 6), (11, 2, 1, 2, 8, 134, 1, 6), (11, 3, 1, 2, 7, 113, 1, 6), (11, 2, 1, 2, 8, 134, 1, 6), (11, 2, 2, 1, 5, 124, 0, 0), (11, 1, 1, 1, 6, 137, 0, 0), (11, 2, 1, 2, 7, 168, 1, 6), (11, 3, 1, 2, 7, 168, 1, 6), (11, 2, 1, 2, 7, 111, 1, 6), (11, 3, 1, 3, 7, 145, 2, 12), (11, 2, 1, 1, 0, 0, 0, 0)], [(11, 2, 1, 2, 7, 113, 1, 6), (11, 3, 1, 3, 8, 134, 2, 12), (11, 3, 1, 2, 7, 113, 1, 6), (11, 3, 1, 3, 7, 151, 2, 12), (11, 3, 1, 3, 7, 113, 2, 12), (11, 4, 1, 3, 7, 113, 2, 12), (11, 4, 1, 4, 8, 151, 3, 18), (11, 3, 1, 3, 7, 151, 2, 12), (11, 3, 1, 2, 7, 151, 1, 6), (11, 3, 2, 3, 7, 111, 1, 6), (11, 5, 1, 5, 8, 164, 4, 24), (11, 5, 1, 5, 8, 134, 3, 18), (11, 2, 1, 2, 7, 113, 1, 6), (11, 6, 1, 5, 8, 134, 2, 12), (11, 6, 1, 3, 8, 137, 2, 12), (11, 2, 1, 2, 7, 111, 1, 6)], [(11, 1, 1, 1, 2, 80, 0, 0), (11, 1, 1, 1, 2, 47, 0, 0), (11, 2, 1, 2, 2, 43, 0, 0), (11, 2, 0, 2, 3, 84, 0, 0), (11, 2, 0, 2, 6, 90, 1, 6), (11, 2, 0, 2, 6, 90, 1, 6), (11, 2, 0, 2, 7, 113, 1, 6), (11, 2, 0, 2, 7, 113, 1, 6), (11, 4, 0, 4, 6, 90, 1, 6), (12, 2, 0, 1, 1, 20, 337, 11084), (12, 1, 1, 1, 0, 0, 0, 0), (12, 3, 2, 3, 0, 0, 0, 0), (12, 3, 2, 3, 0, 0, 0, 0), (12, 1, 1, 1, 0, 0, 0, 0), (12, 5, 1, 2, 0, 0, 0, 0), (12, 8, 1, 6, 0, 0, 0, 0)], [(12, 2, 1, 2, 0, 0, 0, 0), (12, 1, 0, 1, 1, 21, 0, 0), (12, 3, 0, 3, 0, 0, 0, 0), (12, 1, 2, 1, 0, 0, 0, 0), (12, 5, 1, 3, 2, 41, 0, 0), (12, 2, 0, 2, 0, 0, 0, 0), (12, 3, 2, 2, 0, 0, 0, 0), (12, 7, 0, 1, 3, 65, 0, 0), (12, 3, 1, 2, 4, 91, 0, 0), (12, 3, 1, 1, 2, 41, 0, 0), (12, 7, 1, 6, 0, 0, 0, 0), (12, 1, 0, 1, 1, 21, 0, 0), (12, 2, 0, 2, 2, 41, 0, 0), (12, 2, 0, 2, 1, 22, 0, 0), (12, 2, 1, 1, 3, 63, 0, 0), (12, 7, 1, 1, 4, 87, 0, 0)], [(12, 4, 1, 1, 2, 41, 0, 0), (12, 4, 1, 1, 3, 64, 0, 0), (12, 4, 2, 1, 5, 107, 0, 0), (12, 3, 2, 1, 3, 63, 0, 0), (12, 3, 2, 1, 4, 85, 0, 0), (12, 4, 0, 1, 5, 107, 0, 0), (12, 3, 1, 2, 6, 130, 0, 0), (12, 1, 1, 1, 0, 0, 0, 0), (12, 2, 0, 2, 0, 0, 0, 0), (12, 3, 1, 3, 1, 22, 0, 0), (12, 6, 0, 5, 1, 22, 0, 0), (12, 4, 0, 4, 1, 22, 0, 0), (12, 5, 1, 3, 1, 22, 0, 0), (12, 3, 1, 3, 2, 46, 0, 0), (12, 2, 0, 2, 3, 68, 0, 0), (12, 3, 0, 1, 0, 0, 0, 0)], [(12, 3, 0, 2, 2, 46, 0, 0), (12, 2, 1, 2, 0, 0, 0, 0), (12, 3, 1, 3, 1, 21, 0, 0), (12, 7, 0, 1, 2, 43, 0, 0), (12, 1, 1, 1, 4, 87, 0, 0), (12, 3, 2, 1, 5, 107, 0, 0), (12, 3, 0, 2, 0, 0, 0, 0), (12, 4, 1, 1, 5, 107, 0, 0), (12, 2, 1, 2, 6, 130, 0, 0), (12, 3, 2, 2, 0, 0, 0, 0), (12, 4, 1, 3, 1, 22, 0, 0), (12, 6, 1, 4, 1, 22, 0, 0), (12, 4, 1, 3, 1, 22, 0, 0), (12, 5, 1, 4, 5, 107, 0, 0), (12, 5, 1, 3, 7, 151, 0, 0), (12, 7, 2, 1, 1, 24, 0, 0)], [(12, 2, 2, 2, 2, 50, 0, 0), (12, 2, 2, 2, 3, 71, 0, 0), (12, 6, 1, 3, 3, 71, 0, 0), (12, 7, 1, 2, 1, 22, 0, 0), (12, 3, 1, 2, 1, 22, 0, 0), (12, 4, 2, 2, 4, 89, 0, 0), (12, 6, 1, 2, 5, 112, 0, 0), (12, 2, 2, 1, 7, 151, 0, 0), (12, 4, 1, 2, 0, 0, 0, 0), (12, 6, 1, 1, 1, 23, 0, 0), (12, 2, 0, 1, 7, 151, 0, 0), (12, 5, 1, 1, 2, 48, 0, 0), (12, 1, 1, 1, 8, 172, 0, 0), (12, 1, 1, 1, 9, 192, 0, 0), (12, 5, 0, 1, 9, 192, 0, 0), (12, 7, 0, 3, 7, 151, 0, 0)]], [[(12, 2, 1, 2, 10, 216, 0, 0), (12, 3, 1, 2, 10, 216, 0, 0), (12, 3, 1, 2, 1, 22, 0, 0), (12, 2, 1, 1, 0, 0, 0, 0), (12, 4, 0, 1, 5, 107, 0, 0), (12, 5, 0, 4, 1, 26, 0, 0), (12, 7, 0, 2, 0, 0, 0, 0), (12, 3, 1, 3, 6, 130, 0, 0), (12, 2, 1, 2, 1, 22, 0, 0), (12, 3, 1, 3, 0, 0, 0, 0), (12, 8, 1, 2, 6, 129, 0, 0), (12, 3, 1, 3, 7, 156, 0, 0), (12, 3, 1, 2, 1, 22, 0, 0), (12, 4, 2, 2, 5, 107, 0, 0), (12, 10, 2, 2, 8, 183, 0, 0), (12, 8, 2, 2, 7, 156, 0, 0)], [(12, 6, 1, 3, 9, 212, 0, 0), (12, 4, 1, 3, 1, 22, 0, 0), (12, 4, 1, 3, 1, 22, 0, 0), (12, 11, 0, 2, 0, 0, 3, 24), (12, 4, 1, 4, 9, 212, 3, 24), (12, 3, 1, 3, 9, 212, 3, 24), (12, 3, 1, 2, 9, 212, 24, 192), (12, 4, 2, 3, 1, 22, 0, 0), (12, 5, 2, 3, 2, 46, 0, 0), (12, 9, 0, 2, 1, 24, 0, 0), (12, 5, 1, 4, 2, 46, 0, 0), (12, 2, 2, 1, 5, 107, 0, 0), (12, 5, 0, 2, 4, 89, 0, 0), (12, 8, 0, 6, 6, 128, 0, 0), (12, 7, 1, 5, 7, 155, 0, 0), (12, 6, 1, 5, 4, 89, 0, 0)], [(12, 6, 1, 3, 1, 20, 0, 0), (12, 7, 1, 2, 2, 45, 0, 0), (12, 10, 1, 5, 5, 107, 1, 12), (12, 6, 1, 3, 9, 192, 0, 0), (12, 4, 1, 2, 1, 23, 0, 0), (12, 2, 1, 1, 0, 0, 0, 0), (12, 2, 1, 1, 0, 0, 0, 0), (12, 6, 1, 2, 1, 22, 0, 0), (99, 1, 1, 1, 0, 0, 0, 0), (99, 2, 3, 1, 0, 0, 0, 0), (99, 2, 1, 1, 0, 0, 0, 0), (99, 1, 1, 1, 0, 0, 0, 0), (99, 2, 1, 2, 0, 0, 0, 0), (99, 2, 1, 2, 0, 0, 0, 0), (99, 0, 9, 0, 0, 0, 0, 0), (99, 0, 9, 0, 0, 0, 0, 0)], [(99, 0, 9, 0, 0, 0, 0, 0), (99, 0, 9, 0, 0, 0, 0, 0), (99, 0, 9, 0, 0, 0, 0, 0), (99, 0, 9, 0, 0, 0, 0, 0), (99, 0, 9, 0, 0, 0, 0, 0), (99, 0, 9, 0, 0, 0, 0, 0), (99, 0, 9, 0, 0, 0, 0, 0), (99, 0, 9, 0, 0, 0, 0, 0), (99, 4, 0, 2, 0, 0, 0, 0)]]]
/-- a method's row at pc -/
def cdA (j pc : Nat) : Option ARow := match t3 cdAll j with
  | some l => match t3 l pc with
    | some r => r
    | none => none
  | none => none
def miA (j : Nat) : AM := match t3 miAll j with
  | some r => r
  | none => (99, 0, 9, 0, 0, 0, 0, 0)
end
section
/-! The interpreter: values, cells, worlds, states; what a step does. Defs alone. -/
/-- a value: int constant, int symbol, long constant, long symbol, reference (null, or a cell's number), a reference to something outside the world -/
abbrev AV : Type := Int ⊕ (Nat ⊕ (Nat ⊕ (Nat ⊕ (Option Nat ⊕ Nat))))
abbrev aI (z : Int) : AV := .inl z
abbrev aS (k : Nat) : AV := .inr (.inl k)
abbrev aJ (n : Nat) : AV := .inr (.inr (.inl n))
abbrev aU (k : Nat) : AV := .inr (.inr (.inr (.inl k)))
abbrev aR (r : Option Nat) : AV := .inr (.inr (.inr (.inr (.inl r))))
abbrev aX (k : Nat) : AV := .inr (.inr (.inr (.inr (.inr k))))
/-- an array's contents: one by one, or by bounds (and the number of its symbol) -/
abbrev AB : Type := List AV ⊕ (Int × Int × Nat)
/-- a cell: an array (type, length, contents), or an object (class, fields) -/
abbrev AC : Type := (Nat × Nat × AB) ⊕ (Nat × List AV)
/-- symbols of ints: least, greatest, of which symbol, how far from it -/
abbrev AE : Type := List (Int × Int × Nat × Int)
/-- cells: how many, those that differ from the base -/
abbrev AH : Type := Nat × List (Nat × AC)
/-- a world: symbols of ints, cells, how many symbols of longs, of arrays, of things outside -/
abbrev AW : Type := AE × AH × Nat × Nat × Nat
abbrev wE (w : AW) : AE := w.1
abbrev wH (w : AW) : AH := w.2.1
abbrev wL (w : AW) : Nat := w.2.2.1
abbrev wA (w : AW) : Nat := w.2.2.2.1
abbrev wX (w : AW) : Nat := w.2.2.2.2
/-- what an activation holds where a loop was entered: locals, world, how many symbols there were of each kind -/
abbrev ALp : Type := Nat × List (Option AV) × AW × (Nat × Nat × Nat)
/-- a state of an activation: pc, locals, stack, world, loops, cells and slots made -/
abbrev AS : Type := Nat × List (Option AV) × List AV × AW × List ALp × Nat × Nat
abbrev sPc (s : AS) : Nat := s.1
abbrev sLv (s : AS) : List (Option AV) := s.2.1
abbrev sSt (s : AS) : List AV := s.2.2.1
abbrev sW (s : AS) : AW := s.2.2.2.1
abbrev sLp (s : AS) : List ALp := s.2.2.2.2.1
abbrev sC (s : AS) : Nat := s.2.2.2.2.2.1
abbrev sS (s : AS) : Nat := s.2.2.2.2.2.2
/-- an end: a value or none, or an exception (by its number); the world then -/
abbrev AR : Type := (Option AV ⊕ Nat) × AW
def iLo : Int := -2147483648
def iHi : Int := 2147483647
def inI (z : Int) : Bool := decide (iLo ≤ z) && decide (z ≤ iHi)
/-- bounds of an int -/
def aBd (E : AE) : AV → Option (Int × Int)
  | .inl z => if inI z then some (z, z) else none
  | .inr (.inl k) => match E[k]? with
    | some b => some (b.1, b.2.1)
    | none => none
  | _ => none
/-- a symbol with one value is that value -/
def aNm (E : AE) : AV → AV
  | .inr (.inl k) => match E[k]? with
    | some b => if b.1 = b.2.1 then .inl b.1 else .inr (.inl k)
    | none => .inr (.inl k)
  | a => a
def aCat : AV → Nat
  | .inr (.inr (.inl _)) => 2
  | .inr (.inr (.inr (.inl _))) => 2
  | _ => 1
def aIsI : AV → Bool
  | .inl _ => true
  | .inr (.inl _) => true
  | _ => false
def aIsL : AV → Bool
  | .inr (.inr (.inl _)) => true
  | .inr (.inr (.inr (.inl _))) => true
  | _ => false
def aIsR : AV → Bool
  | .inr (.inr (.inr (.inr _))) => true
  | _ => false
/-- cells -/
def hFind : List (Nat × AC) → Nat → Option AC
  | [], _ => none
  | (j, c) :: r, i => if Nat.beq j i then some c else hFind r i
def hGet (B : Nat → AC) (h : AH) (i : Nat) : AC := match hFind h.2 i with
  | some c => c
  | none => B i
def hDrop : List (Nat × AC) → Nat → List (Nat × AC)
  | [], _ => []
  | (j, c) :: r, i => if Nat.beq j i then r else (j, c) :: hDrop r i
def hSet (h : AH) (i : Nat) (c : AC) : AH := (h.1, (i, c) :: hDrop h.2 i)
def hAdd (h : AH) (c : AC) : AH := (h.1 + 1, (h.1, c) :: h.2)
/-- locals -/
def lGet (l : List (Option AV)) (i : Nat) : Option AV := match l[i]? with
  | some (some a) => some a
  | _ => none
def lPrev (l : List (Option AV)) : Nat → List (Option AV)
  | 0 => l
  | i + 1 => match l[i]? with
    | some (some a) => if Nat.beq (aCat a) 2 then l.set i none else l
    | _ => l
def lSet (l : List (Option AV)) (i : Nat) (a : AV) : List (Option AV) :=
  let l1 := (lPrev l i).set i (some a)
  if Nat.beq (aCat a) 2 then l1.set (i + 1) none else l1
/-- fresh symbols -/
def wNewI (w : AW) (lo hi : Int) (bo : Option (Nat × Int)) : AW × AV :=
  let k := (wE w).length
  (((wE w) ++ [match bo with | some (b, o) => (lo, hi, b, o) | none => (lo, hi, k, 0)], w.2), aS k)
def wNewU (w : AW) : AW × AV := ((w.1, w.2.1, wL w + 1, wA w, wX w), aU (wL w))
def wNewX (w : AW) : AW × AV := ((w.1, w.2.1, wL w, wA w, wX w + 1), aX (wX w))
def wTop (w : AW) : AW × AV := wNewI w iLo iHi none
/-- ints -/
def zWr (z : Int) : Int := if inI z then z else Int.bmod z 4294967296
def zN (z : Int) : Nat := (z % 4294967296).toNat
def zOf (n : Nat) : Int := if Nat.ble n 2147483647 then (n : Int) else (n : Int) - 4294967296
def iop (w : AW) (op : Nat) (x y : AV) : Option (AW × AV) :=
  match x, y with
  | .inl a, .inl b =>
    if inI a && inI b then
      match op with
      | 0 => some (w, aI (zWr (a + b)))
      | 1 => some (w, aI (zWr (a - b)))
      | 2 => some (w, aI (zWr (a * b)))
      | 3 => if b = 0 then none else some (w, aI (zWr (a.tdiv b)))
      | 4 => if b = 0 then none else some (w, aI (zWr (a - a.tdiv b * b)))
      | 5 => some (w, aI (zOf (Nat.land (zN a) (zN b))))
      | 6 => some (w, aI (zOf (Nat.lor (zN a) (zN b))))
      | 7 => some (w, aI (zOf (Nat.xor (zN a) (zN b))))
      | 8 => some (w, aI (zOf ((zN a * 2 ^ (zN b % 32)) % 4294967296)))
      | 9 => some (w, aI (a / 2 ^ (zN b % 32)))
      | 10 => some (w, aI (zOf (zN a / 2 ^ (zN b % 32))))
      | _ => none
    else none
  | .inr (.inl k), .inl b =>
    match (wE w)[k]? with
    | none => none
    | some e =>
      if inI b then
        match op with
        | 0 => if inI (e.1 + b) && inI (e.2.1 + b) then some (wNewI w (e.1 + b) (e.2.1 + b) (some (e.2.2.1, e.2.2.2 + b))) else some (wTop w)
        | 1 => if inI (e.1 - b) && inI (e.2.1 - b) then some (wNewI w (e.1 - b) (e.2.1 - b) (some (e.2.2.1, e.2.2.2 - b))) else some (wTop w)
        | 3 => none
        | 4 => none
        | 5 => if 0 ≤ b then some (wNewI w 0 b none) else some (wTop w)
        | _ => if Nat.ble op 10 then some (wTop w) else none
      else none
  | _, _ => if aIsI x && aIsI y && Nat.ble op 10 && !(Nat.beq op 3) && !(Nat.beq op 4) then some (wTop w) else none
/-- longs -/
def lop (w : AW) (op : Nat) (x y : AV) : Option (AW × AV) :=
  match x, y with
  | .inr (.inr (.inl a)), .inr (.inr (.inl b)) =>
    match op with
    | 0 => some (w, aJ ((a + b) % 18446744073709551616))
    | 1 => if Nat.ble b 18446744073709551616 then some (w, aJ ((a + (18446744073709551616 - b)) % 18446744073709551616)) else none
    | 2 => some (w, aJ (Nat.land a b))
    | 3 => some (w, aJ (Nat.lor a b))
    | 4 => some (w, aJ (Nat.xor a b))
    | _ => none
  | _, _ => if aIsL x && aIsL y && Nat.ble op 4 then some (wNewU w) else none
def lSh (w : AW) (left : Bool) (x y : AV) : Option (AW × AV) :=
  match x, y with
  | .inr (.inr (.inl a)), .inl b =>
    if Nat.blt a 18446744073709551616 && inI b then
      if left then some (w, aJ ((a * 2 ^ (zN b % 64)) % 18446744073709551616)) else some (w, aJ (a / 2 ^ (zN b % 64)))
    else none
  | _, _ => if aIsL x && aIsI y then some (match x with | .inr (.inr (.inl 0)) => (w, aJ 0) | _ => wNewU w) else none
def lSg (a : Nat) : Int := if Nat.blt a 9223372036854775808 then (a : Int) else (a : Int) - 18446744073709551616
def lCm (w : AW) (x y : AV) : Option (AW × AV) :=
  match x, y with
  | .inr (.inr (.inl a)), .inr (.inr (.inl b)) =>
    if Nat.blt a 18446744073709551616 && Nat.blt b 18446744073709551616 then some (w, aI (if lSg b < lSg a then 1 else if lSg a = lSg b then 0 else -1)) else none
  | _, _ => if aIsL x && aIsL y then some (wNewI w (-1) 1 none) else none
/-- bounds made narrower; none: it cannot be -/
def eSet (E : AE) (k : Nat) (lo hi : Int) : AE := match E[k]? with
  | some b => E.set k (lo, hi, b.2.2.1, b.2.2.2)
  | none => E
def rLo (E : AE) (a : AV) (lo : Int) : Option AE :=
  match a with
  | .inl z => if lo ≤ z then some E else none
  | .inr (.inl k) => match E[k]? with
    | some b => if lo ≤ b.1 then some E else if lo ≤ b.2.1 then some (eSet E k lo b.2.1) else none
    | none => some E
  | _ => some E
def rHi (E : AE) (a : AV) (hi : Int) : Option AE :=
  match a with
  | .inl z => if z ≤ hi then some E else none
  | .inr (.inl k) => match E[k]? with
    | some b => if b.2.1 ≤ hi then some E else if b.1 ≤ hi then some (eSet E k b.1 hi) else none
    | none => some E
  | _ => some E
/-- x + d ≤ y -/
def rLe (E : AE) (x y : AV) (d : Int) : Option AE :=
  match aBd E x, aBd E y with
  | some bx, some by_ => match rHi E x (by_.2 - d) with
    | some E1 => rLo E1 y (bx.1 + d)
    | none => none
  | _, _ => some E
def rEq (E : AE) (x y : AV) : Option AE := match rLe E x y 0 with
  | some E1 => rLe E1 y x 0
  | none => none
def rNe1 (E : AE) (x : AV) (z : Int) : Option AE :=
  match x with
  | .inl a => if a = z then none else some E
  | .inr (.inl k) => match E[k]? with
    | some b => if b.1 = z then (if b.2.1 = z then none else some (eSet E k (z + 1) b.2.1)) else if b.2.1 = z then some (eSet E k b.1 (z - 1)) else some E
    | none => some E
  | _ => some E
def rNe (E : AE) (x y : AV) : Option AE :=
  match y with
  | .inl z => rNe1 E x z
  | _ => match x with
    | .inl z => rNe1 E y z
    | _ => some E
/-- taken, not taken: 0 eq 1 ne 2 lt 3 ge 4 gt 5 le -/
def rT (E : AE) (op : Nat) (x y : AV) : Option AE :=
  match op with
  | 0 => rEq E x y
  | 1 => rNe E x y
  | 2 => rLe E x y 1
  | 3 => rLe E y x 0
  | 4 => rLe E y x 1
  | _ => rLe E x y 0
def rF (E : AE) (op : Nat) (x y : AV) : Option AE :=
  match op with
  | 0 => rNe E x y
  | 1 => rEq E x y
  | 2 => rLe E y x 0
  | 3 => rLe E x y 1
  | 4 => rLe E x y 0
  | _ => rLe E y x 1
abbrev AO : Type := Option (List AS × List AR)
def oOne (s : AS) : AO := some ([s], [])
def sGo (s : AS) (pc : Nat) (st : List AV) : AS := (pc, sLv s, st, sW s, sLp s, sC s, sS s)
def sGoW (s : AS) (pc : Nat) (st : List AV) (w : AW) : AS := (pc, sLv s, st, w, sLp s, sC s, sS s)
def wEnv (w : AW) (E : AE) : AW := (E, w.2)
def wHp (w : AW) (h : AH) : AW := (w.1, h, w.2.2)
def oBr (s : AS) (op : Nat) (x y : AV) (t f : Nat) (r : List AV) : AO :=
  if aIsI x && aIsI y then
    match aBd (wE (sW s)) x, aBd (wE (sW s)) y with
    | some _, some _ =>
      let a : List AS := match rT (wE (sW s)) op x y with
        | some E => [sGoW s t r (wEnv (sW s) E)]
        | none => []
      let b : List AS := match rF (wE (sW s)) op x y with
        | some E => [sGoW s f r (wEnv (sW s) E)]
        | none => []
      some (a ++ b, [])
    | _, _ => none
  else none
/-- a symbol taken apart into its values -/
def oSpl (s : AS) (a : AV) : AO :=
  match a with
  | .inr (.inl k) => match (wE (sW s))[k]? with
    | some b => if b.2.1 - b.1 ≤ 260 then some ((List.range ((b.2.1 - b.1).toNat + 1)).map (fun (j : Nat) => sGoW s (sPc s) (sSt s) (wEnv (sW s) (eSet (wE (sW s)) k (b.1 + (j : Int)) (b.1 + (j : Int))))), []) else none
    | none => none
  | _ => none
def allEq : List AV → Option AV
  | [] => none
  | a :: r => if r.all (fun b => decide (b = a)) then some a else none
/-- what an array holds at i: fails (none), is to be taken apart (some none) -/
def arGet (w : AW) (n : Nat) (b : AB) (lng : Bool) (i : AV) : Option (Option (AW × AV)) :=
  match aBd (wE w) i with
  | none => none
  | some (lo, hi) =>
    if 0 ≤ lo && hi < (n : Int) then
      match b with
      | .inl l => match i with
        | .inl z => match l[z.toNat]? with
          | some a => some (some (w, a))
          | none => none
        | _ => if Nat.beq l.length n then (match allEq ((l.drop lo.toNat).take (hi.toNat + 1 - lo.toNat)) with
          | some a => some (some (w, a))
          | none => some none) else none
      | .inr (l, h, _) => if lng then some (some (wNewU w)) else if l = h then (if inI l then some (some (w, aI l)) else none) else some (some (wNewI w l h none))
    else none
/-- the contents behind a store -/
def arSet (w : AW) (n : Nat) (b : AB) (lng : Bool) (i a : AV) : Option (Option (AW × AB)) :=
  match aBd (wE w) i with
  | none => none
  | some (lo, hi) =>
    if 0 ≤ lo && hi < (n : Int) then
      match b with
      | .inl l => match i with
        | .inl z => (match l[z.toNat]? with
          | some _ => some (some (w, .inl (l.set z.toNat a)))
          | none => none)
        | _ => some none
      | .inr (l, h, _) =>
        if lng then some (some ((w.1, w.2.1, wL w, wA w + 1, wX w), .inr (0, 0, wA w)))
        else match aBd (wE w) a with
          | none => none
          | some (al, ah) =>
            if l = h && inI l && al = l && ah = l then some (some (w, b)) else
            match i with
            | .inl z => if l = h && inI l && Nat.ble n 256 then some (some (w, .inl ((List.replicate n (aI l)).set z.toNat a))) else some (some ((w.1, w.2.1, wL w, wA w + 1, wX w), .inr (min l al, max h ah, wA w)))
            | _ => some (some ((w.1, w.2.1, wL w, wA w + 1, wX w), .inr (min l al, max h ah, wA w)))
    else none
def oLd (B : Nat → AC) (s : AS) (t : Nat) (ref : Bool) : AO :=
  match sSt s with
  | i :: a :: r => match aNm (wE (sW s)) i, a with
    | i, .inr (.inr (.inr (.inr (.inl (some id))))) =>
      if Nat.blt id (wH (sW s)).1 then
        match hGet B (wH (sW s)) id with
        | .inl (t', n, b) =>
          if (if ref then Nat.ble 3 t' else Nat.beq t' t) then
            match arGet (sW s) n b (Nat.beq t' 1) i with
            | some (some (w, x)) => if (if ref then aIsR x && (match b with | .inl _ => true | .inr _ => false) else if Nat.beq t' 1 then aIsL x else aIsI x) then oOne (sGoW s (sPc s + 1) (aNm (wE w) x :: r) w) else none
            | some none => oSpl s i
            | none => none
          else none
        | _ => none
      else none
    | _, _ => none
  | _ => none
def oSt (B : Nat → AC) (s : AS) (t : Nat) : AO :=
  match sSt s with
  | x :: i :: a :: r => match aNm (wE (sW s)) x, aNm (wE (sW s)) i, a with
    | x, i, .inr (.inr (.inr (.inr (.inl (some id))))) =>
      if Nat.blt id (wH (sW s)).1 then
        match hGet B (wH (sW s)) id with
        | .inl (t', n, b) =>
          if Nat.beq t' t && (if Nat.beq t 1 then aIsL x else aIsI x) then
            if (if Nat.beq t 2 then (match aBd (wE (sW s)) x with | some (l, h) => decide (0 ≤ l) && decide (h ≤ 1) | none => false) else true) then
              match arSet (sW s) n b (Nat.beq t 1) i x with
              | some (some (w, b')) => oOne (sGoW s (sPc s + 1) r (wHp w (hSet (wH w) id (.inl (t, n, b')))))
              | some none => oSpl s i
              | none => none
            else none
          else none
        | _ => none
      else none
    | _, _, _ => none
  | _ => none
end
section
/-! The interpreter: fields, new things, calls, loops, the run -/
/-- a field's kind by its type: 0 int, 1 boolean, 2 long, 3 reference -/
def fK : FieldType → Nat
  | .int => 0
  | .boolean => 1
  | .long => 2
  | .object _ => 3
  | .array _ => 3
  | _ => 9
def nCl : Nat → String × Nat × u_T × (Nat → FieldType)
  | 0 => (RX0, 14, TX0, tyX0)
  | 1 => (RX1, 8, TX1, tyX1)
  | 2 => (RX2, 10, TX2, tyX2)
  | 3 => (RX3, 7, TX3, tyX3)
  | 4 => (RX4, 14, TX4, tyX4)
  | 5 => (RX5, 13, TX5, tyX5)
  | 6 => (RX6, 9, TX6, tyX6)
  | 7 => (RX7, 14, TX7, tyX7)
  | 8 => (RX8, 18, TX8, tyX8)
  | 9 => (RX9, 18, TX9, tyX9)
  | 10 => (RX10, 10, TX10, tyX10)
  | 11 => (RX11, 11, TX11, tyX11)
  | _ => (RX12, 83, TX12, tyX12)
def nKd (ci f : Nat) : Nat := fK ((nCl ci).2.2.2 f)
def dfV (k : Nat) : AV := if Nat.beq k 2 then aJ 0 else if Nat.beq k 3 then aR none else aI 0
def dfl (ci : Nat) : List AV := (List.range (nCl ci).2.1).map (fun f => dfV (nKd ci f))
/-- does the value fit the kind? -/
def fitK (E : AE) (k : Nat) (a : AV) : Bool :=
  match k with
  | 0 => aIsI a
  | 1 => aIsI a && (match aBd E a with | some (l, h) => decide (0 ≤ l) && decide (h ≤ 1) | none => false)
  | 2 => aIsL a
  | 3 => aIsR a
  | _ => false
/-- what is to be forgotten: kind (0 a local int, 1 a local long, 2 an array, 3 one place of an array, 4 an int field, 5 narrow a local's symbol), local, path, bounds -/
abbrev AHv : Type := Nat × Nat × List Nat × Int × Int
/-- hints for a loop: what is forgotten, the local that counts, up or down -/
abbrev ALh : Type := List AHv × Nat × Bool
/-- hints for a call: the ends: what is forgotten, and the end itself (0 nothing, 1 an int constant, 2 an int between, 3 an exception), two numbers -/
abbrev ASm : Type := List (List AHv × Nat × Int × Int)
/-- all that the interpreter knows of the program: base cells, code, methods, hints for loops, for calls, contracts -/
abbrev ACx : Type := (Nat → AC) × (Nat → Nat → Option ARow) × (Nat → AM) × (Nat → Nat → Nat → Option ALh) × (Nat → Nat → Option ASm) × (Nat → List AV → AW → Option (List AR))
abbrev xB (x : ACx) : Nat → AC := x.1
abbrev xCd (x : ACx) : Nat → Nat → Option ARow := x.2.1
abbrev xM (x : ACx) : Nat → AM := x.2.2.1
abbrev xLh (x : ACx) : Nat → Nat → Nat → Option ALh := x.2.2.2.1
abbrev xSm (x : ACx) : Nat → Nat → Option ASm := x.2.2.2.2.1
abbrev xCt (x : ACx) : Nat → List AV → AW → Option (List AR) := x.2.2.2.2.2
def oGet (x : ACx) (s : AS) (ci f : Nat) : AO :=
  match sSt s with
  | .inr (.inr (.inr (.inr (.inl (some id))))) :: r =>
    if Nat.blt id (wH (sW s)).1 then
      match hGet (xB x) (wH (sW s)) id with
      | .inr (c, fs) => if Nat.beq c ci then (match fs[f]? with | some a => oOne (sGo s (sPc s + 3) (aNm (wE (sW s)) a :: r)) | none => none) else none
      | _ => none
    else none
  | _ => none
def oPut (x : ACx) (s : AS) (ci f : Nat) : AO :=
  match sSt s with
  | a :: .inr (.inr (.inr (.inr (.inl (some id))))) :: r =>
    if Nat.blt id (wH (sW s)).1 && fitK (wE (sW s)) (nKd ci f) a then
      match hGet (xB x) (wH (sW s)) id with
      | .inr (c, fs) => if Nat.beq c ci && Nat.blt f fs.length && Nat.blt f (nCl ci).2.1 then oOne (sGoW s (sPc s + 3) r (wHp (sW s) (hSet (wH (sW s)) id (.inr (ci, fs.set f (aNm (wE (sW s)) a)))))) else none
      | _ => none
    else none
  | _ => none
def oNew (s : AS) (m : AM) (ci : Nat) : AO :=
  if Nat.ble (sC s + 1) (mCe m) && Nat.ble (sS s + (nCl ci).2.1) (mSl m) then
    some ([(sPc s + 3, sLv s, aR (some (wH (sW s)).1) :: sSt s, wHp (sW s) (hAdd (wH (sW s)) (.inr (ci, dfl ci))), sLp s, sC s + 1, sS s + (nCl ci).2.1)], [])
  else none
/-- new int[n] and the like: t 0 int, 1 long, 2 boolean -/
def oNwa (s : AS) (m : AM) (t : Nat) : AO :=
  match sSt s with
  | .inl z :: r =>
    if decide (0 ≤ z) && decide (z ≤ 100000) && Nat.ble (sC s + 1) (mCe m) && Nat.ble (sS s + z.toNat) (mSl m) then
      some ([(sPc s + 2, sLv s, aR (some (wH (sW s)).1) :: r, wHp (sW s) (hAdd (wH (sW s)) (.inl (t, z.toNat, if Nat.beq t 1 then .inl (List.replicate z.toNat (aJ 0)) else .inr (0, 0, wA (sW s))))) |> (fun w => (w.1, w.2.1, wL w, wA w + 1, wX w)), sLp s, sC s + 1, sS s + z.toNat)], [])
    else none
  | _ => none
def oNwq (s : AS) (m : AM) : AO :=
  match sSt s with
  | .inl z :: r =>
    if decide (0 ≤ z) && decide (z ≤ 100000) && Nat.ble (sC s + 1) (mCe m) && Nat.ble (sS s + z.toNat) (mSl m) then
      some ([(sPc s + 3, sLv s, aR (some (wH (sW s)).1) :: r, wHp (sW s) (hAdd (wH (sW s)) (.inl (5, z.toNat, .inl (List.replicate z.toNat (aR none))))), sLp s, sC s + 1, sS s + z.toNat)], [])
    else none
  | _ => none
def hAdds (h : AH) : List AC → AH
  | [] => h
  | c :: r => hAdds (hAdd h c) r
def oMn2 (s : AS) (m : AM) : AO :=
  match sSt s with
  | .inl b :: .inl a :: r =>
    if decide (0 ≤ a) && decide (a ≤ 1000) && decide (0 ≤ b) && decide (b ≤ 1000) && Nat.ble (sC s + (1 + a.toNat)) (mCe m) && Nat.ble (sS s + (a.toNat + a.toNat * b.toNat)) (mSl m) then
      let q := (wH (sW s)).1
      some ([(sPc s + 4, sLv s, aR (some q) :: r, ((sW s).1, hAdds (wH (sW s)) (.inl (3, a.toNat, .inl ((List.range a.toNat).map (fun i => aR (some (q + 1 + i))))) :: (List.range a.toNat).map (fun i => .inl (0, b.toNat, .inr (0, 0, wA (sW s) + i)))), wL (sW s), wA (sW s) + a.toNat, wX (sW s)), sLp s, sC s + 1 + a.toNat, sS s + a.toNat + a.toNat * b.toNat)], [])
    else none
  | _ => none
def oMn3 (s : AS) (m : AM) : AO :=
  match sSt s with
  | .inl c :: .inl b :: .inl a :: r =>
    if decide (0 ≤ a) && decide (a ≤ 1000) && decide (0 ≤ b) && decide (b ≤ 1000) && decide (0 ≤ c) && decide (c ≤ 1000) && Nat.ble (sC s + (1 + a.toNat * (1 + b.toNat))) (mCe m) && Nat.ble (sS s + (a.toNat + a.toNat * (b.toNat + b.toNat * c.toNat))) (mSl m) then
      let q := (wH (sW s)).1
      some ([(sPc s + 4, sLv s, aR (some q) :: r, ((sW s).1, hAdds (wH (sW s)) (.inl (4, a.toNat, .inl ((List.range a.toNat).map (fun i => aR (some (q + 1 + i * (1 + b.toNat)))))) :: (List.range (a.toNat * (1 + b.toNat))).map (fun j => if j % (1 + b.toNat) = 0 then .inl (3, b.toNat, .inl ((List.range b.toNat).map (fun i => aR (some (q + 1 + j + 1 + i))))) else .inl (0, c.toNat, .inr (0, 0, wA (sW s) + j)))), wL (sW s), wA (sW s) + a.toNat * (1 + b.toNat), wX (sW s)), sLp s, sC s + 1 + a.toNat * (1 + b.toNat), sS s + a.toNat + a.toNat * (b.toNat + b.toNat * c.toNat))], [])
    else none
  | _ => none
/-- arraycopy of ints whose places are known -/
def abL (n : Nat) : AB → Option (List AV)
  | .inl l => if Nat.beq l.length n then some l else none
  | .inr (l, h, _) => if l = h && inI l && Nat.ble n 256 then some (List.replicate n (aI l)) else none
def oCpy (x : ACx) (s : AS) (m : AM) : AO :=
  match sSt s with
  | .inl n :: .inl dp :: .inr (.inr (.inr (.inr (.inl (some d))))) :: .inl sp :: .inr (.inr (.inr (.inr (.inl (some a))))) :: r =>
    if decide (0 ≤ n) && decide (0 ≤ dp) && decide (0 ≤ sp) && decide (n ≤ 1000) && decide (dp ≤ 1000) && decide (sp ≤ 1000) && Nat.blt d (wH (sW s)).1 && Nat.blt a (wH (sW s)).1 && Nat.ble 1 (mFr m) && Nat.ble ((r.map aCat).sum + 40) (mLo m) then
      match hGet (xB x) (wH (sW s)) a, hGet (xB x) (wH (sW s)) d with
      | .inl (0, n0, b0), .inl (0, n1, b1) =>
        if Nat.ble (sp.toNat + n.toNat) n0 && Nat.ble (dp.toNat + n.toNat) n1 then
          if Nat.beq n.toNat 0 then oOne (sGo s (sPc s + 3) r) else
          match abL n0 b0, abL n1 b1 with
          | some l0, some l1 => oOne (sGoW s (sPc s + 3) r (wHp (sW s) (hSet (wH (sW s)) d (.inl (0, n1, .inl (l1.take dp.toNat ++ ((l0.drop sp.toNat).take n.toNat ++ l1.drop (dp.toNat + n.toNat))))))))
          | _, _ => none
        else none
      | _, _ => none
    else none
  | _ => none
/-- where a path of fields leads -/
def pGo (x : ACx) (w : AW) : AV → List Nat → Option Nat
  | .inr (.inr (.inr (.inr (.inl (some id))))), [] => some id
  | .inr (.inr (.inr (.inr (.inl (some id))))), f :: r => match hGet (xB x) (wH w) id with
    | .inr (_, fs) => match fs[f]? with
      | some a => pGo x w a r
      | none => none
    | _ => none
  | _, _ => none
def hv1 (x : ACx) (l : List (Option AV)) (w : AW) (v : AHv) : Option (List (Option AV) × AW) :=
  match v with
  | (0, i, _, lo, hi) => if inI lo && inI hi && Nat.blt i l.length then (let q := wNewI w lo hi none; some (lSet l i q.2, q.1)) else none
  | (1, i, _, _, _) => if Nat.blt (i + 1) l.length then (let q := wNewU w; some (lSet l i q.2, q.1)) else none
  | (2, i, p, lo, hi) => match lGet l i with
    | some a => match pGo x w a p with
      | some id => if Nat.blt id (wH w).1 then (match hGet (xB x) (wH w) id with
        | .inl (t, n, _) => if Nat.ble t 2 && decide (lo ≤ hi) then some (l, (w.1, hSet (wH w) id (.inl (t, n, .inr (lo, hi, wA w))), wL w, wA w + 1, wX w)) else none
        | _ => none) else none
      | none => none
    | none => none
  | (3, i, p, lo, hi) => match lGet l i, p.getLast? with
    | some a, some j => match pGo x w a p.dropLast with
      | some id => if Nat.blt id (wH w).1 && inI lo && inI hi then (match hGet (xB x) (wH w) id with
        | .inl (0, n, b) => match abL n b with
          | some q => (let z := wNewI w lo hi none; some (l, wHp z.1 (hSet (wH w) id (.inl (0, n, .inl (q.set j z.2))))))
          | none => none
        | _ => none) else none
      | none => none
    | _, _ => none
  | (4, i, p, lo, hi) => match lGet l i, p.getLast? with
    | some a, some j => match pGo x w a p.dropLast with
      | some id => if Nat.blt id (wH w).1 && inI lo && inI hi then (match hGet (xB x) (wH w) id with
        | .inr (c, fs) => (let z := wNewI w lo hi none; some (l, wHp z.1 (hSet (wH w) id (.inr (c, fs.set j z.2)))))
        | _ => none) else none
      | none => none
    | _, _ => none
  | (5, i, _, lo, hi) => match lGet l i with
    | some (.inr (.inl k)) => some (l, wEnv w (eSet (wE w) k lo hi))
    | _ => none
  | _ => none
def hvs (x : ACx) (l : List (Option AV)) (w : AW) : List AHv → Option (List (Option AV) × AW)
  | [] => some (l, w)
  | v :: r => match hv1 x l w v with
    | some (l1, w1) => hvs x l1 w1 r
    | none => none
/-- a is one of those that b stands for; b's symbols from n on are free: which of them stands for what -/
def mtV (E F : AE) (n : Nat × Nat × Nat) (L : Nat) (a b : AV) : Option (List (Nat × AV)) :=
  match b with
  | .inr (.inl k) => if Nat.ble n.1 k then (match aBd E a, F[k]? with
      | some p, some e => if decide (e.1 ≤ p.1) && decide (p.2 ≤ e.2.1) then some [(2 * k, a)] else none
      | _, _ => none) else if decide (aNm E a = aNm E b) then some [] else none
  | .inr (.inr (.inr (.inl k))) => if Nat.ble n.2.1 k then (if aIsL a && Nat.blt k L then some [(2 * k + 1, a)] else none) else if decide (a = b) then some [] else none
  | .inl z => if decide (aNm E a = .inl z) then some [] else none
  | _ => if decide (a = b) then some [] else none
def mtL (E F : AE) (n : Nat × Nat × Nat) (L : Nat) : List AV → List AV → Option (List (Nat × AV))
  | [], [] => some []
  | a :: r, b :: q => match mtV E F n L a b, mtL E F n L r q with
    | some x, some y => some (x ++ y)
    | _, _ => none
  | _, _ => none
def inB (E : AE) (lo hi : Int) (a : AV) : Bool := match aBd E a with
  | some p => decide (lo ≤ p.1) && decide (p.2 ≤ hi)
  | none => false
/-- all of b's places are between -/
def btw (E : AE) (t m : Nat) (lo hi : Int) : AB → Bool
  | .inl q => Nat.beq t 1 || (Nat.ble t 2 && Nat.beq q.length m && q.all (inB E lo hi))
  | .inr e => Nat.beq t 1 || (Nat.ble t 2 && decide (lo ≤ e.1) && decide (e.2.1 ≤ hi))
def mtB (E F : AE) (n : Nat × Nat × Nat) (L A t m : Nat) (b c : AB) : Option (List (Nat × AV) × List (Nat × AB)) :=
  match c with
  | .inr e => if Nat.ble n.2.2 e.2.2 then (if Nat.blt e.2.2 A && btw E t m e.1 e.2.1 b then some ([], [(e.2.2, b)]) else none) else (match b with | .inr f => if Nat.beq f.2.2 e.2.2 && decide (f.1 = e.1) && decide (f.2.1 = e.2.1) then some ([], []) else none | .inl _ => none)
  | .inl q => match b with
    | .inl l => match mtL E F n L l q with
      | some P => some (P, [])
      | none => none
    | .inr e => if decide (e.1 = e.2.1) && inI e.1 && (Nat.beq t 0 || Nat.beq t 2) && Nat.beq q.length m then (match mtL E F n L (List.replicate m (aI e.1)) q with
      | some P => some (P, [])
      | none => none) else none
def mtC (E F : AE) (n : Nat × Nat × Nat) (L A : Nat) (c d : AC) : Option (List (Nat × AV) × List (Nat × AB)) :=
  match c, d with
  | .inr c, .inr d => if Nat.beq c.1 d.1 then (match mtL E F n L c.2 d.2 with
    | some P => some (P, [])
    | none => none) else none
  | .inl c, .inl d => if Nat.beq c.1 d.1 && Nat.beq c.2.1 d.2.1 then mtB E F n L A c.1 c.2.1 c.2.2 d.2.2 else none
  | _, _ => none
def mtH (x : ACx) (E F : AE) (n : Nat × Nat × Nat) (L A : Nat) (g : AH) : List (Nat × AC) → Option (List (Nat × AV) × List (Nat × AB))
  | [] => some ([], [])
  | q :: r => match mtC E F n L A q.2 (hGet (xB x) g q.1), mtH x E F n L A g r with
    | some a, some b => some (a.1 ++ b.1, a.2 ++ b.2)
    | _, _ => none
/-- old symbols are bound no wider than there -/
def leE : Nat → AE → AE → Bool
  | 0, _, _ => true
  | k + 1, a :: r, b :: q => decide (b.1 ≤ a.1) && decide (a.2.1 ≤ b.2.1) && Nat.beq a.2.2.1 b.2.2.1 && decide (a.2.2.2 = b.2.2.2) && leE k r q
  | _, _, _ => false
/-- new symbols are free -/
def leG : Nat → AE → Bool
  | _, [] => true
  | k, e :: r => Nat.beq e.2.2.1 k && decide (e.2.2.2 = 0) && decide (e.1 ≤ e.2.1) && inI e.1 && leG (k + 1) r
def nIn (k : Nat) : List Nat → Bool
  | [] => true
  | a :: r => !(Nat.beq a k) && nIn k r
def ndp : List Nat → Bool
  | [] => true
  | a :: r => nIn a r && ndp r
/-- the world w, with the places pl (theirs, ours), is one of those that u stands for -/
def mtA (x : ACx) (n : Nat × Nat × Nat) (w u : AW) (pl : List (AV × AV)) : Bool :=
  leE n.1 (wE w) (wE u) && leG n.1 ((wE u).drop n.1) && Nat.ble n.2.1 (wL w) && Nat.ble n.2.2 (wA w) && Nat.ble n.2.1 (wL u) && Nat.ble n.2.2 (wA u) && Nat.beq (wX w) (wX u) && Nat.beq (wH w).1 (wH u).1 &&
  (wH u).2.all (fun q => (wH w).2.any (fun p => Nat.beq p.1 q.1)) &&
  (match mtH x (wE w) (wE u) n (wL u) (wA u) (wH u) (wH w).2, mtL (wE w) (wE u) n (wL u) (pl.map Prod.fst) (pl.map Prod.snd) with
    | some a, some b => ndp ((a.1 ++ b).map Prod.fst) && ndp (a.2.map Prod.fst)
    | _, _ => false)
def plO : List (Option AV) → List (Option AV) → Option (List (AV × AV))
  | [], [] => some []
  | _ :: r, none :: q => plO r q
  | some a :: r, some b :: q => match plO r q with
    | some l => some ((a, b) :: l)
    | none => none
  | _, _ => none
def mtS (x : ACx) (n : Nat × Nat × Nat) (w u : AW) (l l1 : List (Option AV)) : Bool := match plO l l1 with
  | some pl => mtA x n w u pl
  | none => false
/-- the count has moved on -/
def rkd (E : AE) (up : Bool) (a b : AV) : Bool :=
  match b with
  | .inr (.inl k) =>
    (match a with
      | .inr (.inl j) => (match E[j]? with | some e => Nat.beq e.2.2.1 k && decide (if up then 0 < e.2.2.2 else e.2.2.2 < 0) | none => false)
      | _ => false) ||
    (match aBd E a, aBd E b with
      | some (l, h), some (l', h') => decide (if up then h' < l else h < l')
      | _, _ => false)
  | _ => false
def lpAt (t : Nat) : List ALp → Option ALp
  | [] => none
  | p :: r => if Nat.beq p.1 t then some p else lpAt t r
def oGoto (x : ACx) (m c : Nat) (s : AS) (t : Nat) : AO :=
  if Nat.blt (sPc s) t then oOne (sGo s t (sSt s)) else
  let lp := (sLp s).filter (fun p => Nat.ble p.1 t)
  match xLh x c m t with
  | none => some ([(t, sLv s, sSt s, sW s, lp, sC s, sS s)], [])
  | some (hs, ct, up) =>
    match sSt s with
    | [] => match lpAt t lp with
      | some p =>
        if mtS x p.2.2.2 (sW s) p.2.2.1 (sLv s) p.2.1 && Nat.beq (sC s) 0 && Nat.beq (sS s) 0 then
          match lGet (sLv s) ct, lGet p.2.1 ct with
          | some a, some b => if rkd (wE (sW s)) up a b && (match b with | .inr (.inl k) => Nat.ble p.2.2.2.1 k | _ => false) then some ([], []) else none
          | _, _ => none
        else none
      | none =>
        let n := ((wE (sW s)).length, wL (sW s), wA (sW s))
        match hvs x (sLv s) (sW s) hs with
        | some (l1, w1) =>
          if mtS x n (sW s) w1 (sLv s) l1 && Nat.beq (sC s) 0 && Nat.beq (sS s) 0 then
            some ([(t, l1, [], w1, (t, l1, w1, n) :: lp, 0, 0)], [])
          else none
        | none => none
    | _ => none
def argsL (n : Nat) (as : List AV) : List (Option AV) :=
  let l := as.flatMap (fun a => if Nat.beq (aCat a) 2 then [some a, none] else [some a])
  l ++ List.replicate (n - l.length) none
/-- the ends of a call, taken together -/
def smEnd (x : ACx) (as : List AV) (w : AW) (p : List AHv × Nat × Int × Int) : Option AR :=
  match hvs x (as.map some) w p.1 with
  | some (_, w1) =>
    match p.2.1 with
    | 0 => some (.inl none, w1)
    | 1 => some (.inl (some (aI p.2.2.1)), w1)
    | 2 => if inI p.2.2.1 && inI p.2.2.2 then (let q := wNewI w1 p.2.2.1 p.2.2.2 none; some (.inl (some q.2), q.1)) else none
    | 3 => some (.inr p.2.2.1.toNat, w1)
    | _ => none
  | none => none
def leR (x : ACx) (n : Nat × Nat × Nat) (r q : AR) : Bool :=
  match r.1, q.1 with
    | .inl none, .inl none => mtA x n r.2 q.2 []
    | .inl (some a), .inl (some b) => mtA x n r.2 q.2 [(a, b)]
    | .inr a, .inr b => Nat.beq a b && mtA x n r.2 q.2 []
    | _, _ => false
def smAll (x : ACx) (as : List AV) (w : AW) : ASm → Option (List AR)
  | [] => some []
  | p :: r => match smEnd x as w p, smAll x as w r with
    | some a, some l => some (a :: l)
    | _, _ => none
def smTry (x : ACx) (as : List AV) (w : AW) (sm : ASm) (rs : List AR) : Option (List AR) :=
  match smAll x as w sm with
  | some ps => if rs.all (fun r => ps.any (fun q => leR x ((wE w).length, wL w, wA w) r q)) then some ps else none
  | none => none
def oCont (s : AS) (r : List AV) (m : AM) (k : AM) : List AR → AO
  | [] => some ([], [])
  | (.inl v, w) :: q => match oCont s r m k q with
    | some (a, b) => some ((sPc s + 3, sLv s, v.toList ++ r, w, sLp s, sC s + mCe k, sS s + mSl k) :: a, b)
    | none => none
  | (.inr e, w) :: q => match oCont s r m k q with
    | some (a, b) => if Nat.ble (sC s + mCe k) (mCe m) && Nat.ble (sS s + mSl k) (mSl m) then some (a, (.inr e, w) :: b) else none
    | none => none
/-- a call: kind 0 virtual, 1 static, 2 special, 3 special of a nest mate -/
def oCall (x : ACx) (call : Nat → Nat → List AV → AW → Option (List AR)) (mn : Nat) (s : AS) (cn kind : Nat) : AO :=
  let m := xM x mn
  let k := xM x cn
  if Nat.ble (mAr k) (sSt s).length && Nat.ble (((sSt s).drop (mAr k)).map aCat).sum 8 && Nat.ble (mFr k + 1) (mFr m) && Nat.ble (8 + (mNL k + 11) + mLo k) (mLo m) && Nat.ble (sC s + mCe k) (mCe m) && Nat.ble (sS s + mSl k) (mSl m) then
    let as := (((sSt s).take (mAr k)).reverse).map (aNm (wE (sW s)))
    let ok := match kind, as with
      | 0, .inr (.inr (.inr (.inr (.inl (some id))))) :: _ => Nat.blt id (wH (sW s)).1 && (match hGet (xB x) (wH (sW s)) id with | .inr (c, _) => Nat.beq c (mCl k) | _ => false)
      | 0, _ => false
      | 1, _ => true
      | _, .inr (.inr (.inr (.inr (.inl (some _))))) :: _ => true
      | _, _ => false
    if ok && Nat.ble (argsL 0 as).length (mNL k) then
      match call mn cn as (sW s) with
      | some rs => match xSm x mn cn with
        | none => oCont s ((sSt s).drop (mAr k)) m k rs
        | some sm => match smTry x as (sW s) sm rs with
          | some ps => oCont s ((sSt s).drop (mAr k)) m k ps
          | none => none
      | none => none
    else none
  else none
def oRet (s : AS) (m : AM) : AO :=
  if Nat.ble (sC s) (mCe m) && Nat.ble (sS s) (mSl m) then
    match mRt m, sSt s with
    | 0, [] => some ([], [(.inl none, sW s)])
    | 1, [a] => if aIsI a then some ([], [(.inl (some (aNm (wE (sW s)) a)), sW s)]) else none
    | 2, [a] => if fitK (wE (sW s)) 1 a then some ([], [(.inl (some (aNm (wE (sW s)) a)), sW s)]) else none
    | 3, [a] => if aIsL a then some ([], [(.inl (some a), sW s)]) else none
    | _, _ => none
  else none
def oSw (s : AS) (d lo hi : Int) (offs : Array Int) : AO :=
  match sSt s with
  | .inl z :: r => if inI z then (if z < lo || hi < z then oOne (sGo s ((sPc s : Int) + d).toNat r) else match offs[(z - lo).toNat]? with | some o => oOne (sGo s ((sPc s : Int) + o).toNat r) | none => none) else none
  | .inr (.inl k) :: r => match (wE (sW s))[k]? with
    | some b =>
      let ins := (List.range (hi - lo + 1).toNat).flatMap (fun (j : Nat) => if b.1 ≤ lo + (j : Int) && lo + (j : Int) ≤ b.2.1 then [sGoW s (sPc s) (aS k :: r) (wEnv (sW s) (eSet (wE (sW s)) k (lo + (j : Int)) (lo + (j : Int))))] else [])
      let a := if b.1 < lo then [sGoW s ((sPc s : Int) + d).toNat r (wEnv (sW s) (eSet (wE (sW s)) k b.1 (min b.2.1 (lo - 1))))] else []
      let c := if hi < b.2.1 then [sGoW s ((sPc s : Int) + d).toNat r (wEnv (sW s) (eSet (wE (sW s)) k (max b.1 (hi + 1)) b.2.1))] else []
      some (ins.map (fun t => sGoW t (sPc t) (aNm (wE (sW t)) (aS k) :: r) (sW t)) ++ (a ++ c), [])
    | none => none
  | _ => none
def oI (s : AS) (len : Nat) (w : Option (AW × AV)) (r : List AV) : AO := match w with
  | some (w, a) => oOne (sGoW s (sPc s + len) (a :: r) w)
  | none => none
def oBin (s : AS) (op : Nat) : AO := match sSt s with
  | y :: x :: r => oI s 1 (iop (sW s) op (aNm (wE (sW s)) x) (aNm (wE (sW s)) y)) r
  | _ => none
def oBil (s : AS) (op : Nat) : AO := match sSt s with
  | y :: x :: r => oI s 1 (lop (sW s) op x y) r
  | _ => none
def oPsh (s : AS) (len : Nat) (a : AV) : AO := oOne (sGo s (sPc s + len) (a :: sSt s))
def oLdv (s : AS) (len i : Nat) (p : AV → Bool) : AO := match lGet (sLv s) i with
  | some a => if p a then oOne (sGo s (sPc s + len) (aNm (wE (sW s)) a :: sSt s)) else none
  | none => none
def oStv (s : AS) (len i : Nat) (p : AV → Bool) : AO := match sSt s with
  | a :: r => if p a && Nat.blt (i + (if Nat.beq (aCat a) 2 then 1 else 0)) (sLv s).length then some ([(sPc s + len, lSet (sLv s) i a, r, sW s, sLp s, sC s, sS s)], []) else none
  | _ => none
def isRef0 : AV → Bool
  | .inr (.inr (.inr (.inr (.inl (some _))))) => true
  | .inr (.inr (.inr (.inr (.inr _)))) => true
  | _ => false
def tgt (s : AS) (o : Int) : Nat := ((sPc s : Int) + o).toNat
abbrev AF : Type := ACx → (Nat → Nat → List AV → AW → Option (List AR)) → Nat → Nat → AS → AO
def fPsh (len : Nat) (v : AV) : AF := fun _ _ _ _ s => oPsh s len v
def fLdv (len i : Nat) (p : AV → Bool) : AF := fun _ _ _ _ s => oLdv s len i p
def fStv (len i : Nat) (p : AV → Bool) : AF := fun _ _ _ _ s => oStv s len i p
def fInc (k : Nat) (n : Int) : AF := fun _ _ _ _ s => match lGet (sLv s) k with
  | some v => if inI n && aIsI v && Nat.blt k (sLv s).length then (match iop (sW s) 0 (aNm (wE (sW s)) v) (aI n) with | some (w, q) => some ([(sPc s + 3, lSet (sLv s) k q, sSt s, w, sLp s, sC s, sS s)], []) | none => none) else none
  | none => none
def fBin (op : Nat) : AF := fun _ _ _ _ s => oBin s op
def fBil (op : Nat) : AF := fun _ _ _ _ s => oBil s op
def fNeg : AF := fun _ _ _ _ s => match sSt s with
  | v :: r => oI s 1 (iop (sW s) 1 (aI 0) (aNm (wE (sW s)) v)) r
  | _ => none
def fLng : AF := fun _ _ _ _ s => match sSt s with
  | v :: r => oI s 1 (lop (sW s) 1 (aJ 0) v) r
  | _ => none
def fLsh (left : Bool) : AF := fun _ _ _ _ s => match sSt s with
  | k :: v :: r => oI s 1 (lSh (sW s) left v (aNm (wE (sW s)) k)) r
  | _ => none
def fLcm : AF := fun _ _ _ _ s => match sSt s with
  | k :: v :: r => oI s 1 (lCm (sW s) v k) r
  | _ => none
def fI2l : AF := fun _ _ _ _ s => match sSt s with
  | v :: r => match aNm (wE (sW s)) v with
    | .inl q => if inI q then oOne (sGo s (sPc s + 1) (aJ (q % 18446744073709551616).toNat :: r)) else none
    | .inr (.inl _) => oI s 1 (some (wNewU (sW s))) r
    | _ => none
  | _ => none
def fL2i : AF := fun _ _ _ _ s => match sSt s with
  | .inr (.inr (.inl n)) :: r => oOne (sGo s (sPc s + 1) (aI (zOf (n % 4294967296)) :: r))
  | .inr (.inr (.inr (.inl _))) :: r => oI s 1 (some (wTop (sW s))) r
  | _ => none
def fDup : AF := fun _ _ _ _ s => match sSt s with
  | v :: r => if Nat.beq (aCat v) 1 then oOne (sGo s (sPc s + 1) (v :: v :: r)) else none
  | _ => none
def fPop : AF := fun _ _ _ _ s => match sSt s with
  | v :: r => if Nat.beq (aCat v) 1 then oOne (sGo s (sPc s + 1) r) else none
  | _ => none
def fDup2 : AF := fun _ _ _ _ s => match sSt s with
  | v :: r => if Nat.beq (aCat v) 2 then oOne (sGo s (sPc s + 1) (v :: v :: r)) else (match r with | u :: q => if Nat.beq (aCat u) 1 then oOne (sGo s (sPc s + 1) (v :: u :: v :: u :: q)) else none | _ => none)
  | _ => none
def fIf (op : Nat) (o : Int) : AF := fun _ _ _ _ s => match sSt s with
  | v :: r => oBr s op (aNm (wE (sW s)) v) (aI 0) (tgt s o) (sPc s + 3) r
  | _ => none
def fIc (op : Nat) (o : Int) : AF := fun _ _ _ _ s => match sSt s with
  | v :: u :: r => oBr s op (aNm (wE (sW s)) u) (aNm (wE (sW s)) v) (tgt s o) (sPc s + 3) r
  | _ => none
def fGoto (o : Int) : AF := fun x _ mn c s => oGoto x mn c s (tgt s o)
def fSw (d lo hi : Int) (offs : Array Int) : AF := fun _ _ _ _ s => oSw s d lo hi offs
def fGet (a b : Nat) : AF := fun x _ _ _ s => oGet x s a b
def fPut (a b : Nat) : AF := fun x _ _ _ s => oPut x s a b
def fLd (t : Nat) (ref : Bool) : AF := fun x _ _ _ s => oLd (xB x) s t ref
def fSt (t : Nat) : AF := fun x _ _ _ s => oSt (xB x) s t
def fAst : AF := fun x _ _ _ s => match sSt s with
  | .inr (.inr (.inr (.inr (.inl (some v))))) :: .inl q :: .inr (.inr (.inr (.inr (.inl (some id))))) :: r =>
    if Nat.blt id (wH (sW s)).1 && Nat.blt v (wH (sW s)).1 then
      match hGet (xB x) (wH (sW s)) id, hGet (xB x) (wH (sW s)) v with
      | .inl (5, n, .inl l), .inr (0, _) => if decide (0 ≤ q) && decide (q < (n : Int)) && decide (q ≤ 1000) && Nat.beq l.length n then oOne (sGoW s (sPc s + 1) r (wHp (sW s) (hSet (wH (sW s)) id (.inl (5, n, .inl (l.set q.toNat (aR (some v)))))))) else none
      | _, _ => none
    else none
  | _ => none
def fLen : AF := fun x _ _ _ s => match sSt s with
  | .inr (.inr (.inr (.inr (.inl (some id))))) :: r => if Nat.blt id (wH (sW s)).1 then (match hGet (xB x) (wH (sW s)) id with | .inl (_, n, _) => if Nat.ble n 100000 then oOne (sGo s (sPc s + 1) (aI (n : Int) :: r)) else none | _ => none) else none
  | _ => none
def fNew (a b : Nat) : AF := fun x _ mn _ s =>
  if Nat.beq b 0 then oNew s (xM x mn) a
  else if Nat.ble 6 (mFr (xM x mn)) && Nat.ble (((sSt s).map aCat).sum + 82) (mLo (xM x mn)) && Nat.ble (sC s + 1) (mCe (xM x mn)) && Nat.ble (sS s + 6) (mSl (xM x mn)) then some ([], [(.inr a, sW s)]) else none
def fNwa (a : Nat) : AF := fun x _ mn _ s => oNwa s (xM x mn) a
def fNwq : AF := fun x _ mn _ s => oNwq s (xM x mn)
def fMn (d : Nat) : AF := fun x _ mn _ s => match d with
  | 2 => oMn2 s (xM x mn)
  | 3 => oMn3 s (xM x mn)
  | _ => none
def fInv (a k : Nat) : AF := fun x call mn _ s => oCall x call mn s a k
def fInvS (a b : Nat) : AF := fun x call mn _ s => if Nat.beq b 5 then oCpy x s (xM x mn) else oCall x call mn s a 1
def fInvI (a b : Nat) : AF := fun x call mn _ s =>
  if Nat.beq b 4 then (match sSt s with | .inr (.inr (.inr (.inr (.inl (some _))))) :: r => if Nat.ble 1 (mFr (xM x mn)) && Nat.ble ((r.map aCat).sum + 12) (mLo (xM x mn)) then oOne (sGo s (sPc s + 3) r) else none | _ => none)
  else if Nat.beq b 2 || Nat.beq b 3 then oCall x call mn s a b else none
def fRet (k : Nat) : AF := fun x _ mn _ s => match k with
  | 1 => if Nat.beq (mRt (xM x mn)) 1 || Nat.beq (mRt (xM x mn)) 2 then oRet s (xM x mn) else none
  | _ => if Nat.beq (mRt (xM x mn)) k then oRet s (xM x mn) else none
def fNo : AF := fun _ _ _ _ _ => none
/-- what a row does -/
def oF (i : Instr) (a b : Nat) (z : Int) : AF :=
  match i with
  | .iconst n => if inI n then fPsh 1 (aI n) else fNo
  | .bipush _ => fPsh 2 (aI z)
  | .sipush _ => fPsh 3 (aI z)
  | .ldc _ => fPsh 2 (aI z)
  | .ldc_w _ => fPsh 3 (aI z)
  | .ldc2_w _ => fPsh 3 (aJ a)
  | .lconst n => fPsh 1 (aJ (n : Nat))
  | .iload_n k => fLdv 1 k aIsI
  | .iload k => fLdv 2 k aIsI
  | .lload_n k => fLdv 1 k aIsL
  | .lload k => fLdv 2 k aIsL
  | .aload_n k => fLdv 1 k isRef0
  | .aload k => fLdv 2 k isRef0
  | .istore_n k => fStv 1 k aIsI
  | .istore k => fStv 2 k aIsI
  | .lstore_n k => fStv 1 k aIsL
  | .lstore k => fStv 2 k aIsL
  | .astore_n k => fStv 1 k isRef0
  | .astore k => fStv 2 k isRef0
  | .iinc k n => fInc k n
  | .iadd => fBin 0
  | .isub => fBin 1
  | .imul => fBin 2
  | .idiv => fBin 3
  | .irem => fBin 4
  | .iand => fBin 5
  | .ior => fBin 6
  | .ixor => fBin 7
  | .ishl => fBin 8
  | .ishr => fBin 9
  | .iushr => fBin 10
  | .ineg => fNeg
  | .ladd => fBil 0
  | .lsub => fBil 1
  | .land => fBil 2
  | .lor => fBil 3
  | .lxor => fBil 4
  | .lneg => fLng
  | .lshl => fLsh true
  | .lushr => fLsh false
  | .lcmp => fLcm
  | .i2l => fI2l
  | .l2i => fL2i
  | .dup => fDup
  | .pop => fPop
  | .dup2 => fDup2
  | .ifCond _ o => fIf a o
  | .if_icmp _ o => fIc a o
  | .goto o => fGoto o
  | .tableswitch d lo hi offs => fSw d lo hi offs
  | .getfield _ => fGet a b
  | .putfield _ => fPut a b
  | .iaload => fLd 0 false
  | .laload => fLd 1 false
  | .baload => fLd 2 false
  | .aaload => fLd 0 true
  | .iastore => fSt 0
  | .lastore => fSt 1
  | .bastore => fSt 2
  | .aastore => fAst
  | .arraylength => fLen
  | .new _ => fNew a b
  | .newarray _ => fNwa a
  | .anewarray _ => fNwq
  | .multianewarray _ d => fMn d
  | .invokevirtual _ => fInv a 0
  | .invokestatic _ => fInvS a b
  | .invokespecial _ => fInvI a b
  | .ireturn => fRet 1
  | .lreturn => fRet 3
  | .return_ => fRet 0
  | _ => fNo
/-- one step of method mn (called by c) -/
def oStep (x : ACx) (call : Nat → Nat → List AV → AW → Option (List AR)) (mn c : Nat) (s : AS) : AO :=
  match xCd x mn (sPc s) with
  | none => none
  | some r => oF r.1 r.2.2.1 r.2.2.2.1 r.2.2.2.2 x call mn c s
/-- all ends of the states, one after another -/
def oAll (f : AS → Option (List AR)) : List AS → List AR → Option (List AR)
  | [], r => some r
  | s :: q, r => match f s with
    | some a => oAll f q (a ++ r)
    | none => none
noncomputable def oRun (x : ACx) (call : Nat → Nat → List AV → AW → Option (List AR)) (mn c : Nat) : Nat → AS → Option (List AR) :=
  fun n => Nat.rec (motive := fun _ => AS → Option (List AR)) (fun _ => none) (fun _ ih s => match oStep x call mn c s with
    | some (ss, rs) => oAll ih ss rs
    | none => none) n
/-- a method's ends: caller, method, arguments, world -/
noncomputable def oMeth (x : ACx) : Nat → Nat → Nat → List AV → AW → Option (List AR) :=
  fun d => Nat.rec (motive := fun _ => Nat → Nat → List AV → AW → Option (List AR)) (fun _ _ _ _ => none) (fun _ ih c mn as w =>
    match xCt x mn as w with
    | some rs => some rs
    | none => oRun x ih mn c 1000000 (0, argsL (mNL (xM x mn)) as, [], w, [], 0, 0)) d
end
section
/-! Numbers: the interpreter's ints and longs are the machine's -/
theorem z_rng {z : Int} (h : inI z = true) : -2147483648 ≤ z ∧ z ≤ 2147483647 := by
  have h1 := (Bool.and_eq_true _ _).mp h
  exact ⟨of_decide_eq_true h1.1, of_decide_eq_true h1.2⟩
theorem z_inI {z : Int} (h1 : -2147483648 ≤ z) (h2 : z ≤ 2147483647) : inI z = true := by
  exact (Bool.and_eq_true _ _).mpr ⟨decide_eq_true h1, decide_eq_true h2⟩
theorem z_in {z : Int} (h : inI z = true) : (Int32.ofInt z).toInt = z := by
  have := z_rng h
  exact Int32.toInt_ofInt_of_le (by omega) (by omega)
theorem z_toInt (x : Int32) : -2147483648 ≤ x.toInt ∧ x.toInt ≤ 2147483647 := ⟨by have := x.le_toInt; omega, by have := x.toInt_lt; omega⟩
theorem z_wr (z : Int) : Int32.ofInt (zWr z) = Int32.ofInt z := by
  unfold zWr
  split
  · rfl
  · apply Int32.toInt_inj.1
    rw [Int32.toInt_ofInt, Int32.toInt_ofInt]
    exact Int.bmod_bmod
theorem z_nat (z : Int) : (Int32.ofInt z).toBitVec.toNat = zN z := by
  rw [Int32.toBitVec_ofInt, BitVec.toNat_ofInt]
  rfl
theorem z_ofn (n : Nat) (h : n < 4294967296) : (Int32.ofInt (zOf n)).toBitVec.toNat = n := by
  rw [z_nat]
  unfold zN zOf
  split
  · omega
  · omega
theorem z_ext {x y : Int32} (h : x.toBitVec.toNat = y.toBitVec.toNat) : x = y := Int32.toBitVec.inj (BitVec.eq_of_toNat_eq h)
theorem zN_lt (z : Int) : zN z < 4294967296 := by unfold zN; omega
theorem z_and (a b : Int) : Int32.ofInt (zOf (Nat.land (zN a) (zN b))) = Int32.ofInt a &&& Int32.ofInt b := by
  apply z_ext
  show (Int32.ofInt (zOf (zN a &&& zN b))).toBitVec.toNat = _
  rw [z_ofn _ (Nat.lt_of_le_of_lt Nat.and_le_left (zN_lt a)), Int32.toBitVec_and, BitVec.toNat_and, z_nat, z_nat]
theorem z_or (a b : Int) : Int32.ofInt (zOf (Nat.lor (zN a) (zN b))) = Int32.ofInt a ||| Int32.ofInt b := by
  apply z_ext
  show (Int32.ofInt (zOf (zN a ||| zN b))).toBitVec.toNat = _
  rw [z_ofn _ (Nat.or_lt_two_pow (n := 32) (zN_lt a) (zN_lt b)), Int32.toBitVec_or, BitVec.toNat_or, z_nat, z_nat]
theorem z_xor (a b : Int) : Int32.ofInt (zOf (Nat.xor (zN a) (zN b))) = Int32.ofInt a ^^^ Int32.ofInt b := by
  apply z_ext
  show (Int32.ofInt (zOf (zN a ^^^ zN b))).toBitVec.toNat = _
  rw [z_ofn _ (Nat.xor_lt_two_pow (n := 32) (zN_lt a) (zN_lt b)), Int32.toBitVec_xor, BitVec.toNat_xor, z_nat, z_nat]
theorem z_31 (b : Int) : Int32.ofInt b &&& 31 = nI (zN b % 32) := by
  rw [pk_and (Int32.ofInt b) (m := 31) 5 (by decide), z_nat]
theorem z_sm : ∀ n, n < 32 → ((nI n).toBitVec.smod 32).toNat = n := by decide
theorem z_um : ∀ n, n < 32 → (((nI n).toUInt32 &&& Int32.toUInt32 31).toBitVec % 32).toNat = n := by decide
theorem z_shl (a b : Int) : Int32.ofInt (zOf ((zN a * 2 ^ (zN b % 32)) % 4294967296)) = Int32.ofInt a <<< (Int32.ofInt b &&& 31) := by
  apply z_ext
  rw [z_ofn _ (Nat.mod_lt _ (by decide)), z_31, pk_shl _ _ (zN b % 32) (z_sm _ (Nat.mod_lt _ (by decide))), z_nat]
theorem z_shr {a : Int} (b : Int) (h : inI a = true) : Int32.ofInt (a / 2 ^ (zN b % 32)) = Int32.ofInt a >>> (Int32.ofInt b &&& 31) := by
  apply Int32.toInt_inj.1
  rw [z_31, pk_shr _ _ (zN b % 32) (z_sm _ (Nat.mod_lt _ (by decide))), z_in h, Int.shiftRight_eq_div_pow]
  have hr := z_rng h
  have hp : (1 : Int) ≤ 2 ^ (zN b % 32) := by
    have : 0 < (2 : Int) ^ (zN b % 32) := Int.pow_pos (by decide)
    omega
  apply z_in
  apply z_inI
  · rw [Int.le_ediv_iff_mul_le (by omega)]
    have : (-2147483648 : Int) * 2 ^ (zN b % 32) ≤ -2147483648 * 1 := Int.mul_le_mul_of_nonpos_left (by decide) hp
    omega
  · have h1 : a / 2 ^ (zN b % 32) ≤ max a 0 := by
      rcases Int.le_total 0 a with h0 | h0
      · have := Int.ediv_le_self (2 ^ (zN b % 32)) h0
        omega
      · have : a / 2 ^ (zN b % 32) ≤ 0 := Int.ediv_nonpos_of_nonpos_of_neg h0 (by omega)
        omega
    omega
theorem z_ushr (a b : Int) : Int32.ofInt (zOf (zN a / 2 ^ (zN b % 32))) = ((Int32.ofInt a).toUInt32 >>> ((Int32.ofInt b).toUInt32 &&& Int32.toUInt32 31)).toInt32 := by
  apply z_ext
  have hs : (Int32.ofInt b).toUInt32 &&& Int32.toUInt32 31 = (nI (zN b % 32)).toUInt32 := by
    rw [← z_31]
    rfl
  have hs2 : (nI (zN b % 32)).toUInt32 = (nI (zN b % 32)).toUInt32 &&& Int32.toUInt32 31 := by
    have : ∀ n, n < 32 → (nI n).toUInt32 = (nI n).toUInt32 &&& Int32.toUInt32 31 := by decide
    exact this _ (Nat.mod_lt _ (by decide))
  rw [z_ofn _ (Nat.lt_of_le_of_lt (Nat.div_le_self _ _) (zN_lt a)), hs, hs2, pk_ushr _ _ (zN b % 32) (z_um _ (Nat.mod_lt _ (by decide))), z_nat]
theorem z_div {a b : Int} (ha : inI a = true) (hb : inI b = true) : Int32.ofInt (zWr (a.tdiv b)) = Int32.ofInt a / Int32.ofInt b := by
  have h1 := z_rng ha
  have h2 := z_rng hb
  rw [z_wr]
  exact Int32.ofInt_tdiv h1.1 h1.2 h2.1 h2.2
theorem z_rem {a b : Int} (ha : inI a = true) (hb : inI b = true) : Int32.ofInt (zWr (a - a.tdiv b * b)) = Int32.ofInt a - Int32.ofInt a / Int32.ofInt b * Int32.ofInt b := by
  rw [z_wr, Int32.ofInt_sub, Int32.ofInt_mul, ← z_div ha hb, z_wr]
theorem z_ne {b : Int} (hb : inI b = true) (h : b ≠ 0) : ¬ Int32.ofInt b = 0 := by
  intro e
  have := congrArg Int32.toInt e
  rw [z_in hb] at this
  exact h this
/-- longs -/
theorem q_ext {x y : Int64} (h : x.toBitVec.toNat = y.toBitVec.toNat) : x = y := Int64.toBitVec.inj (BitVec.eq_of_toNat_eq h)
theorem q_nat (n : Nat) : (lN n).toBitVec.toNat = n % 18446744073709551616 := by
  show (Int64.ofNat n).toBitVec.toNat = _
  rw [Int64.toBitVec_ofNat']
  rfl
theorem q_and (a b : Nat) : lN (Nat.land a b) = lN a &&& lN b := by
  apply q_ext
  rw [Int64.toBitVec_and, BitVec.toNat_and, q_nat, q_nat, q_nat]
  exact Nat.and_mod_two_pow (n := 64)
theorem q_or (a b : Nat) : lN (Nat.lor a b) = lN a ||| lN b := by
  apply q_ext
  rw [Int64.toBitVec_or, BitVec.toNat_or, q_nat, q_nat, q_nat]
  exact Nat.or_mod_two_pow (n := 64)
theorem q_xor (a b : Nat) : lN (Nat.xor a b) = lN a ^^^ lN b := by
  apply q_ext
  rw [Int64.toBitVec_xor, BitVec.toNat_xor, q_nat, q_nat, q_nat]
  exact Nat.xor_mod_two_pow (n := 64)
theorem q_add (a b : Nat) : lN ((a + b) % 18446744073709551616) = lN a + lN b := by
  apply q_ext
  rw [Int64.toBitVec_add, BitVec.toNat_add, q_nat, q_nat, q_nat]
  omega
theorem q_sub (a b : Nat) (h : b ≤ 18446744073709551616) : lN ((a + (18446744073709551616 - b)) % 18446744073709551616) = lN a - lN b := by
  apply q_ext
  rw [Int64.toBitVec_sub, BitVec.toNat_sub, q_nat, q_nat, q_nat]
  omega
theorem q_i2l {z : Int} (h : inI z = true) : lN (z % 18446744073709551616).toNat = (Int32.ofInt z).toInt64 := by
  have hr := z_rng h
  apply q_ext
  have h1 : (Int32.ofInt z).toInt64.toInt = z := by rw [Int32.toInt_toInt64, z_in h]
  have h2 : (Int32.ofInt z).toInt64 = Int64.ofInt z := by
    apply Int64.toInt_inj.1
    rw [h1, Int64.toInt_ofInt_of_le (by omega) (by omega)]
  rw [h2, q_nat, Int64.toBitVec_ofInt, BitVec.toNat_ofInt]
  omega
theorem q_l2i (n : Nat) : Int32.ofInt (zOf (n % 4294967296)) = (lN n).toInt32 := by
  apply z_ext
  have h : (lN n).toInt32.toBitVec = BitVec.setWidth 32 (lN n).toBitVec := by
    rw [Int64.toBitVec_toInt32, BitVec.signExtend_eq_setWidth_of_le _ (by decide)]
  rw [z_ofn _ (Nat.mod_lt _ (by decide)), h, BitVec.toNat_setWidth, q_nat]
  omega
theorem q_63 (b : Int) (h : inI b = true) : (Int32.ofInt b).toInt64 &&& 63 = lN (zN b % 64) := by
  rw [← q_i2l h]
  apply q_ext
  have h63 : (63 : Int64).toBitVec.toNat = 2 ^ 6 - 1 := by decide
  rw [Int64.toBitVec_and, BitVec.toNat_and, q_nat, q_nat, h63, Nat.and_two_pow_sub_one_eq_mod]
  unfold zN
  omega
theorem q_sm : ∀ n, n < 64 → ((lN n).toBitVec.smod 64).toNat = n := by decide
theorem q_shl (a : Nat) (b : Int) (h : inI b = true) : lN ((a * 2 ^ (zN b % 64)) % 18446744073709551616) = lN a <<< ((Int32.ofInt b).toInt64 &&& 63) := by
  apply q_ext
  have hm : zN b % 64 < 64 := Nat.mod_lt _ (by decide)
  rw [q_63 b h, Int64.toBitVec_shiftLeft]
  have e : (lN (zN b % 64)).toBitVec.smod 64 = BitVec.ofNat 64 (zN b % 64) := by
    apply BitVec.eq_of_toNat_eq
    rw [q_sm _ hm, BitVec.toNat_ofNat]
    omega
  rw [e, BitVec.shiftLeft_eq', BitVec.toNat_shiftLeft, q_nat, q_nat, BitVec.toNat_ofNat, Nat.shiftLeft_eq]
  rw [Nat.mod_eq_of_lt (show zN b % 64 < 2 ^ 64 by omega), Nat.mod_mod, Nat.mod_mul_mod]
theorem q_shr (a : Nat) (b : Int) (ha : a < 18446744073709551616) (h : inI b = true) : lN (a / 2 ^ (zN b % 64)) = ((lN a).toUInt64 >>> ((Int32.ofInt b).toInt64.toUInt64 &&& Int64.toUInt64 63)).toInt64 := by
  apply q_ext
  have hm : zN b % 64 < 64 := Nat.mod_lt _ (by decide)
  have hs : (Int32.ofInt b).toInt64.toUInt64 &&& Int64.toUInt64 63 = (lN (zN b % 64)).toUInt64 := by
    rw [← q_63 b h]
    rfl
  rw [hs]
  show _ = ((lN a).toUInt64 >>> (lN (zN b % 64)).toUInt64).toBitVec.toNat
  rw [UInt64.toBitVec_shiftRight]
  have hm2 : ((lN (zN b % 64)).toUInt64.toBitVec % 64).toNat = zN b % 64 := by
    have : ∀ n, n < 64 → ((lN n).toUInt64.toBitVec % 64).toNat = n := by decide
    exact this _ hm
  rw [BitVec.ushiftRight_eq', BitVec.toNat_ushiftRight, hm2]
  show _ = (lN a).toBitVec.toNat >>> _
  rw [q_nat, q_nat, Nat.shiftRight_eq_div_pow, Nat.mod_eq_of_lt ha]
  exact Nat.mod_eq_of_lt (Nat.lt_of_le_of_lt (Nat.div_le_self _ _) ha)
theorem q_sg {a : Nat} (h : a < 18446744073709551616) : (lN a).toInt = lSg a := by
  show (lN a).toBitVec.toInt = _
  rw [BitVec.toInt_eq_toNat_cond, q_nat, Nat.mod_eq_of_lt h]
  unfold lSg
  cases hb : Nat.blt a 9223372036854775808 with
  | true =>
    have := Nat.blt_eq.mp hb
    rw [if_pos (by omega)]
    rfl
  | false =>
    have : ¬ a < 9223372036854775808 := fun q => by rw [Nat.blt_eq.mpr q] at hb; cases hb
    rw [if_neg (by omega)]
    rfl
theorem q_cmp {a b : Nat} (ha : a < 18446744073709551616) (hb : b < 18446744073709551616) : Int32.ofInt (if lSg b < lSg a then 1 else if lSg a = lSg b then 0 else -1) = lg_cmp (lN a) (lN b) := by
  unfold lg_cmp
  have h1 : (lN a > lN b) ↔ lSg b < lSg a := by
    rw [← q_sg ha, ← q_sg hb]
    exact Int64.lt_iff_toInt_lt
  have h2 : (lN a = lN b) ↔ lSg a = lSg b := by
    rw [← q_sg ha, ← q_sg hb]
    exact Int64.toInt_inj.symm
  by_cases c1 : lSg b < lSg a
  · rw [if_pos c1, if_pos (h1.mpr c1)]
    rfl
  · rw [if_neg c1, if_neg (fun q => c1 (h1.mp q))]
    by_cases c2 : lSg a = lSg b
    · rw [if_pos c2, if_pos (h2.mpr c2)]
      rfl
    · rw [if_neg c2, if_neg (fun q => c2 (h2.mp q))]
      rfl
theorem lg_rng (x y : Int64) : -1 ≤ (lg_cmp x y).toInt ∧ (lg_cmp x y).toInt ≤ 1 := by
  unfold lg_cmp
  split
  · decide
  · split <;> decide
theorem z_and_rng (x : Int32) {b : Int} (hb : inI b = true) (h0 : 0 ≤ b) : 0 ≤ (x &&& Int32.ofInt b).toInt ∧ (x &&& Int32.ofInt b).toInt ≤ b := by
  have hr := z_rng hb
  have hn : (Int32.ofInt b).toBitVec.toNat = b.toNat := by
    rw [z_nat]
    unfold zN
    omega
  have h1 : (x &&& Int32.ofInt b).toBitVec.toNat ≤ b.toNat := by
    rw [Int32.toBitVec_and, BitVec.toNat_and, hn]
    exact Nat.and_le_right
  have h2 : (x &&& Int32.ofInt b).toInt = ((x &&& Int32.ofInt b).toBitVec.toNat : Int) := by
    show (x &&& Int32.ofInt b).toBitVec.toInt = _
    rw [BitVec.toInt_eq_toNat_cond, if_pos (by omega)]
  rw [h2]
  omega
end
section
/-! What the interpreter's worlds mean -/
/-- what symbols stand for: ints, longs, addresses of cells, addresses outside, contents of int arrays, of long arrays -/
abbrev VL : Type := (Nat → Int32) × (Nat → Int64) × (Nat → Nat) × (Nat → Nat) × (Nat → Nat → Int32) × (Nat → Nat → Int64)
abbrev vI (v : VL) : Nat → Int32 := v.1
abbrev vJ (v : VL) : Nat → Int64 := v.2.1
abbrev vA (v : VL) : Nat → Nat := v.2.2.1
abbrev vO (v : VL) : Nat → Nat := v.2.2.2.1
abbrev vC (v : VL) : Nat → Nat → Int32 := v.2.2.2.2.1
abbrev vD (v : VL) : Nat → Nat → Int64 := v.2.2.2.2.2
def cZ (v : VL) : AV → Int32
  | .inl z => Int32.ofInt z
  | .inr (.inl k) => vI v k
  | _ => 0
def cQ (v : VL) : AV → Int64
  | .inr (.inr (.inl n)) => lN n
  | .inr (.inr (.inr (.inl k))) => vJ v k
  | _ => 0
def cR (v : VL) : AV → Option Nat
  | .inr (.inr (.inr (.inr (.inl r)))) => r.map (vA v)
  | .inr (.inr (.inr (.inr (.inr k)))) => some (vO v k)
  | _ => none
def cv (v : VL) : AV → Value
  | .inl z => .int (Int32.ofInt z)
  | .inr (.inl k) => .int (vI v k)
  | .inr (.inr (.inl n)) => .long (lN n)
  | .inr (.inr (.inr (.inl k))) => .long (vJ v k)
  | .inr (.inr (.inr (.inr (.inl r)))) => va_rf (r.map (vA v))
  | .inr (.inr (.inr (.inr (.inr k)))) => .ref (vO v k)
/-- contents of an array -/
def cBz (v : VL) (b : AB) (j : Nat) : Int32 := match b with | .inl l => cZ v (l.getD j (aI 0)) | .inr e => vC v e.2.2 j
def cBq (v : VL) (b : AB) (j : Nat) : Int64 := match b with | .inl l => cQ v (l.getD j (aJ 0)) | .inr e => vD v e.2.2 j
def cBr (v : VL) (b : AB) (j : Nat) : Option Nat := match b with | .inl l => cR v (l.getD j (aR none)) | .inr _ => none
def cB (v : VL) (t n : Nat) (b : AB) : (Nat → Int32) ⊕ (Nat → Int64) ⊕ (Nat → UInt32) ⊕ (Nat → UInt64) ⊕ (Nat → Option Nat) :=
  match t with
  | 0 => .inl (fun j => if j < n then cBz v b j else 0)
  | 2 => .inl (fun j => if j < n then cBz v b j else 0)
  | 1 => .inr (.inl (fun j => if j < n then cBq v b j else 0))
  | _ => .inr (.inr (.inr (.inr (fun j => if j < n then cBr v b j else none))))
def cC (v : VL) (dT : Nat → ClassId) : AC → va_E
  | .inl (t, n, b) => .inl (dT t, n, cB v t n b)
  | .inr (ci, fs) => .inr (ci, fs.map (cv v))
def cW (v : VL) (dT : Nat → ClassId) (B : Nat → AC) (h : AH) : va_W := (List.range h.1).map (fun i => (vA v i, cC v dT (hGet B h i)))
def cL (v : VL) (l : List (Option AV)) : List (Nat × Value) := l.zipIdx.filterMap (fun q => q.1.map (fun a => (q.2, cv v a)))
/-- bounds hold -/
def okE (v : VL) (E : AE) : Prop := ∀ (k : Nat) (b : Int × Int × Nat × Int), E[k]? = some b → b.1 ≤ (vI v k).toInt ∧ (vI v k).toInt ≤ b.2.1 ∧ (vI v k).toInt = (vI v b.2.2.1).toInt + b.2.2.2
def okC (v : VL) : AC → Prop
  | .inl (t, n, .inr e) => t ≠ 1 → ∀ j, j < n → e.1 ≤ (vC v e.2.2 j).toInt ∧ (vC v e.2.2 j).toInt ≤ e.2.1
  | _ => True
/-- every symbol is one of the world's -/
def scV (w : AW) : AV → Prop
  | .inr (.inl k) => k < (wE w).length
  | .inr (.inr (.inr (.inl k))) => k < wL w
  | .inr (.inr (.inr (.inr (.inl (some i))))) => i < (wH w).1
  | .inr (.inr (.inr (.inr (.inr k)))) => k < wX w
  | _ => True
def scC (w : AW) : AC → Prop
  | .inl (_, _, .inl l) => ∀ a ∈ l, scV w a
  | .inl (_, _, .inr e) => e.2.2 < wA w
  | .inr (_, fs) => ∀ a ∈ fs, scV w a
def scL (w : AW) (l : List AV) : Prop := ∀ a ∈ l, scV w a
def scO (w : AW) (l : List (Option AV)) : Prop := ∀ a, some a ∈ l → scV w a
/-- a world and what it stands for -/
def okW (B : Nat → AC) (v : VL) (w : AW) : Prop :=
  okE v (wE w) ∧ (∀ i, i < (wH w).1 → okC v (hGet B (wH w) i)) ∧ (∀ i, i < (wH w).1 → scC w (hGet B (wH w) i)) ∧ (∀ (k : Nat) (b : Int × Int × Nat × Int), (wE w)[k]? = some b → b.2.2.1 ≤ k)
def wle (a b : AW) : Prop := (wE a).length ≤ (wE b).length ∧ (wH a).1 ≤ (wH b).1 ∧ wL a ≤ wL b ∧ wA a ≤ wA b ∧ wX a ≤ wX b
def agr (w : AW) (v u : VL) : Prop :=
  (∀ k, k < (wE w).length → vI v k = vI u k) ∧ (∀ i, i < (wH w).1 → vA v i = vA u i) ∧ (∀ k, k < wL w → vJ v k = vJ u k) ∧ (∀ k, k < wA w → vC v k = vC u k ∧ vD v k = vD u k) ∧ (∀ k, k < wX w → vO v k = vO u k)
theorem wle_rf (w : AW) : wle w w := ⟨Nat.le_refl _, Nat.le_refl _, Nat.le_refl _, Nat.le_refl _, Nat.le_refl _⟩
theorem wle_tr {a b c : AW} (h : wle a b) (g : wle b c) : wle a c := ⟨Nat.le_trans h.1 g.1, Nat.le_trans h.2.1 g.2.1, Nat.le_trans h.2.2.1 g.2.2.1, Nat.le_trans h.2.2.2.1 g.2.2.2.1, Nat.le_trans h.2.2.2.2 g.2.2.2.2⟩
theorem agr_rf (w : AW) (v : VL) : agr w v v := ⟨fun _ _ => rfl, fun _ _ => rfl, fun _ _ => rfl, fun _ _ => ⟨rfl, rfl⟩, fun _ _ => rfl⟩
theorem agr_tr {w : AW} {v u t : VL} (h : agr w v u) (g : agr w u t) : agr w v t :=
  ⟨fun k hk => (h.1 k hk).trans (g.1 k hk), fun k hk => (h.2.1 k hk).trans (g.2.1 k hk), fun k hk => (h.2.2.1 k hk).trans (g.2.2.1 k hk), fun k hk => ⟨(h.2.2.2.1 k hk).1.trans (g.2.2.2.1 k hk).1, (h.2.2.2.1 k hk).2.trans (g.2.2.2.1 k hk).2⟩, fun k hk => (h.2.2.2.2 k hk).trans (g.2.2.2.2 k hk)⟩
theorem agr_mono {a b : AW} {v u : VL} (h : agr b v u) (g : wle a b) : agr a v u :=
  ⟨fun k hk => h.1 k (Nat.lt_of_lt_of_le hk g.1), fun k hk => h.2.1 k (Nat.lt_of_lt_of_le hk g.2.1), fun k hk => h.2.2.1 k (Nat.lt_of_lt_of_le hk g.2.2.1), fun k hk => h.2.2.2.1 k (Nat.lt_of_lt_of_le hk g.2.2.2.1), fun k hk => h.2.2.2.2 k (Nat.lt_of_lt_of_le hk g.2.2.2.2)⟩
theorem agr_sy {w : AW} {v u : VL} (h : agr w v u) : agr w u v :=
  ⟨fun k hk => (h.1 k hk).symm, fun k hk => (h.2.1 k hk).symm, fun k hk => (h.2.2.1 k hk).symm, fun k hk => ⟨(h.2.2.2.1 k hk).1.symm, (h.2.2.2.1 k hk).2.symm⟩, fun k hk => (h.2.2.2.2 k hk).symm⟩
theorem scV_mono {a b : AW} (g : wle a b) {x : AV} (h : scV a x) : scV b x := by
  rcases x with z | k | n | k | r | k
  · trivial
  · exact Nat.lt_of_lt_of_le h g.1
  · trivial
  · exact Nat.lt_of_lt_of_le h g.2.2.1
  · cases r with
    | none => trivial
    | some i => exact Nat.lt_of_lt_of_le h g.2.1
  · exact Nat.lt_of_lt_of_le h g.2.2.2.2
theorem scC_mono {a b : AW} (g : wle a b) {x : AC} (h : scC a x) : scC b x := by
  rcases x with ⟨t, n, l | e⟩ | ⟨ci, fs⟩
  · exact fun y hy => scV_mono g (h y hy)
  · exact Nat.lt_of_lt_of_le h g.2.2.2.1
  · exact fun y hy => scV_mono g (h y hy)
theorem scL_mono {a b : AW} (g : wle a b) {l : List AV} (h : scL a l) : scL b l := fun y hy => scV_mono g (h y hy)
theorem scO_mono {a b : AW} (g : wle a b) {l : List (Option AV)} (h : scO a l) : scO b l := fun y hy => scV_mono g (h y hy)
/-- what a scoped thing stands for depends on the world's symbols alone -/
theorem cv_agr {w : AW} {v u : VL} (h : agr w v u) {a : AV} (hs : scV w a) : cv v a = cv u a := by
  rcases a with z | k | n | k | r | k
  · rfl
  · show Value.int _ = _; rw [h.1 k hs]; rfl
  · rfl
  · show Value.long _ = _; rw [h.2.2.1 k hs]; rfl
  · cases r with
    | none => rfl
    | some i => show Value.ref _ = _; rw [h.2.1 i hs]; rfl
  · show Value.ref _ = _; rw [h.2.2.2.2 k hs]; rfl
theorem cZ_agr {w : AW} {v u : VL} (h : agr w v u) {a : AV} (hs : scV w a) : cZ v a = cZ u a := by
  rcases a with z | k | n | k | r | k
  · rfl
  · exact h.1 k hs
  all_goals rfl
theorem cQ_agr {w : AW} {v u : VL} (h : agr w v u) {a : AV} (hs : scV w a) : cQ v a = cQ u a := by
  rcases a with z | k | n | k | r | k
  · rfl
  · rfl
  · rfl
  · exact h.2.2.1 k hs
  · rfl
  · rfl
theorem cR_agr {w : AW} {v u : VL} (h : agr w v u) {a : AV} (hs : scV w a) : cR v a = cR u a := by
  rcases a with z | k | n | k | r | k
  · rfl
  · rfl
  · rfl
  · rfl
  · cases r with
    | none => rfl
    | some i => show some _ = _; rw [h.2.1 i hs]; rfl
  · show some _ = _; rw [h.2.2.2.2 k hs]; rfl
theorem getD_mem {α : Type} {l : List α} {j : Nat} {d : α} : l.getD j d = d ∨ l.getD j d ∈ l := by
  rw [List.getD_eq_getElem?_getD]
  cases h : l[j]? with
  | none => exact Or.inl rfl
  | some a => exact Or.inr (List.mem_of_getElem? h)
theorem cBz_agr {w : AW} {v u : VL} (h : agr w v u) {b : AB} (hs : match b with | .inl l => ∀ a ∈ l, scV w a | .inr e => e.2.2 < wA w) (j : Nat) : cBz v b j = cBz u b j := by
  rcases b with l | e
  · show cZ v (l.getD j (aI 0)) = cZ u (l.getD j (aI 0))
    rcases getD_mem (l := l) (j := j) (d := aI 0) with q | q
    · rw [q]; rfl
    · exact cZ_agr h (hs _ q)
  · exact congrFun (h.2.2.2.1 _ hs).1 j
theorem cBq_agr {w : AW} {v u : VL} (h : agr w v u) {b : AB} (hs : match b with | .inl l => ∀ a ∈ l, scV w a | .inr e => e.2.2 < wA w) (j : Nat) : cBq v b j = cBq u b j := by
  rcases b with l | e
  · show cQ v (l.getD j (aJ 0)) = cQ u (l.getD j (aJ 0))
    rcases getD_mem (l := l) (j := j) (d := aJ 0) with q | q
    · rw [q]; rfl
    · exact cQ_agr h (hs _ q)
  · exact congrFun (h.2.2.2.1 _ hs).2 j
theorem cBr_agr {w : AW} {v u : VL} (h : agr w v u) {b : AB} (hs : match b with | .inl l => ∀ a ∈ l, scV w a | .inr e => e.2.2 < wA w) (j : Nat) : cBr v b j = cBr u b j := by
  rcases b with l | e
  · show cR v (l.getD j (aR none)) = cR u (l.getD j (aR none))
    rcases getD_mem (l := l) (j := j) (d := aR none) with q | q
    · rw [q]; rfl
    · exact cR_agr h (hs _ q)
  · rfl
/-- contents agree where they matter -/
theorem cB_ext {v u : VL} {t n : Nat} {b c : AB} (h0 : t = 0 ∨ t = 2 → ∀ j, j < n → cBz v b j = cBz u c j) (h1 : t = 1 → ∀ j, j < n → cBq v b j = cBq u c j) (h2 : 3 ≤ t → ∀ j, j < n → cBr v b j = cBr u c j) : cB v t n b = cB u t n c := by
  match t with
  | 0 =>
    refine congrArg Sum.inl (funext fun j => ?_)
    by_cases hj : j < n
    · rw [if_pos hj, if_pos hj]; exact h0 (Or.inl rfl) j hj
    · rw [if_neg hj, if_neg hj]
  | 1 =>
    refine congrArg (fun f => Sum.inr (Sum.inl f)) (funext fun j => ?_)
    by_cases hj : j < n
    · rw [if_pos hj, if_pos hj]; exact h1 rfl j hj
    · rw [if_neg hj, if_neg hj]
  | 2 =>
    refine congrArg Sum.inl (funext fun j => ?_)
    by_cases hj : j < n
    · rw [if_pos hj, if_pos hj]; exact h0 (Or.inr rfl) j hj
    · rw [if_neg hj, if_neg hj]
  | t + 3 =>
    refine congrArg (fun f => Sum.inr (Sum.inr (Sum.inr (Sum.inr f)))) (funext fun j => ?_)
    by_cases hj : j < n
    · rw [if_pos hj, if_pos hj]; exact h2 (Nat.le_add_left _ _) j hj
    · rw [if_neg hj, if_neg hj]
theorem cB_agr {w : AW} {v u : VL} (h : agr w v u) (t n : Nat) {b : AB} (hs : match b with | .inl l => ∀ a ∈ l, scV w a | .inr e => e.2.2 < wA w) : cB v t n b = cB u t n b :=
  cB_ext (fun _ j _ => cBz_agr h hs j) (fun _ j _ => cBq_agr h hs j) (fun _ j _ => cBr_agr h hs j)
theorem cC_agr {w : AW} {v u : VL} (h : agr w v u) {dT : Nat → ClassId} {c : AC} (hs : scC w c) : cC v dT c = cC u dT c := by
  rcases c with ⟨t, n, b⟩ | ⟨ci, fs⟩
  · show Sum.inl (dT t, n, cB v t n b) = _
    rw [cB_agr h t n (b := b) (by rcases b with l | e <;> exact hs)]
    rfl
  · show Sum.inr (ci, fs.map (cv v)) = _
    rw [List.map_congr_left (fun a ha => cv_agr h (hs a ha))]
    rfl
theorem cW_agr {w : AW} {v u : VL} (h : agr w v u) {dT : Nat → ClassId} {B : Nat → AC} (hs : ∀ i, i < (wH w).1 → scC w (hGet B (wH w) i)) : cW v dT B (wH w) = cW u dT B (wH w) := by
  unfold cW
  apply List.map_congr_left
  intro i hi
  have hi := List.mem_range.mp hi
  rw [h.2.1 i hi, cC_agr h (hs i hi)]
theorem cS_agr {w : AW} {v u : VL} (h : agr w v u) {l : List AV} (hs : scL w l) : l.map (cv v) = l.map (cv u) := List.map_congr_left (fun a ha => cv_agr h (hs a ha))
theorem fmap_congr {α β : Type} {f g : α → Option β} : ∀ {l : List α}, (∀ q ∈ l, f q = g q) → l.filterMap f = l.filterMap g
  | [], _ => rfl
  | a :: r, h => by
    rw [List.filterMap_cons, List.filterMap_cons, h a List.mem_cons_self, fmap_congr (l := r) (fun q hq => h q (List.mem_cons_of_mem _ hq))]
theorem nb_ne {i j : Nat} (h : i ≠ j) : Nat.beq i j = false := by
  cases hb : Nat.beq i j with
  | false => rfl
  | true => exact absurd (Nat.eq_of_beq_eq_true hb) h
theorem cL_agr {w : AW} {v u : VL} (h : agr w v u) {l : List (Option AV)} (hs : scO w l) : cL v l = cL u l := by
  unfold cL
  apply fmap_congr
  intro q hq
  cases hq1 : q.1 with
  | none => rfl
  | some a =>
    have : some a ∈ l := by
      rw [← hq1]
      exact List.fst_mem_of_mem_zipIdx hq
    show some (q.2, cv v a) = some (q.2, cv u a)
    rw [cv_agr h (hs a this)]
theorem okC_agr {w : AW} {v u : VL} (h : agr w v u) {c : AC} (hs : scC w c) (hc : okC v c) : okC u c := by
  rcases c with ⟨t, n, l | e⟩ | ⟨ci, fs⟩
  · trivial
  · intro ht j hj
    have := hc ht j hj
    rw [(h.2.2.2.1 _ hs).1] at this
    exact this
  · trivial
/-- the world's list, place by place -/
theorem cW_get {v : VL} {dT : Nat → ClassId} {B : Nat → AC} {h : AH} {i : Nat} (hi : i < h.1) : (cW v dT B h)[i]? = some (vA v i, cC v dT (hGet B h i)) := by
  unfold cW
  rw [List.getElem?_map, List.getElem?_range hi]
  rfl
theorem hFind_set (l : List (Nat × AC)) (i : Nat) (c : AC) (j : Nat) : hFind ((i, c) :: hDrop l i) j = if j = i then some c else hFind l j := by
  by_cases e : j = i
  · subst e
    simp [hFind]
  · rw [if_neg e]
    have e1 : Nat.beq i j = false := nb_ne (Ne.symm e)
    show (if Nat.beq i j = true then _ else hFind (hDrop l i) j) = _
    rw [e1]
    simp only [Bool.false_eq_true, if_false]
    induction l with
    | nil => rfl
    | cons q r ih =>
      obtain ⟨k, d⟩ := q
      unfold hDrop
      by_cases hk : Nat.beq k i = true
      · rw [if_pos hk]
        have hki := Nat.eq_of_beq_eq_true hk
        subst hki
        show _ = if Nat.beq k j = true then _ else hFind r j
        rw [e1]
        rfl
      · rw [if_neg hk]
        show (if Nat.beq k j = true then some d else hFind (hDrop r i) j) = if Nat.beq k j = true then some d else hFind r j
        rw [ih]
theorem hGet_set (B : Nat → AC) (h : AH) (i : Nat) (c : AC) (j : Nat) : hGet B (hSet h i c) j = if j = i then c else hGet B h j := by
  unfold hGet hSet
  simp only [hFind_set]
  by_cases e : j = i
  · rw [if_pos e, if_pos e]
  · rw [if_neg e, if_neg e]
theorem cW_set {v : VL} {dT : Nat → ClassId} {B : Nat → AC} {h : AH} {i : Nat} {c : AC} (hi : i < h.1) : cW v dT B (hSet h i c) = (cW v dT B h).set i (vA v i, cC v dT c) := by
  apply List.ext_getElem?
  intro j
  by_cases hj : j < h.1
  · rw [cW_get (h := hSet h i c) hj, hGet_set, List.getElem?_set]
    by_cases e : i = j
    · subst e
      rw [if_pos rfl, if_pos rfl, if_pos (by unfold cW; simpa using hi)]
    · rw [if_neg (Ne.symm e), if_neg e, cW_get hj]
  · have l1 : (cW v dT B (hSet h i c)).length ≤ j := by unfold cW hSet; simp; omega
    have l2 : ((cW v dT B h).set i (vA v i, cC v dT c)).length ≤ j := by unfold cW; simp; omega
    rw [List.getElem?_eq_none l1, List.getElem?_eq_none l2]
theorem hGet_add (B : Nat → AC) (h : AH) (c : AC) (j : Nat) : hGet B (hAdd h c) j = if j = h.1 then c else hGet B h j := by
  unfold hGet hAdd
  show (match (if Nat.beq h.1 j = true then some c else hFind h.2 j) with | some c => c | none => B j) = _
  by_cases e : j = h.1
  · rw [if_pos e, e]
    simp
  · have e1 : Nat.beq h.1 j = false := nb_ne (Ne.symm e)
    rw [e1, if_neg e]
    rfl
theorem cW_add {v u : VL} {dT : Nat → ClassId} {B : Nat → AC} {h : AH} {c : AC} (hu : ∀ i, i < h.1 → vA u i = vA v i ∧ cC u dT (hGet B h i) = cC v dT (hGet B h i)) : cW u dT B (hAdd h c) = cW v dT B h ++ [(vA u h.1, cC u dT c)] := by
  unfold cW
  show (List.range (h.1 + 1)).map _ = _
  rw [List.range_succ, List.map_append]
  congr 1
  · apply List.map_congr_left
    intro i hi
    have hi := List.mem_range.mp hi
    rw [hGet_add, if_neg (by omega), (hu i hi).1, (hu i hi).2]
  · show [(vA u h.1, cC u dT (hGet B (hAdd h c) h.1))] = _
    rw [hGet_add, if_pos rfl]
/-- locals, place by place -/
theorem cL_mem {v : VL} {l : List (Option AV)} {i : Nat} {x : Value} : (i, x) ∈ cL v l ↔ ∃ a, l[i]? = some (some a) ∧ x = cv v a := by
  unfold cL
  rw [List.mem_filterMap]
  constructor
  · rintro ⟨⟨o, j⟩, hm, hq⟩
    cases o with
    | none => cases hq
    | some a =>
      cases hq
      exact ⟨a, (List.mk_mem_zipIdx_iff_getElem?.mp hm), rfl⟩
  · rintro ⟨a, ha, rfl⟩
    exact ⟨(some a, i), List.mk_mem_zipIdx_iff_getElem?.mpr ha, rfl⟩
theorem cv_cat (v : VL) (a : AV) : (cv v a).category = aCat a := by
  rcases a with z | k | n | k | r | k
  · rfl
  · rfl
  · rfl
  · rfl
  · cases r <;> rfl
  · rfl
theorem cv_int {v : VL} {a : AV} (h : aIsI a = true) : cv v a = .int (cZ v a) := by
  rcases a with z | k | n | k | r | k
  · rfl
  · rfl
  all_goals cases h
theorem cv_long {v : VL} {a : AV} (h : aIsL a = true) : cv v a = .long (cQ v a) := by
  rcases a with z | k | n | k | r | k
  · cases h
  · cases h
  · rfl
  · rfl
  · cases h
  · cases h
theorem cv_ref {v : VL} {a : AV} (h : aIsR a = true) : cv v a = va_rf (cR v a) := by
  rcases a with z | k | n | k | r | k
  · cases h
  · cases h
  · cases h
  · cases h
  · rfl
  · rfl
/-- bounds -/
theorem aBd_c (E : AE) (z : Int) : aBd E (.inl z) = if inI z = true then some (z, z) else none := rfl
theorem aBd_s (E : AE) (k : Nat) : aBd E (.inr (.inl k)) = match E[k]? with | some b => some (b.1, b.2.1) | none => none := rfl
theorem aNm_s (E : AE) (k : Nat) : aNm E (.inr (.inl k)) = match E[k]? with | some b => if b.1 = b.2.1 then .inl b.1 else .inr (.inl k) | none => .inr (.inl k) := rfl
theorem aBd_ok {v : VL} {E : AE} (h : okE v E) {a : AV} {b : Int × Int} (hb : aBd E a = some b) : b.1 ≤ (cZ v a).toInt ∧ (cZ v a).toInt ≤ b.2 := by
  rcases a with z | k | n | k | r | k
  · rw [aBd_c] at hb
    by_cases hz : inI z = true
    · rw [if_pos hz] at hb
      cases hb
      show z ≤ (Int32.ofInt z).toInt ∧ (Int32.ofInt z).toInt ≤ z
      rw [z_in hz]
      omega
    · rw [if_neg hz] at hb
      cases hb
  · rw [aBd_s] at hb
    cases he : E[k]? with
    | none => rw [he] at hb; cases hb
    | some e =>
      rw [he] at hb
      cases hb
      exact ⟨(h k e he).1, (h k e he).2.1⟩
  · cases hb
  · cases hb
  · cases hb
  · cases hb
theorem aBd_int {E : AE} {a : AV} {b : Int × Int} (hb : aBd E a = some b) : aIsI a = true := by
  rcases a with z | k | n | k | r | k
  · rfl
  · rfl
  · cases hb
  · cases hb
  · cases hb
  · cases hb
/-- a symbol stays, or is the one value that it can have -/
theorem aNm_cases {v : VL} {E : AE} (h : okE v E) (k : Nat) : aNm E (.inr (.inl k)) = .inr (.inl k) ∨ ∃ z, aNm E (.inr (.inl k)) = .inl z ∧ Int32.ofInt z = vI v k := by
  rw [aNm_s]
  cases he : E[k]? with
  | none => exact Or.inl rfl
  | some e =>
    by_cases hq : e.1 = e.2.1
    · right
      refine ⟨e.1, if_pos hq, ?_⟩
      have := h k e he
      have hr := z_toInt (vI v k)
      apply Int32.toInt_inj.1
      rw [Int32.toInt_ofInt_of_le (by omega) (by omega)]
      omega
    · exact Or.inl (if_neg hq)
theorem aNm_cv {v : VL} {E : AE} (h : okE v E) (a : AV) : cv v (aNm E a) = cv v a := by
  rcases a with z | k | n | k | r | k
  · rfl
  · rcases aNm_cases h k with e | ⟨z, e, hz⟩
    · rw [e]
    · rw [e]
      show Value.int _ = Value.int _
      rw [hz]
  · rfl
  · rfl
  · rfl
  · rfl
theorem aNm_cZ {v : VL} {E : AE} (h : okE v E) (a : AV) : cZ v (aNm E a) = cZ v a := by
  rcases a with z | k | n | k | r | k
  · rfl
  · rcases aNm_cases h k with e | ⟨z, e, hz⟩
    · rw [e]
    · rw [e]
      exact hz
  · rfl
  · rfl
  · rfl
  · rfl
theorem aNm_or (E : AE) (a : AV) : aNm E a = a ∨ ∃ z k, aNm E a = .inl z ∧ a = .inr (.inl k) := by
  rcases a with z | k | n | k | r | k
  · exact Or.inl rfl
  · rw [aNm_s]
    cases he : E[k]? with
    | none => exact Or.inl rfl
    | some e =>
      by_cases hq : e.1 = e.2.1
      · exact Or.inr ⟨e.1, k, if_pos hq, rfl⟩
      · exact Or.inl (if_neg hq)
  · exact Or.inl rfl
  · exact Or.inl rfl
  · exact Or.inl rfl
  · exact Or.inl rfl
theorem aNm_sc {w : AW} {E : AE} {a : AV} (h : scV w a) : scV w (aNm E a) := by
  rcases aNm_or E a with e | ⟨z, k, e, -⟩
  · rw [e]; exact h
  · rw [e]; trivial
theorem aNm_isI (E : AE) (a : AV) : aIsI (aNm E a) = aIsI a := by
  rcases aNm_or E a with e | ⟨z, k, e, e2⟩
  · rw [e]
  · rw [e, e2]
    rfl
end
section
/-! Fresh symbols, ints, longs, narrower bounds -/
theorem okW_sc {B : Nat → AC} {v : VL} {w : AW} (h : okW B v w) : ∀ i, i < (wH w).1 → scC w (hGet B (wH w) i) := h.2.2.1
/-- from a world to one with the same cells, more symbols -/
theorem okW_ext {B : Nat → AC} {v v' : VL} {w w' : AW} (h : okW B v w) (ha : agr w v v') (hl : wle w w') (hH : wH w' = wH w) (hE : okE v' (wE w')) (hb : ∀ (k : Nat) (b : Int × Int × Nat × Int), (wE w')[k]? = some b → b.2.2.1 ≤ k) : okW B v' w' := by
  refine ⟨hE, fun i hi => ?_, fun i hi => ?_, hb⟩
  · rw [hH] at hi ⊢
    exact okC_agr ha (h.2.2.1 i hi) (h.2.1 i hi)
  · rw [hH] at hi ⊢
    exact scC_mono hl (h.2.2.1 i hi)
/-- a value in a world that has grown: what it stands for -/
def Fr (B : Nat → AC) (w : AW) (val : VL → Value) (r : AW × AV) : Prop :=
  wle w r.1 ∧ wH r.1 = wH w ∧ ∀ v, okW B v w → ∃ v', agr w v v' ∧ okW B v' r.1 ∧ scV r.1 r.2 ∧ cv v' r.2 = val v
section
variable {B : Nat → AC} {w : AW} {val : VL → Value}
theorem Fr_same {a : AV} (hs : scV w a) (h : ∀ v, okW B v w → cv v a = val v) : Fr B w val (w, a) := ⟨wle_rf w, rfl, fun v hv => ⟨v, agr_rf w v, hv, hs, h v hv⟩⟩
theorem wle_newI (lo hi : Int) (bo : Option (Nat × Int)) : wle w (wNewI w lo hi bo).1 := ⟨by show (wE w).length ≤ ((wE w) ++ [_]).length; simp, Nat.le_refl _, Nat.le_refl _, Nat.le_refl _, Nat.le_refl _⟩
/-- the valuation with x for the int symbol n -/
def vIu (v : VL) (n : Nat) (x : Int32) : VL := (fun k => if k = n then x else vI v k, v.2)
def vJu (v : VL) (n : Nat) (x : Int64) : VL := (v.1, fun k => if k = n then x else vJ v k, v.2.2)
theorem agr_vIu (v : VL) (x : Int32) : agr w v (vIu v (wE w).length x) :=
  ⟨fun k hk => by show vI v k = if k = _ then x else vI v k; rw [if_neg (by omega)], fun _ _ => rfl, fun _ _ => rfl, fun _ _ => ⟨rfl, rfl⟩, fun _ _ => rfl⟩
theorem agr_vJu (v : VL) (x : Int64) : agr w v (vJu v (wL w) x) :=
  ⟨fun _ _ => rfl, fun _ _ => rfl, fun k hk => by show vJ v k = if k = _ then x else vJ v k; rw [if_neg (by omega)], fun _ _ => ⟨rfl, rfl⟩, fun _ _ => rfl⟩
theorem newI_ok {v : VL} (h : okW B v w) {lo hi : Int} {x : Int32} (bo : Option (Nat × Int)) (h1 : lo ≤ x.toInt) (h2 : x.toInt ≤ hi) (h3 : ∀ b o, bo = some (b, o) → b < (wE w).length ∧ x.toInt = (vI v b).toInt + o) :
    okW B (vIu v (wE w).length x) (wNewI w lo hi bo).1 := by
  refine okW_ext h (agr_vIu v x) (wle_newI lo hi bo) rfl (fun k b hb => ?_) (fun k b hb => ?_)
  · have hb : ((wE w) ++ [match bo with | some (b, o) => (lo, hi, b, o) | none => (lo, hi, (wE w).length, 0)])[k]? = some b := hb
    by_cases hk : k < (wE w).length
    · rw [List.getElem?_append_left hk] at hb
      have q := h.1 k b hb
      have q2 := Nat.lt_of_le_of_lt (h.2.2.2 k b hb) hk
      show b.1 ≤ (if k = _ then x else vI v k).toInt ∧ (if k = _ then x else vI v k).toInt ≤ _ ∧ (if k = _ then x else vI v k).toInt = (if b.2.2.1 = _ then x else vI v b.2.2.1).toInt + _
      rw [if_neg (by omega), if_neg (by omega)]
      exact q
    · rw [List.getElem?_append_right (by omega)] at hb
      have hk0 : k - (wE w).length < 1 := (List.getElem?_eq_some_iff.mp hb).1
      have hk1 : k = (wE w).length := by omega
      subst hk1
      rw [Nat.sub_self] at hb
      show b.1 ≤ (if _ = _ then x else _).toInt ∧ (if _ = _ then x else _).toInt ≤ _ ∧ (if _ = _ then x else _).toInt = (if b.2.2.1 = _ then x else vI v b.2.2.1).toInt + _
      rw [if_pos rfl]
      cases bo with
      | none =>
        cases hb
        simp only [if_true]
        exact ⟨h1, h2, by omega⟩
      | some q =>
        obtain ⟨b0, o0⟩ := q
        cases hb
        obtain ⟨g1, g2⟩ := h3 b0 o0 rfl
        simp only []
        rw [if_neg (by omega)]
        exact ⟨h1, h2, g2⟩
  · have hb : ((wE w) ++ [match bo with | some (b, o) => (lo, hi, b, o) | none => (lo, hi, (wE w).length, 0)])[k]? = some b := hb
    by_cases hk : k < (wE w).length
    · rw [List.getElem?_append_left hk] at hb
      exact h.2.2.2 k b hb
    · rw [List.getElem?_append_right (by omega)] at hb
      have hk0 : k - (wE w).length < 1 := (List.getElem?_eq_some_iff.mp hb).1
      rw [show k - (wE w).length = 0 by omega] at hb
      cases bo with
      | none => cases hb; exact Nat.le_of_not_lt hk
      | some q =>
        obtain ⟨b0, o0⟩ := q
        cases hb
        have := (h3 b0 o0 rfl).1
        exact Nat.le_trans (Nat.le_of_lt this) (Nat.le_of_not_lt hk)
theorem Fr_newI {lo hi : Int} (f : VL → Int32) (h : ∀ v, okW B v w → lo ≤ (f v).toInt ∧ (f v).toInt ≤ hi) : Fr B w (fun v => .int (f v)) (wNewI w lo hi none) := by
  refine ⟨wle_newI _ _ _, rfl, fun v hv => ⟨vIu v (wE w).length (f v), agr_vIu v _, newI_ok hv none (h v hv).1 (h v hv).2 (fun b o e => by cases e), ?_, ?_⟩⟩
  · show (wE w).length < ((wE w) ++ [_]).length
    simp
  · show Value.int (if (wE w).length = (wE w).length then f v else _) = _
    rw [if_pos rfl]
theorem Fr_newIb {lo hi : Int} {b : Nat} {o : Int} (f : VL → Int32) (h : ∀ v, okW B v w → lo ≤ (f v).toInt ∧ (f v).toInt ≤ hi ∧ b < (wE w).length ∧ (f v).toInt = (vI v b).toInt + o) : Fr B w (fun v => .int (f v)) (wNewI w lo hi (some (b, o))) := by
  refine ⟨wle_newI _ _ _, rfl, fun v hv => ⟨vIu v (wE w).length (f v), agr_vIu v _, newI_ok hv (some (b, o)) (h v hv).1 (h v hv).2.1 (fun b' o' e => by cases e; exact (h v hv).2.2), ?_, ?_⟩⟩
  · show (wE w).length < ((wE w) ++ [_]).length
    simp
  · show Value.int (if (wE w).length = (wE w).length then f v else _) = _
    rw [if_pos rfl]
theorem Fr_top (f : VL → Int32) : Fr B w (fun v => .int (f v)) (wTop w) := Fr_newI f (fun v _ => z_toInt (f v))
theorem Fr_newU (f : VL → Int64) : Fr B w (fun v => .long (f v)) (wNewU w) := by
  refine ⟨⟨Nat.le_refl _, Nat.le_refl _, Nat.le_succ _, Nat.le_refl _, Nat.le_refl _⟩, rfl, fun v hv => ⟨vJu v (wL w) (f v), agr_vJu v _, ?_, ?_, ?_⟩⟩
  · exact okW_ext hv (agr_vJu v _) ⟨Nat.le_refl _, Nat.le_refl _, Nat.le_succ _, Nat.le_refl _, Nat.le_refl _⟩ rfl hv.1 hv.2.2.2
  · show wL w < wL w + 1
    omega
  · show Value.long (if wL w = wL w then f v else _) = _
    rw [if_pos rfl]
theorem Fr.ext {val' : VL → Value} {r : AW × AV} (h : Fr B w val r) (e : ∀ v, okW B v w → val v = val' v) : Fr B w val' r :=
  ⟨h.1, h.2.1, fun v hv => by obtain ⟨v', a, b, c, d⟩ := h.2.2 v hv; exact ⟨v', a, b, c, d.trans (e v hv)⟩⟩
/-- the machine's int operations by number -/
def iV (op : Nat) (x y : Int32) : Int32 :=
  match op with
  | 0 => x + y
  | 1 => x - y
  | 2 => x * y
  | 3 => x / y
  | 4 => x - x / y * y
  | 5 => x &&& y
  | 6 => x ||| y
  | 7 => x ^^^ y
  | 8 => x <<< (y &&& 31)
  | 9 => x >>> (y &&& 31)
  | _ => (x.toUInt32 >>> (y.toUInt32 &&& Int32.toUInt32 31)).toInt32
theorem iop_cc (a b : Int) (op : Nat) : iop w op (.inl a) (.inl b) = if inI a && inI b then
      match op with
      | 0 => some (w, aI (zWr (a + b)))
      | 1 => some (w, aI (zWr (a - b)))
      | 2 => some (w, aI (zWr (a * b)))
      | 3 => if b = 0 then none else some (w, aI (zWr (a.tdiv b)))
      | 4 => if b = 0 then none else some (w, aI (zWr (a - a.tdiv b * b)))
      | 5 => some (w, aI (zOf (Nat.land (zN a) (zN b))))
      | 6 => some (w, aI (zOf (Nat.lor (zN a) (zN b))))
      | 7 => some (w, aI (zOf (Nat.xor (zN a) (zN b))))
      | 8 => some (w, aI (zOf ((zN a * 2 ^ (zN b % 32)) % 4294967296)))
      | 9 => some (w, aI (a / 2 ^ (zN b % 32)))
      | 10 => some (w, aI (zOf (zN a / 2 ^ (zN b % 32))))
      | _ => none
    else none := rfl
theorem iop_sc (k : Nat) (b : Int) (op : Nat) : iop w op (.inr (.inl k)) (.inl b) = match (wE w)[k]? with
    | none => none
    | some e =>
      if inI b then
        match op with
        | 0 => if inI (e.1 + b) && inI (e.2.1 + b) then some (wNewI w (e.1 + b) (e.2.1 + b) (some (e.2.2.1, e.2.2.2 + b))) else some (wTop w)
        | 1 => if inI (e.1 - b) && inI (e.2.1 - b) then some (wNewI w (e.1 - b) (e.2.1 - b) (some (e.2.2.1, e.2.2.2 - b))) else some (wTop w)
        | 3 => none
        | 4 => none
        | 5 => if 0 ≤ b then some (wNewI w 0 b none) else some (wTop w)
        | _ => if Nat.ble op 10 then some (wTop w) else none
      else none := rfl
theorem iop_ok {op : Nat} {x y : AV} {r : AW × AV} (h : iop w op x y = some r) : aIsI x = true ∧ aIsI y = true ∧ op ≤ 10 ∧ (op = 3 ∨ op = 4 → ∀ v, okW B v w → ¬ cZ v y = 0) ∧ Fr B w (fun v => .int (iV op (cZ v x) (cZ v y))) r := by
  have gen : ∀ (x y : AV), (if aIsI x && aIsI y && Nat.ble op 10 && !(Nat.beq op 3) && !(Nat.beq op 4) then some (wTop w) else none) = some r → aIsI x = true ∧ aIsI y = true ∧ op ≤ 10 ∧ (op = 3 ∨ op = 4 → ∀ v, okW B v w → ¬ cZ v y = 0) ∧ Fr B w (fun v => .int (iV op (cZ v x) (cZ v y))) r := by
    intro x y h
    split at h
    · rename_i hc
      simp only [Bool.and_eq_true, Bool.not_eq_true'] at hc
      obtain ⟨⟨⟨⟨h1, h2⟩, h3⟩, h4⟩, h5⟩ := hc
      cases h
      refine ⟨h1, h2, Nat.le_of_ble_eq_true h3, fun q => ?_, Fr_top _⟩
      rcases q with q | q
      · subst q; cases h4
      · subst q; cases h5
    · cases h
  rcases x with a | k | n | k | q | k
  · rcases y with b | k' | n | k' | q | k'
    · rw [iop_cc] at h
      by_cases hc : (inI a && inI b) = true
      · rw [if_pos hc] at h
        simp only [Bool.and_eq_true] at hc
        obtain ⟨ha, hb⟩ := hc
        have mk : ∀ (z : Int) (op' : Nat), op = op' → op' ≤ 10 → (op' = 3 ∨ op' = 4 → b ≠ 0) → some (w, aI z) = some r → Int32.ofInt z = iV op' (Int32.ofInt a) (Int32.ofInt b) → aIsI (.inl a : AV) = true ∧ aIsI (.inl b : AV) = true ∧ op ≤ 10 ∧ (op = 3 ∨ op = 4 → ∀ v, okW B v w → ¬ cZ v (.inl b) = 0) ∧ Fr B w (fun v => .int (iV op (cZ v (.inl a)) (cZ v (.inl b)))) r := by
          intro z op' e1 e2 e3 e4 e5
          subst e1
          cases e4
          exact ⟨rfl, rfl, e2, fun q _ _ => z_ne hb (e3 q), Fr_same trivial (fun v _ => by show Value.int _ = Value.int _; rw [e5]; rfl)⟩
        match op, h with
        | 0, h => exact mk _ 0 rfl (by decide) (by simp) h (by rw [z_wr, Int32.ofInt_add]; rfl)
        | 1, h => exact mk _ 1 rfl (by decide) (by simp) h (by rw [z_wr, Int32.ofInt_sub]; rfl)
        | 2, h => exact mk _ 2 rfl (by decide) (by simp) h (by rw [z_wr, Int32.ofInt_mul]; rfl)
        | 3, h =>
          by_cases hz : b = 0
          · simp [hz] at h
          · simp only [hz, if_false] at h
            exact mk _ 3 rfl (by decide) (fun _ => hz) h (z_div ha hb)
        | 4, h =>
          by_cases hz : b = 0
          · simp [hz] at h
          · simp only [hz, if_false] at h
            exact mk _ 4 rfl (by decide) (fun _ => hz) h (z_rem ha hb)
        | 5, h => exact mk _ 5 rfl (by decide) (by simp) h (z_and a b)
        | 6, h => exact mk _ 6 rfl (by decide) (by simp) h (z_or a b)
        | 7, h => exact mk _ 7 rfl (by decide) (by simp) h (z_xor a b)
        | 8, h => exact mk _ 8 rfl (by decide) (by simp) h (z_shl a b)
        | 9, h => exact mk _ 9 rfl (by decide) (by simp) h (z_shr b ha)
        | 10, h => exact mk _ 10 rfl (by decide) (by simp) h (z_ushr a b)
        | op + 11, h => cases h
      · rw [if_neg hc] at h
        cases h
    all_goals exact gen _ _ h
  · rcases y with b | k' | n | k' | q | k'
    · rw [iop_sc] at h
      cases he : (wE w)[k]? with
      | none => rw [he] at h; cases h
      | some e =>
        rw [he] at h
        simp only [] at h
        by_cases hb : inI b = true
        · rw [if_pos hb] at h
          have hbnd : ∀ v, okW B v w → e.1 ≤ (vI v k).toInt ∧ (vI v k).toInt ≤ e.2.1 ∧ (vI v k).toInt = (vI v e.2.2.1).toInt + e.2.2.2 := fun v hv => hv.1 k e he
          have mk : ∀ op', op = op' → op' ≤ 10 → op' ≠ 3 → op' ≠ 4 → Fr B w (fun v => .int (iV op' (cZ v (.inr (.inl k))) (cZ v (.inl b)))) r → aIsI (.inr (.inl k) : AV) = true ∧ aIsI (.inl b : AV) = true ∧ op ≤ 10 ∧ (op = 3 ∨ op = 4 → ∀ v, okW B v w → ¬ cZ v (.inl b) = 0) ∧ Fr B w (fun v => .int (iV op (cZ v (.inr (.inl k))) (cZ v (.inl b)))) r := by
            intro op' e1 e2 e3 e4 e5
            subst e1
            exact ⟨rfl, rfl, e2, fun q => by rcases q with q | q <;> contradiction, e5⟩
          match op, h with
          | 0, h =>
            by_cases hi : (inI (e.1 + b) && inI (e.2.1 + b)) = true
            · simp only [hi, if_true] at h
              cases h
              simp only [Bool.and_eq_true] at hi
              refine mk 0 rfl (by decide) (by decide) (by decide) (Fr_newIb _ (fun v hv => ?_))
              have q := hbnd v hv
              have r1 := z_rng hi.1
              have r2 := z_rng hi.2
              have q5 : (vI v k + Int32.ofInt b).toInt = (vI v k).toInt + b := by
                rw [Int32.toInt_add, z_in hb]
                exact Int.bmod_eq_of_le (by omega) (by omega)
              show _ ≤ (vI v k + Int32.ofInt b).toInt ∧ (vI v k + Int32.ofInt b).toInt ≤ _ ∧ _ ∧ (vI v k + Int32.ofInt b).toInt = _
              rw [q5]
              exact ⟨by omega, by omega, Nat.lt_of_le_of_lt (hv.2.2.2 k e he) (List.getElem?_eq_some_iff.mp he).1, by omega⟩
            · simp only [hi, if_false] at h
              cases h
              exact mk 0 rfl (by decide) (by decide) (by decide) (Fr_top _)
          | 1, h =>
            by_cases hi : (inI (e.1 - b) && inI (e.2.1 - b)) = true
            · simp only [hi, if_true] at h
              cases h
              simp only [Bool.and_eq_true] at hi
              refine mk 1 rfl (by decide) (by decide) (by decide) (Fr_newIb _ (fun v hv => ?_))
              have q := hbnd v hv
              have r1 := z_rng hi.1
              have r2 := z_rng hi.2
              have q5 : (vI v k - Int32.ofInt b).toInt = (vI v k).toInt - b := by
                rw [Int32.toInt_sub, z_in hb]
                exact Int.bmod_eq_of_le (by omega) (by omega)
              show _ ≤ (vI v k - Int32.ofInt b).toInt ∧ (vI v k - Int32.ofInt b).toInt ≤ _ ∧ _ ∧ (vI v k - Int32.ofInt b).toInt = _
              rw [q5]
              exact ⟨by omega, by omega, Nat.lt_of_le_of_lt (hv.2.2.2 k e he) (List.getElem?_eq_some_iff.mp he).1, by omega⟩
            · simp only [hi, if_false] at h
              cases h
              exact mk 1 rfl (by decide) (by decide) (by decide) (Fr_top _)
          | 2, h => cases h; exact mk 2 rfl (by decide) (by decide) (by decide) (Fr_top _)
          | 3, h => cases h
          | 4, h => cases h
          | 5, h =>
            by_cases h0 : 0 ≤ b
            · simp only [h0, if_true] at h
              cases h
              exact mk 5 rfl (by decide) (by decide) (by decide) (Fr_newI _ (fun v _ => z_and_rng (vI v k) hb h0))
            · simp only [h0, if_false] at h
              cases h
              exact mk 5 rfl (by decide) (by decide) (by decide) (Fr_top _)
          | 6, h => cases h; exact mk 6 rfl (by decide) (by decide) (by decide) (Fr_top _)
          | 7, h => cases h; exact mk 7 rfl (by decide) (by decide) (by decide) (Fr_top _)
          | 8, h => cases h; exact mk 8 rfl (by decide) (by decide) (by decide) (Fr_top _)
          | 9, h => cases h; exact mk 9 rfl (by decide) (by decide) (by decide) (Fr_top _)
          | 10, h => cases h; exact mk 10 rfl (by decide) (by decide) (by decide) (Fr_top _)
          | op + 11, h => cases h
        · rw [if_neg hb] at h
          cases h
    all_goals exact gen _ _ h
  all_goals (rcases y with b | k' | n' | k' | q' | k' <;> exact gen _ _ h)
/-- longs by number -/
def lV (op : Nat) (x y : Int64) : Int64 :=
  match op with
  | 0 => x + y
  | 1 => x - y
  | 2 => x &&& y
  | 3 => x ||| y
  | _ => x ^^^ y
theorem lop_cc (n n' : Nat) (op : Nat) : lop w op (.inr (.inr (.inl n))) (.inr (.inr (.inl n'))) = match op with
    | 0 => some (w, aJ ((n + n') % 18446744073709551616))
    | 1 => if Nat.ble n' 18446744073709551616 then some (w, aJ ((n + (18446744073709551616 - n')) % 18446744073709551616)) else none
    | 2 => some (w, aJ (Nat.land n n'))
    | 3 => some (w, aJ (Nat.lor n n'))
    | 4 => some (w, aJ (Nat.xor n n'))
    | _ => none := rfl
theorem lop_okc {op : Nat} {n n' : Nat} {r : AW × AV} (h : lop w op (.inr (.inr (.inl n))) (.inr (.inr (.inl n'))) = some r) : op ≤ 4 ∧ Fr B w (fun v => .long (lV op (lN n) (lN n'))) r := by
  rw [lop_cc] at h
  match op, h with
  | 0, h => cases h; exact ⟨by decide, Fr_same trivial (fun v _ => by show Value.long _ = Value.long _; rw [q_add]; rfl)⟩
  | 1, h =>
    by_cases hb : Nat.ble n' 18446744073709551616 = true
    · simp only [hb, if_true] at h
      cases h
      exact ⟨by decide, Fr_same trivial (fun v _ => by show Value.long _ = Value.long _; rw [q_sub _ _ (Nat.le_of_ble_eq_true hb)]; rfl)⟩
    · simp only [hb, if_false] at h
      cases h
  | 2, h => cases h; exact ⟨by decide, Fr_same trivial (fun v _ => by show Value.long _ = Value.long _; rw [q_and]; rfl)⟩
  | 3, h => cases h; exact ⟨by decide, Fr_same trivial (fun v _ => by show Value.long _ = Value.long _; rw [q_or]; rfl)⟩
  | 4, h => cases h; exact ⟨by decide, Fr_same trivial (fun v _ => by show Value.long _ = Value.long _; rw [q_xor]; rfl)⟩
  | op + 5, h => cases h
theorem lop_ok {op : Nat} {x y : AV} {r : AW × AV} (h : lop w op x y = some r) : aIsL x = true ∧ aIsL y = true ∧ op ≤ 4 ∧ Fr B w (fun v => .long (lV op (cQ v x) (cQ v y))) r := by
  have gen : ∀ (x y : AV), (if aIsL x && aIsL y && Nat.ble op 4 then some (wNewU w) else none) = some r → aIsL x = true ∧ aIsL y = true ∧ op ≤ 4 ∧ Fr B w (fun v => .long (lV op (cQ v x) (cQ v y))) r := by
    intro x y h
    split at h
    · rename_i hc
      simp only [Bool.and_eq_true] at hc
      cases h
      exact ⟨hc.1.1, hc.1.2, Nat.le_of_ble_eq_true hc.2, Fr_newU _⟩
    · cases h
  rcases x with a | k | n | k | q | k
  · rcases y with b | k' | n' | k' | q' | k' <;> exact gen _ _ h
  · rcases y with b | k' | n' | k' | q' | k' <;> exact gen _ _ h
  · rcases y with b | k' | n' | k' | q' | k'
    · exact gen _ _ h
    · exact gen _ _ h
    · exact ⟨rfl, rfl, lop_okc h⟩
    · exact gen _ _ h
    · exact gen _ _ h
    · exact gen _ _ h
  all_goals (rcases y with b | k' | n' | k' | q' | k' <;> exact gen _ _ h)
def shV (left : Bool) (x : Int64) (y : Int32) : Int64 := if left then x <<< (y.toInt64 &&& 63) else (x.toUInt64 >>> (y.toInt64.toUInt64 &&& Int64.toUInt64 63)).toInt64
theorem lSh_ok {left : Bool} {x y : AV} {r : AW × AV} (h : lSh w left x y = some r) : aIsL x = true ∧ aIsI y = true ∧ Fr B w (fun v => .long (shV left (cQ v x) (cZ v y))) r := by
  have z0 : ∀ z : Int32, shV left (lN 0) z = lN 0 := by
    intro z
    apply q_ext
    cases left with
    | true =>
      show ((lN 0) <<< (z.toInt64 &&& 63)).toBitVec.toNat = _
      rw [Int64.toBitVec_shiftLeft, show (lN 0).toBitVec = 0#64 from rfl, BitVec.shiftLeft_eq', BitVec.toNat_shiftLeft]
      simp
    | false =>
      show ((lN 0).toUInt64 >>> _).toBitVec.toNat = _
      rw [UInt64.toBitVec_shiftRight, show (lN 0).toUInt64.toBitVec = 0#64 from rfl, BitVec.ushiftRight_eq', BitVec.toNat_ushiftRight]
      simp
      rfl
  have gen : ∀ (x y : AV), (if aIsL x && aIsI y then some (match x with | .inr (.inr (.inl 0)) => (w, aJ 0) | _ => wNewU w) else none) = some r → aIsL x = true ∧ aIsI y = true ∧ Fr B w (fun v => .long (shV left (cQ v x) (cZ v y))) r := by
    intro x y h
    by_cases hc : (aIsL x && aIsI y) = true
    · rw [if_pos hc] at h
      simp only [Bool.and_eq_true] at hc
      refine ⟨hc.1, hc.2, ?_⟩
      split at h
      · cases h
        exact Fr_same trivial (fun v _ => by show Value.long (lN 0) = Value.long _; exact congrArg _ (z0 _).symm)
      · cases h
        exact Fr_newU _
    · rw [if_neg hc] at h
      cases h
  rcases x with a | k | n | k | q | k
  · rcases y with b | k' | n' | k' | q' | k' <;> exact gen _ _ h
  · rcases y with b | k' | n' | k' | q' | k' <;> exact gen _ _ h
  · rcases y with b | k' | n' | k' | q' | k'
    · have h : (if Nat.blt n 18446744073709551616 && inI b then
        (if left then some (w, aJ ((n * 2 ^ (zN b % 64)) % 18446744073709551616)) else some (w, aJ (n / 2 ^ (zN b % 64)))) else none) = some r := h
      by_cases hc : (Nat.blt n 18446744073709551616 && inI b) = true
      · rw [if_pos hc] at h
        simp only [Bool.and_eq_true] at hc
        cases left with
        | true =>
          cases h
          exact ⟨rfl, rfl, Fr_same trivial (fun v _ => by show Value.long _ = Value.long _; rw [q_shl _ _ hc.2]; rfl)⟩
        | false =>
          cases h
          exact ⟨rfl, rfl, Fr_same trivial (fun v _ => by show Value.long _ = Value.long _; rw [q_shr _ _ (Nat.blt_eq.mp hc.1) hc.2]; rfl)⟩
      · rw [if_neg hc] at h
        cases h
    all_goals exact gen _ _ h
  all_goals (rcases y with b | k' | n' | k' | q' | k' <;> exact gen _ _ h)
theorem lCm_ok {x y : AV} {r : AW × AV} (h : lCm w x y = some r) : aIsL x = true ∧ aIsL y = true ∧ Fr B w (fun v => .int (lg_cmp (cQ v x) (cQ v y))) r := by
  have gen : ∀ (x y : AV), (if aIsL x && aIsL y then some (wNewI w (-1) 1 none) else none) = some r → aIsL x = true ∧ aIsL y = true ∧ Fr B w (fun v => .int (lg_cmp (cQ v x) (cQ v y))) r := by
    intro x y h
    split at h
    · rename_i hc
      simp only [Bool.and_eq_true] at hc
      cases h
      exact ⟨hc.1, hc.2, Fr_newI _ (fun v _ => lg_rng _ _)⟩
    · cases h
  rcases x with a | k | n | k | q | k
  · rcases y with b | k' | n' | k' | q' | k' <;> exact gen _ _ h
  · rcases y with b | k' | n' | k' | q' | k' <;> exact gen _ _ h
  · rcases y with b | k' | n' | k' | q' | k'
    · exact gen _ _ h
    · exact gen _ _ h
    · have h : (if Nat.blt n 18446744073709551616 && Nat.blt n' 18446744073709551616 then some (w, aI (if lSg n' < lSg n then 1 else if lSg n = lSg n' then 0 else -1)) else none) = some r := h
      by_cases hc : (Nat.blt n 18446744073709551616 && Nat.blt n' 18446744073709551616) = true
      · rw [if_pos hc] at h
        simp only [Bool.and_eq_true] at hc
        cases h
        exact ⟨rfl, rfl, Fr_same trivial (fun v _ => by show Value.int _ = Value.int _; rw [q_cmp (Nat.blt_eq.mp hc.1) (Nat.blt_eq.mp hc.2)]; rfl)⟩
      · rw [if_neg hc] at h
        cases h
    all_goals exact gen _ _ h
  all_goals (rcases y with b | k' | n' | k' | q' | k' <;> exact gen _ _ h)
end
end
section
/-! Narrower bounds -/
def Nar (E F : AE) : Prop := F.length = E.length ∧ ∀ (k : Nat) (b : Int × Int × Nat × Int), F[k]? = some b → ∃ a, E[k]? = some a ∧ b.2.2 = a.2.2
theorem Nar_rf (E : AE) : Nar E E := ⟨rfl, fun _ b h => ⟨b, h, rfl⟩⟩
theorem Nar_tr {E F G : AE} (h : Nar E F) (g : Nar F G) : Nar E G := ⟨g.1.trans h.1, fun k b hb => by
  obtain ⟨c, hc, e1⟩ := g.2 k b hb
  obtain ⟨a, ha, e2⟩ := h.2 k c hc
  exact ⟨a, ha, e1.trans e2⟩⟩
def Rf (E : AE) (v : VL) (r : Option AE) : Prop := ∃ F, r = some F ∧ Nar E F ∧ okE v F
theorem eSet_some {E : AE} {k : Nat} {b : Int × Int × Nat × Int} (h : E[k]? = some b) (lo hi : Int) : eSet E k lo hi = E.set k (lo, hi, b.2.2.1, b.2.2.2) := by
  unfold eSet
  rw [h]
theorem eSet_ok {E : AE} {v : VL} {k : Nat} {b : Int × Int × Nat × Int} (h : okE v E) (he : E[k]? = some b) {lo hi : Int} (h1 : lo ≤ (vI v k).toInt) (h2 : (vI v k).toInt ≤ hi) : Nar E (eSet E k lo hi) ∧ okE v (eSet E k lo hi) := by
  rw [eSet_some he]
  have hk : k < E.length := (List.getElem?_eq_some_iff.mp he).1
  refine ⟨⟨List.length_set, fun j c hc => ?_⟩, fun j c hc => ?_⟩
  · rw [List.getElem?_set] at hc
    by_cases e : k = j
    · subst e
      rw [if_pos rfl, if_pos hk] at hc
      cases hc
      exact ⟨b, he, rfl⟩
    · rw [if_neg e] at hc
      exact ⟨c, hc, rfl⟩
  · rw [List.getElem?_set] at hc
    by_cases e : k = j
    · subst e
      rw [if_pos rfl, if_pos hk] at hc
      cases hc
      exact ⟨h1, h2, (h k b he).2.2⟩
    · rw [if_neg e] at hc
      exact h j c hc
theorem Rf_rf {E : AE} {v : VL} (h : okE v E) : Rf E v (some E) := ⟨E, rfl, Nar_rf E, h⟩
theorem aBd_nar {E F : AE} (h : Nar E F) {a : AV} (hb : (aBd E a).isSome = true) : (aBd F a).isSome = true := by
  rcases a with z | k | n | k | r | k
  · exact hb
  · rw [aBd_s] at hb ⊢
    have hk : k < E.length := by
      cases he : E[k]? with
      | none => rw [he] at hb; cases hb
      | some e => exact (List.getElem?_eq_some_iff.mp he).1
    rw [← h.1] at hk
    rw [List.getElem?_eq_getElem hk]
    rfl
  all_goals cases hb
theorem aBd_cz {E : AE} {v : VL} {z : Int} (hb : (aBd E (.inl z)).isSome = true) : (cZ v (.inl z)).toInt = z := by
  rw [aBd_c] at hb
  by_cases hz : inI z = true
  · exact z_in hz
  · rw [if_neg hz] at hb; cases hb
theorem rLo_c (E : AE) (z lo : Int) : rLo E (.inl z) lo = if lo ≤ z then some E else none := rfl
theorem rLo_s (E : AE) (k : Nat) (lo : Int) : rLo E (.inr (.inl k)) lo = match E[k]? with
    | some b => if lo ≤ b.1 then some E else if lo ≤ b.2.1 then some (eSet E k lo b.2.1) else none
    | none => some E := rfl
theorem rHi_c (E : AE) (z hi : Int) : rHi E (.inl z) hi = if z ≤ hi then some E else none := rfl
theorem rHi_s (E : AE) (k : Nat) (hi : Int) : rHi E (.inr (.inl k)) hi = match E[k]? with
    | some b => if b.2.1 ≤ hi then some E else if b.1 ≤ hi then some (eSet E k b.1 hi) else none
    | none => some E := rfl
theorem rLo_ok {E : AE} {v : VL} (h : okE v E) {a : AV} {lo : Int} (hb : (aBd E a).isSome = true) (hl : lo ≤ (cZ v a).toInt) : Rf E v (rLo E a lo) := by
  rcases a with z | k | n | k | r | k
  · rw [aBd_cz hb] at hl
    rw [rLo_c, if_pos hl]
    exact Rf_rf h
  · rw [rLo_s]
    cases he : E[k]? with
    | none => exact Rf_rf h
    | some b =>
      have hq := h k b he
      have hl : lo ≤ (vI v k).toInt := hl
      simp only []
      by_cases c1 : lo ≤ b.1
      · rw [if_pos c1]; exact Rf_rf h
      · rw [if_neg c1, if_pos (by omega)]
        exact ⟨_, rfl, eSet_ok h he hl hq.2.1⟩
  all_goals exact Rf_rf h
theorem rHi_ok {E : AE} {v : VL} (h : okE v E) {a : AV} {hi : Int} (hb : (aBd E a).isSome = true) (hl : (cZ v a).toInt ≤ hi) : Rf E v (rHi E a hi) := by
  rcases a with z | k | n | k | r | k
  · rw [aBd_cz hb] at hl
    rw [rHi_c, if_pos hl]
    exact Rf_rf h
  · rw [rHi_s]
    cases he : E[k]? with
    | none => exact Rf_rf h
    | some b =>
      have hq := h k b he
      have hl : (vI v k).toInt ≤ hi := hl
      simp only []
      by_cases c1 : b.2.1 ≤ hi
      · rw [if_pos c1]; exact Rf_rf h
      · rw [if_neg c1, if_pos (by omega)]
        exact ⟨_, rfl, eSet_ok h he hq.1 hl⟩
  all_goals exact Rf_rf h
theorem rLe_ok {E : AE} {v : VL} (h : okE v E) {x y : AV} {d : Int} (hl : (cZ v x).toInt + d ≤ (cZ v y).toInt) : Rf E v (rLe E x y d) := by
  unfold rLe
  cases hx : aBd E x with
  | none => exact Rf_rf h
  | some bx =>
    cases hy : aBd E y with
    | none => exact Rf_rf h
    | some b_ =>
      have q1 := aBd_ok h hx
      have q2 := aBd_ok h hy
      obtain ⟨F, e1, n1, o1⟩ := rHi_ok h (a := x) (hi := b_.2 - d) (by rw [hx]; rfl) (by omega)
      obtain ⟨G, e2, n2, o2⟩ := rLo_ok o1 (a := y) (lo := bx.1 + d) (aBd_nar n1 (by rw [hy]; rfl)) (by omega)
      simp only [e1]
      exact ⟨G, e2, Nar_tr n1 n2, o2⟩
theorem rEq_ok {E : AE} {v : VL} (h : okE v E) {x y : AV} (hl : (cZ v x).toInt = (cZ v y).toInt) : Rf E v (rEq E x y) := by
  obtain ⟨F, e1, n1, o1⟩ := rLe_ok h (x := x) (y := y) (d := 0) (by omega)
  obtain ⟨G, e2, n2, o2⟩ := rLe_ok o1 (x := y) (y := x) (d := 0) (by omega)
  unfold rEq
  rw [e1]
  exact ⟨G, e2, Nar_tr n1 n2, o2⟩
theorem rNe1_c (E : AE) (a z : Int) : rNe1 E (.inl a) z = if a = z then none else some E := rfl
theorem rNe1_s (E : AE) (k : Nat) (z : Int) : rNe1 E (.inr (.inl k)) z = match E[k]? with
    | some b => if b.1 = z then (if b.2.1 = z then none else some (eSet E k (z + 1) b.2.1)) else if b.2.1 = z then some (eSet E k b.1 (z - 1)) else some E
    | none => some E := rfl
theorem rNe1_ok {E : AE} {v : VL} (h : okE v E) {a : AV} {z : Int} (hb : (aBd E a).isSome = true) (hl : (cZ v a).toInt ≠ z) : Rf E v (rNe1 E a z) := by
  rcases a with c | k | n | k | r | k
  · rw [aBd_cz hb] at hl
    rw [rNe1_c, if_neg hl]
    exact Rf_rf h
  · rw [rNe1_s]
    cases he : E[k]? with
    | none => exact Rf_rf h
    | some b =>
      have hq := h k b he
      have hl : (vI v k).toInt ≠ z := hl
      simp only []
      by_cases c1 : b.1 = z
      · rw [if_pos c1]
        by_cases c2 : b.2.1 = z
        · omega
        · rw [if_neg c2]
          exact ⟨_, rfl, eSet_ok h he (by omega) hq.2.1⟩
      · rw [if_neg c1]
        by_cases c2 : b.2.1 = z
        · rw [if_pos c2]
          exact ⟨_, rfl, eSet_ok h he hq.1 (by omega)⟩
        · rw [if_neg c2]
          exact Rf_rf h
  all_goals exact Rf_rf h
theorem rNe_ok {E : AE} {v : VL} (h : okE v E) {x y : AV} (hx : (aBd E x).isSome = true) (hy : (aBd E y).isSome = true) (hl : (cZ v x).toInt ≠ (cZ v y).toInt) : Rf E v (rNe E x y) := by
  rcases y with c | k | n | k | r | k
  · rw [aBd_cz hy] at hl
    exact rNe1_ok h hx hl
  all_goals
    rcases x with c | k' | n' | k' | r' | k'
    · rw [aBd_cz hx] at hl
      exact rNe1_ok h hy (Ne.symm hl)
    all_goals exact Rf_rf h
/-- conditions by number -/
def ccP (op : Nat) (x y : Int32) : Prop :=
  match op with
  | 0 => x.toInt = y.toInt
  | 1 => x.toInt ≠ y.toInt
  | 2 => x.toInt < y.toInt
  | 3 => y.toInt ≤ x.toInt
  | 4 => y.toInt < x.toInt
  | _ => x.toInt ≤ y.toInt
theorem rT_ok {E : AE} {v : VL} (h : okE v E) {x y : AV} (op : Nat) (hx : (aBd E x).isSome = true) (hy : (aBd E y).isSome = true) (hl : ccP op (cZ v x) (cZ v y)) : Rf E v (rT E op x y) := by
  match op, hl with
  | 0, hl => exact rEq_ok h hl
  | 1, hl => exact rNe_ok h hx hy hl
  | 2, hl => have hl : _ < _ := hl; exact rLe_ok h (d := 1) (by omega)
  | 3, hl => have hl : _ ≤ _ := hl; exact rLe_ok h (d := 0) (by omega)
  | 4, hl => have hl : _ < _ := hl; exact rLe_ok h (d := 1) (by omega)
  | op + 5, hl => have hl : _ ≤ _ := hl; exact rLe_ok h (d := 0) (by omega)
theorem rF_ok {E : AE} {v : VL} (h : okE v E) {x y : AV} (op : Nat) (hx : (aBd E x).isSome = true) (hy : (aBd E y).isSome = true) (hl : ¬ ccP op (cZ v x) (cZ v y)) : Rf E v (rF E op x y) := by
  match op, hl with
  | 0, hl => exact rNe_ok h hx hy hl
  | 1, hl => exact rEq_ok h (Decidable.of_not_not hl)
  | 2, hl => have hl : ¬ _ < _ := hl; exact rLe_ok h (d := 0) (by omega)
  | 3, hl => have hl : ¬ _ ≤ _ := hl; exact rLe_ok h (d := 1) (by omega)
  | 4, hl => have hl : ¬ _ < _ := hl; exact rLe_ok h (d := 0) (by omega)
  | op + 5, hl => have hl : ¬ _ ≤ _ := hl; exact rLe_ok h (d := 1) (by omega)
/-- a world with narrower bounds -/
theorem okW_nar {B : Nat → AC} {v : VL} {w : AW} {E : AE} (h : okW B v w) (hn : Nar (wE w) E) (hE : okE v E) : okW B v (wEnv w E) ∧ wle w (wEnv w E) := by
  have hl : wle w (wEnv w E) := ⟨Nat.le_of_eq hn.1.symm, Nat.le_refl _, Nat.le_refl _, Nat.le_refl _, Nat.le_refl _⟩
  refine ⟨⟨hE, h.2.1, fun i hi => scC_mono hl (h.2.2.1 i hi), fun k b hb => ?_⟩, hl⟩
  obtain ⟨a, ha, e⟩ := hn.2 k b hb
  show b.2.2.1 ≤ k
  rw [e]
  exact h.2.2.2 k a ha
theorem spl_ok {E : AE} {v : VL} {k : Nat} {b : Int × Int × Nat × Int} (h : okE v E) (he : E[k]? = some b) : ∃ j : Nat, j < (b.2.1 - b.1).toNat + 1 ∧ Nar E (eSet E k (b.1 + (j : Int)) (b.1 + (j : Int))) ∧ okE v (eSet E k (b.1 + (j : Int)) (b.1 + (j : Int))) := by
  have q := h k b he
  refine ⟨((vI v k).toInt - b.1).toNat, by omega, ?_⟩
  have e : b.1 + ((((vI v k).toInt - b.1).toNat : Nat) : Int) = (vI v k).toInt := by omega
  rw [e]
  exact eSet_ok h he (Int.le_refl _) (Int.le_refl _)
end
section
/-! When a world is one of those that another stands for -/
def vz : Value → Int32
  | .int x => x
  | _ => 0
def vq : Value → Int64
  | .long x => x
  | _ => 0
def vr : Value → Option Nat
  | .ref a => some a
  | _ => none
theorem cZ_cv (v : VL) (a : AV) : cZ v a = vz (cv v a) := by
  rcases a with z | k | n | k | r | k
  · rfl
  · rfl
  · rfl
  · rfl
  · cases r <;> rfl
  · rfl
theorem cQ_cv (v : VL) (a : AV) : cQ v a = vq (cv v a) := by
  rcases a with z | k | n | k | r | k
  · rfl
  · rfl
  · rfl
  · rfl
  · cases r <;> rfl
  · rfl
theorem cR_cv (v : VL) (a : AV) : cR v a = vr (cv v a) := by
  rcases a with z | k | n | k | r | k
  · rfl
  · rfl
  · rfl
  · rfl
  · cases r <;> rfl
  · rfl
theorem getD_cv (v : VL) (l : List AV) (j : Nat) (d : AV) : cv v (l.getD j d) = (l.map (cv v)).getD j (cv v d) := by
  rw [List.getD_eq_getElem?_getD, List.getD_eq_getElem?_getD, List.getElem?_map]
  cases l[j]? <;> rfl
def pF : List (Nat × AV) → Nat → Option AV
  | [], _ => none
  | q :: r, k => if q.1 = k then some q.2 else pF r k
def qF : List (Nat × AB) → Nat → Option AB
  | [], _ => none
  | q :: r, k => if q.1 = k then some q.2 else qF r k
theorem nIn_ok {k : Nat} : ∀ {l : List Nat}, nIn k l = true → ∀ a ∈ l, a ≠ k
  | [], _, a, ha => absurd ha List.not_mem_nil
  | b :: r, h, a, ha => by
    replace h : (!(Nat.beq b k) && nIn k r) = true := h
    simp only [Bool.and_eq_true, Bool.not_eq_true'] at h
    rcases List.mem_cons.mp ha with e | e
    · subst e
      intro q
      subst q
      rw [Nat.beq_refl] at h
      cases h.1
    · exact nIn_ok h.2 a e
theorem pF_ok : ∀ {P : List (Nat × AV)}, ndp (P.map Prod.fst) = true → ∀ {k : Nat} {a : AV}, (k, a) ∈ P → pF P k = some a
  | [], _, k, a, h => absurd h List.not_mem_nil
  | q :: r, hn, k, a, h => by
    have hn : (nIn q.1 (r.map Prod.fst) && ndp (r.map Prod.fst)) = true := hn
    simp only [Bool.and_eq_true] at hn
    rcases List.mem_cons.mp h with e | e
    · subst e
      show (if k = k then some a else _) = _
      rw [if_pos rfl]
    · have : k ≠ q.1 := nIn_ok hn.1 k (List.mem_map_of_mem (f := Prod.fst) e)
      show (if q.1 = k then _ else pF r k) = _
      rw [if_neg (Ne.symm this)]
      exact pF_ok hn.2 e
theorem qF_ok : ∀ {P : List (Nat × AB)}, ndp (P.map Prod.fst) = true → ∀ {k : Nat} {a : AB}, (k, a) ∈ P → qF P k = some a
  | [], _, k, a, h => absurd h List.not_mem_nil
  | q :: r, hn, k, a, h => by
    have hn : (nIn q.1 (r.map Prod.fst) && ndp (r.map Prod.fst)) = true := hn
    simp only [Bool.and_eq_true] at hn
    rcases List.mem_cons.mp h with e | e
    · subst e
      show (if k = k then some a else _) = _
      rw [if_pos rfl]
    · have : k ≠ q.1 := nIn_ok hn.1 k (List.mem_map_of_mem (f := Prod.fst) e)
      show (if q.1 = k then _ else qF r k) = _
      rw [if_neg (Ne.symm this)]
      exact qF_ok hn.2 e
/-- what the new symbols stand for -/
def mv (n : Nat × Nat × Nat) (F : AE) (P : List (Nat × AV)) (Q : List (Nat × AB)) (v : VL) : VL :=
  (fun k => if k < n.1 then vI v k else match pF P (2 * k) with | some a => cZ v a | none => Int32.ofInt (F.getD k (0, 0, 0, 0)).1,
   fun k => if k < n.2.1 then vJ v k else match pF P (2 * k + 1) with | some a => cQ v a | none => 0,
   vA v, vO v,
   fun k => if k < n.2.2 then vC v k else match qF Q k with | some b => cBz v b | none => fun _ => 0,
   fun k => if k < n.2.2 then vD v k else match qF Q k with | some b => cBq v b | none => fun _ => 0)
/-- a world of which only the counts matter -/
def fkw (n : Nat × Nat × Nat) (c x : Nat) : AW := (List.replicate n.1 (0, 0, 0, 0), (c, []), n.2.1, n.2.2, x)
theorem fkw_len (n : Nat × Nat × Nat) (c x : Nat) : (wE (fkw n c x)).length = n.1 := List.length_replicate
theorem leE_ok : ∀ {n : Nat} {E F : AE}, leE n E F = true → n ≤ E.length ∧ n ≤ F.length ∧ ∀ k, k < n → ∃ a b, E[k]? = some a ∧ F[k]? = some b ∧ b.1 ≤ a.1 ∧ a.2.1 ≤ b.2.1 ∧ b.2.2 = a.2.2
  | 0, _, _, _ => ⟨Nat.zero_le _, Nat.zero_le _, fun k hk => absurd hk (Nat.not_lt_zero k)⟩
  | n + 1, [], _, h => by cases h
  | n + 1, _ :: _, [], h => by cases h
  | n + 1, a :: r, b :: q, h => by
    replace h : (decide (b.1 ≤ a.1) && decide (a.2.1 ≤ b.2.1) && Nat.beq a.2.2.1 b.2.2.1 && decide (a.2.2.2 = b.2.2.2) && leE n r q) = true := h
    simp only [Bool.and_eq_true, decide_eq_true_eq] at h
    obtain ⟨⟨⟨⟨h1, h2⟩, h3⟩, h4⟩, h5⟩ := h
    obtain ⟨g1, g2, g3⟩ := leE_ok h5
    refine ⟨Nat.succ_le_succ g1, Nat.succ_le_succ g2, fun k hk => ?_⟩
    cases k with
    | zero => exact ⟨a, b, rfl, rfl, h1, h2, Prod.ext (Nat.eq_of_beq_eq_true h3).symm h4.symm⟩
    | succ k => exact g3 k (Nat.lt_of_succ_lt_succ hk)
theorem leG_ok : ∀ {k : Nat} {l : AE}, leG k l = true → ∀ (j : Nat) (e : Int × Int × Nat × Int), l[j]? = some e → e.2.2.1 = k + j ∧ e.2.2.2 = 0 ∧ e.1 ≤ e.2.1 ∧ inI e.1 = true
  | k, [], _, j, e, he => by simp at he
  | k, a :: r, h, j, e, he => by
    replace h : (Nat.beq a.2.2.1 k && decide (a.2.2.2 = 0) && decide (a.1 ≤ a.2.1) && inI a.1 && leG (k + 1) r) = true := h
    simp only [Bool.and_eq_true, decide_eq_true_eq] at h
    obtain ⟨⟨⟨⟨h1, h2⟩, h3⟩, h4⟩, h5⟩ := h
    cases j with
    | zero =>
      cases he
      exact ⟨Nat.eq_of_beq_eq_true h1, h2, h3, h4⟩
    | succ j =>
      have := leG_ok h5 j e he
      exact ⟨by omega, this.2⟩
section MT
variable {n : Nat × Nat × Nat} {w u : AW} {v : VL} {P : List (Nat × AV)} {Q : List (Nat × AB)} {dT : Nat → ClassId}
/-- the counts that go together -/
def MH (n : Nat × Nat × Nat) (w u : AW) : Prop := n.1 ≤ (wE u).length ∧ n.2.1 ≤ wL u ∧ n.2.2 ≤ wA u ∧ wX w = wX u ∧ (wH w).1 = (wH u).1
theorem mv_agr : agr (fkw n (wH w).1 (wX w)) v (mv n (wE u) P Q v) := by
  refine ⟨fun k hk => ?_, fun _ _ => rfl, fun k hk => ?_, fun k hk => ?_, fun _ _ => rfl⟩
  · rw [fkw_len] at hk
    show _ = if k < n.1 then _ else _
    rw [if_pos hk]
  · have hk : k < n.2.1 := hk
    show _ = if k < n.2.1 then _ else _
    rw [if_pos hk]
  · have hk : k < n.2.2 := hk
    constructor
    · show _ = if k < n.2.2 then _ else _
      rw [if_pos hk]
    · show _ = if k < n.2.2 then _ else _
      rw [if_pos hk]
theorem mtV_ok (hm : MH n w u) (hP : ndp (P.map Prod.fst) = true) (hE : okE v (wE w)) {a b : AV} {p : List (Nat × AV)} (h : mtV (wE w) (wE u) n (wL u) a b = some p) (hp : ∀ q ∈ p, q ∈ P) (hs : scV w a) : cv (mv n (wE u) P Q v) b = cv v a ∧ scV u b := by
  rcases b with z | k | m | k | r | k
  · replace h : (if decide (aNm (wE w) a = .inl z) = true then some [] else none) = some p := h
    split at h
    · rename_i hc
      have hc := of_decide_eq_true hc
      rw [← aNm_cv hE a, hc]
      exact ⟨rfl, trivial⟩
    · cases h
  · replace h : (if Nat.ble n.1 k = true then (match aBd (wE w) a, (wE u)[k]? with
      | some p, some e => if (decide (e.1 ≤ p.1) && decide (p.2 ≤ e.2.1)) = true then some [(2 * k, a)] else none
      | _, _ => none) else if decide (aNm (wE w) a = aNm (wE w) (.inr (.inl k))) = true then some [] else none) = some p := h
    by_cases hk : Nat.ble n.1 k = true
    · rw [if_pos hk] at h
      have hk := Nat.le_of_ble_eq_true hk
      cases ha : aBd (wE w) a with
      | none => rw [ha] at h; cases h
      | some p0 =>
        cases he : (wE u)[k]? with
        | none => rw [ha, he] at h; cases h
        | some e =>
          rw [ha, he] at h
          simp only [] at h
          split at h
          · cases h
            have hf := pF_ok hP (hp _ List.mem_cons_self)
            constructor
            · show Value.int (if k < n.1 then _ else _) = _
              rw [if_neg (by omega), hf, cv_int (aBd_int ha)]
            · exact (List.getElem?_eq_some_iff.mp he).1
          · cases h
    · rw [if_neg hk] at h
      have hk : k < n.1 := Nat.lt_of_not_le (fun q => hk (Nat.ble_eq_true_of_le q))
      split at h
      · rename_i hc
        have hc := of_decide_eq_true hc
        constructor
        · rw [← aNm_cv hE a, hc, aNm_cv hE]
          show Value.int (if k < n.1 then _ else _) = _
          rw [if_pos hk]
          rfl
        · exact Nat.lt_of_lt_of_le hk hm.1
      · cases h
  · replace h : (if decide (a = .inr (.inr (.inl m))) = true then some [] else none) = some p := h
    split at h
    · rename_i hc
      rw [of_decide_eq_true hc]
      exact ⟨rfl, trivial⟩
    · cases h
  · replace h : (if Nat.ble n.2.1 k = true then (if (aIsL a && Nat.blt k (wL u)) = true then some [(2 * k + 1, a)] else none) else if decide (a = .inr (.inr (.inr (.inl k)))) = true then some [] else none) = some p := h
    by_cases hk : Nat.ble n.2.1 k = true
    · rw [if_pos hk] at h
      have hk := Nat.le_of_ble_eq_true hk
      split at h
      · rename_i hc
        simp only [Bool.and_eq_true] at hc
        cases h
        have hf := pF_ok hP (hp _ List.mem_cons_self)
        constructor
        · show Value.long (if k < n.2.1 then _ else _) = _
          rw [if_neg (by omega), hf, cv_long hc.1]
        · exact Nat.blt_eq.mp hc.2
      · cases h
    · rw [if_neg hk] at h
      have hk : k < n.2.1 := Nat.lt_of_not_le (fun q => hk (Nat.ble_eq_true_of_le q))
      split at h
      · rename_i hc
        rw [of_decide_eq_true hc]
        constructor
        · show Value.long (if k < n.2.1 then _ else _) = _
          rw [if_pos hk]
          rfl
        · exact Nat.lt_of_lt_of_le hk hm.2.1
      · cases h
  · replace h : (if decide (a = .inr (.inr (.inr (.inr (.inl r))))) = true then some [] else none) = some p := h
    split at h
    · rename_i hc
      have hc := of_decide_eq_true hc
      subst hc
      refine ⟨rfl, ?_⟩
      cases r with
      | none => trivial
      | some i =>
        have hs : i < (wH w).1 := hs
        show i < (wH u).1
        rw [← hm.2.2.2.2]
        exact hs
    · cases h
  · replace h : (if decide (a = .inr (.inr (.inr (.inr (.inr k))))) = true then some [] else none) = some p := h
    split at h
    · rename_i hc
      have hc := of_decide_eq_true hc
      subst hc
      refine ⟨rfl, ?_⟩
      have hs : k < wX w := hs
      show k < wX u
      rw [← hm.2.2.2.1]
      exact hs
    · cases h
theorem mtL_ok (hm : MH n w u) (hP : ndp (P.map Prod.fst) = true) (hE : okE v (wE w)) : ∀ {l q : List AV} {p : List (Nat × AV)}, mtL (wE w) (wE u) n (wL u) l q = some p → (∀ z ∈ p, z ∈ P) → (∀ a ∈ l, scV w a) → q.map (cv (mv n (wE u) P Q v)) = l.map (cv v) ∧ ∀ b ∈ q, scV u b
  | [], [], p, _, _, _ => ⟨rfl, fun b hb => absurd hb List.not_mem_nil⟩
  | [], _ :: _, p, h, _, _ => by cases h
  | _ :: _, [], p, h, _, _ => by cases h
  | a :: r, b :: q, p, h, hp, hs => by
    replace h : (match mtV (wE w) (wE u) n (wL u) a b, mtL (wE w) (wE u) n (wL u) r q with
      | some x, some y => some (x ++ y)
      | _, _ => none) = some p := h
    cases h1 : mtV (wE w) (wE u) n (wL u) a b with
    | none => rw [h1] at h; cases h
    | some x =>
      cases h2 : mtL (wE w) (wE u) n (wL u) r q with
      | none => rw [h1, h2] at h; cases h
      | some y =>
        rw [h1, h2] at h
        cases h
        have g1 := mtV_ok (Q := Q) hm hP hE h1 (fun z hz => hp z (List.mem_append_left _ hz)) (hs a List.mem_cons_self)
        have g2 := mtL_ok hm hP hE h2 (fun z hz => hp z (List.mem_append_right _ hz)) (fun z hz => hs z (List.mem_cons_of_mem _ hz))
        refine ⟨by rw [List.map_cons, List.map_cons, g1.1, g2.1], fun c hc => ?_⟩
        rcases List.mem_cons.mp hc with e | e
        · rw [e]; exact g1.2
        · exact g2.2 c e
theorem inB_ok (hE : okE v (wE w)) {lo hi : Int} {a : AV} (h : inB (wE w) lo hi a = true) : lo ≤ (cZ v a).toInt ∧ (cZ v a).toInt ≤ hi := by
  unfold inB at h
  cases ha : aBd (wE w) a with
  | none => rw [ha] at h; cases h
  | some p =>
    rw [ha] at h
    simp only [Bool.and_eq_true, decide_eq_true_eq] at h
    have := aBd_ok hE ha
    omega
theorem mtB_ok (hm : MH n w u) (hP : ndp (P.map Prod.fst) = true) (hQ : ndp (Q.map Prod.fst) = true) (hE : okE v (wE w)) {t m : Nat} {b c : AB} {p : List (Nat × AV) × List (Nat × AB)} (h : mtB (wE w) (wE u) n (wL u) (wA u) t m b c = some p) (h1 : ∀ z ∈ p.1, z ∈ P) (h2 : ∀ z ∈ p.2, z ∈ Q) (hs : scC w (.inl (t, m, b))) (ho : okC v (.inl (t, m, b))) :
    cB (mv n (wE u) P Q v) t m c = cB v t m b ∧ scC u (.inl (t, m, c)) ∧ okC (mv n (wE u) P Q v) (.inl (t, m, c)) := by
  rcases c with q | e
  · rcases b with l | e
    · replace h : (match mtL (wE w) (wE u) n (wL u) l q with
        | some P => some (P, [])
        | none => none) = some p := h
      cases hl : mtL (wE w) (wE u) n (wL u) l q with
      | none => rw [hl] at h; cases h
      | some y =>
        rw [hl] at h
        cases h
        obtain ⟨g1, g2⟩ := mtL_ok (Q := Q) hm hP hE hl h1 hs
        refine ⟨cB_ext (fun _ j _ => ?_) (fun _ j _ => ?_) (fun _ j _ => ?_), g2, trivial⟩
        · show cZ _ (q.getD j _) = cZ v (l.getD j _)
          rw [cZ_cv, cZ_cv, getD_cv, getD_cv, g1]
          rfl
        · show cQ _ (q.getD j _) = cQ v (l.getD j _)
          rw [cQ_cv, cQ_cv, getD_cv, getD_cv, g1]
          rfl
        · show cR _ (q.getD j _) = cR v (l.getD j _)
          rw [cR_cv, cR_cv, getD_cv, getD_cv, g1]
          rfl
    · replace h : (if (decide (e.1 = e.2.1) && inI e.1 && (Nat.beq t 0 || Nat.beq t 2) && Nat.beq q.length m) = true then (match mtL (wE w) (wE u) n (wL u) (List.replicate m (aI e.1)) q with
        | some P => some (P, [])
        | none => none) else none) = some p := h
      split at h
      · rename_i hc
        simp only [Bool.and_eq_true, decide_eq_true_eq, Bool.or_eq_true] at hc
        obtain ⟨⟨⟨c1, c2⟩, c3⟩, c4⟩ := hc
        have c4 := Nat.eq_of_beq_eq_true c4
        have ht : t = 0 ∨ t = 2 := c3.imp Nat.eq_of_beq_eq_true Nat.eq_of_beq_eq_true
        cases hl : mtL (wE w) (wE u) n (wL u) (List.replicate m (aI e.1)) q with
        | none => rw [hl] at h; cases h
        | some y =>
          rw [hl] at h
          cases h
          obtain ⟨g1, g2⟩ := mtL_ok (Q := Q) hm hP hE hl h1 (fun a ha => by rw [(List.mem_replicate.mp ha).2]; trivial)
          refine ⟨cB_ext (fun _ j hj => ?_) (fun q _ _ => by omega) (fun q _ _ => by omega), g2, trivial⟩
          show cZ _ (q.getD j _) = vC v e.2.2 j
          rw [cZ_cv, getD_cv, g1]
          show vz ((List.map (cv v) (List.replicate m (aI e.1))).getD j (cv v (aI 0))) = _
          rw [← getD_cv, List.getD_eq_getElem?_getD, List.getElem?_replicate, if_pos hj]
          have := ho (by omega) j hj
          show Int32.ofInt e.1 = _
          apply Int32.toInt_inj.1
          rw [z_in c2]
          omega
      · cases h
  · replace h : (if Nat.ble n.2.2 e.2.2 = true then (if (Nat.blt e.2.2 (wA u) && btw (wE w) t m e.1 e.2.1 b) = true then some ([], [(e.2.2, b)]) else none) else (match b with | .inr f => if (Nat.beq f.2.2 e.2.2 && decide (f.1 = e.1) && decide (f.2.1 = e.2.1)) = true then some ([], []) else none | .inl _ => none)) = some p := h
    by_cases hk : Nat.ble n.2.2 e.2.2 = true
    · rw [if_pos hk] at h
      have hk := Nat.le_of_ble_eq_true hk
      split at h
      · rename_i hc
        simp only [Bool.and_eq_true] at hc
        obtain ⟨c1, c2⟩ := hc
        cases h
        have hf := qF_ok hQ (h2 _ List.mem_cons_self)
        have z1 : ∀ j, vC (mv n (wE u) P Q v) e.2.2 j = cBz v b j := fun j => by
          show (if e.2.2 < n.2.2 then _ else _ : Nat → Int32) j = _
          rw [if_neg (by omega), hf]
        have z2 : ∀ j, vD (mv n (wE u) P Q v) e.2.2 j = cBq v b j := fun j => by
          show (if e.2.2 < n.2.2 then _ else _ : Nat → Int64) j = _
          rw [if_neg (by omega), hf]
        have ht : t ≤ 2 := by
          rcases b with l | f
          · replace c2 : (Nat.beq t 1 || (Nat.ble t 2 && Nat.beq l.length m && l.all (inB (wE w) e.1 e.2.1))) = true := c2
            simp only [Bool.or_eq_true, Bool.and_eq_true] at c2
            rcases c2 with c2 | c2
            · have := Nat.eq_of_beq_eq_true c2; omega
            · exact Nat.le_of_ble_eq_true c2.1.1
          · replace c2 : (Nat.beq t 1 || (Nat.ble t 2 && decide (e.1 ≤ f.1) && decide (f.2.1 ≤ e.2.1))) = true := c2
            simp only [Bool.or_eq_true, Bool.and_eq_true] at c2
            rcases c2 with c2 | c2
            · have := Nat.eq_of_beq_eq_true c2; omega
            · exact Nat.le_of_ble_eq_true c2.1.1
        refine ⟨cB_ext (fun _ j _ => z1 j) (fun _ j _ => z2 j) (fun q _ _ => by omega), Nat.blt_eq.mp c1, fun ht1 j hj => ?_⟩
        rw [z1 j]
        rcases b with l | f
        · replace c2 : (Nat.beq t 1 || (Nat.ble t 2 && Nat.beq l.length m && l.all (inB (wE w) e.1 e.2.1))) = true := c2
          simp only [Bool.or_eq_true, Bool.and_eq_true] at c2
          rcases c2 with c2 | c2
          · exact absurd (Nat.eq_of_beq_eq_true c2) ht1
          · have hlen := Nat.eq_of_beq_eq_true c2.1.2
            have hj' : j < l.length := by omega
            show e.1 ≤ (cZ v (l.getD j _)).toInt ∧ (cZ v (l.getD j _)).toInt ≤ e.2.1
            rw [List.getD_eq_getElem?_getD, List.getElem?_eq_getElem hj']
            exact inB_ok hE (List.all_eq_true.mp c2.2 _ (List.getElem_mem hj'))
        · replace c2 : (Nat.beq t 1 || (Nat.ble t 2 && decide (e.1 ≤ f.1) && decide (f.2.1 ≤ e.2.1))) = true := c2
          simp only [Bool.or_eq_true, Bool.and_eq_true, decide_eq_true_eq] at c2
          rcases c2 with c2 | c2
          · exact absurd (Nat.eq_of_beq_eq_true c2) ht1
          · have := ho ht1 j hj
            show e.1 ≤ (vC v f.2.2 j).toInt ∧ (vC v f.2.2 j).toInt ≤ e.2.1
            omega
      · cases h
    · rw [if_neg hk] at h
      have hk : e.2.2 < n.2.2 := Nat.lt_of_not_le (fun q => hk (Nat.ble_eq_true_of_le q))
      rcases b with l | f
      · cases h
      · simp only [] at h
        split at h
        · rename_i hc
          simp only [Bool.and_eq_true, decide_eq_true_eq] at hc
          obtain ⟨⟨c1, c2⟩, c3⟩ := hc
          have c1 := Nat.eq_of_beq_eq_true c1
          have z1 : vC (mv n (wE u) P Q v) e.2.2 = vC v f.2.2 := by
            show (if e.2.2 < n.2.2 then _ else _ : Nat → Int32) = _
            rw [if_pos hk, c1]
          have z2 : vD (mv n (wE u) P Q v) e.2.2 = vD v f.2.2 := by
            show (if e.2.2 < n.2.2 then _ else _ : Nat → Int64) = _
            rw [if_pos hk, c1]
          refine ⟨cB_ext (fun _ j _ => congrFun z1 j) (fun _ j _ => congrFun z2 j) (fun _ j _ => rfl), Nat.lt_of_lt_of_le hk hm.2.2.1, fun ht1 j hj => ?_⟩
          have := ho ht1 j hj
          rw [z1, ← c2, ← c3]
          exact this
        · cases h
theorem mtC_ok (hm : MH n w u) (hP : ndp (P.map Prod.fst) = true) (hQ : ndp (Q.map Prod.fst) = true) (hE : okE v (wE w)) {c d : AC} {p : List (Nat × AV) × List (Nat × AB)} (h : mtC (wE w) (wE u) n (wL u) (wA u) c d = some p) (h1 : ∀ z ∈ p.1, z ∈ P) (h2 : ∀ z ∈ p.2, z ∈ Q) (hs : scC w c) (ho : okC v c) :
    cC (mv n (wE u) P Q v) dT d = cC v dT c ∧ scC u d ∧ okC (mv n (wE u) P Q v) d := by
  rcases c with ⟨t, m, b⟩ | ⟨ci, fs⟩
  · rcases d with ⟨t', m', b'⟩ | ⟨di, gs⟩
    · replace h : (if (Nat.beq t t' && Nat.beq m m') = true then mtB (wE w) (wE u) n (wL u) (wA u) t m b b' else none) = some p := h
      split at h
      · rename_i hc
        simp only [Bool.and_eq_true] at hc
        have c1 := Nat.eq_of_beq_eq_true hc.1
        have c2 := Nat.eq_of_beq_eq_true hc.2
        subst c1
        subst c2
        obtain ⟨g1, g2, g3⟩ := mtB_ok hm hP hQ hE h h1 h2 hs ho
        exact ⟨by show Sum.inl (dT t, m, cB _ t m b') = Sum.inl (dT t, m, cB v t m b); rw [g1], g2, g3⟩
      · cases h
    · cases h
  · rcases d with ⟨t', m', b'⟩ | ⟨di, gs⟩
    · cases h
    · replace h : (if Nat.beq ci di = true then (match mtL (wE w) (wE u) n (wL u) fs gs with
        | some P => some (P, [])
        | none => none) else none) = some p := h
      split at h
      · rename_i hc
        have c1 := Nat.eq_of_beq_eq_true hc
        subst c1
        cases hl : mtL (wE w) (wE u) n (wL u) fs gs with
        | none => rw [hl] at h; cases h
        | some y =>
          rw [hl] at h
          cases h
          obtain ⟨g1, g2⟩ := mtL_ok (Q := Q) hm hP hE hl h1 hs
          exact ⟨by show Sum.inr (ci, gs.map _) = Sum.inr (ci, fs.map _); rw [g1], g2, trivial⟩
      · cases h
/-- pairs keep within bounds -/
def pOk (E F : AE) (q : Nat × AV) : Prop := ∀ k, q.1 = 2 * k → ∃ e p, F[k]? = some e ∧ aBd E q.2 = some p ∧ e.1 ≤ p.1 ∧ p.2 ≤ e.2.1
theorem mtV_p {E F : AE} {L : Nat} {a b : AV} {p : List (Nat × AV)} (h : mtV E F n L a b = some p) : ∀ q ∈ p, pOk E F q := by
  rcases b with z | k | m | k | r | k
  · replace h : (if decide (aNm E a = .inl z) = true then some [] else none) = some p := h
    split at h
    · cases h; intro q hq; exact absurd hq List.not_mem_nil
    · cases h
  · replace h : (if Nat.ble n.1 k = true then (match aBd E a, F[k]? with
      | some p, some e => if (decide (e.1 ≤ p.1) && decide (p.2 ≤ e.2.1)) = true then some [(2 * k, a)] else none
      | _, _ => none) else if decide (aNm E a = aNm E (.inr (.inl k))) = true then some [] else none) = some p := h
    by_cases hk : Nat.ble n.1 k = true
    · rw [if_pos hk] at h
      cases ha : aBd E a with
      | none => rw [ha] at h; cases h
      | some p0 =>
        cases he : F[k]? with
        | none => rw [ha, he] at h; cases h
        | some e =>
          rw [ha, he] at h
          simp only [] at h
          split at h
          · rename_i hc
            simp only [Bool.and_eq_true, decide_eq_true_eq] at hc
            cases h
            intro q hq k' hk'
            rw [List.mem_singleton.mp hq] at hk' ⊢
            have : k = k' := by have : 2 * k = 2 * k' := hk'; omega
            subst this
            exact ⟨e, p0, he, ha, hc.1, hc.2⟩
          · cases h
    · rw [if_neg hk] at h
      split at h
      · cases h; intro q hq; exact absurd hq List.not_mem_nil
      · cases h
  · replace h : (if decide (a = .inr (.inr (.inl m))) = true then some [] else none) = some p := h
    split at h
    · cases h; intro q hq; exact absurd hq List.not_mem_nil
    · cases h
  · replace h : (if Nat.ble n.2.1 k = true then (if (aIsL a && Nat.blt k L) = true then some [(2 * k + 1, a)] else none) else if decide (a = .inr (.inr (.inr (.inl k)))) = true then some [] else none) = some p := h
    split at h
    · split at h
      · cases h
        intro q hq k' hk'
        rw [List.mem_singleton.mp hq] at hk'
        have : 2 * k + 1 = 2 * k' := hk'
        omega
      · cases h
    · split at h
      · cases h; intro q hq; exact absurd hq List.not_mem_nil
      · cases h
  · replace h : (if decide (a = .inr (.inr (.inr (.inr (.inl r))))) = true then some [] else none) = some p := h
    split at h
    · cases h; intro q hq; exact absurd hq List.not_mem_nil
    · cases h
  · replace h : (if decide (a = .inr (.inr (.inr (.inr (.inr k))))) = true then some [] else none) = some p := h
    split at h
    · cases h; intro q hq; exact absurd hq List.not_mem_nil
    · cases h
theorem mtL_p {E F : AE} {L : Nat} : ∀ {l q : List AV} {p : List (Nat × AV)}, mtL E F n L l q = some p → ∀ z ∈ p, pOk E F z
  | [], [], p, h, z, hz => by cases h; exact absurd hz List.not_mem_nil
  | [], _ :: _, p, h, _, _ => by cases h
  | _ :: _, [], p, h, _, _ => by cases h
  | a :: r, b :: q, p, h, z, hz => by
    replace h : (match mtV E F n L a b, mtL E F n L r q with
      | some x, some y => some (x ++ y)
      | _, _ => none) = some p := h
    cases h1 : mtV E F n L a b with
    | none => rw [h1] at h; cases h
    | some x =>
      cases h2 : mtL E F n L r q with
      | none => rw [h1, h2] at h; cases h
      | some y =>
        rw [h1, h2] at h
        cases h
        rcases List.mem_append.mp hz with e | e
        · exact mtV_p h1 z e
        · exact mtL_p h2 z e
theorem mtC_p {E F : AE} {L A : Nat} {c d : AC} {p : List (Nat × AV) × List (Nat × AB)} (h : mtC E F n L A c d = some p) : ∀ z ∈ p.1, pOk E F z := by
  have nil : ∀ z ∈ ([] : List (Nat × AV)), pOk E F z := fun z hz => absurd hz List.not_mem_nil
  unfold mtC at h
  split at h
  · split at h
    · split at h
      · rename_i hl
        cases h
        exact mtL_p hl
      · cases h
    · cases h
  · split at h
    · unfold mtB at h
      split at h
      · split at h
        · split at h
          · cases h; exact nil
          · cases h
        · split at h
          · split at h
            · cases h; exact nil
            · cases h
          · cases h
      · split at h
        · split at h
          · rename_i hl
            cases h
            exact mtL_p hl
          · cases h
        · split at h
          · split at h
            · rename_i hl
              cases h
              exact mtL_p hl
            · cases h
          · cases h
    · cases h
  · cases h
theorem mtH_p {x : ACx} {E F : AE} {L A : Nat} {g : AH} : ∀ {l : List (Nat × AC)} {p : List (Nat × AV) × List (Nat × AB)}, mtH x E F n L A g l = some p → ∀ z ∈ p.1, pOk E F z
  | [], p, h, z, hz => by cases h; exact absurd hz List.not_mem_nil
  | a :: r, p, h, z, hz => by
    replace h : (match mtC E F n L A a.2 (hGet (xB x) g a.1), mtH x E F n L A g r with
      | some a, some b => some (a.1 ++ b.1, a.2 ++ b.2)
      | _, _ => none) = some p := h
    cases h1 : mtC E F n L A a.2 (hGet (xB x) g a.1) with
    | none => rw [h1] at h; cases h
    | some y =>
      cases h2 : mtH x E F n L A g r with
      | none => rw [h1, h2] at h; cases h
      | some z' =>
        rw [h1, h2] at h
        cases h
        rcases List.mem_append.mp hz with e | e
        · exact mtC_p h1 z e
        · exact mtH_p h2 z e
theorem pF_mem : ∀ {P : List (Nat × AV)} {k : Nat} {a : AV}, pF P k = some a → (k, a) ∈ P
  | [], k, a, h => by cases h
  | q :: r, k, a, h => by
    replace h : (if q.1 = k then some q.2 else pF r k) = some a := h
    split at h
    · rename_i hc
      cases h
      rw [← hc]
      exact List.mem_cons_self
    · exact List.mem_cons_of_mem _ (pF_mem h)
theorem mtH_ok {x : ACx} {g : AH} : ∀ {l : List (Nat × AC)} {p : List (Nat × AV) × List (Nat × AB)}, mtH x (wE w) (wE u) n (wL u) (wA u) g l = some p → ∀ q ∈ l, ∃ r, mtC (wE w) (wE u) n (wL u) (wA u) q.2 (hGet (xB x) g q.1) = some r ∧ (∀ z ∈ r.1, z ∈ p.1) ∧ (∀ z ∈ r.2, z ∈ p.2)
  | [], p, _, q, hq => absurd hq List.not_mem_nil
  | a :: r, p, h, q, hq => by
    replace h : (match mtC (wE w) (wE u) n (wL u) (wA u) a.2 (hGet (xB x) g a.1), mtH x (wE w) (wE u) n (wL u) (wA u) g r with
      | some a, some b => some (a.1 ++ b.1, a.2 ++ b.2)
      | _, _ => none) = some p := h
    cases h1 : mtC (wE w) (wE u) n (wL u) (wA u) a.2 (hGet (xB x) g a.1) with
    | none => rw [h1] at h; cases h
    | some y =>
      cases h2 : mtH x (wE w) (wE u) n (wL u) (wA u) g r with
      | none => rw [h1, h2] at h; cases h
      | some z =>
        rw [h1, h2] at h
        cases h
        rcases List.mem_cons.mp hq with e | e
        · subst e
          exact ⟨y, h1, fun z hz => List.mem_append_left _ hz, fun z hz => List.mem_append_left _ hz⟩
        · obtain ⟨r', g1, g2, g3⟩ := mtH_ok h2 q e
          exact ⟨r', g1, fun z hz => List.mem_append_right _ (g2 z hz), fun z hz => List.mem_append_right _ (g3 z hz)⟩
theorem hFind_mem : ∀ {l : List (Nat × AC)} {i : Nat} {c : AC}, hFind l i = some c → (i, c) ∈ l
  | [], i, c, h => by cases h
  | (j, d) :: r, i, c, h => by
    replace h : (if Nat.beq j i = true then some d else hFind r i) = some c := h
    split at h
    · rename_i hc
      cases h
      rw [Nat.eq_of_beq_eq_true hc]
      exact List.mem_cons_self
    · exact List.mem_cons_of_mem _ (hFind_mem h)
theorem hFind_none : ∀ {l : List (Nat × AC)} {i : Nat}, hFind l i = none → ∀ q ∈ l, q.1 ≠ i
  | [], i, h, q, hq => absurd hq List.not_mem_nil
  | (j, d) :: r, i, h, q, hq => by
    replace h : (if Nat.beq j i = true then some d else hFind r i) = none := h
    split at h
    · cases h
    · rename_i hc
      rcases List.mem_cons.mp hq with e | e
      · subst e
        intro q
        exact hc (by rw [← q]; exact Nat.beq_refl _)
      · exact hFind_none h q e
/-- the main thing: w, as v has it, is u, as some v' has it -/
theorem mtA_ok {x : ACx} {pl : List (AV × AV)} {wB : AW} (h : mtA x n w u pl = true) (hB : ∀ i, scC wB (xB x i)) (hBn : wle wB (fkw n (wH w).1 (wX w))) (hv : okW (xB x) v w) (hpl : ∀ p ∈ pl, scV w p.1) :
    ∃ v', agr (fkw n (wH w).1 (wX w)) v v' ∧ okW (xB x) v' u ∧ cW v' dT (xB x) (wH u) = cW v dT (xB x) (wH w) ∧ (∀ p ∈ pl, cv v' p.2 = cv v p.1 ∧ scV u p.2) ∧ wle (fkw n (wH w).1 (wX w)) u := by
  unfold mtA at h
  simp only [Bool.and_eq_true] at h
  obtain ⟨⟨⟨⟨⟨⟨⟨⟨⟨e1, e2⟩, e3⟩, e4⟩, e5⟩, e6⟩, e7⟩, e8⟩, e9⟩, e10⟩ := h
  obtain ⟨f1, f2, f3⟩ := leE_ok e1
  have f4 := leG_ok e2
  have e5 := Nat.le_of_ble_eq_true e5
  have e6 := Nat.le_of_ble_eq_true e6
  have e7 := Nat.eq_of_beq_eq_true e7
  have e8 := Nat.eq_of_beq_eq_true e8
  have hm : MH n w u := ⟨f2, e5, e6, e7, e8⟩
  cases hH : mtH x (wE w) (wE u) n (wL u) (wA u) (wH u) (wH w).2 with
  | none => rw [hH] at e10; cases e10
  | some a =>
    cases hL : mtL (wE w) (wE u) n (wL u) (pl.map Prod.fst) (pl.map Prod.snd) with
    | none => rw [hH, hL] at e10; cases e10
    | some b =>
      rw [hH, hL] at e10
      simp only [Bool.and_eq_true] at e10
      obtain ⟨hP, hQ⟩ := e10
      have hle : wle (fkw n (wH w).1 (wX w)) u := ⟨by rw [fkw_len]; exact f2, Nat.le_of_eq e8, e5, e6, Nat.le_of_eq e7⟩
      have hag : agr (fkw n (wH w).1 (wX w)) v (mv n (wE u) (a.1 ++ b) a.2 v) := mv_agr
      have hcell : ∀ i, i < (wH w).1 → cC (mv n (wE u) (a.1 ++ b) a.2 v) dT (hGet (xB x) (wH u) i) = cC v dT (hGet (xB x) (wH w) i) ∧ scC u (hGet (xB x) (wH u) i) ∧ okC (mv n (wE u) (a.1 ++ b) a.2 v) (hGet (xB x) (wH u) i) := by
        intro i hi
        cases hf : hFind (wH w).2 i with
        | some c =>
          have hg : hGet (xB x) (wH w) i = c := by unfold hGet; rw [hf]
          obtain ⟨r, r1, r2, r3⟩ := mtH_ok hH (i, c) (hFind_mem hf)
          have q1 := hv.2.2.1 i hi
          have q2 := hv.2.1 i hi
          rw [hg] at q1 q2 ⊢
          exact mtC_ok hm hP hQ hv.1 r1 (fun z hz => List.mem_append_left _ (r2 z hz)) r3 q1 q2
        | none =>
          have hg : hGet (xB x) (wH w) i = xB x i := by unfold hGet; rw [hf]
          have hg2 : hGet (xB x) (wH u) i = xB x i := by
            cases hf2 : hFind (wH u).2 i with
            | none => unfold hGet; rw [hf2]
            | some d =>
              have := List.all_eq_true.mp e9 (i, d) (hFind_mem hf2)
              obtain ⟨q, hq, hqe⟩ := List.any_eq_true.mp this
              exact absurd (Nat.eq_of_beq_eq_true hqe) (hFind_none hf q hq)
          rw [hg, hg2]
          have hs1 : scC (fkw n (wH w).1 (wX w)) (xB x i) := scC_mono hBn (hB i)
          exact ⟨(cC_agr hag hs1).symm, scC_mono hle hs1, okC_agr hag hs1 (by have := hv.2.1 i hi; rw [hg] at this; exact this)⟩
      have hpl2 := mtL_ok (Q := a.2) hm hP hv.1 hL (fun z hz => List.mem_append_right _ hz) (fun z hz => by
        obtain ⟨p, hp, rfl⟩ := List.mem_map.mp hz
        exact hpl p hp)
      refine ⟨_, hag, ⟨fun k e he => ?_, fun i hi => (hcell i (by rw [e8]; exact hi)).2.2, fun i hi => (hcell i (by rw [e8]; exact hi)).2.1, fun k e he => ?_⟩, ?_, ?_, hle⟩
      · by_cases hk : k < n.1
        · obtain ⟨p, q, g1, g2, g3, g4, g5⟩ := f3 k hk
          rw [g2] at he
          cases he
          have r1 := hv.1 k p g1
          have r2 := hv.2.2.2 k p g1
          show _ ≤ (if k < n.1 then _ else _ : Int32).toInt ∧ (if k < n.1 then _ else _ : Int32).toInt ≤ _ ∧ (if k < n.1 then _ else _ : Int32).toInt = (if _ < n.1 then _ else _ : Int32).toInt + _
          rw [if_pos hk, g5, if_pos (by omega)]
          exact ⟨by omega, by omega, r1.2.2⟩
        · have he' : ((wE u).drop n.1)[k - n.1]? = some e := by
            rw [List.getElem?_drop, show n.1 + (k - n.1) = k by omega]
            exact he
          obtain ⟨g1, g2, g3, g4⟩ := f4 _ _ he'
          have hbase : e.2.2.1 = k := by omega
          rw [hbase, g2]
          refine (fun q => ⟨q.1, q.2, (Int.add_zero _).symm⟩) (?_ : _ ∧ _)
          show e.1 ≤ (if k < n.1 then _ else _ : Int32).toInt ∧ (if k < n.1 then _ else _ : Int32).toInt ≤ e.2.1
          rw [if_neg hk]
          cases hp : pF (a.1 ++ b) (2 * k) with
          | none =>
            simp only []
            rw [List.getD_eq_getElem?_getD, he]
            show e.1 ≤ (Int32.ofInt e.1).toInt ∧ (Int32.ofInt e.1).toInt ≤ _
            rw [z_in g4]
            omega
          | some c =>
            simp only []
            have hpo : pOk (wE w) (wE u) (2 * k, c) := by
              rcases List.mem_append.mp (pF_mem hp) with q | q
              · exact mtH_p hH _ q
              · exact mtL_p hL _ q
            obtain ⟨e', p', q1, q2, q3, q4⟩ := hpo k rfl
            rw [he] at q1
            cases q1
            have := aBd_ok hv.1 q2
            simp only [] at this
            omega
      · by_cases hk : k < n.1
        · obtain ⟨p, q, g1, g2, g3, g4, g5⟩ := f3 k hk
          rw [g2] at he
          cases he
          rw [g5]
          exact hv.2.2.2 k p g1
        · have he' : ((wE u).drop n.1)[k - n.1]? = some e := by
            rw [List.getElem?_drop, show n.1 + (k - n.1) = k by omega]
            exact he
          have := (f4 _ _ he').1
          omega
      · unfold cW
        rw [← e8]
        apply List.map_congr_left
        intro i hi
        rw [(hcell i (List.mem_range.mp hi)).1]
        rfl
      · intro p hp
        obtain ⟨j, hj⟩ := List.mem_iff_getElem?.mp hp
        have q := congrArg (fun l => l[j]?) hpl2.1
        simp only [List.getElem?_map, hj, Option.map_some] at q
        exact ⟨Option.some.inj q, hpl2.2 _ (List.mem_map_of_mem (f := Prod.snd) hp)⟩
end MT
end
section
/-! States that lead to the goal -/
/-- a loop's head p, seen from a pass that v stands for: from every later pass the machine comes to its goal -/
def LH (k : kx_T) (x : ACx) (mn c : Nat) (dT : Nat → ClassId) (p : ALp) (v : VL) : Prop :=
  ∀ (hs : List AHv) (ct : Nat) (up : Bool) (kc : Nat), xLh x c mn p.1 = some (hs, ct, up) → lGet p.2.1 ct = some (aS kc) → ∀ u, okW (xB x) u p.2.2.1 → agr (fkw p.2.2.2 (wH p.2.2.1).1 (wX p.2.2.1)) v u →
    (if up = true then (vI v kc).toInt < (vI u kc).toInt else (vI u kc).toInt < (vI v kc).toInt) → WS k p.1 (cL u p.2.1) [] (cW u dT (xB x) (wH p.2.2.1)) 0 0
def LI (k : kx_T) (x : ACx) (mn c : Nat) (dT : Nat → ClassId) (w0 : AW) (W : AW) (v : VL) (p : ALp) : Prop :=
  wle (fkw p.2.2.2 (wH p.2.2.1).1 (wX p.2.2.1)) p.2.2.1 ∧ wle p.2.2.1 W ∧ scO p.2.2.1 p.2.1 ∧ p.2.1.length = kN k ∧ wle w0 (fkw p.2.2.2 (wH p.2.2.1).1 (wX p.2.2.1)) ∧ LH k x mn c dT p v
/-- what holds of a state and what its symbols stand for -/
def Inv (k : kx_T) (x : ACx) (mn c : Nat) (dT : Nat → ClassId) (w0 : AW) (v0 : VL) (s : AS) (v : VL) : Prop :=
  wle w0 (sW s) ∧ agr w0 v0 v ∧ okW (xB x) v (sW s) ∧ scO (sW s) (sLv s) ∧ scL (sW s) (sSt s) ∧ (sLv s).length = kN k ∧ ∀ p ∈ sLp s, LI k x mn c dT w0 (sW s) v p
def GS (k : kx_T) (x : ACx) (mn c : Nat) (dT : Nat → ClassId) (w0 : AW) (v0 : VL) (s : AS) : Prop :=
  ∀ v, Inv k x mn c dT w0 v0 s v → WS k (sPc s) (cL v (sLv s)) ((sSt s).map (cv v)) (cW v dT (xB x) (wH (sW s))) (sC s) (sS s)
section GD
variable {k : kx_T} {x : ACx} {mn c : Nat} {dT : Nat → ClassId} {w0 : AW} {v0 : VL} {s : AS} {v : VL}
theorem lGet_mem {l : List (Option AV)} {i : Nat} {a : AV} (h : lGet l i = some a) : l[i]? = some (some a) := by
  unfold lGet at h
  split at h
  · rename_i b hb
    cases h
    exact hb
  · cases h
theorem lGet_sc {w : AW} {l : List (Option AV)} (hs : scO w l) {i : Nat} {a : AV} (h : lGet l i = some a) : scV w a := hs a (List.mem_of_getElem? (lGet_mem h))
theorem LH_agr {p : ALp} {W : AW} {u : VL} (h1 : wle (fkw p.2.2.2 (wH p.2.2.1).1 (wX p.2.2.1)) p.2.2.1) (h2 : wle p.2.2.1 W) (h3 : scO p.2.2.1 p.2.1) (ha : agr W v u) (h : LH k x mn c dT p v) : LH k x mn c dT p u := by
  intro hs ct up kc e1 e2 z hz hag hr
  have hk : vI v kc = vI u kc := ha.1 kc (Nat.lt_of_lt_of_le (lGet_sc h3 e2) h2.1)
  refine h hs ct up kc e1 e2 z hz (agr_tr (agr_mono ha (wle_tr h1 h2)) hag) ?_
  rw [hk]
  exact hr
theorem LI_go {p : ALp} {W W' : AW} {u : VL} (ha : agr W v u) (hl : wle W W') (h : LI k x mn c dT w0 W v p) : LI k x mn c dT w0 W' u p :=
  ⟨h.1, wle_tr h.2.1 hl, h.2.2.1, h.2.2.2.1, h.2.2.2.2.1, LH_agr h.1 h.2.1 h.2.2.1 ha h.2.2.2.2.2⟩
/-- on to the next state -/
theorem Inv_go {s' : AS} {v' : VL} (I : Inv k x mn c dT w0 v0 s v) (hl : wle (sW s) (sW s')) (ha : agr (sW s) v v') (hw : okW (xB x) v' (sW s')) (hlv : scO (sW s') (sLv s')) (hst : scL (sW s') (sSt s')) (hn : (sLv s').length = kN k) (hlp : ∀ p ∈ sLp s', p ∈ sLp s) : Inv k x mn c dT w0 v0 s' v' :=
  ⟨wle_tr I.1 hl, agr_tr I.2.1 (agr_mono ha I.1), hw, hlv, hst, hn, fun p hp => LI_go ha hl (I.2.2.2.2.2.2 p (hlp p hp))⟩
/-- the same locals, the same cells, a new stack in a grown world -/
theorem gs_go {pc : Nat} {st : List AV} {w : AW} {v' : VL} {vs : List Value} (g : GS k x mn c dT w0 v0 (sGoW s pc st w)) (I : Inv k x mn c dT w0 v0 s v) (hl : wle (sW s) w) (hH : wH w = wH (sW s)) (ha : agr (sW s) v v') (hw : okW (xB x) v' w) (hst : scL w st) (e : st.map (cv v') = vs) :
    WS k pc (cL v (sLv s)) vs (cW v dT (xB x) (wH (sW s))) (sC s) (sS s) := by
  have h := g v' (Inv_go I hl ha hw (scO_mono hl I.2.2.2.1) hst I.2.2.2.2.2.1 (fun p hp => hp))
  have h : WS k pc (cL v' (sLv s)) (st.map (cv v')) (cW v' dT (xB x) (wH w)) (sC s) (sS s) := h
  rw [hH, ← cW_agr ha I.2.2.1.2.2.1, ← cL_agr ha I.2.2.2.1, e] at h
  exact h
theorem gs_same {pc : Nat} {st : List AV} (g : GS k x mn c dT w0 v0 (sGo s pc st)) (I : Inv k x mn c dT w0 v0 s v) (hst : scL (sW s) st) : WS k pc (cL v (sLv s)) (st.map (cv v)) (cW v dT (xB x) (wH (sW s))) (sC s) (sS s) :=
  g v (Inv_go I (wle_rf _) (agr_rf _ _) I.2.2.1 I.2.2.2.1 hst I.2.2.2.2.2.1 (fun p hp => hp))
/-- a fresh value on the stack -/
theorem gs_fr {pc : Nat} {r : List AV} {val : VL → Value} {q : AW × AV} (hF : Fr (xB x) (sW s) val q) (g : GS k x mn c dT w0 v0 (sGoW s pc (q.2 :: r) q.1)) (I : Inv k x mn c dT w0 v0 s v) (hr : scL (sW s) r) :
    WS k pc (cL v (sLv s)) (val v :: r.map (cv v)) (cW v dT (xB x) (wH (sW s))) (sC s) (sS s) := by
  obtain ⟨h1, h2, h3⟩ := hF
  obtain ⟨v', a, b, d, e⟩ := h3 v I.2.2.1
  refine gs_go g I h1 h2 a b (fun z hz => ?_) ?_
  · rcases List.mem_cons.mp hz with q | q
    · rw [q]; exact d
    · exact scV_mono h1 (hr z q)
  · rw [List.map_cons, e, ← cS_agr a hr]
theorem sc_tl {w : AW} {a : AV} {l : List AV} (h : scL w (a :: l)) : scL w l := fun z hz => h z (List.mem_cons_of_mem _ hz)
theorem sc_hd {w : AW} {a : AV} {l : List AV} (h : scL w (a :: l)) : scV w a := h a List.mem_cons_self
theorem sc_cons {w : AW} {a : AV} {l : List AV} (h : scV w a) (g : scL w l) : scL w (a :: l) := fun z hz => by
  rcases List.mem_cons.mp hz with q | q
  · rw [q]; exact h
  · exact g z q
/-- what a step owes -/
def SO (k : kx_T) (x : ACx) (mn c : Nat) (dT : Nat → ClassId) (w0 : AW) (v0 : VL) (Rs : List AR) (o : AO) : Prop := ∃ ss rs, o = some (ss, rs) ∧ (∀ t ∈ ss, GS k x mn c dT w0 v0 t) ∧ ∀ r ∈ rs, r ∈ Rs
theorem SO_one {Rs : List AR} {t : AS} (h : SO k x mn c dT w0 v0 Rs (oOne t)) : GS k x mn c dT w0 v0 t := by
  obtain ⟨ss, rs, e, h1, -⟩ := h
  cases e
  exact h1 t List.mem_cons_self
theorem SO_no {Rs : List AR} {P : Prop} (h : SO k x mn c dT w0 v0 Rs none) : P := by
  obtain ⟨ss, rs, e, -⟩ := h
  cases e
end GD
end
section
/-! Steps: constants, locals, numbers, stack, branches -/
section ST
variable {k : kx_T} {x : ACx} {mn c : Nat} {dT : Nat → ClassId} {w0 : AW} {v0 : VL} {s : AS} {v : VL} {Rs : List AR}
theorem w_ldc {pc : Nat} {lv : List (Nat × Value)} {st : List Value} {ws : va_W} {ce sl : Nat} (C : kx_ok k) {idx : Nat} {z : Int32} (hc : Cond.constant (kOwn k) idx z ∈ gT) (d : decode (kCc k) pc = .ok (.ldc idx, 2)) (h : WS k (pc + 2) lv (.int z :: st) ws ce sl) : WS k pc lv st ws ce sl :=
  fun H locs ls hP hD hS hl => lv_ldc C.1 C.2.1 C.2.2.2.1 (kx_wd C _ hc) d (h H locs ls hP hD hS hl)
theorem w_ldcw {pc : Nat} {lv : List (Nat × Value)} {st : List Value} {ws : va_W} {ce sl : Nat} (C : kx_ok k) {idx : Nat} {z : Int32} (hc : Cond.constant (kOwn k) idx z ∈ gT) (d : decode (kCc k) pc = .ok (.ldc_w idx, 3)) (h : WS k (pc + 3) lv (.int z :: st) ws ce sl) : WS k pc lv st ws ce sl :=
  fun H locs ls hP hD hS hl => lv_ldcw C.1 C.2.1 C.2.2.2.1 (kx_wd C _ hc) d (h H locs ls hP hD hS hl)
theorem w_ldc2 {pc : Nat} {lv : List (Nat × Value)} {st : List Value} {ws : va_W} {ce sl : Nat} (C : kx_ok k) {idx : Nat} {z : Int64} (hc : Cond.constantLong (kOwn k) idx z ∈ gT) (d : decode (kCc k) pc = .ok (.ldc2_w idx, 3)) (h : WS k (pc + 3) lv (.long z :: st) ws ce sl) : WS k pc lv st ws ce sl :=
  fun H locs ls hP hD hS hl => lv_ldc2 C.1 C.2.1 C.2.2.2.1 (kx_wd C _ hc) d (h H locs ls hP hD hS hl)
theorem psh_ok {len : Nat} {a : AV} (so : SO k x mn c dT w0 v0 Rs (oPsh s len a)) (I : Inv k x mn c dT w0 v0 s v) (ha : scV (sW s) a) : WS k (sPc s + len) (cL v (sLv s)) (cv v a :: (sSt s).map (cv v)) (cW v dT (xB x) (wH (sW s))) (sC s) (sS s) :=
  gs_same (SO_one so) I (sc_cons ha I.2.2.2.2.1)
theorem g_iconst (C : kx_ok k) {n : Int} (d : decode (kCc k) (sPc s) = .ok (.iconst n, 1)) (so : SO k x mn c dT w0 v0 Rs (oPsh s 1 (aI n))) : GS k x mn c dT w0 v0 s := fun _ I => w_iconst C d (psh_ok so I trivial)
theorem g_bipush (C : kx_ok k) {n z : Int} (hz : (Int8.ofInt n).toInt32 = Int32.ofInt z) (d : decode (kCc k) (sPc s) = .ok (.bipush n, 2)) (so : SO k x mn c dT w0 v0 Rs (oPsh s 2 (aI z))) : GS k x mn c dT w0 v0 s := fun _ I => w_bipush C d hz (psh_ok so I trivial)
theorem g_sipush (C : kx_ok k) {n z : Int} (hz : (Int16.ofInt n).toInt32 = Int32.ofInt z) (d : decode (kCc k) (sPc s) = .ok (.sipush n, 3)) (so : SO k x mn c dT w0 v0 Rs (oPsh s 3 (aI z))) : GS k x mn c dT w0 v0 s := fun _ I => w_sipush C d hz (psh_ok so I trivial)
theorem g_ldc (C : kx_ok k) {idx : Nat} {z : Int} (hc : Cond.constant (kOwn k) idx (Int32.ofInt z) ∈ gT) (d : decode (kCc k) (sPc s) = .ok (.ldc idx, 2)) (so : SO k x mn c dT w0 v0 Rs (oPsh s 2 (aI z))) : GS k x mn c dT w0 v0 s := fun _ I => w_ldc C hc d (psh_ok so I trivial)
theorem g_ldcw (C : kx_ok k) {idx : Nat} {z : Int} (hc : Cond.constant (kOwn k) idx (Int32.ofInt z) ∈ gT) (d : decode (kCc k) (sPc s) = .ok (.ldc_w idx, 3)) (so : SO k x mn c dT w0 v0 Rs (oPsh s 3 (aI z))) : GS k x mn c dT w0 v0 s := fun _ I => w_ldcw C hc d (psh_ok so I trivial)
theorem g_ldc2 (C : kx_ok k) {idx n : Nat} (hc : Cond.constantLong (kOwn k) idx (lN n) ∈ gT) (d : decode (kCc k) (sPc s) = .ok (.ldc2_w idx, 3)) (so : SO k x mn c dT w0 v0 Rs (oPsh s 3 (aJ n))) : GS k x mn c dT w0 v0 s := fun _ I => w_ldc2 C hc d (psh_ok so I trivial)
theorem g_lconst (C : kx_ok k) {n : Fin 2} (d : decode (kCc k) (sPc s) = .ok (.lconst n, 1)) (so : SO k x mn c dT w0 v0 Rs (oPsh s 1 (aJ (n : Nat)))) : GS k x mn c dT w0 v0 s := fun _ I => w_lconst C d rfl (psh_ok so I trivial)
/-- loads -/
theorem ldv_ok {len i : Nat} {p : AV → Bool} (so : SO k x mn c dT w0 v0 Rs (oLdv s len i p)) (I : Inv k x mn c dT w0 v0 s v) : ∃ a, p a = true ∧ (i, cv v a) ∈ cL v (sLv s) ∧ WS k (sPc s + len) (cL v (sLv s)) (cv v a :: (sSt s).map (cv v)) (cW v dT (xB x) (wH (sW s))) (sC s) (sS s) := by
  unfold oLdv at so
  cases hg : lGet (sLv s) i with
  | none => rw [hg] at so; exact SO_no so
  | some a =>
    rw [hg] at so
    simp only [] at so
    by_cases hp : p a = true
    · rw [if_pos hp] at so
      refine ⟨a, hp, cL_mem.mpr ⟨a, lGet_mem hg, rfl⟩, ?_⟩
      have := gs_same (SO_one so) I (sc_cons (aNm_sc (lGet_sc I.2.2.2.1 hg)) I.2.2.2.2.1)
      rw [List.map_cons, aNm_cv I.2.2.1.1] at this
      exact this
    · rw [if_neg hp] at so
      exact SO_no so
theorem isRef0_cv {a : AV} (h : isRef0 a = true) : ∃ q, cv v a = .ref q := by
  rcases a with z | k | n | k | r | k
  · cases h
  · cases h
  · cases h
  · cases h
  · cases r with
    | none => cases h
    | some i => exact ⟨_, rfl⟩
  · exact ⟨_, rfl⟩
theorem g_iload_n (C : kx_ok k) {i : Fin 4} (d : decode (kCc k) (sPc s) = .ok (.iload_n i, 1)) (so : SO k x mn c dT w0 v0 Rs (oLdv s 1 i aIsI)) : GS k x mn c dT w0 v0 s := fun v I => by
  obtain ⟨a, h1, h2, h3⟩ := ldv_ok so I
  rw [cv_int h1] at h2 h3
  exact w_iload_n C d h2 h3
theorem g_iload (C : kx_ok k) {i : Nat} (d : decode (kCc k) (sPc s) = .ok (.iload i, 2)) (so : SO k x mn c dT w0 v0 Rs (oLdv s 2 i aIsI)) : GS k x mn c dT w0 v0 s := fun v I => by
  obtain ⟨a, h1, h2, h3⟩ := ldv_ok so I
  rw [cv_int h1] at h2 h3
  exact w_iload C d h2 h3
theorem g_lload_n (C : kx_ok k) {i : Fin 4} (d : decode (kCc k) (sPc s) = .ok (.lload_n i, 1)) (so : SO k x mn c dT w0 v0 Rs (oLdv s 1 i aIsL)) : GS k x mn c dT w0 v0 s := fun v I => by
  obtain ⟨a, h1, h2, h3⟩ := ldv_ok so I
  rw [cv_long h1] at h2 h3
  exact w_lload_n C d h2 h3
theorem g_lload (C : kx_ok k) {i : Nat} (d : decode (kCc k) (sPc s) = .ok (.lload i, 2)) (so : SO k x mn c dT w0 v0 Rs (oLdv s 2 i aIsL)) : GS k x mn c dT w0 v0 s := fun v I => by
  obtain ⟨a, h1, h2, h3⟩ := ldv_ok so I
  rw [cv_long h1] at h2 h3
  exact w_lload C d h2 h3
theorem g_aload_n (C : kx_ok k) {i : Fin 4} (d : decode (kCc k) (sPc s) = .ok (.aload_n i, 1)) (so : SO k x mn c dT w0 v0 Rs (oLdv s 1 i isRef0)) : GS k x mn c dT w0 v0 s := fun v I => by
  obtain ⟨a, h1, h2, h3⟩ := ldv_ok so I
  obtain ⟨q, hq⟩ := isRef0_cv (v := v) h1
  rw [hq] at h2 h3
  exact w_aload_n C d h2 h3
theorem g_aload (C : kx_ok k) {i : Nat} (d : decode (kCc k) (sPc s) = .ok (.aload i, 2)) (so : SO k x mn c dT w0 v0 Rs (oLdv s 2 i isRef0)) : GS k x mn c dT w0 v0 s := fun v I => by
  obtain ⟨a, h1, h2, h3⟩ := ldv_ok so I
  obtain ⟨q, hq⟩ := isRef0_cv (v := v) h1
  rw [hq] at h2 h3
  exact w_aload C d h2 h3
/-- stores -/
theorem lPrev_s (l : List (Option AV)) (i : Nat) : lPrev l (i + 1) = match l[i]? with
    | some (some a) => if Nat.beq (aCat a) 2 then l.set i none else l
    | _ => l := rfl
theorem lPrev_len (l : List (Option AV)) (i : Nat) : (lPrev l i).length = l.length := by
  cases i with
  | zero => rfl
  | succ i =>
    rw [lPrev_s]
    split
    · split
      · exact List.length_set
      · rfl
    · rfl
theorem lSet_len (l : List (Option AV)) (i : Nat) (a : AV) : (lSet l i a).length = l.length := by
  unfold lSet
  simp only []
  split
  · rw [List.length_set, List.length_set, lPrev_len]
  · rw [List.length_set, lPrev_len]
theorem lPrev_get {l : List (Option AV)} {i j : Nat} {b : AV} (h : (lPrev l i)[j]? = some (some b)) : l[j]? = some (some b) ∧ ¬ (j + 1 = i ∧ aCat b = 2) := by
  cases i with
  | zero => exact ⟨h, fun q => by omega⟩
  | succ i =>
    rw [lPrev_s] at h
    split at h
    · rename_i a ha
      split at h
      · rw [List.getElem?_set] at h
        by_cases e : i = j
        · subst e
          rw [if_pos rfl] at h
          split at h <;> cases h
        · rw [if_neg e] at h
          exact ⟨h, fun q => by omega⟩
      · rename_i hc
        refine ⟨h, fun q => ?_⟩
        have e : j = i := by omega
        subst e
        rw [ha] at h
        cases h
        rw [q.2] at hc
        exact hc rfl
    · rename_i hno
      refine ⟨h, fun q => ?_⟩
      have e : j = i := by omega
      subst e
      exact hno b h
theorem lSet_get {l : List (Option AV)} {i j : Nat} {a b : AV} (h : (lSet l i a)[j]? = some (some b)) : (j = i ∧ b = a) ∨ (j ≠ i ∧ (aCat a = 2 → j ≠ i + 1) ∧ l[j]? = some (some b) ∧ ¬ (j + 1 = i ∧ aCat b = 2)) := by
  unfold lSet at h
  simp only [] at h
  have base : ∀ {b : AV}, ((lPrev l i).set i (some a))[j]? = some (some b) → (j = i ∧ b = a) ∨ (j ≠ i ∧ l[j]? = some (some b) ∧ ¬ (j + 1 = i ∧ aCat b = 2)) := by
    intro b h
    rw [List.getElem?_set] at h
    by_cases e : i = j
    · subst e
      rw [if_pos rfl] at h
      split at h
      · cases h
        exact Or.inl ⟨rfl, rfl⟩
      · cases h
    · rw [if_neg e] at h
      exact Or.inr ⟨Ne.symm e, lPrev_get h⟩
  split at h
  · rw [List.getElem?_set] at h
    by_cases e : i + 1 = j
    · rw [if_pos e] at h
      split at h <;> cases h
    · rw [if_neg e] at h
      rcases base h with q | q
      · exact Or.inl q
      · exact Or.inr ⟨q.1, fun _ => Ne.symm e, q.2⟩
  · rename_i hc
    rcases base h with q | q
    · exact Or.inl q
    · exact Or.inr ⟨q.1, fun h2 => absurd (by rw [h2]; rfl) hc, q.2⟩
theorem lSet_sc {w : AW} {l : List (Option AV)} {i : Nat} {a : AV} (hl : scO w l) (ha : scV w a) : scO w (lSet l i a) := by
  intro b hb
  obtain ⟨j, hj⟩ := List.mem_iff_getElem?.mp hb
  rcases lSet_get hj with q | q
  · rw [q.2]; exact ha
  · exact hl b (List.mem_of_getElem? q.2.2.1)
theorem lSet_but {l : List (Option AV)} {i : Nat} {a : AV} : ∀ q ∈ cL v (lSet l i a), q ∈ (i, cv v a) :: lv_but i (cL v l) := by
  rintro ⟨j, y⟩ hq
  obtain ⟨b, hb, rfl⟩ := cL_mem.mp hq
  rcases lSet_get hb with g | g
  · rw [g.1, g.2]; exact List.mem_cons_self
  · refine List.mem_cons_of_mem _ (List.mem_filter.mpr ⟨cL_mem.mpr ⟨b, g.2.2.1, rfl⟩, ?_⟩)
    simp only [cv_cat, Bool.and_eq_true, Bool.not_eq_true', beq_eq_false_iff_ne, Bool.and_eq_false_iff]
    refine ⟨g.1, ?_⟩
    by_cases e : j + 1 = i
    · exact Or.inr (fun q => g.2.2.2 ⟨e, q⟩)
    · exact Or.inl e
theorem lSet_but2 {l : List (Option AV)} {i : Nat} {a : AV} (ha : aCat a = 2) : ∀ q ∈ cL v (lSet l i a), q ∈ (i, cv v a) :: lv_but2 i (cL v l) := by
  rintro ⟨j, y⟩ hq
  obtain ⟨b, hb, rfl⟩ := cL_mem.mp hq
  rcases lSet_get hb with g | g
  · rw [g.1, g.2]; exact List.mem_cons_self
  · refine List.mem_cons_of_mem _ (List.mem_filter.mpr ⟨cL_mem.mpr ⟨b, g.2.2.1, rfl⟩, ?_⟩)
    simp only [cv_cat, Bool.and_eq_true, Bool.not_eq_true', beq_eq_false_iff_ne, Bool.and_eq_false_iff]
    refine ⟨g.1, g.2.1 ha, ?_⟩
    by_cases e : j + 1 = i
    · exact Or.inr (fun q => g.2.2.2 ⟨e, q⟩)
    · exact Or.inl e
theorem stv_ok {len i : Nat} {p : AV → Bool} (so : SO k x mn c dT w0 v0 Rs (oStv s len i p)) (I : Inv k x mn c dT w0 v0 s v) : ∃ a r, sSt s = a :: r ∧ p a = true ∧ i + (if aCat a = 2 then 1 else 0) < kN k ∧ WS k (sPc s + len) (cL v (lSet (sLv s) i a)) (r.map (cv v)) (cW v dT (xB x) (wH (sW s))) (sC s) (sS s) := by
  obtain ⟨pc, lv, st, w, lp, ce, sl⟩ := s
  cases st with
  | nil => exact SO_no so
  | cons a r =>
    replace so : SO k x mn c dT w0 v0 Rs (if (p a && Nat.blt (i + (if Nat.beq (aCat a) 2 then 1 else 0)) lv.length) = true then some ([(pc + len, lSet lv i a, r, w, lp, ce, sl)], []) else none) := so
    by_cases hc : (p a && Nat.blt (i + (if Nat.beq (aCat a) 2 then 1 else 0)) lv.length) = true
    · rw [if_pos hc] at so
      simp only [Bool.and_eq_true] at hc
      obtain ⟨h1, h2⟩ := hc
      have h2 := Nat.blt_eq.mp h2
      have hn : lv.length = kN k := I.2.2.2.2.2.1
      refine ⟨a, r, rfl, h1, ?_, ?_⟩
      · rw [← hn]
        by_cases e : aCat a = 2
        · rw [if_pos e]
          rw [e] at h2
          exact h2
        · rw [if_neg e]
          exact Nat.lt_of_le_of_lt (Nat.le_add_right _ _) h2
      · exact SO_one (t := (pc + len, lSet lv i a, r, w, lp, ce, sl)) so v (Inv_go (s := (pc, lv, a :: r, w, lp, ce, sl)) I (wle_rf _) (agr_rf _ _) I.2.2.1 (lSet_sc I.2.2.2.1 (sc_hd I.2.2.2.2.1)) (sc_tl I.2.2.2.2.1) ((lSet_len _ _ _).trans hn) (fun _ h => h))
    · rw [if_neg hc] at so
      exact SO_no so
theorem catI {a : AV} (h : aIsI a = true) : aCat a = 1 := by
  rcases a with z | k | n | k | r | k
  · rfl
  · rfl
  all_goals cases h
theorem catL {a : AV} (h : aIsL a = true) : aCat a = 2 := by
  rcases a with z | k | n | k | r | k
  · cases h
  · cases h
  · rfl
  · rfl
  · cases h
  · cases h
theorem catR {a : AV} (h : isRef0 a = true) : aCat a = 1 := by
  rcases a with z | k | n | k | r | k
  · rfl
  · rfl
  · cases h
  · cases h
  · rfl
  · rfl
theorem g_istore_n (C : kx_ok k) {i : Fin 4} (d : decode (kCc k) (sPc s) = .ok (.istore_n i, 1)) (so : SO k x mn c dT w0 v0 Rs (oStv s 1 i aIsI)) : GS k x mn c dT w0 v0 s := fun v I => by
  obtain ⟨a, r, h1, h2, h3, h4⟩ := stv_ok so I
  rw [h1, List.map_cons, cv_int h2]
  rw [catI h2] at h3
  exact w_istore_n C d h3 (by rw [← cv_int h2]; exact lSet_but) h4
theorem g_istore (C : kx_ok k) {i : Nat} (d : decode (kCc k) (sPc s) = .ok (.istore i, 2)) (so : SO k x mn c dT w0 v0 Rs (oStv s 2 i aIsI)) : GS k x mn c dT w0 v0 s := fun v I => by
  obtain ⟨a, r, h1, h2, h3, h4⟩ := stv_ok so I
  rw [h1, List.map_cons, cv_int h2]
  rw [catI h2] at h3
  exact w_istore C d h3 (by rw [← cv_int h2]; exact lSet_but) h4
theorem g_lstore_n (C : kx_ok k) {i : Fin 4} (d : decode (kCc k) (sPc s) = .ok (.lstore_n i, 1)) (so : SO k x mn c dT w0 v0 Rs (oStv s 1 i aIsL)) : GS k x mn c dT w0 v0 s := fun v I => by
  obtain ⟨a, r, h1, h2, h3, h4⟩ := stv_ok so I
  rw [h1, List.map_cons, cv_long h2]
  rw [catL h2] at h3
  exact w_lstore_n C d h3 (by rw [← cv_long h2]; exact lSet_but2 (catL h2)) h4
theorem g_lstore (C : kx_ok k) {i : Nat} (d : decode (kCc k) (sPc s) = .ok (.lstore i, 2)) (so : SO k x mn c dT w0 v0 Rs (oStv s 2 i aIsL)) : GS k x mn c dT w0 v0 s := fun v I => by
  obtain ⟨a, r, h1, h2, h3, h4⟩ := stv_ok so I
  rw [h1, List.map_cons, cv_long h2]
  rw [catL h2] at h3
  exact w_lstore C d h3 (by rw [← cv_long h2]; exact lSet_but2 (catL h2)) h4
theorem g_astore_n (C : kx_ok k) {i : Fin 4} (d : decode (kCc k) (sPc s) = .ok (.astore_n i, 1)) (so : SO k x mn c dT w0 v0 Rs (oStv s 1 i isRef0)) : GS k x mn c dT w0 v0 s := fun v I => by
  obtain ⟨a, r, h1, h2, h3, h4⟩ := stv_ok so I
  obtain ⟨q, hq⟩ := isRef0_cv (v := v) h2
  rw [h1, List.map_cons, hq]
  rw [catR h2] at h3
  exact w_astore_n C d h3 (by rw [← hq]; exact lSet_but) h4
theorem g_astore (C : kx_ok k) {i : Nat} (d : decode (kCc k) (sPc s) = .ok (.astore i, 2)) (so : SO k x mn c dT w0 v0 Rs (oStv s 2 i isRef0)) : GS k x mn c dT w0 v0 s := fun v I => by
  obtain ⟨a, r, h1, h2, h3, h4⟩ := stv_ok so I
  obtain ⟨q, hq⟩ := isRef0_cv (v := v) h2
  rw [h1, List.map_cons, hq]
  rw [catR h2] at h3
  exact w_astore C d h3 (by rw [← hq]; exact lSet_but) h4
end ST
end
