section
-- ===== PART A: goes FIRST, ahead of the names: the tables' words, and 'selects' of the private methods out of them =====
/-- a private method of a class that the tables say can be made, by its rows of tables_1 -/
def lw_okq (q : MethodName × Nat) : Prop := (q.1.cls ≠ "java/lang/invoke/MethodHandle" ∧ q.1.cls ≠ "java/lang/invoke/VarHandle") ∧ Cond.instantiable q.1.cls q.2 ∈ tables_1 ∧ Cond.privateMethod q.1 ∈ tables_1 ∧ Cond.instanceMethod q.1 ∈ tables_1
theorem lw_p0 : lw_okq (⟨"SkyCuts$Text", "take", "(I)V"⟩, 10) := ⟨⟨by decide +kernel, by decide +kernel⟩, List.mem_of_getElem? (i := 38) (by decide +kernel), List.mem_of_getElem? (i := 648) (by decide +kernel), List.mem_of_getElem? (i := 649) (by decide +kernel)⟩
theorem lw_p1 : lw_okq (⟨"SkyCuts$Mover", "isWhole", "(I)Z"⟩, 10) := ⟨⟨by decide +kernel, by decide +kernel⟩, List.mem_of_getElem? (i := 317) (by decide +kernel), List.mem_of_getElem? (i := 668) (by decide +kernel), List.mem_of_getElem? (i := 669) (by decide +kernel)⟩
theorem lw_p2 : lw_okq (⟨"SkyCuts$Ear", "followSteps", "(IJJ)V"⟩, 14) := ⟨⟨by decide +kernel, by decide +kernel⟩, List.mem_of_getElem? (i := 263) (by decide +kernel), List.mem_of_getElem? (i := 696) (by decide +kernel), List.mem_of_getElem? (i := 697) (by decide +kernel)⟩
theorem lw_p3 : lw_okq (⟨"SkyCuts$Rules", "beginOf", "(I)I"⟩, 14) := ⟨⟨by decide +kernel, by decide +kernel⟩, List.mem_of_getElem? (i := 164) (by decide +kernel), List.mem_of_getElem? (i := 719) (by decide +kernel), List.mem_of_getElem? (i := 720) (by decide +kernel)⟩
theorem lw_p4 : lw_okq (⟨"SkyCuts$Mover", "weigh", "(I)Z"⟩, 10) := ⟨⟨by decide +kernel, by decide +kernel⟩, List.mem_of_getElem? (i := 317) (by decide +kernel), List.mem_of_getElem? (i := 735) (by decide +kernel), List.mem_of_getElem? (i := 736) (by decide +kernel)⟩
theorem lw_p5 : lw_okq (⟨"java/lang/Throwable", "fillInStackTrace", "(I)Ljava/lang/Throwable;"⟩, 6) := ⟨⟨by decide +kernel, by decide +kernel⟩, List.mem_of_getElem? (i := 845) (by decide +kernel), List.mem_of_getElem? (i := 843) (by decide +kernel), List.mem_of_getElem? (i := 844) (by decide +kernel)⟩
theorem lw_p6 : lw_okq (⟨"SkyCuts$Text", "kindOf", "(I)I"⟩, 10) := ⟨⟨by decide +kernel, by decide +kernel⟩, List.mem_of_getElem? (i := 38) (by decide +kernel), List.mem_of_getElem? (i := 883) (by decide +kernel), List.mem_of_getElem? (i := 884) (by decide +kernel)⟩
theorem lw_p7 : lw_okq (⟨"SkyCuts$Streams", "readMove", "(LSkyCuts$Text;)Z"⟩, 18) := ⟨⟨by decide +kernel, by decide +kernel⟩, List.mem_of_getElem? (i := 84) (by decide +kernel), List.mem_of_getElem? (i := 902) (by decide +kernel), List.mem_of_getElem? (i := 903) (by decide +kernel)⟩
theorem lw_p8 : lw_okq (⟨"SkyCuts$Streams", "lengthen", "(I)I"⟩, 18) := ⟨⟨by decide +kernel, by decide +kernel⟩, List.mem_of_getElem? (i := 84) (by decide +kernel), List.mem_of_getElem? (i := 909) (by decide +kernel), List.mem_of_getElem? (i := 910) (by decide +kernel)⟩
theorem lw_p9 : lw_okq (⟨"SkyCuts$Streams", "wipe", "(I)V"⟩, 18) := ⟨⟨by decide +kernel, by decide +kernel⟩, List.mem_of_getElem? (i := 84) (by decide +kernel), List.mem_of_getElem? (i := 926) (by decide +kernel), List.mem_of_getElem? (i := 927) (by decide +kernel)⟩
theorem lw_p10 : lw_okq (⟨"SkyCuts$Streams", "setStep", "(III)V"⟩, 18) := ⟨⟨by decide +kernel, by decide +kernel⟩, List.mem_of_getElem? (i := 84) (by decide +kernel), List.mem_of_getElem? (i := 934) (by decide +kernel), List.mem_of_getElem? (i := 935) (by decide +kernel)⟩
theorem lw_p11 : lw_okq (⟨"SkyCuts$Streams", "meetsOf", "(III)J"⟩, 18) := ⟨⟨by decide +kernel, by decide +kernel⟩, List.mem_of_getElem? (i := 84) (by decide +kernel), List.mem_of_getElem? (i := 942) (by decide +kernel), List.mem_of_getElem? (i := 943) (by decide +kernel)⟩
theorem lw_p12 : lw_okq (⟨"SkyCuts$Rules", "adopt", "(I)V"⟩, 14) := ⟨⟨by decide +kernel, by decide +kernel⟩, List.mem_of_getElem? (i := 164) (by decide +kernel), List.mem_of_getElem? (i := 958) (by decide +kernel), List.mem_of_getElem? (i := 959) (by decide +kernel)⟩
theorem lw_p13 : lw_okq (⟨"SkyCuts$Rules", "readClause", "(I)Z"⟩, 14) := ⟨⟨by decide +kernel, by decide +kernel⟩, List.mem_of_getElem? (i := 164) (by decide +kernel), List.mem_of_getElem? (i := 962) (by decide +kernel), List.mem_of_getElem? (i := 963) (by decide +kernel)⟩
theorem lw_p14 : lw_okq (⟨"SkyCuts$Rules", "readSum", "()Z"⟩, 14) := ⟨⟨by decide +kernel, by decide +kernel⟩, List.mem_of_getElem? (i := 164) (by decide +kernel), List.mem_of_getElem? (i := 1022) (by decide +kernel), List.mem_of_getElem? (i := 1023) (by decide +kernel)⟩
theorem lw_p15 : lw_okq (⟨"SkyCuts$Rules", "readProduct", "()Z"⟩, 14) := ⟨⟨by decide +kernel, by decide +kernel⟩, List.mem_of_getElem? (i := 164) (by decide +kernel), List.mem_of_getElem? (i := 1026) (by decide +kernel), List.mem_of_getElem? (i := 1027) (by decide +kernel)⟩
def lw_privs_1 : List (MethodName × Nat) := [(⟨"SkyCuts$Text", "take", "(I)V"⟩, 10), (⟨"SkyCuts$Mover", "isWhole", "(I)Z"⟩, 10), (⟨"SkyCuts$Ear", "followSteps", "(IJJ)V"⟩, 14), (⟨"SkyCuts$Rules", "beginOf", "(I)I"⟩, 14), (⟨"SkyCuts$Mover", "weigh", "(I)Z"⟩, 10), (⟨"java/lang/Throwable", "fillInStackTrace", "(I)Ljava/lang/Throwable;"⟩, 6), (⟨"SkyCuts$Text", "kindOf", "(I)I"⟩, 10), (⟨"SkyCuts$Streams", "readMove", "(LSkyCuts$Text;)Z"⟩, 18), (⟨"SkyCuts$Streams", "lengthen", "(I)I"⟩, 18), (⟨"SkyCuts$Streams", "wipe", "(I)V"⟩, 18), (⟨"SkyCuts$Streams", "setStep", "(III)V"⟩, 18), (⟨"SkyCuts$Streams", "meetsOf", "(III)J"⟩, 18), (⟨"SkyCuts$Rules", "adopt", "(I)V"⟩, 14), (⟨"SkyCuts$Rules", "readClause", "(I)Z"⟩, 14), (⟨"SkyCuts$Rules", "readSum", "()Z"⟩, 14), (⟨"SkyCuts$Rules", "readProduct", "()Z"⟩, 14)]
theorem lw_r1 : ∀ q ∈ lw_privs_1, lw_okq q := List.forall_mem_cons.mpr ⟨lw_p0, List.forall_mem_cons.mpr ⟨lw_p1, List.forall_mem_cons.mpr ⟨lw_p2, List.forall_mem_cons.mpr ⟨lw_p3, List.forall_mem_cons.mpr ⟨lw_p4, List.forall_mem_cons.mpr ⟨lw_p5, List.forall_mem_cons.mpr ⟨lw_p6, List.forall_mem_cons.mpr ⟨lw_p7, List.forall_mem_cons.mpr ⟨lw_p8, List.forall_mem_cons.mpr ⟨lw_p9, List.forall_mem_cons.mpr ⟨lw_p10, List.forall_mem_cons.mpr ⟨lw_p11, List.forall_mem_cons.mpr ⟨lw_p12, List.forall_mem_cons.mpr ⟨lw_p13, List.forall_mem_cons.mpr ⟨lw_p14, List.forall_mem_cons.mpr ⟨lw_p15, fun _ h => absurd h List.not_mem_nil⟩⟩⟩⟩⟩⟩⟩⟩⟩⟩⟩⟩⟩⟩⟩⟩
theorem lw_p16 : lw_okq (⟨"SkyCuts$Rules", "readUnit", "()Z"⟩, 14) := ⟨⟨by decide +kernel, by decide +kernel⟩, List.mem_of_getElem? (i := 164) (by decide +kernel), List.mem_of_getElem? (i := 1030) (by decide +kernel), List.mem_of_getElem? (i := 1031) (by decide +kernel)⟩
theorem lw_p17 : lw_okq (⟨"SkyCuts$Rules", "put", "(I)V"⟩, 14) := ⟨⟨by decide +kernel, by decide +kernel⟩, List.mem_of_getElem? (i := 164) (by decide +kernel), List.mem_of_getElem? (i := 1034) (by decide +kernel), List.mem_of_getElem? (i := 1035) (by decide +kernel)⟩
theorem lw_p18 : lw_okq (⟨"SkyCuts$Rules", "enter", "()Z"⟩, 14) := ⟨⟨by decide +kernel, by decide +kernel⟩, List.mem_of_getElem? (i := 164) (by decide +kernel), List.mem_of_getElem? (i := 1038) (by decide +kernel), List.mem_of_getElem? (i := 1039) (by decide +kernel)⟩
theorem lw_p19 : lw_okq (⟨"SkyCuts$Rules", "pass", "(I)Z"⟩, 14) := ⟨⟨by decide +kernel, by decide +kernel⟩, List.mem_of_getElem? (i := 164) (by decide +kernel), List.mem_of_getElem? (i := 1042) (by decide +kernel), List.mem_of_getElem? (i := 1043) (by decide +kernel)⟩
theorem lw_p20 : lw_okq (⟨"SkyCuts$Rules", "readOfTwo", "(I)Z"⟩, 14) := ⟨⟨by decide +kernel, by decide +kernel⟩, List.mem_of_getElem? (i := 164) (by decide +kernel), List.mem_of_getElem? (i := 1048) (by decide +kernel), List.mem_of_getElem? (i := 1049) (by decide +kernel)⟩
theorem lw_p21 : lw_okq (⟨"SkyCuts$Rules", "codeOfName", "()I"⟩, 14) := ⟨⟨by decide +kernel, by decide +kernel⟩, List.mem_of_getElem? (i := 164) (by decide +kernel), List.mem_of_getElem? (i := 1052) (by decide +kernel), List.mem_of_getElem? (i := 1053) (by decide +kernel)⟩
theorem lw_p22 : lw_okq (⟨"SkyCuts$Rules", "readEither", "()Z"⟩, 14) := ⟨⟨by decide +kernel, by decide +kernel⟩, List.mem_of_getElem? (i := 164) (by decide +kernel), List.mem_of_getElem? (i := 1063) (by decide +kernel), List.mem_of_getElem? (i := 1064) (by decide +kernel)⟩
theorem lw_p23 : lw_okq (⟨"SkyCuts$Rules", "readBoth", "()Z"⟩, 14) := ⟨⟨by decide +kernel, by decide +kernel⟩, List.mem_of_getElem? (i := 164) (by decide +kernel), List.mem_of_getElem? (i := 1067) (by decide +kernel), List.mem_of_getElem? (i := 1068) (by decide +kernel)⟩
theorem lw_p24 : lw_okq (⟨"SkyCuts$Rules", "readTest", "()Z"⟩, 14) := ⟨⟨by decide +kernel, by decide +kernel⟩, List.mem_of_getElem? (i := 164) (by decide +kernel), List.mem_of_getElem? (i := 1071) (by decide +kernel), List.mem_of_getElem? (i := 1072) (by decide +kernel)⟩
theorem lw_p25 : lw_okq (⟨"SkyCuts", "needStream", "(I)V"⟩, 11) := ⟨⟨by decide +kernel, by decide +kernel⟩, List.mem_of_getElem? (i := 30) (by decide +kernel), List.mem_of_getElem? (i := 1086) (by decide +kernel), List.mem_of_getElem? (i := 1087) (by decide +kernel)⟩
theorem lw_p26 : lw_okq (⟨"SkyCuts", "needQuarter", "(I)V"⟩, 11) := ⟨⟨by decide +kernel, by decide +kernel⟩, List.mem_of_getElem? (i := 30) (by decide +kernel), List.mem_of_getElem? (i := 1117) (by decide +kernel), List.mem_of_getElem? (i := 1118) (by decide +kernel)⟩
theorem lw_p27 : lw_okq (⟨"SkyCuts", "needWithin", "(III)V"⟩, 11) := ⟨⟨by decide +kernel, by decide +kernel⟩, List.mem_of_getElem? (i := 30) (by decide +kernel), List.mem_of_getElem? (i := 1121) (by decide +kernel), List.mem_of_getElem? (i := 1122) (by decide +kernel)⟩
theorem lw_p28 : lw_okq (⟨"SkyCuts$Streams", "retell", "(I)V"⟩, 18) := ⟨⟨by decide +kernel, by decide +kernel⟩, List.mem_of_getElem? (i := 84) (by decide +kernel), List.mem_of_getElem? (i := 1131) (by decide +kernel), List.mem_of_getElem? (i := 1132) (by decide +kernel)⟩
theorem lw_p29 : lw_okq (⟨"SkyCuts$Streams", "mostIn", "(II)I"⟩, 18) := ⟨⟨by decide +kernel, by decide +kernel⟩, List.mem_of_getElem? (i := 84) (by decide +kernel), List.mem_of_getElem? (i := 1135) (by decide +kernel), List.mem_of_getElem? (i := 1136) (by decide +kernel)⟩
theorem lw_p30 : lw_okq (⟨"SkyCuts$Streams", "twinOf", "(I)I"⟩, 18) := ⟨⟨by decide +kernel, by decide +kernel⟩, List.mem_of_getElem? (i := 84) (by decide +kernel), List.mem_of_getElem? (i := 1140) (by decide +kernel), List.mem_of_getElem? (i := 1141) (by decide +kernel)⟩
theorem lw_p31 : lw_okq (⟨"SkyCuts", "needCell", "(I)V"⟩, 11) := ⟨⟨by decide +kernel, by decide +kernel⟩, List.mem_of_getElem? (i := 30) (by decide +kernel), List.mem_of_getElem? (i := 1170) (by decide +kernel), List.mem_of_getElem? (i := 1171) (by decide +kernel)⟩
def lw_privs_2 : List (MethodName × Nat) := [(⟨"SkyCuts$Rules", "readUnit", "()Z"⟩, 14), (⟨"SkyCuts$Rules", "put", "(I)V"⟩, 14), (⟨"SkyCuts$Rules", "enter", "()Z"⟩, 14), (⟨"SkyCuts$Rules", "pass", "(I)Z"⟩, 14), (⟨"SkyCuts$Rules", "readOfTwo", "(I)Z"⟩, 14), (⟨"SkyCuts$Rules", "codeOfName", "()I"⟩, 14), (⟨"SkyCuts$Rules", "readEither", "()Z"⟩, 14), (⟨"SkyCuts$Rules", "readBoth", "()Z"⟩, 14), (⟨"SkyCuts$Rules", "readTest", "()Z"⟩, 14), (⟨"SkyCuts", "needStream", "(I)V"⟩, 11), (⟨"SkyCuts", "needQuarter", "(I)V"⟩, 11), (⟨"SkyCuts", "needWithin", "(III)V"⟩, 11), (⟨"SkyCuts$Streams", "retell", "(I)V"⟩, 18), (⟨"SkyCuts$Streams", "mostIn", "(II)I"⟩, 18), (⟨"SkyCuts$Streams", "twinOf", "(I)I"⟩, 18), (⟨"SkyCuts", "needCell", "(I)V"⟩, 11)]
theorem lw_r2 : ∀ q ∈ lw_privs_2, lw_okq q := List.forall_mem_cons.mpr ⟨lw_p16, List.forall_mem_cons.mpr ⟨lw_p17, List.forall_mem_cons.mpr ⟨lw_p18, List.forall_mem_cons.mpr ⟨lw_p19, List.forall_mem_cons.mpr ⟨lw_p20, List.forall_mem_cons.mpr ⟨lw_p21, List.forall_mem_cons.mpr ⟨lw_p22, List.forall_mem_cons.mpr ⟨lw_p23, List.forall_mem_cons.mpr ⟨lw_p24, List.forall_mem_cons.mpr ⟨lw_p25, List.forall_mem_cons.mpr ⟨lw_p26, List.forall_mem_cons.mpr ⟨lw_p27, List.forall_mem_cons.mpr ⟨lw_p28, List.forall_mem_cons.mpr ⟨lw_p29, List.forall_mem_cons.mpr ⟨lw_p30, List.forall_mem_cons.mpr ⟨lw_p31, fun _ h => absurd h List.not_mem_nil⟩⟩⟩⟩⟩⟩⟩⟩⟩⟩⟩⟩⟩⟩⟩⟩
theorem lw_p32 : lw_okq (⟨"SkyCuts", "needPiece", "(I)V"⟩, 11) := ⟨⟨by decide +kernel, by decide +kernel⟩, List.mem_of_getElem? (i := 30) (by decide +kernel), List.mem_of_getElem? (i := 1210) (by decide +kernel), List.mem_of_getElem? (i := 1211) (by decide +kernel)⟩
theorem lw_p33 : lw_okq (⟨"SkyCuts", "listenTo", "(I)V"⟩, 11) := ⟨⟨by decide +kernel, by decide +kernel⟩, List.mem_of_getElem? (i := 30) (by decide +kernel), List.mem_of_getElem? (i := 1221) (by decide +kernel), List.mem_of_getElem? (i := 1222) (by decide +kernel)⟩
theorem lw_p34 : lw_okq (⟨"SkyCuts$Streams", "shortestStretch", "(IJJ)I"⟩, 18) := ⟨⟨by decide +kernel, by decide +kernel⟩, List.mem_of_getElem? (i := 84) (by decide +kernel), List.mem_of_getElem? (i := 1270) (by decide +kernel), List.mem_of_getElem? (i := 1271) (by decide +kernel)⟩
theorem lw_p35 : lw_okq (⟨"SkyCuts$Mover", "mayMatter", "(I)Z"⟩, 10) := ⟨⟨by decide +kernel, by decide +kernel⟩, List.mem_of_getElem? (i := 317) (by decide +kernel), List.mem_of_getElem? (i := 1309) (by decide +kernel), List.mem_of_getElem? (i := 1310) (by decide +kernel)⟩
theorem lw_p36 : lw_okq (⟨"SkyCuts$Streams", "comesTo", "(II)Z"⟩, 18) := ⟨⟨by decide +kernel, by decide +kernel⟩, List.mem_of_getElem? (i := 84) (by decide +kernel), List.mem_of_getElem? (i := 1317) (by decide +kernel), List.mem_of_getElem? (i := 1318) (by decide +kernel)⟩
theorem lw_p37 : lw_okq (⟨"SkyCuts$Mover", "tryCell", "(III)V"⟩, 10) := ⟨⟨by decide +kernel, by decide +kernel⟩, List.mem_of_getElem? (i := 317) (by decide +kernel), List.mem_of_getElem? (i := 1326) (by decide +kernel), List.mem_of_getElem? (i := 1327) (by decide +kernel)⟩
theorem lw_p38 : lw_okq (⟨"SkyCuts$Mover", "compare", "(III)V"⟩, 10) := ⟨⟨by decide +kernel, by decide +kernel⟩, List.mem_of_getElem? (i := 317) (by decide +kernel), List.mem_of_getElem? (i := 1332) (by decide +kernel), List.mem_of_getElem? (i := 1333) (by decide +kernel)⟩
theorem lw_p39 : lw_okq (⟨"SkyCuts$Region", "hearSubset", "(I)V"⟩, 13) := ⟨⟨by decide +kernel, by decide +kernel⟩, List.mem_of_getElem? (i := 358) (by decide +kernel), List.mem_of_getElem? (i := 1365) (by decide +kernel), List.mem_of_getElem? (i := 1366) (by decide +kernel)⟩
theorem lw_p40 : lw_okq (⟨"SkyCuts$Region", "place", "(III)V"⟩, 13) := ⟨⟨by decide +kernel, by decide +kernel⟩, List.mem_of_getElem? (i := 358) (by decide +kernel), List.mem_of_getElem? (i := 1377) (by decide +kernel), List.mem_of_getElem? (i := 1378) (by decide +kernel)⟩
theorem lw_p41 : lw_okq (⟨"SkyCuts$Region", "compare", "(I)V"⟩, 13) := ⟨⟨by decide +kernel, by decide +kernel⟩, List.mem_of_getElem? (i := 358) (by decide +kernel), List.mem_of_getElem? (i := 1381) (by decide +kernel), List.mem_of_getElem? (i := 1382) (by decide +kernel)⟩
theorem lw_p42 : lw_okq (⟨"SkyCuts$Plans", "judgeGroup", "(IIZ)V"⟩, 14) := ⟨⟨by decide +kernel, by decide +kernel⟩, List.mem_of_getElem? (i := 408) (by decide +kernel), List.mem_of_getElem? (i := 1414) (by decide +kernel), List.mem_of_getElem? (i := 1415) (by decide +kernel)⟩
theorem lw_p43 : lw_okq (⟨"SkyCuts$Plans", "addLoads", "()V"⟩, 14) := ⟨⟨by decide +kernel, by decide +kernel⟩, List.mem_of_getElem? (i := 408) (by decide +kernel), List.mem_of_getElem? (i := 1444) (by decide +kernel), List.mem_of_getElem? (i := 1445) (by decide +kernel)⟩
theorem lw_p44 : lw_okq (⟨"SkyCuts$Plans", "fewestBehind", "(III)I"⟩, 14) := ⟨⟨by decide +kernel, by decide +kernel⟩, List.mem_of_getElem? (i := 408) (by decide +kernel), List.mem_of_getElem? (i := 1449) (by decide +kernel), List.mem_of_getElem? (i := 1450) (by decide +kernel)⟩
theorem lw_p45 : lw_okq (⟨"SkyCuts$Plans", "choose", "(I)Z"⟩, 14) := ⟨⟨by decide +kernel, by decide +kernel⟩, List.mem_of_getElem? (i := 408) (by decide +kernel), List.mem_of_getElem? (i := 1458) (by decide +kernel), List.mem_of_getElem? (i := 1459) (by decide +kernel)⟩
theorem lw_p46 : lw_okq (⟨"SkyCuts$Plans", "nextOf", "(III)I"⟩, 14) := ⟨⟨by decide +kernel, by decide +kernel⟩, List.mem_of_getElem? (i := 408) (by decide +kernel), List.mem_of_getElem? (i := 1462) (by decide +kernel), List.mem_of_getElem? (i := 1463) (by decide +kernel)⟩
theorem lw_p47 : lw_okq (⟨"SkyCuts$Rota", "mayGoOn", "(II)I"⟩, 9) := ⟨⟨by decide +kernel, by decide +kernel⟩, List.mem_of_getElem? (i := 464) (by decide +kernel), List.mem_of_getElem? (i := 1504) (by decide +kernel), List.mem_of_getElem? (i := 1505) (by decide +kernel)⟩
def lw_privs_3 : List (MethodName × Nat) := [(⟨"SkyCuts", "needPiece", "(I)V"⟩, 11), (⟨"SkyCuts", "listenTo", "(I)V"⟩, 11), (⟨"SkyCuts$Streams", "shortestStretch", "(IJJ)I"⟩, 18), (⟨"SkyCuts$Mover", "mayMatter", "(I)Z"⟩, 10), (⟨"SkyCuts$Streams", "comesTo", "(II)Z"⟩, 18), (⟨"SkyCuts$Mover", "tryCell", "(III)V"⟩, 10), (⟨"SkyCuts$Mover", "compare", "(III)V"⟩, 10), (⟨"SkyCuts$Region", "hearSubset", "(I)V"⟩, 13), (⟨"SkyCuts$Region", "place", "(III)V"⟩, 13), (⟨"SkyCuts$Region", "compare", "(I)V"⟩, 13), (⟨"SkyCuts$Plans", "judgeGroup", "(IIZ)V"⟩, 14), (⟨"SkyCuts$Plans", "addLoads", "()V"⟩, 14), (⟨"SkyCuts$Plans", "fewestBehind", "(III)I"⟩, 14), (⟨"SkyCuts$Plans", "choose", "(I)Z"⟩, 14), (⟨"SkyCuts$Plans", "nextOf", "(III)I"⟩, 14), (⟨"SkyCuts$Rota", "mayGoOn", "(II)I"⟩, 9)]
theorem lw_r3 : ∀ q ∈ lw_privs_3, lw_okq q := List.forall_mem_cons.mpr ⟨lw_p32, List.forall_mem_cons.mpr ⟨lw_p33, List.forall_mem_cons.mpr ⟨lw_p34, List.forall_mem_cons.mpr ⟨lw_p35, List.forall_mem_cons.mpr ⟨lw_p36, List.forall_mem_cons.mpr ⟨lw_p37, List.forall_mem_cons.mpr ⟨lw_p38, List.forall_mem_cons.mpr ⟨lw_p39, List.forall_mem_cons.mpr ⟨lw_p40, List.forall_mem_cons.mpr ⟨lw_p41, List.forall_mem_cons.mpr ⟨lw_p42, List.forall_mem_cons.mpr ⟨lw_p43, List.forall_mem_cons.mpr ⟨lw_p44, List.forall_mem_cons.mpr ⟨lw_p45, List.forall_mem_cons.mpr ⟨lw_p46, List.forall_mem_cons.mpr ⟨lw_p47, fun _ h => absurd h List.not_mem_nil⟩⟩⟩⟩⟩⟩⟩⟩⟩⟩⟩⟩⟩⟩⟩⟩
theorem lw_p48 : lw_okq (⟨"SkyCuts$Rota", "fewestOf", "(II)I"⟩, 9) := ⟨⟨by decide +kernel, by decide +kernel⟩, List.mem_of_getElem? (i := 464) (by decide +kernel), List.mem_of_getElem? (i := 1508) (by decide +kernel), List.mem_of_getElem? (i := 1509) (by decide +kernel)⟩
theorem lw_p49 : lw_okq (⟨"SkyCuts$Rota", "mayBegin", "(II)I"⟩, 9) := ⟨⟨by decide +kernel, by decide +kernel⟩, List.mem_of_getElem? (i := 464) (by decide +kernel), List.mem_of_getElem? (i := 1512) (by decide +kernel), List.mem_of_getElem? (i := 1513) (by decide +kernel)⟩
theorem lw_p50 : lw_okq (⟨"SkyCuts$Rota", "settle", "(III)V"⟩, 9) := ⟨⟨by decide +kernel, by decide +kernel⟩, List.mem_of_getElem? (i := 464) (by decide +kernel), List.mem_of_getElem? (i := 1522) (by decide +kernel), List.mem_of_getElem? (i := 1523) (by decide +kernel)⟩
theorem lw_p51 : lw_okq (⟨"SkyCuts$Storm", "isShut", "(I)Z"⟩, 18) := ⟨⟨by decide +kernel, by decide +kernel⟩, List.mem_of_getElem? (i := 502) (by decide +kernel), List.mem_of_getElem? (i := 1551) (by decide +kernel), List.mem_of_getElem? (i := 1552) (by decide +kernel)⟩
theorem lw_p52 : lw_okq (⟨"SkyCuts$Storm", "layWays", "()V"⟩, 18) := ⟨⟨by decide +kernel, by decide +kernel⟩, List.mem_of_getElem? (i := 502) (by decide +kernel), List.mem_of_getElem? (i := 1570) (by decide +kernel), List.mem_of_getElem? (i := 1571) (by decide +kernel)⟩
theorem lw_p53 : lw_okq (⟨"SkyCuts$Storm", "findRound", "(II)I"⟩, 18) := ⟨⟨by decide +kernel, by decide +kernel⟩, List.mem_of_getElem? (i := 502) (by decide +kernel), List.mem_of_getElem? (i := 1576) (by decide +kernel), List.mem_of_getElem? (i := 1577) (by decide +kernel)⟩
theorem lw_p54 : lw_okq (⟨"SkyCuts$Storm", "spreadFrom", "(I)V"⟩, 18) := ⟨⟨by decide +kernel, by decide +kernel⟩, List.mem_of_getElem? (i := 502) (by decide +kernel), List.mem_of_getElem? (i := 1580) (by decide +kernel), List.mem_of_getElem? (i := 1581) (by decide +kernel)⟩
theorem lw_p55 : lw_okq (⟨"SkyCuts$Storm", "nearerThan", "(I)I"⟩, 18) := ⟨⟨by decide +kernel, by decide +kernel⟩, List.mem_of_getElem? (i := 502) (by decide +kernel), List.mem_of_getElem? (i := 1586) (by decide +kernel), List.mem_of_getElem? (i := 1587) (by decide +kernel)⟩
theorem lw_p56 : lw_okq (⟨"SkyCuts$Storm", "tryMends", "(IIIII)V"⟩, 18) := ⟨⟨by decide +kernel, by decide +kernel⟩, List.mem_of_getElem? (i := 502) (by decide +kernel), List.mem_of_getElem? (i := 1596) (by decide +kernel), List.mem_of_getElem? (i := 1597) (by decide +kernel)⟩
theorem lw_p57 : lw_okq (⟨"SkyCuts$Storm", "fits", "(I)Z"⟩, 18) := ⟨⟨by decide +kernel, by decide +kernel⟩, List.mem_of_getElem? (i := 502) (by decide +kernel), List.mem_of_getElem? (i := 1600) (by decide +kernel), List.mem_of_getElem? (i := 1601) (by decide +kernel)⟩
theorem lw_p58 : lw_okq (⟨"SkyCuts$Storm", "anyFull", "(I)Z"⟩, 18) := ⟨⟨by decide +kernel, by decide +kernel⟩, List.mem_of_getElem? (i := 502) (by decide +kernel), List.mem_of_getElem? (i := 1604) (by decide +kernel), List.mem_of_getElem? (i := 1605) (by decide +kernel)⟩
theorem lw_p59 : lw_okq (⟨"SkyCuts$Fits", "anyRow", "()Z"⟩, 8) := ⟨⟨by decide +kernel, by decide +kernel⟩, List.mem_of_getElem? (i := 572) (by decide +kernel), List.mem_of_getElem? (i := 1639) (by decide +kernel), List.mem_of_getElem? (i := 1640) (by decide +kernel)⟩
theorem lw_p60 : lw_okq (⟨"SkyCuts$Fits", "offOf", "([IZ)I"⟩, 8) := ⟨⟨by decide +kernel, by decide +kernel⟩, List.mem_of_getElem? (i := 572) (by decide +kernel), List.mem_of_getElem? (i := 1645) (by decide +kernel), List.mem_of_getElem? (i := 1646) (by decide +kernel)⟩
theorem lw_p61 : lw_okq (⟨"SkyCuts$Fits", "nextTrial", "()Z"⟩, 8) := ⟨⟨by decide +kernel, by decide +kernel⟩, List.mem_of_getElem? (i := 572) (by decide +kernel), List.mem_of_getElem? (i := 1652) (by decide +kernel), List.mem_of_getElem? (i := 1653) (by decide +kernel)⟩
theorem lw_p62 : lw_okq (⟨"SkyCuts$Ear", "aheadOf", "(I)I"⟩, 14) := ⟨⟨by decide +kernel, by decide +kernel⟩, List.mem_of_getElem? (i := 263) (by decide +kernel), List.mem_of_getElem? (i := 1671) (by decide +kernel), List.mem_of_getElem? (i := 1672) (by decide +kernel)⟩
theorem lw_p63 : lw_okq (⟨"SkyCutsModel", "bad", "(ZI)Z"⟩, 83) := ⟨⟨by decide +kernel, by decide +kernel⟩, List.mem_of_getElem? (i := 1694) (by decide +kernel), List.mem_of_getElem? (i := 1967) (by decide +kernel), List.mem_of_getElem? (i := 1968) (by decide +kernel)⟩
def lw_privs_4 : List (MethodName × Nat) := [(⟨"SkyCuts$Rota", "fewestOf", "(II)I"⟩, 9), (⟨"SkyCuts$Rota", "mayBegin", "(II)I"⟩, 9), (⟨"SkyCuts$Rota", "settle", "(III)V"⟩, 9), (⟨"SkyCuts$Storm", "isShut", "(I)Z"⟩, 18), (⟨"SkyCuts$Storm", "layWays", "()V"⟩, 18), (⟨"SkyCuts$Storm", "findRound", "(II)I"⟩, 18), (⟨"SkyCuts$Storm", "spreadFrom", "(I)V"⟩, 18), (⟨"SkyCuts$Storm", "nearerThan", "(I)I"⟩, 18), (⟨"SkyCuts$Storm", "tryMends", "(IIIII)V"⟩, 18), (⟨"SkyCuts$Storm", "fits", "(I)Z"⟩, 18), (⟨"SkyCuts$Storm", "anyFull", "(I)Z"⟩, 18), (⟨"SkyCuts$Fits", "anyRow", "()Z"⟩, 8), (⟨"SkyCuts$Fits", "offOf", "([IZ)I"⟩, 8), (⟨"SkyCuts$Fits", "nextTrial", "()Z"⟩, 8), (⟨"SkyCuts$Ear", "aheadOf", "(I)I"⟩, 14), (⟨"SkyCutsModel", "bad", "(ZI)Z"⟩, 83)]
theorem lw_r4 : ∀ q ∈ lw_privs_4, lw_okq q := List.forall_mem_cons.mpr ⟨lw_p48, List.forall_mem_cons.mpr ⟨lw_p49, List.forall_mem_cons.mpr ⟨lw_p50, List.forall_mem_cons.mpr ⟨lw_p51, List.forall_mem_cons.mpr ⟨lw_p52, List.forall_mem_cons.mpr ⟨lw_p53, List.forall_mem_cons.mpr ⟨lw_p54, List.forall_mem_cons.mpr ⟨lw_p55, List.forall_mem_cons.mpr ⟨lw_p56, List.forall_mem_cons.mpr ⟨lw_p57, List.forall_mem_cons.mpr ⟨lw_p58, List.forall_mem_cons.mpr ⟨lw_p59, List.forall_mem_cons.mpr ⟨lw_p60, List.forall_mem_cons.mpr ⟨lw_p61, List.forall_mem_cons.mpr ⟨lw_p62, List.forall_mem_cons.mpr ⟨lw_p63, fun _ h => absurd h List.not_mem_nil⟩⟩⟩⟩⟩⟩⟩⟩⟩⟩⟩⟩⟩⟩⟩⟩
theorem lw_p64 : lw_okq (⟨"SkyCutsModel", "beginText", "(I)V"⟩, 83) := ⟨⟨by decide +kernel, by decide +kernel⟩, List.mem_of_getElem? (i := 1694) (by decide +kernel), List.mem_of_getElem? (i := 1971) (by decide +kernel), List.mem_of_getElem? (i := 1972) (by decide +kernel)⟩
theorem lw_p65 : lw_okq (⟨"SkyCutsModel", "number", "(II)I"⟩, 83) := ⟨⟨by decide +kernel, by decide +kernel⟩, List.mem_of_getElem? (i := 1694) (by decide +kernel), List.mem_of_getElem? (i := 1975) (by decide +kernel), List.mem_of_getElem? (i := 1976) (by decide +kernel)⟩
theorem lw_p66 : lw_okq (⟨"SkyCutsModel", "blanks", "()V"⟩, 83) := ⟨⟨by decide +kernel, by decide +kernel⟩, List.mem_of_getElem? (i := 1694) (by decide +kernel), List.mem_of_getElem? (i := 1979) (by decide +kernel), List.mem_of_getElem? (i := 1980) (by decide +kernel)⟩
theorem lw_p67 : lw_okq (⟨"SkyCutsModel", "byteAt", "(I)I"⟩, 83) := ⟨⟨by decide +kernel, by decide +kernel⟩, List.mem_of_getElem? (i := 1694) (by decide +kernel), List.mem_of_getElem? (i := 1983) (by decide +kernel), List.mem_of_getElem? (i := 1984) (by decide +kernel)⟩
theorem lw_p68 : lw_okq (⟨"SkyCutsModel", "wrong", "(II)V"⟩, 83) := ⟨⟨by decide +kernel, by decide +kernel⟩, List.mem_of_getElem? (i := 1694) (by decide +kernel), List.mem_of_getElem? (i := 1990) (by decide +kernel), List.mem_of_getElem? (i := 1991) (by decide +kernel)⟩
theorem lw_p69 : lw_okq (⟨"SkyCutsModel", "move", "()V"⟩, 83) := ⟨⟨by decide +kernel, by decide +kernel⟩, List.mem_of_getElem? (i := 1694) (by decide +kernel), List.mem_of_getElem? (i := 1995) (by decide +kernel), List.mem_of_getElem? (i := 1996) (by decide +kernel)⟩
theorem lw_p70 : lw_okq (⟨"SkyCutsModel", "isTold", "(I)Z"⟩, 83) := ⟨⟨by decide +kernel, by decide +kernel⟩, List.mem_of_getElem? (i := 1694) (by decide +kernel), List.mem_of_getElem? (i := 2002) (by decide +kernel), List.mem_of_getElem? (i := 2003) (by decide +kernel)⟩
theorem lw_p71 : lw_okq (⟨"SkyCutsModel", "clause", "()V"⟩, 83) := ⟨⟨by decide +kernel, by decide +kernel⟩, List.mem_of_getElem? (i := 1694) (by decide +kernel), List.mem_of_getElem? (i := 2010) (by decide +kernel), List.mem_of_getElem? (i := 2011) (by decide +kernel)⟩
theorem lw_p72 : lw_okq (⟨"SkyCutsModel", "wordHere", "()I"⟩, 83) := ⟨⟨by decide +kernel, by decide +kernel⟩, List.mem_of_getElem? (i := 1694) (by decide +kernel), List.mem_of_getElem? (i := 2014) (by decide +kernel), List.mem_of_getElem? (i := 2015) (by decide +kernel)⟩
theorem lw_p73 : lw_okq (⟨"SkyCutsModel", "skipWord", "()V"⟩, 83) := ⟨⟨by decide +kernel, by decide +kernel⟩, List.mem_of_getElem? (i := 1694) (by decide +kernel), List.mem_of_getElem? (i := 2021) (by decide +kernel), List.mem_of_getElem? (i := 2022) (by decide +kernel)⟩
theorem lw_p74 : lw_okq (⟨"SkyCutsModel", "sum", "()I"⟩, 83) := ⟨⟨by decide +kernel, by decide +kernel⟩, List.mem_of_getElem? (i := 1694) (by decide +kernel), List.mem_of_getElem? (i := 2025) (by decide +kernel), List.mem_of_getElem? (i := 2026) (by decide +kernel)⟩
theorem lw_p75 : lw_okq (⟨"SkyCutsModel", "product", "()I"⟩, 83) := ⟨⟨by decide +kernel, by decide +kernel⟩, List.mem_of_getElem? (i := 1694) (by decide +kernel), List.mem_of_getElem? (i := 2029) (by decide +kernel), List.mem_of_getElem? (i := 2030) (by decide +kernel)⟩
theorem lw_p76 : lw_okq (⟨"SkyCutsModel", "unit", "()I"⟩, 83) := ⟨⟨by decide +kernel, by decide +kernel⟩, List.mem_of_getElem? (i := 1694) (by decide +kernel), List.mem_of_getElem? (i := 2033) (by decide +kernel), List.mem_of_getElem? (i := 2034) (by decide +kernel)⟩
theorem lw_p77 : lw_okq (⟨"SkyCutsModel", "nameHere", "()I"⟩, 83) := ⟨⟨by decide +kernel, by decide +kernel⟩, List.mem_of_getElem? (i := 1694) (by decide +kernel), List.mem_of_getElem? (i := 2037) (by decide +kernel), List.mem_of_getElem? (i := 2038) (by decide +kernel)⟩
theorem lw_p78 : lw_okq (⟨"SkyCutsModel", "opens", "(I)V"⟩, 83) := ⟨⟨by decide +kernel, by decide +kernel⟩, List.mem_of_getElem? (i := 1694) (by decide +kernel), List.mem_of_getElem? (i := 2041) (by decide +kernel), List.mem_of_getElem? (i := 2042) (by decide +kernel)⟩
theorem lw_p79 : lw_okq (⟨"SkyCutsModel", "sign", "(I)V"⟩, 83) := ⟨⟨by decide +kernel, by decide +kernel⟩, List.mem_of_getElem? (i := 1694) (by decide +kernel), List.mem_of_getElem? (i := 2045) (by decide +kernel), List.mem_of_getElem? (i := 2046) (by decide +kernel)⟩
def lw_privs_5 : List (MethodName × Nat) := [(⟨"SkyCutsModel", "beginText", "(I)V"⟩, 83), (⟨"SkyCutsModel", "number", "(II)I"⟩, 83), (⟨"SkyCutsModel", "blanks", "()V"⟩, 83), (⟨"SkyCutsModel", "byteAt", "(I)I"⟩, 83), (⟨"SkyCutsModel", "wrong", "(II)V"⟩, 83), (⟨"SkyCutsModel", "move", "()V"⟩, 83), (⟨"SkyCutsModel", "isTold", "(I)Z"⟩, 83), (⟨"SkyCutsModel", "clause", "()V"⟩, 83), (⟨"SkyCutsModel", "wordHere", "()I"⟩, 83), (⟨"SkyCutsModel", "skipWord", "()V"⟩, 83), (⟨"SkyCutsModel", "sum", "()I"⟩, 83), (⟨"SkyCutsModel", "product", "()I"⟩, 83), (⟨"SkyCutsModel", "unit", "()I"⟩, 83), (⟨"SkyCutsModel", "nameHere", "()I"⟩, 83), (⟨"SkyCutsModel", "opens", "(I)V"⟩, 83), (⟨"SkyCutsModel", "sign", "(I)V"⟩, 83)]
theorem lw_r5 : ∀ q ∈ lw_privs_5, lw_okq q := List.forall_mem_cons.mpr ⟨lw_p64, List.forall_mem_cons.mpr ⟨lw_p65, List.forall_mem_cons.mpr ⟨lw_p66, List.forall_mem_cons.mpr ⟨lw_p67, List.forall_mem_cons.mpr ⟨lw_p68, List.forall_mem_cons.mpr ⟨lw_p69, List.forall_mem_cons.mpr ⟨lw_p70, List.forall_mem_cons.mpr ⟨lw_p71, List.forall_mem_cons.mpr ⟨lw_p72, List.forall_mem_cons.mpr ⟨lw_p73, List.forall_mem_cons.mpr ⟨lw_p74, List.forall_mem_cons.mpr ⟨lw_p75, List.forall_mem_cons.mpr ⟨lw_p76, List.forall_mem_cons.mpr ⟨lw_p77, List.forall_mem_cons.mpr ⟨lw_p78, List.forall_mem_cons.mpr ⟨lw_p79, fun _ h => absurd h List.not_mem_nil⟩⟩⟩⟩⟩⟩⟩⟩⟩⟩⟩⟩⟩⟩⟩⟩
theorem lw_p80 : lw_okq (⟨"SkyCutsModel", "ors", "()Z"⟩, 83) := ⟨⟨by decide +kernel, by decide +kernel⟩, List.mem_of_getElem? (i := 1694) (by decide +kernel), List.mem_of_getElem? (i := 2049) (by decide +kernel), List.mem_of_getElem? (i := 2050) (by decide +kernel)⟩
theorem lw_p81 : lw_okq (⟨"SkyCutsModel", "ands", "()Z"⟩, 83) := ⟨⟨by decide +kernel, by decide +kernel⟩, List.mem_of_getElem? (i := 1694) (by decide +kernel), List.mem_of_getElem? (i := 2053) (by decide +kernel), List.mem_of_getElem? (i := 2054) (by decide +kernel)⟩
theorem lw_p82 : lw_okq (⟨"SkyCutsModel", "test", "()Z"⟩, 83) := ⟨⟨by decide +kernel, by decide +kernel⟩, List.mem_of_getElem? (i := 1694) (by decide +kernel), List.mem_of_getElem? (i := 2057) (by decide +kernel), List.mem_of_getElem? (i := 2058) (by decide +kernel)⟩
theorem lw_p83 : lw_okq (⟨"SkyCutsModel", "mostOf", "(II)I"⟩, 83) := ⟨⟨by decide +kernel, by decide +kernel⟩, List.mem_of_getElem? (i := 1694) (by decide +kernel), List.mem_of_getElem? (i := 2081) (by decide +kernel), List.mem_of_getElem? (i := 2082) (by decide +kernel)⟩
theorem lw_p84 : lw_okq (⟨"SkyCutsModel", "setOf", "(I)V"⟩, 83) := ⟨⟨by decide +kernel, by decide +kernel⟩, List.mem_of_getElem? (i := 1694) (by decide +kernel), List.mem_of_getElem? (i := 2101) (by decide +kernel), List.mem_of_getElem? (i := 2102) (by decide +kernel)⟩
theorem lw_p85 : lw_okq (⟨"SkyCutsModel", "asTold", "(I)V"⟩, 83) := ⟨⟨by decide +kernel, by decide +kernel⟩, List.mem_of_getElem? (i := 1694) (by decide +kernel), List.mem_of_getElem? (i := 2105) (by decide +kernel), List.mem_of_getElem? (i := 2106) (by decide +kernel)⟩
theorem lw_p86 : lw_okq (⟨"SkyCutsModel", "waysAsTold", "()V"⟩, 83) := ⟨⟨by decide +kernel, by decide +kernel⟩, List.mem_of_getElem? (i := 1694) (by decide +kernel), List.mem_of_getElem? (i := 2109) (by decide +kernel), List.mem_of_getElem? (i := 2110) (by decide +kernel)⟩
theorem lw_p87 : lw_okq (⟨"SkyCutsModel", "numbersIn", "(I)V"⟩, 83) := ⟨⟨by decide +kernel, by decide +kernel⟩, List.mem_of_getElem? (i := 1694) (by decide +kernel), List.mem_of_getElem? (i := 2113) (by decide +kernel), List.mem_of_getElem? (i := 2114) (by decide +kernel)⟩
theorem lw_p88 : lw_okq (⟨"SkyCutsModel", "load", "()I"⟩, 83) := ⟨⟨by decide +kernel, by decide +kernel⟩, List.mem_of_getElem? (i := 1694) (by decide +kernel), List.mem_of_getElem? (i := 2117) (by decide +kernel), List.mem_of_getElem? (i := 2118) (by decide +kernel)⟩
theorem lw_p89 : lw_okq (⟨"SkyCutsModel", "listen", "()V"⟩, 83) := ⟨⟨by decide +kernel, by decide +kernel⟩, List.mem_of_getElem? (i := 1694) (by decide +kernel), List.mem_of_getElem? (i := 2121) (by decide +kernel), List.mem_of_getElem? (i := 2122) (by decide +kernel)⟩
theorem lw_p90 : lw_okq (⟨"SkyCutsModel", "goes", "(II)I"⟩, 83) := ⟨⟨by decide +kernel, by decide +kernel⟩, List.mem_of_getElem? (i := 1694) (by decide +kernel), List.mem_of_getElem? (i := 2128) (by decide +kernel), List.mem_of_getElem? (i := 2129) (by decide +kernel)⟩
theorem lw_p91 : lw_okq (⟨"SkyCutsModel", "readsAt", "(I)V"⟩, 83) := ⟨⟨by decide +kernel, by decide +kernel⟩, List.mem_of_getElem? (i := 1694) (by decide +kernel), List.mem_of_getElem? (i := 2132) (by decide +kernel), List.mem_of_getElem? (i := 2133) (by decide +kernel)⟩
theorem lw_p92 : lw_okq (⟨"SkyCutsModel", "peakOfPiece", "(I)I"⟩, 83) := ⟨⟨by decide +kernel, by decide +kernel⟩, List.mem_of_getElem? (i := 1694) (by decide +kernel), List.mem_of_getElem? (i := 2140) (by decide +kernel), List.mem_of_getElem? (i := 2141) (by decide +kernel)⟩
theorem lw_p93 : lw_okq (⟨"SkyCutsModel", "peakOfSet", "()I"⟩, 83) := ⟨⟨by decide +kernel, by decide +kernel⟩, List.mem_of_getElem? (i := 1694) (by decide +kernel), List.mem_of_getElem? (i := 2144) (by decide +kernel), List.mem_of_getElem? (i := 2145) (by decide +kernel)⟩
theorem lw_p94 : lw_okq (⟨"SkyCutsModel", "isWhole", "(I)Z"⟩, 83) := ⟨⟨by decide +kernel, by decide +kernel⟩, List.mem_of_getElem? (i := 1694) (by decide +kernel), List.mem_of_getElem? (i := 2152) (by decide +kernel), List.mem_of_getElem? (i := 2153) (by decide +kernel)⟩
theorem lw_p95 : lw_okq (⟨"SkyCutsModel", "hangs", "()Z"⟩, 83) := ⟨⟨by decide +kernel, by decide +kernel⟩, List.mem_of_getElem? (i := 1694) (by decide +kernel), List.mem_of_getElem? (i := 2156) (by decide +kernel), List.mem_of_getElem? (i := 2157) (by decide +kernel)⟩
def lw_privs_6 : List (MethodName × Nat) := [(⟨"SkyCutsModel", "ors", "()Z"⟩, 83), (⟨"SkyCutsModel", "ands", "()Z"⟩, 83), (⟨"SkyCutsModel", "test", "()Z"⟩, 83), (⟨"SkyCutsModel", "mostOf", "(II)I"⟩, 83), (⟨"SkyCutsModel", "setOf", "(I)V"⟩, 83), (⟨"SkyCutsModel", "asTold", "(I)V"⟩, 83), (⟨"SkyCutsModel", "waysAsTold", "()V"⟩, 83), (⟨"SkyCutsModel", "numbersIn", "(I)V"⟩, 83), (⟨"SkyCutsModel", "load", "()I"⟩, 83), (⟨"SkyCutsModel", "listen", "()V"⟩, 83), (⟨"SkyCutsModel", "goes", "(II)I"⟩, 83), (⟨"SkyCutsModel", "readsAt", "(I)V"⟩, 83), (⟨"SkyCutsModel", "peakOfPiece", "(I)I"⟩, 83), (⟨"SkyCutsModel", "peakOfSet", "()I"⟩, 83), (⟨"SkyCutsModel", "isWhole", "(I)Z"⟩, 83), (⟨"SkyCutsModel", "hangs", "()Z"⟩, 83)]
theorem lw_r6 : ∀ q ∈ lw_privs_6, lw_okq q := List.forall_mem_cons.mpr ⟨lw_p80, List.forall_mem_cons.mpr ⟨lw_p81, List.forall_mem_cons.mpr ⟨lw_p82, List.forall_mem_cons.mpr ⟨lw_p83, List.forall_mem_cons.mpr ⟨lw_p84, List.forall_mem_cons.mpr ⟨lw_p85, List.forall_mem_cons.mpr ⟨lw_p86, List.forall_mem_cons.mpr ⟨lw_p87, List.forall_mem_cons.mpr ⟨lw_p88, List.forall_mem_cons.mpr ⟨lw_p89, List.forall_mem_cons.mpr ⟨lw_p90, List.forall_mem_cons.mpr ⟨lw_p91, List.forall_mem_cons.mpr ⟨lw_p92, List.forall_mem_cons.mpr ⟨lw_p93, List.forall_mem_cons.mpr ⟨lw_p94, List.forall_mem_cons.mpr ⟨lw_p95, fun _ h => absurd h List.not_mem_nil⟩⟩⟩⟩⟩⟩⟩⟩⟩⟩⟩⟩⟩⟩⟩⟩
theorem lw_p96 : lw_okq (⟨"SkyCutsModel", "isCrossing", "(I)Z"⟩, 83) := ⟨⟨by decide +kernel, by decide +kernel⟩, List.mem_of_getElem? (i := 1694) (by decide +kernel), List.mem_of_getElem? (i := 2176) (by decide +kernel), List.mem_of_getElem? (i := 2177) (by decide +kernel)⟩
theorem lw_p97 : lw_okq (⟨"SkyCutsModel", "hasCells", "(I)Z"⟩, 83) := ⟨⟨by decide +kernel, by decide +kernel⟩, List.mem_of_getElem? (i := 1694) (by decide +kernel), List.mem_of_getElem? (i := 2184) (by decide +kernel), List.mem_of_getElem? (i := 2185) (by decide +kernel)⟩
theorem lw_p98 : lw_okq (⟨"SkyCutsModel", "costOf", "()I"⟩, 83) := ⟨⟨by decide +kernel, by decide +kernel⟩, List.mem_of_getElem? (i := 1694) (by decide +kernel), List.mem_of_getElem? (i := 2192) (by decide +kernel), List.mem_of_getElem? (i := 2193) (by decide +kernel)⟩
theorem lw_p99 : lw_okq (⟨"SkyCutsModel", "findPeaks", "()V"⟩, 83) := ⟨⟨by decide +kernel, by decide +kernel⟩, List.mem_of_getElem? (i := 1694) (by decide +kernel), List.mem_of_getElem? (i := 2196) (by decide +kernel), List.mem_of_getElem? (i := 2197) (by decide +kernel)⟩
theorem lw_p100 : lw_okq (⟨"SkyCutsModel", "costByPeaks", "()I"⟩, 83) := ⟨⟨by decide +kernel, by decide +kernel⟩, List.mem_of_getElem? (i := 1694) (by decide +kernel), List.mem_of_getElem? (i := 2200) (by decide +kernel), List.mem_of_getElem? (i := 2201) (by decide +kernel)⟩
theorem lw_p101 : lw_okq (⟨"SkyCutsModel", "stepsCost", "()I"⟩, 83) := ⟨⟨by decide +kernel, by decide +kernel⟩, List.mem_of_getElem? (i := 1694) (by decide +kernel), List.mem_of_getElem? (i := 2204) (by decide +kernel), List.mem_of_getElem? (i := 2205) (by decide +kernel)⟩
theorem lw_p102 : lw_okq (⟨"SkyCutsModel", "total", "(I)I"⟩, 83) := ⟨⟨by decide +kernel, by decide +kernel⟩, List.mem_of_getElem? (i := 1694) (by decide +kernel), List.mem_of_getElem? (i := 2208) (by decide +kernel), List.mem_of_getElem? (i := 2209) (by decide +kernel)⟩
theorem lw_p103 : lw_okq (⟨"SkyCutsModel", "findMove", "()V"⟩, 83) := ⟨⟨by decide +kernel, by decide +kernel⟩, List.mem_of_getElem? (i := 1694) (by decide +kernel), List.mem_of_getElem? (i := 2216) (by decide +kernel), List.mem_of_getElem? (i := 2217) (by decide +kernel)⟩
theorem lw_p104 : lw_okq (⟨"SkyCutsModel", "tries", "(II)V"⟩, 83) := ⟨⟨by decide +kernel, by decide +kernel⟩, List.mem_of_getElem? (i := 1694) (by decide +kernel), List.mem_of_getElem? (i := 2220) (by decide +kernel), List.mem_of_getElem? (i := 2221) (by decide +kernel)⟩
theorem lw_p105 : lw_okq (⟨"SkyCutsModel", "findSets", "()V"⟩, 83) := ⟨⟨by decide +kernel, by decide +kernel⟩, List.mem_of_getElem? (i := 1694) (by decide +kernel), List.mem_of_getElem? (i := 2240) (by decide +kernel), List.mem_of_getElem? (i := 2241) (by decide +kernel)⟩
theorem lw_p106 : lw_okq (⟨"SkyCutsModel", "parts", "(III)V"⟩, 83) := ⟨⟨by decide +kernel, by decide +kernel⟩, List.mem_of_getElem? (i := 1694) (by decide +kernel), List.mem_of_getElem? (i := 2244) (by decide +kernel), List.mem_of_getElem? (i := 2245) (by decide +kernel)⟩
theorem lw_p107 : lw_okq (⟨"SkyCutsModel", "judges", "(I)V"⟩, 83) := ⟨⟨by decide +kernel, by decide +kernel⟩, List.mem_of_getElem? (i := 1694) (by decide +kernel), List.mem_of_getElem? (i := 2248) (by decide +kernel), List.mem_of_getElem? (i := 2249) (by decide +kernel)⟩
theorem lw_p108 : lw_okq (⟨"SkyCutsModel", "pairsOf", "(I)I"⟩, 83) := ⟨⟨by decide +kernel, by decide +kernel⟩, List.mem_of_getElem? (i := 1694) (by decide +kernel), List.mem_of_getElem? (i := 2261) (by decide +kernel), List.mem_of_getElem? (i := 2262) (by decide +kernel)⟩
theorem lw_p109 : lw_okq (⟨"SkyCutsModel", "groupOf", "(II)I"⟩, 83) := ⟨⟨by decide +kernel, by decide +kernel⟩, List.mem_of_getElem? (i := 1694) (by decide +kernel), List.mem_of_getElem? (i := 2265) (by decide +kernel), List.mem_of_getElem? (i := 2266) (by decide +kernel)⟩
theorem lw_p110 : lw_okq (⟨"SkyCutsModel", "joinsHold", "()Z"⟩, 83) := ⟨⟨by decide +kernel, by decide +kernel⟩, List.mem_of_getElem? (i := 1694) (by decide +kernel), List.mem_of_getElem? (i := 2269) (by decide +kernel), List.mem_of_getElem? (i := 2270) (by decide +kernel)⟩
theorem lw_p111 : lw_okq (⟨"SkyCutsModel", "findPlan", "(I)Z"⟩, 83) := ⟨⟨by decide +kernel, by decide +kernel⟩, List.mem_of_getElem? (i := 1694) (by decide +kernel), List.mem_of_getElem? (i := 2281) (by decide +kernel), List.mem_of_getElem? (i := 2282) (by decide +kernel)⟩
def lw_privs_7 : List (MethodName × Nat) := [(⟨"SkyCutsModel", "isCrossing", "(I)Z"⟩, 83), (⟨"SkyCutsModel", "hasCells", "(I)Z"⟩, 83), (⟨"SkyCutsModel", "costOf", "()I"⟩, 83), (⟨"SkyCutsModel", "findPeaks", "()V"⟩, 83), (⟨"SkyCutsModel", "costByPeaks", "()I"⟩, 83), (⟨"SkyCutsModel", "stepsCost", "()I"⟩, 83), (⟨"SkyCutsModel", "total", "(I)I"⟩, 83), (⟨"SkyCutsModel", "findMove", "()V"⟩, 83), (⟨"SkyCutsModel", "tries", "(II)V"⟩, 83), (⟨"SkyCutsModel", "findSets", "()V"⟩, 83), (⟨"SkyCutsModel", "parts", "(III)V"⟩, 83), (⟨"SkyCutsModel", "judges", "(I)V"⟩, 83), (⟨"SkyCutsModel", "pairsOf", "(I)I"⟩, 83), (⟨"SkyCutsModel", "groupOf", "(II)I"⟩, 83), (⟨"SkyCutsModel", "joinsHold", "()Z"⟩, 83), (⟨"SkyCutsModel", "findPlan", "(I)Z"⟩, 83)]
theorem lw_r7 : ∀ q ∈ lw_privs_7, lw_okq q := List.forall_mem_cons.mpr ⟨lw_p96, List.forall_mem_cons.mpr ⟨lw_p97, List.forall_mem_cons.mpr ⟨lw_p98, List.forall_mem_cons.mpr ⟨lw_p99, List.forall_mem_cons.mpr ⟨lw_p100, List.forall_mem_cons.mpr ⟨lw_p101, List.forall_mem_cons.mpr ⟨lw_p102, List.forall_mem_cons.mpr ⟨lw_p103, List.forall_mem_cons.mpr ⟨lw_p104, List.forall_mem_cons.mpr ⟨lw_p105, List.forall_mem_cons.mpr ⟨lw_p106, List.forall_mem_cons.mpr ⟨lw_p107, List.forall_mem_cons.mpr ⟨lw_p108, List.forall_mem_cons.mpr ⟨lw_p109, List.forall_mem_cons.mpr ⟨lw_p110, List.forall_mem_cons.mpr ⟨lw_p111, fun _ h => absurd h List.not_mem_nil⟩⟩⟩⟩⟩⟩⟩⟩⟩⟩⟩⟩⟩⟩⟩⟩
theorem lw_p112 : lw_okq (⟨"SkyCutsModel", "isBusy", "(I)Z"⟩, 83) := ⟨⟨by decide +kernel, by decide +kernel⟩, List.mem_of_getElem? (i := 1694) (by decide +kernel), List.mem_of_getElem? (i := 2285) (by decide +kernel), List.mem_of_getElem? (i := 2286) (by decide +kernel)⟩
theorem lw_p113 : lw_okq (⟨"SkyCutsModel", "tells", "(I)Z"⟩, 83) := ⟨⟨by decide +kernel, by decide +kernel⟩, List.mem_of_getElem? (i := 1694) (by decide +kernel), List.mem_of_getElem? (i := 2289) (by decide +kernel), List.mem_of_getElem? (i := 2290) (by decide +kernel)⟩
theorem lw_p114 : lw_okq (⟨"SkyCutsModel", "findRota", "(I)V"⟩, 83) := ⟨⟨by decide +kernel, by decide +kernel⟩, List.mem_of_getElem? (i := 1694) (by decide +kernel), List.mem_of_getElem? (i := 2305) (by decide +kernel), List.mem_of_getElem? (i := 2306) (by decide +kernel)⟩
theorem lw_p115 : lw_okq (⟨"SkyCutsModel", "isHit", "(II)Z"⟩, 83) := ⟨⟨by decide +kernel, by decide +kernel⟩, List.mem_of_getElem? (i := 1694) (by decide +kernel), List.mem_of_getElem? (i := 2325) (by decide +kernel), List.mem_of_getElem? (i := 2326) (by decide +kernel)⟩
theorem lw_p116 : lw_okq (⟨"SkyCutsModel", "findRound", "(I)V"⟩, 83) := ⟨⟨by decide +kernel, by decide +kernel⟩, List.mem_of_getElem? (i := 1694) (by decide +kernel), List.mem_of_getElem? (i := 2329) (by decide +kernel), List.mem_of_getElem? (i := 2330) (by decide +kernel)⟩
theorem lw_p117 : lw_okq (⟨"SkyCutsModel", "goThrough", "(IIIII)V"⟩, 83) := ⟨⟨by decide +kernel, by decide +kernel⟩, List.mem_of_getElem? (i := 1694) (by decide +kernel), List.mem_of_getElem? (i := 2333) (by decide +kernel), List.mem_of_getElem? (i := 2334) (by decide +kernel)⟩
theorem lw_p118 : lw_okq (⟨"SkyCutsModel", "asMended", "(I)V"⟩, 83) := ⟨⟨by decide +kernel, by decide +kernel⟩, List.mem_of_getElem? (i := 1694) (by decide +kernel), List.mem_of_getElem? (i := 2337) (by decide +kernel), List.mem_of_getElem? (i := 2338) (by decide +kernel)⟩
theorem lw_p119 : lw_okq (⟨"SkyCutsModel", "isNoneFull", "()Z"⟩, 83) := ⟨⟨by decide +kernel, by decide +kernel⟩, List.mem_of_getElem? (i := 1694) (by decide +kernel), List.mem_of_getElem? (i := 2341) (by decide +kernel), List.mem_of_getElem? (i := 2342) (by decide +kernel)⟩
theorem lw_p120 : lw_okq (⟨"SkyCutsModel", "minutesOf", "(III)I"⟩, 83) := ⟨⟨by decide +kernel, by decide +kernel⟩, List.mem_of_getElem? (i := 1694) (by decide +kernel), List.mem_of_getElem? (i := 2345) (by decide +kernel), List.mem_of_getElem? (i := 2346) (by decide +kernel)⟩
theorem lw_p121 : lw_okq (⟨"SkyCutsModel", "offOf", "(IZ)I"⟩, 83) := ⟨⟨by decide +kernel, by decide +kernel⟩, List.mem_of_getElem? (i := 1694) (by decide +kernel), List.mem_of_getElem? (i := 2357) (by decide +kernel), List.mem_of_getElem? (i := 2358) (by decide +kernel)⟩
def lw_privs_8 : List (MethodName × Nat) := [(⟨"SkyCutsModel", "isBusy", "(I)Z"⟩, 83), (⟨"SkyCutsModel", "tells", "(I)Z"⟩, 83), (⟨"SkyCutsModel", "findRota", "(I)V"⟩, 83), (⟨"SkyCutsModel", "isHit", "(II)Z"⟩, 83), (⟨"SkyCutsModel", "findRound", "(I)V"⟩, 83), (⟨"SkyCutsModel", "goThrough", "(IIIII)V"⟩, 83), (⟨"SkyCutsModel", "asMended", "(I)V"⟩, 83), (⟨"SkyCutsModel", "isNoneFull", "()Z"⟩, 83), (⟨"SkyCutsModel", "minutesOf", "(III)I"⟩, 83), (⟨"SkyCutsModel", "offOf", "(IZ)I"⟩, 83)]
theorem lw_r8 : ∀ q ∈ lw_privs_8, lw_okq q := List.forall_mem_cons.mpr ⟨lw_p112, List.forall_mem_cons.mpr ⟨lw_p113, List.forall_mem_cons.mpr ⟨lw_p114, List.forall_mem_cons.mpr ⟨lw_p115, List.forall_mem_cons.mpr ⟨lw_p116, List.forall_mem_cons.mpr ⟨lw_p117, List.forall_mem_cons.mpr ⟨lw_p118, List.forall_mem_cons.mpr ⟨lw_p119, List.forall_mem_cons.mpr ⟨lw_p120, List.forall_mem_cons.mpr ⟨lw_p121, fun _ h => absurd h List.not_mem_nil⟩⟩⟩⟩⟩⟩⟩⟩⟩⟩
def lw_privs : List (MethodName × Nat) := lw_privs_1 ++ (lw_privs_2 ++ (lw_privs_3 ++ (lw_privs_4 ++ (lw_privs_5 ++ (lw_privs_6 ++ (lw_privs_7 ++ (lw_privs_8)))))))
def lw_tbl : List Cond := k2_sels lw_privs ++ tables_1
theorem lw_privs_ok : ∀ q ∈ lw_privs, lw_okq q := by
  show ∀ q ∈ lw_privs_1 ++ (lw_privs_2 ++ (lw_privs_3 ++ (lw_privs_4 ++ (lw_privs_5 ++ (lw_privs_6 ++ (lw_privs_7 ++ (lw_privs_8))))))), lw_okq q
  exact List.forall_mem_append.mpr ⟨lw_r1, List.forall_mem_append.mpr ⟨lw_r2, List.forall_mem_append.mpr ⟨lw_r3, List.forall_mem_append.mpr ⟨lw_r4, List.forall_mem_append.mpr ⟨lw_r5, List.forall_mem_append.mpr ⟨lw_r6, List.forall_mem_append.mpr ⟨lw_r7, lw_r8⟩⟩⟩⟩⟩⟩⟩
end
section
/-! ===== BEGIN words of one list among another's, by their places ===== -/
theorem goodIn_r {big : List Cond} (ws : List Cond) (ps : List Nat) (hp : ws = ps.filterMap (fun i => big[i]?)) (h : ws.all goodWord = true) : GoodIn big ws := by
  intro w hw
  have h1 := List.all_eq_true.mp h w hw
  rw [hp] at hw
  obtain ⟨i, -, hi⟩ := List.mem_filterMap.mp hw
  have hm : w ∈ big := by first | exact List.mem_of_getElem? hi | exact List.getElem?_mem hi
  exact ⟨hm, good_of_word h1⟩
theorem goodIn_app {big a b : List Cond} (ha : GoodIn big a) (hb : GoodIn big b) : GoodIn big (a ++ b) := fun w h => (List.mem_append.mp h).elim (ha w) (hb w)
theorem goodIn_ca {big a b : List Cond} {c : Cond} (ha : GoodIn big (c :: a)) (hb : GoodIn big b) : GoodIn big (c :: (a ++ b)) := fun w h => (List.mem_cons.mp h).elim (fun e => ha w (List.mem_cons.mpr (Or.inl e))) (fun h => (List.mem_append.mp h).elim (fun h => ha w (List.mem_cons.mpr (Or.inr h))) (hb w))
theorem goodIn_sub {big ws : List Cond} (hm : ∀ w ∈ ws, w ∈ big) (h : ws.all goodWord = true) : GoodIn big ws := fun w hw => ⟨hm w hw, good_of_word (List.all_eq_true.mp h w hw)⟩
/-! ===== END ===== -/


/-! ===== BEGIN exceptions that leave a method, and their catching by the caller (launches without stack traces) ===== -/
section VXA
/-! The laws vx_back, vx_callV, vx_callS, vx_callSW, vx_throw0, vx_throwS follow proofs of the library, with one case more: JvmDerived/Free/Laws.lean (Back.of_free), Shelf42/LK1.lean (callV, callS), Shelf/KitTraced.lean (throwNew0V, throwNewS). -/
/-- where a method has thrown q: the class by its name, the cell, what was written, the world -/
def vx_T (XC : String → State → State → Prop) (st : State) (q : Addr) (t : State) (mc ms : Nat) (free : Addr → Prop) : Prop :=
  ∃ (E : String) (ce : Cell) (L : List Loc), XC E st t ∧ t.heap[q]? = some ce ∧ ce.vm = .none ∧ st.vm.findClass E = some ce.cls ∧ st.WarmedH t.vm ∧ st.sameButNew ({ t with vm := st.vm } : State) L mc ms ∧ ∀ z ∈ L, free z.base
def vx_Q (Qc : Array Value → State → Outcome → State → Prop) (XC : String → State → State → Prop) (mc ms : Nat) (free : Addr → Prop) : Array Value → State → Outcome → State → Prop := fun a st o t =>
  (Qc a st o t ∧ ∃ L, FrameEnd st o t L mc ms ∧ ∀ q ∈ L, free q.base) ∨ ∃ q, o = .threw q ∧ vx_T XC st q t mc ms free
/-- a callee that returns or throws -/
def vx_Met (l : Launch) (y : MethodName) (ws : List Cond) (rm : Room) (Pc : Array Value → State → Prop) (Qc : Array Value → State → Outcome → State → Prop) (XC : String → State → State → Prop) (mc ms : Nat) (free : Addr → Prop) : Prop :=
  MetFree l y (headSpec ws rm) Pc (fun _ _ _ _ _ => True) (vx_Q Qc XC mc ms free)
def vx_Post (XC : String → State → State → Prop) (mc ms : Nat) (free : Addr → Prop) : Pt → Array Value → Addr → Pt → Prop := fun A a q B =>
  ∃ (g : JFrame) (mk : MethodId) (t : State) (L : List Loc) (E : String) (ce : Cell), B.U.heap = t.heap ∧ B.U.vm = t.vm ∧ XC E (A.U.calling g mk a) t ∧ t.heap[q]? = some ce ∧ ce.vm = .none ∧ A.U.vm.findClass E = some ce.cls ∧ B.locs = A.locs ++ L ∧ (∀ z ∈ L, free z.base) ∧ B.cells = A.cells + mc ∧ B.slots = A.slots + ms
def vx_Back (l : Launch) (R : Room) (p : Program) (e : Env) (below : List Frame) (s : State) (sargs : Array Value) (y : MethodName) (len W9 : Nat)
    (Pre : Pt → Array Value → Prop) (Post : Pt → Array Value → Option Value → Pt → Prop) (PostX : Pt → Array Value → Addr → Pt → Prop) : Prop :=
  ∀ (m : MethodId) (meth : Method) (c : Code) (A : Pt) (g : JFrame) (ig : Instr) (mk : MethodId) (a : Array Value),
    Stand p l e R s m sargs below meth c A.U A.locs A.cells A.slots → g.method = m → g.locals.size = c.maxLocals → decode c.code g.pc = .ok (ig, len) →
    2 * g.monitorRoom + (g.stack.map fun v => v.category).sum ≤ W9 → A.U.methodNamed? y = some mk → Pre A a →
    (∃ (v : Option Value) (B : Pt), Stand p l e R s m sargs below meth c B.U B.locs B.cells B.slots ∧ Post A a v B ∧
      Steps p.tables e below (doInvoke e (A.U.setTop g) [] mk a).1 (B.U.setTop { g with pc := g.pc + len, stack := v.toList ++ g.stack })) ∨
    (∃ (q : Addr) (B : Pt), Stand p l e R s m sargs below meth c B.U B.locs B.cells B.slots ∧ PostX A a q B ∧
      Steps p.tables e below (doInvoke e (A.U.setTop g) [] mk a).1 ((B.U.setTop g).pushFrame (.throwing q)))
section Payer
variable {l : Launch} {R : Room} {p : Program} {e : Env} {below : List Frame} {s : State} {sargs : Array Value} {y : MethodName} {len W9 : Nat}
theorem vx_back {ws : List Cond} {rm : Room} {Pc : Array Value → State → Prop} {Qc : Array Value → State → Outcome → State → Prop} {XC : String → State → State → Prop} {mc ms : Nat} {free : Addr → Prop} {bytes : ByteArray} {maxL : Nat} {ret : Option FieldType}
    (hM : vx_Met l y ws rm Pc Qc XC mc ms free) (hblind : FrameBlind Pc) (hrc : rm.cells = mc) (hrs : rm.slots = ms)
    (hframes : rm.frames + 1 ≤ R.frames) (hlocals : W9 + (maxL + 11) + rm.locals ≤ R.locals)
    (hws : ∀ w ∈ ws, ∀ a' U, s.WarmedH U.vm → w.before a' U = true) (hcode : Cond.code y bytes maxL ret ∈ ws) (hinit : ∀ a' U, s.WarmedH U.vm → (Cond.initialized y.cls).before a' U = true) :
    vx_Back l R p e below s sargs y len W9 (PreOf R mc ms Pc) (PostOf Qc mc ms free) (vx_Post XC mc ms free) := by
  intro m meth c A g ig mk a X hg hsize hdg hW hn hp
  have h1 : (headSpec ws rm).pre.before a A.U = true := atoms_intro fun w hw => hws w hw _ _ X.warmed
  have h2 : (Cond.code y bytes maxL ret).before a A.U = true := hws _ hcode _ _ X.warmed
  have h3 : (Cond.initialized y.cls).before a A.U = true := hinit _ _ X.warmed
  have h4 : A.cells + (headSpec ws rm).room.cells ≤ R.cells := by rw [show (headSpec ws rm).room.cells = mc from hrc]; exact hp.1
  have h5 : A.slots + (headSpec ws rm).room.slots ≤ R.slots := by rw [show (headSpec ws rm).room.slots = ms from hrs]; exact hp.2.1
  have hPc : Pc a (A.U.calling g mk a) := hblind _ _ _ _ hp.2.2
  obtain ⟨U, Ls, c0, s0⟩ := A
  dsimp only [Pt.U, Pt.locs, Pt.cells, Pt.slots] at h1 h2 h3 h4 h5 X hn hPc ⊢
  obtain ⟨methY, cY, hmY, hcY, -, hlY, -, -, -, -⟩ := Cond.code_spec hn h2
  obtain ⟨kY, hkY, -⟩ := className_of_methodNamed hn
  have hinitY : kY.init = .initialized := Cond.initialized_spec (findClass_of_methodNamed hn) hkY h3
  have h : At U g.method c below := by rw [hg]; exact X.here
  have hlocals9 : W9 + (maxL + 11) + (headSpec ws rm).room.locals ≤ R.locals := hlocals
  have happ : (headSpec ws rm).appliesLoose y e.platform (U.calling g mk a) = true :=
    Spec.appliesLoose_calling (g := g) h hdg hn hkY hinitY
      (X.room_calling (g := g) (R' := (headSpec ws rm).room) hsize hmY hcY hframes (by rw [hlY]; omega) h4 h5) h1
  obtain ⟨mid, hmid⟩ := h.above
  have hfr : (U.setTop g).frames = (.java g :: mid) ++ below := by rw [State.frames_setTop' g h.top, hmid]; rfl
  obtain ⟨o, s₂, hsteps, -, hend, hq⟩ := Steps.callFree hM p X.admits X.cas X.clock (acts := []) hfr happ hPc trivial
  have hq' : vx_Q Qc XC mc ms free a (U.calling g mk a) o s₂ := hq
  rw [State.frames_setTop' g h.top] at hend
  obtain ⟨g₀, hg0⟩ := Option.isSome_iff_exists.mp h.top
  obtain ⟨r, hr⟩ := State.topJava?_eq_some.mp hg0
  have hr' : (({ U with heap := s₂.heap, slotsUsed := s₂.slotsUsed } : State).setVm s₂.vm).frames = .java g₀ :: r := hr
  rcases hq' with ⟨hqc, L, hfe, hL⟩ | ⟨q, rfl, E, ce, L, hx, hce, hcv, hcl, hW₂, hsm, hL⟩
  · obtain ⟨⟨v, rfl⟩, hW₂, e2, q2, q3, q4, q5, q6⟩ := id hfe
    have e3 : s₂ = ({ (U.calling g mk a).setFrames s₂.frames with heap := s₂.heap, slotsUsed := s₂.slotsUsed } : State).setVm s₂.vm := by
      have : s₂ = ({ s₂ with vm := (U.calling g mk a).vm } : State).setVm s₂.vm := rfl
      rw [e2] at this
      exact this
    obtain ⟨c₂, i₂, len₂, hc₂, hd₂, hf₂⟩ := hend
    have hW' : U.WarmedH s₂.vm := hW₂
    have hcc : c₂ = c := by
      have h1 : s₂.code? g.method = U.code? g.method := by
        rw [State.code?_eq, State.code?_eq, hW'.alike.method?]
      exact Option.some.inj (hc₂.symm.trans (h1.trans h.code))
    subst hcc
    have hlen : len₂ = len := by rw [hdg] at hd₂; cases hd₂; rfl
    subst hlen
    have hs₂ : s₂ = (({ U with heap := s₂.heap, slotsUsed := s₂.slotsUsed } : State).setVm s₂.vm).setTop { g with pc := g.pc + len₂, stack := v.toList ++ g.stack } := by
      refine e3.trans ?_
      rw [hf₂, State.calling_eq h.top, State.setFrames_setFrames, State.setTop_of_frames _ hr', hr]
      rfl
    have hsame : U.sameButNew ({ U with heap := s₂.heap, slotsUsed := s₂.slotsUsed } : State) L mc ms := by
      refine ⟨?_, q2, q3, q4, q5, q6⟩
      obtain ⟨t, ht, -⟩ := State.frames_cons hr
      show ({ U with heap := s₂.heap, slotsUsed := s₂.slotsUsed } : State) = { U.setFrames U.frames with heap := s₂.heap, slotsUsed := s₂.slotsUsed }
      rw [State.setFrames_self ht]
    subst hg
    refine Or.inl ⟨v, ⟨(({ U with heap := s₂.heap, slotsUsed := s₂.slotsUsed } : State).setVm s₂.vm), Ls ++ L, c0 + mc, s0 + ms⟩,
      ⟨X.admits, X.cas, X.clock, X.frames, X.room, X.hears, X.method, X.code, (X.here.setHeapUsed s₂.heap s₂.slotsUsed).setVm hW'.alike, X.tail, State.WarmedH.trans X.warmed hW', X.limits, X.bytes, X.same.trans (hsame.setVm s.vm)⟩,
      ⟨g, mk, s₂, L, rfl, rfl, hqc, rfl, hL, rfl, rfl⟩, ?_⟩
    show Steps p.tables e below _ ((({ U with heap := s₂.heap, slotsUsed := s₂.slotsUsed } : State).setVm s₂.vm).setTop { g with pc := g.pc + len₂, stack := v.toList ++ g.stack })
    rw [← hs₂]
    exact hsteps
  · obtain ⟨e2, q2, q3, q4, q5, q6⟩ := id hsm
    have e3 : s₂ = ({ (U.calling g mk a).setFrames s₂.frames with heap := s₂.heap, slotsUsed := s₂.slotsUsed } : State).setVm s₂.vm := by
      have : s₂ = ({ s₂ with vm := (U.calling g mk a).vm } : State).setVm s₂.vm := rfl
      rw [e2] at this
      exact this
    have hf₂ : s₂.frames = .throwing q :: .java g :: U.frames.tail := hend
    have hW' : U.WarmedH s₂.vm := hW₂
    have hs₂ : s₂ = ((({ U with heap := s₂.heap, slotsUsed := s₂.slotsUsed } : State).setVm s₂.vm).setTop g).pushFrame (.throwing q) := by
      refine e3.trans ?_
      rw [hf₂, State.calling_eq h.top, State.setFrames_setFrames, State.pushFrame, State.frames_setTop _ hr', State.setTop_of_frames _ hr', State.setFrames_setFrames, hr]
      rfl
    have hsame : U.sameButNew ({ U with heap := s₂.heap, slotsUsed := s₂.slotsUsed } : State) L mc ms := by
      refine ⟨?_, q2, q3, q4, q5, q6⟩
      obtain ⟨t, ht, -⟩ := State.frames_cons hr
      show ({ U with heap := s₂.heap, slotsUsed := s₂.slotsUsed } : State) = { U.setFrames U.frames with heap := s₂.heap, slotsUsed := s₂.slotsUsed }
      rw [State.setFrames_self ht]
    subst hg
    refine Or.inr ⟨q, ⟨(({ U with heap := s₂.heap, slotsUsed := s₂.slotsUsed } : State).setVm s₂.vm), Ls ++ L, c0 + mc, s0 + ms⟩,
      ⟨X.admits, X.cas, X.clock, X.frames, X.room, X.hears, X.method, X.code, (X.here.setHeapUsed s₂.heap s₂.slotsUsed).setVm hW'.alike, X.tail, State.WarmedH.trans X.warmed hW', X.limits, X.bytes, X.same.trans (hsame.setVm s.vm)⟩,
      ⟨g, mk, s₂, L, E, ce, rfl, rfl, hx, hce, hcv, hcl, rfl, hL, rfl, rfl⟩, ?_⟩
    show Steps p.tables e below _ (((({ U with heap := s₂.heap, slotsUsed := s₂.slotsUsed } : State).setVm s₂.vm).setTop g).pushFrame (.throwing q))
    rw [← hs₂]
    exact hsteps
end Payer
section Calls
variable {p : Program} {l : Launch} {e : Env} {R : Room} {s : State} {m : MethodId} {args : Array Value} {below : List Frame} {meth : Method} {c : Code} {T : State} {locs : List Loc} {cells slots : Nat}
theorem vx_callV (X : Stand p l e R s m args below meth c T locs cells slots) (hexec : p.tables.exec = Jvm.exec) {own C : String} {index : Nat} {y : MethodName} {bytes : ByteArray} {maxL : Nat} {ret : Option FieldType}
    (hown : s.vm.findClass own = some m.cls) (hlink : (Cond.methodLink own index y).before args s = true) (hinst : (Cond.instanceMethod y).before args s = true) (hsel : (Cond.selects C y y).before args s = true)
    (hcode : (Cond.code y bytes maxL ret).before args s = true) (hy : y.cls ≠ "java/lang/invoke/MethodHandle" ∧ y.cls ≠ "java/lang/invoke/VarHandle")
    {W9 : Nat} {Pre : Pt → Array Value → Prop} {Post : Pt → Array Value → Option Value → Pt → Prop} {PostX : Pt → Array Value → Addr → Pt → Prop} (hK : vx_Back l R p e below s args y 3 W9 Pre Post PostX)
    {b : Addr} {cellB : Cell} (hcell : T.heap[b]? = some cellB) (hobj : cellB.vm.isStatics = false) (hcls : s.vm.findClass C = some cellB.cls)
    {g : JFrame} (hg : g.method = m) (hsize : g.locals.size = c.maxLocals) {argsL rest : List Value} (hlen : ∀ sig, parseMethodDescriptor y.desc = some sig → argsL.length = sig.parameters.length)
    (hstack : g.stack = argsL.reverse ++ .ref b :: rest) (hW : 2 * g.monitorRoom + (rest.map fun v => v.category).sum ≤ W9) (hdg : decode c.code g.pc = .ok (.invokevirtual index, 3))
    (hpre : ∀ vm₁, s.WarmedH vm₁ → Pre ⟨T.setVm vm₁, locs, cells, slots⟩ (Value.ref b :: argsL).toArray) :
    (∃ (v : Option Value) (vm₁ : Vm) (B : Pt), s.WarmedH vm₁ ∧ Stand p l e R s m args below meth c B.U B.locs B.cells B.slots ∧ Post ⟨T.setVm vm₁, locs, cells, slots⟩ (Value.ref b :: argsL).toArray v B ∧
      ∀ target, Steps p.tables e below (B.U.setTop { g with pc := g.pc + 3, stack := v.toList ++ rest }) target → Steps p.tables e below (T.setTop g) target) ∨
    (∃ (q : Addr) (vm₁ : Vm) (B : Pt), s.WarmedH vm₁ ∧ Stand p l e R s m args below meth c B.U B.locs B.cells B.slots ∧ PostX ⟨T.setVm vm₁, locs, cells, slots⟩ (Value.ref b :: argsL).toArray q B ∧
      Steps p.tables e below (T.setTop g) ((B.U.setTop { g with stack := rest }).pushFrame (.throwing q))) := by
  obtain ⟨mk, methM, hnamed, hmethM, hstM, habM⟩ := Cond.instanceMethod_spec hinst
  obtain ⟨methM', cM, hmethM', -, -, -, -, -, -, hsigM⟩ := Cond.code_spec hnamed hcode
  cases hmethM.symm.trans hmethM'
  obtain ⟨c2, r2, m2, q1, q2, q3, q4, kP, hkP, hkPi⟩ := Cond.selects_spec hsel
  cases hcls.symm.trans q1
  cases (State.methodFound?_of_named hnamed hy).symm.trans q2
  cases hnamed.symm.trans q3
  have hselP : selectMethod e.platform s.vm cellB.cls mk = .method mk := by rw [Launch.admits_selectMethod X.admits]; exact q4
  obtain ⟨vm₁, X₁, hstep₁⟩ := X.invokevirtual hexec hown hlink hnamed hmethM hstM hkP hkPi hy (a := b) (cell := cellB) hcell
    (fun z h => by rw [h] at hobj; cases hobj) hselP hmethM habM hkP hkPi (g := g) hg (argsL := argsL) (rest := rest) (hlen _ hsigM) hstack hdg
  rcases hK m meth c ⟨T.setVm vm₁, locs, cells, slots⟩ { g with stack := rest } (.invokevirtual index) mk (Value.ref b :: argsL).toArray X₁ hg hsize hdg hW (X₁.named hnamed) (hpre vm₁ X₁.warmed) with ⟨v, B, X', hpost, hsteps⟩ | ⟨q, B, X', hpost, hsteps⟩
  · exact Or.inl ⟨v, vm₁, B, X₁.warmed, X', hpost, fun target h => hstep₁ _ fun acts => by rw [doInvoke_state]; exact hsteps.trans h⟩
  · exact Or.inr ⟨q, vm₁, B, X₁.warmed, X', hpost, hstep₁ _ fun acts => by rw [doInvoke_state]; exact hsteps⟩
theorem vx_callS (X : Stand p l e R s m args below meth c T locs cells slots) (hexec : p.tables.exec = Jvm.exec) {own : String} {index : Nat} {y : MethodName} {bytes : ByteArray} {maxL : Nat} {ret : Option FieldType}
    (hown : s.vm.findClass own = some m.cls) (hlink : (Cond.methodLink own index y).before args s = true) (hstat : (Cond.static y).before args s = true) (hinit : (Cond.initialized y.cls).before args s = true)
    (hcode : (Cond.code y bytes maxL ret).before args s = true) (hy : y.cls ≠ "java/lang/invoke/MethodHandle" ∧ y.cls ≠ "java/lang/invoke/VarHandle")
    {W9 : Nat} {Pre : Pt → Array Value → Prop} {Post : Pt → Array Value → Option Value → Pt → Prop} {PostX : Pt → Array Value → Addr → Pt → Prop} (hK : vx_Back l R p e below s args y 3 W9 Pre Post PostX)
    {g : JFrame} (hg : g.method = m) (hsize : g.locals.size = c.maxLocals) {argsL rest : List Value} (hlen : ∀ sig, parseMethodDescriptor y.desc = some sig → argsL.length = sig.parameters.length)
    (hstack : g.stack = argsL.reverse ++ rest) (hW : 2 * g.monitorRoom + (rest.map fun v => v.category).sum ≤ W9) (hdg : decode c.code g.pc = .ok (.invokestatic index, 3))
    (hpre : ∀ vm₁, s.WarmedH vm₁ → Pre ⟨T.setVm vm₁, locs, cells, slots⟩ argsL.toArray) :
    (∃ (v : Option Value) (vm₁ : Vm) (B : Pt), s.WarmedH vm₁ ∧ Stand p l e R s m args below meth c B.U B.locs B.cells B.slots ∧ Post ⟨T.setVm vm₁, locs, cells, slots⟩ argsL.toArray v B ∧
      ∀ target, Steps p.tables e below (B.U.setTop { g with pc := g.pc + 3, stack := v.toList ++ rest }) target → Steps p.tables e below (T.setTop g) target) ∨
    (∃ (q : Addr) (vm₁ : Vm) (B : Pt), s.WarmedH vm₁ ∧ Stand p l e R s m args below meth c B.U B.locs B.cells B.slots ∧ PostX ⟨T.setVm vm₁, locs, cells, slots⟩ argsL.toArray q B ∧
      Steps p.tables e below (T.setTop g) ((B.U.setTop { g with stack := rest }).pushFrame (.throwing q))) := by
  obtain ⟨mk, hnamed⟩ := Cond.code_named hcode
  obtain ⟨methM, cM, hmethM, -, -, -, -, -, -, hsigM⟩ := Cond.code_spec hnamed hcode
  have hstatic : methM.isStatic = true := Cond.static_spec hnamed hmethM hstat
  obtain ⟨kP, hkP, -⟩ := className_of_methodNamed hnamed
  have hinitP : kP.init = .initialized := Cond.initialized_spec (findClass_of_methodNamed hnamed) hkP hinit
  obtain ⟨vm₁, X₁, hstep₁⟩ := X.invokestatic hexec hown hlink hnamed hmethM hstatic hkP hinitP hy (g := g) hg (argsL := argsL) (rest := rest) (hlen _ hsigM) hstack hdg
  rcases hK m meth c ⟨T.setVm vm₁, locs, cells, slots⟩ { g with stack := rest } (.invokestatic index) mk argsL.toArray X₁ hg hsize hdg hW (X₁.named hnamed) (hpre vm₁ X₁.warmed) with ⟨v, B, X', hpost, hsteps⟩ | ⟨q, B, X', hpost, hsteps⟩
  · exact Or.inl ⟨v, vm₁, B, X₁.warmed, X', hpost, fun target h => hstep₁ _ fun acts => by rw [doInvoke_state]; exact hsteps.trans h⟩
  · exact Or.inr ⟨q, vm₁, B, X₁.warmed, X', hpost, hstep₁ _ fun acts => by rw [doInvoke_state]; exact hsteps⟩
end Calls
theorem vx_cls {s : State} {T : State} {vm₁ : Vm} {E : String} {k : ClassId} (hW : s.WarmedH vm₁) (h : (T.setVm vm₁).vm.findClass E = some k) : s.vm.findClass E = some k := by
  have h1 : vm₁.findClass E = some k := h
  rw [hW.alike.findClass] at h1
  exact h1
/-- the method's frame g, with q thrown over it -/
def vx_W (p : Program) (l : Launch) (e : Env) (R : Room) (s : State) (m : MethodId) (args : Array Value) (below : List Frame) (meth : Method) (c : Code) (H : Heap) (locs : List Loc) (cells slots : Nat) (Q : State → Prop) (g : JFrame) (q : Addr) : Prop :=
  ∀ T : State, T.heap = H → Stand p l e R s m args below meth c T locs cells slots → ∃ t, Steps p.tables e below ((T.setTop g).pushFrame (.throwing q)) t ∧ Q t
def vx_Run (p : Program) (l : Launch) (e : Env) (R : Room) (s : State) (m : MethodId) (args : Array Value) (below : List Frame) (meth : Method) (c : Code) (H : Heap) (locs : List Loc) (cells slots mc ms : Nat) (g : JFrame) (rest : List Value) (Qa : State → Outcome → State → Prop) (XC : String → State → State → Prop) (free : Addr → Prop) : Prop :=
  ∀ T : State, T.heap = H → Stand p l e R s m args below meth c T locs cells slots →
    (∃ (v : Option Value) (st₀ t T' : State) (L : List Loc), st₀.heap = H ∧ Stand p l e R s m args below meth c T' (locs ++ L) (cells + mc) (slots + ms) ∧ (∀ q ∈ L, free q.base) ∧ T'.heap = t.heap ∧ T'.vm = t.vm ∧ Qa st₀ (.returned v) t ∧
      Goes p e below T g T' { g with pc := g.pc + 3, stack := v.toList ++ rest }) ∨
    (∃ (q : Addr) (st₀ t T' : State) (L : List Loc) (E : String) (ce : Cell), st₀.heap = H ∧ Stand p l e R s m args below meth c T' (locs ++ L) (cells + mc) (slots + ms) ∧ (∀ z ∈ L, free z.base) ∧ T'.heap = t.heap ∧ T'.vm = t.vm ∧ XC E st₀ t ∧ t.heap[q]? = some ce ∧ ce.vm = .none ∧ s.vm.findClass E = some ce.cls ∧
      Steps p.tables e below (T.setTop g) ((T'.setTop { g with stack := rest }).pushFrame (.throwing q)))
def vx_X {S : Type} (px : S → Prop) (B : String → S → State → Prop) (A : Nat → Prop) : String → State → State → Prop := fun E st t => ∃ u : S, px u ∧ B E u t ∧ va_F A st t
section Runs
variable {p : Program} {l : Launch} {e : Env} {R : Room} {s : State} {m : MethodId} {args : Array Value} {below : List Frame} {meth : Method} {c : Code} {H : Heap} {locs : List Loc} {cells slots : Nat}
variable {y : MethodName} {bytes cc : ByteArray} {maxL nL mc ms n index : Nat} {ret : Option FieldType} {ws : List Cond} {rm : Room} {Pc : Array Value → State → Prop} {Qc : Array Value → State → Outcome → State → Prop} {XC : String → State → State → Prop} {free : Addr → Prop} {Ts : List Cond} {own C : String} {b : Addr} {As rest : List Value} {g : JFrame}
theorem vx_callBack (cb : CallB R s args own index y bytes maxL ret ws rm mc ms n) (hM : vx_Met l y ws rm Pc Qc XC mc ms free) (hbl : FrameBlind Pc) : vx_Back l R p e below s args y 3 8 (PreOf R mc ms Pc) (PostOf Qc mc ms free) (vx_Post XC mc ms free) := by
  obtain ⟨hrc, hrs, hfr, hlo, hws, hcw, -, hini, -⟩ := cb
  exact vx_back (bytes := bytes) (maxL := maxL) (ret := ret) hM hbl hrc hrs hfr hlo hws hcw (fun a' U hW => word_at hW (Or.inl (by first | rfl | simp [Cond.onTables, Cond.keeps, Cond.steady])) hini)
theorem vx_runV (S : CallFix p m c cc nL s args Ts own) (hM : vx_Met l y ws rm Pc Qc XC mc ms free) (cw : CallW R s args own C index y bytes maxL ret ws rm mc ms n) (hp : PreV s H C b Pc As)
    (hg : g.method = m) (hn : As.length = n) (hsize : g.locals.size = nL) (hstack : g.stack = As.reverse ++ .ref b :: rest) (hW : 2 * g.monitorRoom + (rest.map fun v => v.category).sum ≤ 8) (hdg : decode cc g.pc = .ok (.invokevirtual index, 3)) (hf : cells + mc ≤ R.cells ∧ slots + ms ≤ R.slots) :
    vx_Run p l e R s m args below meth c H locs cells slots mc ms g rest (Qc (Value.ref b :: As).toArray) XC free := by
  have hK : vx_Back l R p e below s args y 3 8 (PreOf R mc ms Pc) (PostOf Qc mc ms free) (vx_Post XC mc ms free) := vx_callBack cw.1 hM hp.1
  obtain ⟨⟨-, -, -, -, -, -, hcode, -, hy, hlen, hl⟩, hin, hse⟩ := cw
  obtain ⟨hx, hb, hml, ho, -⟩ := S
  obtain ⟨-, ⟨cellB, hcB, hoB, hclB⟩, hPc⟩ := hp
  intro T hT X
  rcases vx_callV X hx (C := C) (bytes := bytes) (maxL := maxL) (ret := ret) ho hl hin hse hcode hy hK (by rw [hT]; exact hcB) hoB hclB hg (hsize.trans hml.symm) (argsL := As) (rest := rest) (fun sig h => hn.trans (hlen sig h)) hstack hW (by rw [hb]; exact hdg)
    (fun vm₁ hW₁ => ⟨hf.1, hf.2, hPc (T.setVm vm₁) hT hW₁⟩) with ⟨v, vm₁, ⟨U', l2, c2, s2⟩, hW₁, X', ⟨g', mk, t, L, e1, e2, hq, h1, hL, h2, h3⟩, st⟩ | ⟨q, vm₁, ⟨U', l2, c2, s2⟩, hW₁, X', ⟨g', mk, t, L, E, ce, e1, e2, hq, hce, hcv, hcl, h1, hL, h2, h3⟩, st⟩
  · dsimp only [Pt.U, Pt.locs, Pt.cells, Pt.slots] at X' e1 e2 h1 h2 h3 st
    subst h1; subst h2; subst h3
    exact Or.inl ⟨v, (T.setVm vm₁).calling g' mk (Value.ref b :: As).toArray, t, U', L, hT, X', hL, e1, e2, hq, st⟩
  · dsimp only [Pt.U, Pt.locs, Pt.cells, Pt.slots] at X' e1 e2 h1 h2 h3 st hcl
    subst h1; subst h2; subst h3
    exact Or.inr ⟨q, (T.setVm vm₁).calling g' mk (Value.ref b :: As).toArray, t, U', L, E, ce, hT, X', hL, e1, e2, hq, hce, hcv, vx_cls hW₁ hcl, st⟩
theorem vx_runS (S : CallFix p m c cc nL s args Ts own) (hM : vx_Met l y ws rm Pc Qc XC mc ms free) (cw : CallB R s args own index y bytes maxL ret ws rm mc ms n ∧ (Cond.static y).before args s = true) (hp : PreS s H Pc As)
    (hg : g.method = m) (hn : As.length = n) (hsize : g.locals.size = nL) (hstack : g.stack = As.reverse ++ rest) (hW : 2 * g.monitorRoom + (rest.map fun v => v.category).sum ≤ 8) (hdg : decode cc g.pc = .ok (.invokestatic index, 3)) (hf : cells + mc ≤ R.cells ∧ slots + ms ≤ R.slots) :
    vx_Run p l e R s m args below meth c H locs cells slots mc ms g rest (Qc As.toArray) XC free := by
  have hK : vx_Back l R p e below s args y 3 8 (PreOf R mc ms Pc) (PostOf Qc mc ms free) (vx_Post XC mc ms free) := vx_callBack cw.1 hM hp.1
  obtain ⟨⟨-, -, -, -, -, -, hcode, hini, hy, hlen, hl⟩, hstt⟩ := cw
  obtain ⟨hx, hb, hml, ho, -⟩ := S
  intro T hT X
  rcases vx_callS X hx (bytes := bytes) (maxL := maxL) (ret := ret) ho hl hstt hini hcode hy hK hg (hsize.trans hml.symm) (argsL := As) (rest := rest) (fun sig h => hn.trans (hlen sig h)) hstack hW (by rw [hb]; exact hdg)
    (fun vm₁ hW₁ => ⟨hf.1, hf.2, hp.2 (T.setVm vm₁) hT hW₁⟩) with ⟨v, vm₁, ⟨U', l2, c2, s2⟩, hW₁, X', ⟨g', mk, t, L, e1, e2, hq, h1, hL, h2, h3⟩, st⟩ | ⟨q, vm₁, ⟨U', l2, c2, s2⟩, hW₁, X', ⟨g', mk, t, L, E, ce, e1, e2, hq, hce, hcv, hcl, h1, hL, h2, h3⟩, st⟩
  · dsimp only [Pt.U, Pt.locs, Pt.cells, Pt.slots] at X' e1 e2 h1 h2 h3 st
    subst h1; subst h2; subst h3
    exact Or.inl ⟨v, (T.setVm vm₁).calling g' mk As.toArray, t, U', L, hT, X', hL, e1, e2, hq, st⟩
  · dsimp only [Pt.U, Pt.locs, Pt.cells, Pt.slots] at X' e1 e2 h1 h2 h3 st hcl
    subst h1; subst h2; subst h3
    exact Or.inr ⟨q, (T.setVm vm₁).calling g' mk As.toArray, t, U', L, E, ce, hT, X', hL, e1, e2, hq, hce, hcv, vx_cls hW₁ hcl, st⟩
end Runs
section Rows
variable {p : Program} {l : Launch} {e : Env} {R : Room} {s : State} {m : MethodId} {args : Array Value} {below : List Frame} {meth : Method} {c : Code} {H : Heap} {locs : List Loc} {cells slots : Nat} {Q : State → Prop}
variable {mc ms : Nat} {free : Addr → Prop} {A0 A1 : Nat → Prop} {H0 : Heap} {a : Array Value} {pc : Nat} {ls : Array Slot} {st0 rest : List Value}
theorem vx_keep {st₀ t T' : State} {L : List Loc} (h0 : st₀.heap = H) (e1 : T'.heap = t.heap) (hS : va_S A0 H0 H locs) (hA : ∀ q, q < H.size → A1 q → A0 q) (hf : ∀ q, free q → A0 q) (hL : ∀ q ∈ L, free q.base) (hF : va_F A1 st₀ t) :
    H.size ≤ T'.heap.size ∧ (∀ q : Nat, q < H.size → ¬ A1 q → T'.heap[q]? = H[q]?) ∧ va_S A0 H0 T'.heap (locs ++ L) := by
  obtain ⟨hz, hk⟩ := hF
  rw [h0] at hz hk
  exact ⟨by rw [e1]; exact hz, fun q h1 h2 => by rw [e1]; exact hk q h1 h2,
    ⟨Nat.le_trans hS.1 (by rw [e1]; exact hz), fun q h1 h2 => by rw [e1, hk q (Nat.lt_of_lt_of_le h1 hS.1) (fun z => h2 (hA q (Nat.lt_of_lt_of_le h1 hS.1) z))]; exact hS.2.1 q h1 h2, fun q hq => by
      rcases List.mem_append.mp hq with h | h
      · exact hS.2.2 q h
      · exact hf _ (hL q h)⟩⟩
theorem vx_calli {S SX : Type} {post : Int32 → S → Prop} {px : SX → Prop} {B : S → State → Prop} {BX : String → SX → State → Prop} {AX : Nat → Prop} (hr : vx_Run p l e R s m args below meth c H locs cells slots mc ms (F0 m pc ls st0) rest (va_Qi post B A1 a) (vx_X px BX AX) free) (hS : va_S A0 H0 H locs) (hA : ∀ q, q < H.size → A1 q → A0 q) (hf : ∀ q, free q → A0 q) (hAX : ∀ q, q < H.size → AX q → A0 q)
    (kx : ∀ (E : String) (ce : Cell) (q9 : Addr) (u : SX) (t : State) (H1 : Heap) (locs1 : List Loc), t.heap = H1 → s.vm.Alike t.vm → px u → BX E u t → H.size ≤ H1.size → (∀ q : Nat, q < H.size → ¬ AX q → H1[q]? = H[q]?) → va_S A0 H0 H1 locs1 → H1[q9]? = some ce → ce.vm = .none → s.vm.findClass E = some ce.cls → vx_W p l e R s m args below meth c H1 locs1 (cells + mc) (slots + ms) Q (F0 m pc ls rest) q9)
    (kk : ∀ (r : Int32) (u : S) (t : State) (H1 : Heap) (locs1 : List Loc), t.heap = H1 → s.vm.Alike t.vm → post r u → B u t → H.size ≤ H1.size → (∀ q : Nat, q < H.size → ¬ A1 q → H1[q]? = H[q]?) → va_S A0 H0 H1 locs1 → W p l e R s m args below meth c H1 locs1 (cells + mc) (slots + ms) Q (F0 m (pc + 3) ls (.int r :: rest))) : W p l e R s m args below meth c H locs cells slots Q (F0 m pc ls st0) := by
  intro T hT X
  rcases hr T hT X with ⟨v, st₀, t, T', L, h0, X', hL, e1, e2, ⟨⟨r, u, hv, hp, hb⟩, hF⟩, st⟩ | ⟨q, st₀, t, T', L, E, ce, h0, X', hL, e1, e2, ⟨u, hp, hb, hF⟩, hce, hcv, hcl, st⟩
  · cases hv
    obtain ⟨k1, k2, k3⟩ := vx_keep h0 e1 hS hA hf hL hF
    obtain ⟨t2, a1, b1⟩ := kk r u t T'.heap (locs ++ L) e1.symm (by rw [← e2]; exact X'.warmed.alike) hp hb k1 k2 k3 T' rfl X'
    exact ⟨t2, st t2 a1, b1⟩
  · obtain ⟨k1, k2, k3⟩ := vx_keep h0 e1 hS hAX hf hL hF
    obtain ⟨t2, a1, b1⟩ := kx E ce q u t T'.heap (locs ++ L) e1.symm (by rw [← e2]; exact X'.warmed.alike) hp hb k1 k2 k3 (by rw [e1]; exact hce) hcv hcl T' rfl X'
    exact ⟨t2, st.trans a1, b1⟩
theorem vx_calll {S SX : Type} {post : Int64 → S → Prop} {px : SX → Prop} {B : S → State → Prop} {BX : String → SX → State → Prop} {AX : Nat → Prop} (hr : vx_Run p l e R s m args below meth c H locs cells slots mc ms (F0 m pc ls st0) rest (va_Ql post B A1 a) (vx_X px BX AX) free) (hS : va_S A0 H0 H locs) (hA : ∀ q, q < H.size → A1 q → A0 q) (hf : ∀ q, free q → A0 q) (hAX : ∀ q, q < H.size → AX q → A0 q)
    (kx : ∀ (E : String) (ce : Cell) (q9 : Addr) (u : SX) (t : State) (H1 : Heap) (locs1 : List Loc), t.heap = H1 → s.vm.Alike t.vm → px u → BX E u t → H.size ≤ H1.size → (∀ q : Nat, q < H.size → ¬ AX q → H1[q]? = H[q]?) → va_S A0 H0 H1 locs1 → H1[q9]? = some ce → ce.vm = .none → s.vm.findClass E = some ce.cls → vx_W p l e R s m args below meth c H1 locs1 (cells + mc) (slots + ms) Q (F0 m pc ls rest) q9)
    (kk : ∀ (r : Int64) (u : S) (t : State) (H1 : Heap) (locs1 : List Loc), t.heap = H1 → s.vm.Alike t.vm → post r u → B u t → H.size ≤ H1.size → (∀ q : Nat, q < H.size → ¬ A1 q → H1[q]? = H[q]?) → va_S A0 H0 H1 locs1 → W p l e R s m args below meth c H1 locs1 (cells + mc) (slots + ms) Q (F0 m (pc + 3) ls (.long r :: rest))) : W p l e R s m args below meth c H locs cells slots Q (F0 m pc ls st0) := by
  intro T hT X
  rcases hr T hT X with ⟨v, st₀, t, T', L, h0, X', hL, e1, e2, ⟨⟨r, u, hv, hp, hb⟩, hF⟩, st⟩ | ⟨q, st₀, t, T', L, E, ce, h0, X', hL, e1, e2, ⟨u, hp, hb, hF⟩, hce, hcv, hcl, st⟩
  · cases hv
    obtain ⟨k1, k2, k3⟩ := vx_keep h0 e1 hS hA hf hL hF
    obtain ⟨t2, a1, b1⟩ := kk r u t T'.heap (locs ++ L) e1.symm (by rw [← e2]; exact X'.warmed.alike) hp hb k1 k2 k3 T' rfl X'
    exact ⟨t2, st t2 a1, b1⟩
  · obtain ⟨k1, k2, k3⟩ := vx_keep h0 e1 hS hAX hf hL hF
    obtain ⟨t2, a1, b1⟩ := kx E ce q u t T'.heap (locs ++ L) e1.symm (by rw [← e2]; exact X'.warmed.alike) hp hb k1 k2 k3 (by rw [e1]; exact hce) hcv hcl T' rfl X'
    exact ⟨t2, st.trans a1, b1⟩
theorem vx_callf {S SX : Type} {post : UInt32 → S → Prop} {px : SX → Prop} {B : S → State → Prop} {BX : String → SX → State → Prop} {AX : Nat → Prop} (hr : vx_Run p l e R s m args below meth c H locs cells slots mc ms (F0 m pc ls st0) rest (va_Qf post B A1 a) (vx_X px BX AX) free) (hS : va_S A0 H0 H locs) (hA : ∀ q, q < H.size → A1 q → A0 q) (hf : ∀ q, free q → A0 q) (hAX : ∀ q, q < H.size → AX q → A0 q)
    (kx : ∀ (E : String) (ce : Cell) (q9 : Addr) (u : SX) (t : State) (H1 : Heap) (locs1 : List Loc), t.heap = H1 → s.vm.Alike t.vm → px u → BX E u t → H.size ≤ H1.size → (∀ q : Nat, q < H.size → ¬ AX q → H1[q]? = H[q]?) → va_S A0 H0 H1 locs1 → H1[q9]? = some ce → ce.vm = .none → s.vm.findClass E = some ce.cls → vx_W p l e R s m args below meth c H1 locs1 (cells + mc) (slots + ms) Q (F0 m pc ls rest) q9)
    (kk : ∀ (r : UInt32) (u : S) (t : State) (H1 : Heap) (locs1 : List Loc), t.heap = H1 → s.vm.Alike t.vm → post r u → B u t → H.size ≤ H1.size → (∀ q : Nat, q < H.size → ¬ A1 q → H1[q]? = H[q]?) → va_S A0 H0 H1 locs1 → W p l e R s m args below meth c H1 locs1 (cells + mc) (slots + ms) Q (F0 m (pc + 3) ls (.float r :: rest))) : W p l e R s m args below meth c H locs cells slots Q (F0 m pc ls st0) := by
  intro T hT X
  rcases hr T hT X with ⟨v, st₀, t, T', L, h0, X', hL, e1, e2, ⟨⟨r, u, hv, hp, hb⟩, hF⟩, st⟩ | ⟨q, st₀, t, T', L, E, ce, h0, X', hL, e1, e2, ⟨u, hp, hb, hF⟩, hce, hcv, hcl, st⟩
  · cases hv
    obtain ⟨k1, k2, k3⟩ := vx_keep h0 e1 hS hA hf hL hF
    obtain ⟨t2, a1, b1⟩ := kk r u t T'.heap (locs ++ L) e1.symm (by rw [← e2]; exact X'.warmed.alike) hp hb k1 k2 k3 T' rfl X'
    exact ⟨t2, st t2 a1, b1⟩
  · obtain ⟨k1, k2, k3⟩ := vx_keep h0 e1 hS hAX hf hL hF
    obtain ⟨t2, a1, b1⟩ := kx E ce q u t T'.heap (locs ++ L) e1.symm (by rw [← e2]; exact X'.warmed.alike) hp hb k1 k2 k3 (by rw [e1]; exact hce) hcv hcl T' rfl X'
    exact ⟨t2, st.trans a1, b1⟩
theorem vx_calld {S SX : Type} {post : UInt64 → S → Prop} {px : SX → Prop} {B : S → State → Prop} {BX : String → SX → State → Prop} {AX : Nat → Prop} (hr : vx_Run p l e R s m args below meth c H locs cells slots mc ms (F0 m pc ls st0) rest (va_Qd post B A1 a) (vx_X px BX AX) free) (hS : va_S A0 H0 H locs) (hA : ∀ q, q < H.size → A1 q → A0 q) (hf : ∀ q, free q → A0 q) (hAX : ∀ q, q < H.size → AX q → A0 q)
    (kx : ∀ (E : String) (ce : Cell) (q9 : Addr) (u : SX) (t : State) (H1 : Heap) (locs1 : List Loc), t.heap = H1 → s.vm.Alike t.vm → px u → BX E u t → H.size ≤ H1.size → (∀ q : Nat, q < H.size → ¬ AX q → H1[q]? = H[q]?) → va_S A0 H0 H1 locs1 → H1[q9]? = some ce → ce.vm = .none → s.vm.findClass E = some ce.cls → vx_W p l e R s m args below meth c H1 locs1 (cells + mc) (slots + ms) Q (F0 m pc ls rest) q9)
    (kk : ∀ (r : UInt64) (u : S) (t : State) (H1 : Heap) (locs1 : List Loc), t.heap = H1 → s.vm.Alike t.vm → post r u → B u t → H.size ≤ H1.size → (∀ q : Nat, q < H.size → ¬ A1 q → H1[q]? = H[q]?) → va_S A0 H0 H1 locs1 → W p l e R s m args below meth c H1 locs1 (cells + mc) (slots + ms) Q (F0 m (pc + 3) ls (.double r :: rest))) : W p l e R s m args below meth c H locs cells slots Q (F0 m pc ls st0) := by
  intro T hT X
  rcases hr T hT X with ⟨v, st₀, t, T', L, h0, X', hL, e1, e2, ⟨⟨r, u, hv, hp, hb⟩, hF⟩, st⟩ | ⟨q, st₀, t, T', L, E, ce, h0, X', hL, e1, e2, ⟨u, hp, hb, hF⟩, hce, hcv, hcl, st⟩
  · cases hv
    obtain ⟨k1, k2, k3⟩ := vx_keep h0 e1 hS hA hf hL hF
    obtain ⟨t2, a1, b1⟩ := kk r u t T'.heap (locs ++ L) e1.symm (by rw [← e2]; exact X'.warmed.alike) hp hb k1 k2 k3 T' rfl X'
    exact ⟨t2, st t2 a1, b1⟩
  · obtain ⟨k1, k2, k3⟩ := vx_keep h0 e1 hS hAX hf hL hF
    obtain ⟨t2, a1, b1⟩ := kx E ce q u t T'.heap (locs ++ L) e1.symm (by rw [← e2]; exact X'.warmed.alike) hp hb k1 k2 k3 (by rw [e1]; exact hce) hcv hcl T' rfl X'
    exact ⟨t2, st.trans a1, b1⟩
theorem vx_callv {S SX : Type} {post : S → Prop} {px : SX → Prop} {B : S → State → Prop} {BX : String → SX → State → Prop} {AX : Nat → Prop} (hr : vx_Run p l e R s m args below meth c H locs cells slots mc ms (F0 m pc ls st0) rest (va_Qv post B A1 a) (vx_X px BX AX) free) (hS : va_S A0 H0 H locs) (hA : ∀ q, q < H.size → A1 q → A0 q) (hf : ∀ q, free q → A0 q) (hAX : ∀ q, q < H.size → AX q → A0 q)
    (kx : ∀ (E : String) (ce : Cell) (q9 : Addr) (u : SX) (t : State) (H1 : Heap) (locs1 : List Loc), t.heap = H1 → s.vm.Alike t.vm → px u → BX E u t → H.size ≤ H1.size → (∀ q : Nat, q < H.size → ¬ AX q → H1[q]? = H[q]?) → va_S A0 H0 H1 locs1 → H1[q9]? = some ce → ce.vm = .none → s.vm.findClass E = some ce.cls → vx_W p l e R s m args below meth c H1 locs1 (cells + mc) (slots + ms) Q (F0 m pc ls rest) q9)
    (kk : ∀ (u : S) (t : State) (H1 : Heap) (locs1 : List Loc), t.heap = H1 → s.vm.Alike t.vm → post u → B u t → H.size ≤ H1.size → (∀ q : Nat, q < H.size → ¬ A1 q → H1[q]? = H[q]?) → va_S A0 H0 H1 locs1 → W p l e R s m args below meth c H1 locs1 (cells + mc) (slots + ms) Q (F0 m (pc + 3) ls (rest))) : W p l e R s m args below meth c H locs cells slots Q (F0 m pc ls st0) := by
  intro T hT X
  rcases hr T hT X with ⟨v, st₀, t, T', L, h0, X', hL, e1, e2, ⟨⟨u, hv, hp, hb⟩, hF⟩, st⟩ | ⟨q, st₀, t, T', L, E, ce, h0, X', hL, e1, e2, ⟨u, hp, hb, hF⟩, hce, hcv, hcl, st⟩
  · cases hv
    obtain ⟨k1, k2, k3⟩ := vx_keep h0 e1 hS hA hf hL hF
    obtain ⟨t2, a1, b1⟩ := kk u t T'.heap (locs ++ L) e1.symm (by rw [← e2]; exact X'.warmed.alike) hp hb k1 k2 k3 T' rfl X'
    exact ⟨t2, st t2 a1, b1⟩
  · obtain ⟨k1, k2, k3⟩ := vx_keep h0 e1 hS hAX hf hL hF
    obtain ⟨t2, a1, b1⟩ := kx E ce q u t T'.heap (locs ++ L) e1.symm (by rw [← e2]; exact X'.warmed.alike) hp hb k1 k2 k3 (by rw [e1]; exact hce) hcv hcl T' rfl X'
    exact ⟨t2, st.trans a1, b1⟩
/-- caught by the row x of this method's table; the rows ahead don't take it -/
theorem vx_catch {own name : String} {E : String} {ce : Cell} {q : Addr} (hown : s.vm.findClass own = some m.cls) (pre : List ExceptionTableEntry) (x : ExceptionTableEntry) (suf : List ExceptionTableEntry) (hsplit : c.exceptionTable.toList = pre ++ x :: suf)
    (hpass : ∀ z ∈ pre, covers z pc = false ∨ (z.catchType ≠ 0 ∧ ∃ nm : String, (Cond.classLink own z.catchType nm).before args s = true ∧ va_Nc E nm s)) (hx : covers x pc = true) (h0 : x.catchType ≠ 0)
    (hlink : (Cond.classLink own x.catchType name).before args s = true) (hcast : (Cond.castable E name).before args s = true) (hcell : H[q]? = some ce) (hv : ce.vm = .none) (hcl : s.vm.findClass E = some ce.cls)
    (kk : W p l e R s m args below meth c H locs cells slots Q (F0 m x.handlerPc ls [.ref q])) : vx_W p l e R s m args below meth c H locs cells slots Q (F0 m pc ls rest) q := by
  intro T hT X
  have hpl : e.platform.magicAccessors = ({} : Platform).magicAccessors := by rw [X.admits.platform]
  obtain ⟨c3, c4, hc3, hc4, hasg⟩ := Cond.castable_spec hcast
  cases Option.some.inj (hc3.symm.trans hcl)
  obtain ⟨c5, hc5, hcl5⟩ := Cond.classLink_spec hown hlink e.platform hpl
  cases Option.some.inj (hc4.symm.trans hc5)
  obtain ⟨vm', X', st⟩ := Jvm.Stand.thenCaughtThrough X q (g := F0 m pc ls rest) rfl (Steps.refl _) (by rw [hT]; exact hcell) (by rw [hv]; rfl) (by obtain ⟨k9, h9, -⟩ := Vm.findClass_spec hcl; exact ⟨k9, h9⟩) pre x suf hsplit
    (fun z hz => by
      rcases hpass z hz with h | ⟨hz0, nm, hl1, hn1⟩
      · exact Or.inl h
      · obtain ⟨c6, hc6, hcl6⟩ := Cond.classLink_spec hown hl1 e.platform hpl
        obtain ⟨a8, b8, h1, h2, h3⟩ := hn1
        cases Option.some.inj (h1.symm.trans hcl)
        cases Option.some.inj (h2.symm.trans hc6)
        exact Or.inr ⟨hz0, _, hcl6, h3⟩) hx (Or.inr ⟨h0, c4, hcl5, hasg⟩)
  obtain ⟨t, a1, b1⟩ := kk (T.setVm vm') hT X'
  exact ⟨t, st.trans a1, b1⟩
end Rows
section Ends
variable {p : Program} {l : Launch} {e : Env} {R : Room} {s : State} {m : MethodId} {args : Array Value} {below : List Frame} {meth : Method} {c : Code} {H : Heap} {locs : List Loc} {cells slots : Nat} {Q : State → Prop}
variable {mc ms : Nat} {free : Addr → Prop} {A0 A1 : Nat → Prop} {H0 : Heap} {a : Array Value} {ls : Array Slot} {st0 rest : List Value}
variable {Qc : Array Value → State → Outcome → State → Prop} {XC : String → State → State → Prop}
/-- what a body that may throw owes at its end -/
def vx_MQ (below : List Frame) (Qc : Array Value → State → Outcome → State → Prop) (XC : String → State → State → Prop) (a : Array Value) (s : State) (mc ms : Nat) (free : Addr → Prop) : State → Prop := fun t =>
  ∃ o, t.status = .running ∧ Ended t below o ∧ vx_Q Qc XC mc ms free a s o t
theorem vx_ret {g : JFrame} {mc ms : Nat} (k : W p l e R s m args below meth c H locs cells slots (MQ below Qc args s mc ms free) g) : W p l e R s m args below meth c H locs cells slots (vx_MQ below Qc XC args s mc ms free) g := by
  intro T hT X
  obtain ⟨t, a1, o, b1, b2, b3, b4⟩ := k T hT X
  exact ⟨t, a1, o, b1, b2, Or.inl ⟨b3, b4⟩⟩
/-- not caught here: it goes on to the caller -/
theorem vx_widen {g : JFrame} {q : Addr} {k n : Nat} (h1 : cells ≤ k) (h2 : slots ≤ n) (kk : vx_W p l e R s m args below meth c H locs k n Q g q) : vx_W p l e R s m args below meth c H locs cells slots Q g q := fun T hT X => kk T hT (stand_widen X h1 h2)
theorem vx_out {pc : Nat} {E : String} {ce : Cell} {q : Addr} {mc ms : Nat} (hout : ∀ x ∈ c.exceptionTable.toList, covers x pc = false) (hlocks : meth.locks = false) (hcell : H[q]? = some ce) (hv : ce.vm = .none) (hcl : s.vm.findClass E = some ce.cls)
    (hx : ∀ t : State, t.heap = H → s.vm.Alike t.vm → XC E s t) (hf : ∀ z ∈ locs, free z.base) (hc : cells ≤ mc) (hs : slots ≤ ms) :
    vx_W p l e R s m args below meth c H locs cells slots (vx_MQ below Qc XC args s mc ms free) (F0 m pc ls rest) q := by
  intro T hT X
  obtain ⟨st1, hrun, hend, hW, hsm⟩ := X.leaveThrown q (g := F0 m pc ls rest) rfl rfl rfl hout hlocks
  have hcell9 : (T.setFrames (.throwing q :: below)).heap[q]? = some ce := by
    show T.heap[q]? = some ce
    rw [hT]; exact hcell
  exact ⟨_, st1, .threw q, hrun, hend, Or.inr ⟨q, rfl, E, ce, locs, hx _ hT hW.alike, hcell9, hv, hcl, hW, hsm.mono hc hs, hf⟩⟩
theorem vx_frame {U : State} {k n : Nat} (h : s.sameButNew ({ U with vm := s.vm } : State) locs k n) : s.heap.size ≤ U.heap.size ∧ ∀ q : Nat, q < s.heap.size → (∀ z ∈ locs, z.base ≠ q) → U.heap[q]? = s.heap[q]? := by
  obtain ⟨-, h2, -, -, -, h6⟩ := h
  refine ⟨h2, fun q hq hz => ?_⟩
  obtain ⟨c9, e1, e2, e3, e4⟩ := h6 q _ (Array.getElem?_eq_getElem hq)
  have hs : c9.slots = (s.heap[q]).slots := Array.ext_getElem? fun i => e4 i fun hm => hz _ hm rfl
  have h9 : c9 = s.heap[q] := by
    rw [hs] at e2
    exact e2
  have e5 : U.heap[q]? = some c9 := e1
  rw [e5, h9, Array.getElem?_eq_getElem hq]
/-- the words of a throw but the four that speak of the heap -/
def vx_no (w : Cond) : Bool := decide (w ≠ .isRef (.static Bundle.tN "UNASSIGNED_STACK" Bundle.steD)) && decide (w ≠ .isRef (.static Bundle.tN "SUPPRESSED_SENTINEL" Bundle.listD)) && decide (w ≠ .laysStatic Bundle.tN "UNASSIGNED_STACK" Bundle.steD) && decide (w ≠ .laysStatic Bundle.tN "SUPPRESSED_SENTINEL" Bundle.listD)
def vx_at0 (own : String) (ic : Nat) (X : String) (names : List String) : List Cond := (Bundle.ownAtoms0 own ic X names).filter vx_no
def vx_atS (own : String) (ic : Nat) (X : String) (names : List String) : List Cond := (Bundle.ownAtoms own ic X names).filter vx_no
/-- a word that the tables alone decide, or a good one -/
def vx_ot (w : Cond) : Bool := w.onTables || goodWord w
theorem vx_ot_at {args a' : Array Value} {s U : State} {w : Cond} (hW : s.WarmedH U.vm) (hvm : s.vm = U.vm) (hg : vx_ot w = true) (h : w.before args s = true) : w.before a' U = true := by
  simp only [vx_ot, Bool.or_eq_true] at hg
  rcases hg with hg | hg
  · exact va_tabs hg hvm h
  · exact word_at hW (good_of_word hg) h
/-- a list's words: the good ones out of the method's own list, the others by premises of their own -/
theorem vx_hat {args : Array Value} {s : State} {L B : List Cond} (h1 : ∀ w ∈ L.filter goodWord, w.before args s = true) (h2 : ∀ w ∈ L.filter (fun w => !goodWord w), w ∈ B) (h3 : ∀ w ∈ B, w.before args s = true) : ∀ w ∈ L, w.before args s = true := by
  intro w hw
  by_cases g : goodWord w = true
  · exact h1 w (List.mem_filter.mpr ⟨hw, g⟩)
  · refine h3 w (h2 w (List.mem_filter.mpr ⟨hw, ?_⟩))
    show (!goodWord w) = true
    cases hgw : goodWord w
    · rfl
    · exact absurd hgw g
theorem vx_c {args : Array Value} {s : State} {w : Cond} {B : List Cond} (h : w.before args s = true) (t : ∀ w ∈ B, w.before args s = true) : ∀ w' ∈ w :: B, w'.before args s = true := fun w' h' => (List.mem_cons.mp h').elim (fun e => by rw [e]; exact h) (t w')
theorem vx_n {args : Array Value} {s : State} : ∀ w ∈ ([] : List Cond), w.before args s = true := fun _ h => nomatch h
theorem vx_own {args : Array Value} {s : State} {L : List Cond} (h1 : ∀ w ∈ L.filter vx_no, w.before args s = true)
    (hU : (Cond.isRef (.static Bundle.tN "UNASSIGNED_STACK" Bundle.steD)).before args s = true) (hN : (Cond.isRef (.static Bundle.tN "SUPPRESSED_SENTINEL" Bundle.listD)).before args s = true)
    (lU : (Cond.laysStatic Bundle.tN "UNASSIGNED_STACK" Bundle.steD).before args s = true) (lN : (Cond.laysStatic Bundle.tN "SUPPRESSED_SENTINEL" Bundle.listD).before args s = true) : ∀ w ∈ L, w.before args s = true := by
  intro w hw
  by_cases e1 : w = .isRef (.static Bundle.tN "UNASSIGNED_STACK" Bundle.steD)
  · rw [e1]; exact hU
  · by_cases e2 : w = .isRef (.static Bundle.tN "SUPPRESSED_SENTINEL" Bundle.listD)
    · rw [e2]; exact hN
    · by_cases e3 : w = .laysStatic Bundle.tN "UNASSIGNED_STACK" Bundle.steD
      · rw [e3]; exact lU
      · by_cases e4 : w = .laysStatic Bundle.tN "SUPPRESSED_SENTINEL" Bundle.listD
        · rw [e4]; exact lN
        · exact h1 w (List.mem_filter.mpr ⟨hw, by unfold vx_no; rw [decide_eq_true e1, decide_eq_true e2, decide_eq_true e3, decide_eq_true e4]; rfl⟩)
/-- where a static field lies, its class's statics cell in H -/
def vx_L (C n d : String) (A : Nat → Prop) (U : State) (H : Heap) : Prop := ∃ (c : ClassId) (k : Class) (i : Nat) (f : Field) (a : Nat) (cell : Cell), U.vm.findClass C = some c ∧ U.fieldFound? C n d = some (c, k, i, f) ∧ f.isStatic = true ∧ k.statics = some a ∧ H[a]? = some cell ∧ cell.vm.isStatics = true ∧ cell.cls = c ∧ f.slot < cell.slots.size ∧ k.staticTypes[f.slot]? = some f.type ∧ ¬ A a
theorem vx_L.moved {C n d : String} {A : Nat → Prop} {u U : State} {H : Heap} (hvm : u.vm.Alike U.vm) (h : vx_L C n d A u H) : vx_L C n d A U H := by
  obtain ⟨c, k, i, f, a, cell, h1, h2, h3, h4, h5, h6, h7, h8, h9, h10⟩ := h
  obtain ⟨k', hi', he⟩ := State.fieldFound?_setVm hvm h2
  exact ⟨c, k', i, f, a, cell, by rw [hvm.findClass]; exact h1, hi', h3, by rw [he]; exact h4, h5, h6, h7, h8, by rw [he]; exact h9, h10⟩
theorem vx_L.kept {C n d : String} {A : Nat → Prop} {U : State} {H H1 : Heap} (h : vx_L C n d A U H) (hq : ∀ a : Nat, a < H.size → ¬ A a → H1[a]? = H[a]?) : vx_L C n d A U H1 := by
  obtain ⟨c, k, i, f, a, cell, h1, h2, h3, h4, h5, h6, h7, h8, h9, h10⟩ := h
  exact ⟨c, k, i, f, a, cell, h1, h2, h3, h4, by rw [hq a (Array.getElem?_eq_some_iff.mp h5).1 h10]; exact h5, h6, h7, h8, h9, h10⟩
theorem vx_L.narrow {C n d : String} {A B : Nat → Prop} {U : State} {H : Heap} (h : vx_L C n d A U H) (hAB : ∀ q, B q → A q) : vx_L C n d B U H := by
  obtain ⟨c, k, i, f, a, cell, h1, h2, h3, h4, h5, h6, h7, h8, h9, h10⟩ := h
  exact ⟨c, k, i, f, a, cell, h1, h2, h3, h4, h5, h6, h7, h8, h9, fun z => h10 (hAB _ z)⟩
theorem vx_L.word {C n d : String} {A : Nat → Prop} {s : State} {args : Array Value} (h : vx_L C n d A s s.heap) : (Cond.laysStatic C n d).before args s = true := by
  obtain ⟨c, k, i, f, a, cell, h1, h2, h3, h4, h5, h6, h7, h8, h9, -⟩ := h
  show (Cond.laysStatic C n d).holds args s none s [] = true
  exact Cond.laysStatic_of h1 h2 h3 h4 h5 h6 h7 h8 h9
/-- .. and what it holds: null or some reference -/
def vx_Zq (C n d : String) (A : Nat → Prop) (U : State) (H : Heap) : Prop := va_Zq C n d A U H ∧ vx_L C n d A U H
theorem vx_Zq.moved {C n d : String} {A : Nat → Prop} {u U : State} {H : Heap} (hvm : u.vm.Alike U.vm) (h : vx_Zq C n d A u H) : vx_Zq C n d A U H := ⟨va_Zq.moved hvm h.1, vx_L.moved hvm h.2⟩
theorem vx_Zq.kept {C n d : String} {A : Nat → Prop} {U : State} {H H1 : Heap} (h : vx_Zq C n d A U H) (hq : ∀ a : Nat, a < H.size → ¬ A a → H1[a]? = H[a]?) : vx_Zq C n d A U H1 := ⟨va_Zq.kept h.1 hq, vx_L.kept h.2 hq⟩
theorem vx_Zq.narrow {C n d : String} {A B : Nat → Prop} {U : State} {H : Heap} (h : vx_Zq C n d A U H) (hAB : ∀ q, B q → A q) : vx_Zq C n d B U H := ⟨va_Zq.narrow h.1 hAB, vx_L.narrow h.2 hAB⟩
theorem vx_Zqof {args : Array Value} {s : State} {C n d : String} {A : Nat → Prop} (hl : (Cond.laysStatic C n d).before args s = true) (hini : (Cond.initialized C).before args s = true) (h : (Cond.isRef (.static C n d)).before args s = true) (hA : ∀ a : Nat, a < s.heap.size → ¬ A a) : vx_Zq C n d A s s.heap := by
  refine ⟨va_Zqof hl hini h hA, ?_⟩
  obtain ⟨c, k, i, f, a, cell, h1, h2, h3, h4, h5, h6, h7, h8, h9⟩ := Cond.laysStatic_spec hl
  exact ⟨c, k, i, f, a, cell, h1, h2, h3, h4, h5, h6, h7, h8, h9, hA a (Array.getElem?_eq_some_iff.mp h5).1⟩
theorem vx_isRef {C n d : String} {v : Value} {A : Nat → Prop} {s : State} {args : Array Value} (h : va_Z C n d v A s s.heap) (hv : v.isRef = true) : (Cond.isRef (.static C n d)).before args s = true := by
  obtain ⟨cf, kf, fi, f, a, cell, h1, h2, h3, h4, h5, h6, h7, -⟩ := h
  have he : (Term.static C n d).eval args s none [] s = some v := by
    simp [Term.eval, State.fieldNamed?, h1, h2, h4, h5, h6, h7]
  simp only [Cond.before, Cond.holds, Cond.value, he]
  cases v <;> simp_all [Value.isRef]
theorem vx_isRefq {C n d : String} {A : Nat → Prop} {s : State} {args : Array Value} (h : va_Zq C n d A s s.heap) : (Cond.isRef (.static C n d)).before args s = true := by
  rcases h with h | ⟨t, h⟩
  · exact vx_isRef h rfl
  · exact vx_isRef h rfl
/-- the same frame, seen from here: as if the method were called anew in this heap -/
theorem vx_rebase {T : State} (X : Stand p l e R s m args below meth c T locs cells slots) {R' : Room} (hf : R'.frames ≤ R.frames) (hl : R'.locals ≤ R.locals) (hc : cells + R'.cells ≤ R.cells) (hs : slots + R'.slots ≤ R.slots) :
    Stand p l e R' ((T.setVm s.vm).setFrames (.invoking m args :: below)) m args below meth c T [] 0 0 := by
  have htop : (T.setVm s.vm).topJava?.isSome := X.here.top
  have hF : ((T.setVm s.vm).setFrames (.invoking m args :: below)).frames = .invoking m args :: below := State.frames_setFrames _ (State.cur_lt_of_top htop)
  obtain ⟨g₀, hg0⟩ := Option.isSome_iff_exists.mp htop
  obtain ⟨r, hr⟩ := State.topJava?_eq_some.mp hg0
  have hl9 : e.platform.stackLimits (T.setVm s.vm).me = e.platform.stackLimits s.me := X.limits
  have hb9 : (T.setVm s.vm).me.stackBytes = s.me.stackBytes := X.bytes
  refine ⟨X.admits, X.cas, X.clock, hF, ?_, X.hears, X.method, X.code, X.here, X.tail, X.warmed, ?_, ?_, ?_⟩
  · have h := X.room
    have hU : ((T.setVm s.vm).setFrames (.invoking m args :: below)).localsInUse = s.localsInUse := by
      rw [State.localsInUse_invoking hF (meth := meth) (c := c) X.method X.code, State.localsInUse_invoking X.frames X.method X.code]
    simp only [State.hasRoom, Bool.and_eq_true, decide_eq_true_eq] at h ⊢
    obtain ⟨⟨⟨⟨h1, h2, h3, h4, h5, h6⟩, h7⟩, h8⟩, h9⟩ := h
    rw [X.frames, List.length_cons] at h2 h3
    have q1 := X.heapSize
    have q2 := X.used
    simp only [hF, hU, List.length_cons, State.stackLimits_setFrames, State.stackBytes_setFrames, hl9, hb9]
    refine ⟨⟨⟨⟨by omega, by omega, by omega, by omega, by omega, h6⟩, ?_⟩, ?_⟩, X.book⟩
    · show T.heap.size + R'.cells ≤ e.platform.maxCells
      omega
    · show T.slotsUsed + R'.slots ≤ e.platform.maxSlots
      omega
  · rw [State.stackLimits_setFrames]; rfl
  · rw [State.stackBytes_setFrames]; rfl
  · refine ⟨?_, Nat.le_refl _, Nat.le_refl _, ?_, ?_, fun a c9 h9 => ⟨c9, h9, rfl, rfl, fun _ _ => rfl⟩⟩
    · obtain ⟨t, ht, -⟩ := State.frames_cons hr
      show T.setVm s.vm = { ((T.setVm s.vm).setFrames (.invoking m args :: below)).setFrames (T.setVm s.vm).frames with heap := T.heap, slotsUsed := T.slotsUsed }
      rw [State.setFrames_setFrames, State.setFrames_self ht]
      rfl
    · show T.slotsUsed = T.slotsUsed + ((T.heap.toList.drop T.heap.size).map (·.slots.size)).sum
      rw [List.drop_eq_nil_of_le (Nat.le_of_eq Array.length_toList)]
      rfl
    · show ((T.heap.toList.drop T.heap.size).map (·.slots.size)).sum ≤ 0
      rw [List.drop_eq_nil_of_le (Nat.le_of_eq Array.length_toList)]
      exact Nat.le_refl _
/-- 'throw new E()': new; dup; invokespecial; athrow -/
theorem vx_throw0 {cc : ByteArray} {pc : Nat} (hexec : p.tables.exec = Jvm.exec) (hb : c.code = cc) (hl : l.stackTraces = false) {own cls : String} {names : List String} {ik ic mc ms : Nat} {A : Nat → Prop}
    (hown : s.vm.findClass own = some m.cls) (hcls : Bundle.fit cls = true) (hnames : ∀ n ∈ names, Bundle.fit n = true)
    (hk : (Cond.classLink own ik cls).before args s = true) (hini : (Cond.initialized cls).before args s = true) (hat : ∀ w ∈ vx_at0 own ic cls names, w.before args s = true)
    (hgood : ∀ w ∈ Cond.classLink own ik cls :: Cond.initialized cls :: vx_at0 own ic cls names, vx_ot w = true)
    (hU : vx_Zq Bundle.tN "UNASSIGNED_STACK" Bundle.steD A s s.heap) (hN : vx_Zq Bundle.tN "SUPPRESSED_SENTINEL" Bundle.listD A s s.heap) (hS : va_S A s.heap H locs) (hsize : ls.size = c.maxLocals)
    (d0 : decode cc pc = .ok (.new ik, 3)) (d3 : decode cc (pc + 3) = .ok (.dup, 1)) (d4 : decode cc (pc + 4) = .ok (.invokespecial ic, 3)) (d7 : decode cc (pc + 7) = .ok (.athrow, 1))
    (hout : ∀ x ∈ c.exceptionTable.toList, covers x (pc + 7) = false)
    (hRframes : names.length + 3 < R.frames) (hRlocals : (rest.map fun v => v.category).sum + (13 * (names.length + 1) + 42) ≤ R.locals) (hRcells : cells + 1 ≤ R.cells) (hRslots : slots + 6 ≤ R.slots) (hlocks : meth.locks = false)
    (hx : ∀ t : State, s.vm.Alike t.vm → H.size ≤ t.heap.size → (∀ q : Nat, q < H.size → t.heap[q]? = H[q]?) → XC cls s t)
    (hf : ∀ z ∈ locs, free z.base) (hc : cells + 1 ≤ mc) (hs : slots + 6 ≤ ms) :
    W p l e R s m args below meth c H locs cells slots (vx_MQ below Qc XC args s mc ms free) (F0 m pc ls rest) := by
  intro T hT X
  have htr : e.platform.stackTraces = false := (show e.platform.stackTraces = l.stackTraces by rw [X.admits.platform]).trans hl
  have Y := vx_rebase X (R' := { frames := R.frames, locals := R.locals, cells := 1, slots := 6 }) (Nat.le_refl _) (Nat.le_refl _) hRcells hRslots
  obtain ⟨s', hA⟩ : ∃ z, z = (T.setVm s.vm).setFrames (.invoking m args :: below) := ⟨_, rfl⟩
  rw [← hA] at Y
  have hvm : s'.vm = s.vm := by rw [hA]; rfl
  have hhp : s'.heap = H := by rw [hA]; exact hT
  have hW0 : s.WarmedH s'.vm := by rw [hvm]; exact State.WarmedH.refl s
  have hat' : ∀ w ∈ vx_at0 own ic cls names, w.before args s' = true := fun w hw => vx_ot_at hW0 hvm.symm (hgood w (List.mem_cons_of_mem _ (List.mem_cons_of_mem _ hw))) (hat w hw)
  have hk' : (Cond.classLink own ik cls).before args s' = true := vx_ot_at hW0 hvm.symm (hgood _ List.mem_cons_self) hk
  have hini' : (Cond.initialized cls).before args s' = true := vx_ot_at hW0 hvm.symm (hgood _ (List.mem_cons_of_mem _ List.mem_cons_self)) hini
  have hU' : vx_Zq Bundle.tN "UNASSIGNED_STACK" Bundle.steD A s' s'.heap := by rw [hhp]; exact vx_Zq.moved hW0.alike (hU.kept hS.2.1)
  have hN' : vx_Zq Bundle.tN "SUPPRESSED_SENTINEL" Bundle.listD A s' s'.heap := by rw [hhp]; exact vx_Zq.moved hW0.alike (hN.kept hS.2.1)
  have h : ∀ w ∈ Bundle.ownAtoms0 own ic cls names, w.before args s' = true := vx_own hat' (vx_isRefq hU'.1) (vx_isRefq hN'.1) hU'.2.word hN'.2.word
  have hown' : s'.vm.findClass own = some m.cls := by rw [hvm]; exact hown
  have hins : (Cond.instantiable cls 6).before args s' = true := h _ (by simp [Bundle.ownAtoms0])
  obtain ⟨vm₁, cX, kX, hfX, hkX, -, -, X₁, st1⟩ := Y.newCold hexec (own := own) (C := cls) (index := ik) (n := 6) hown' hk' hins hini'
    (g := F0 m pc ls rest) rfl (by rw [hb]; exact d0) (Nat.le_refl _) (Nat.le_refl _)
  generalize hT1 : (T.setVm vm₁).pushCell { cls := cX, slots := kX.instanceTypes.map defaultValue, vm := .none } = T1 at X₁ st1
  have hcat : (Value.ref T.heap.size).category = 1 := rfl
  have hcellA : T1.heap[T.heap.size]? = some (freshCell cX kX) := by rw [← hT1]; exact State.heap_pushCell_size _ _
  have d3' : decode c.code (pc + 3) = .ok (.dup, 1) := by rw [hb]; exact d3
  obtain ⟨U, hsteps, hrun, hend, hW, hsame, ce, hce, hO⟩ := X₁.ctorThrow0 hexec htr (own := own) (cls := cls) (names := names) (ic := ic) hown' hcls hnames h (fun x hx => nomatch hx) hfX hkX hcellA (by rw [hhp, hT]; exact Nat.le_refl _)
    (g := { method := m, pc := pc + 4, locals := ls, stack := .ref T.heap.size :: .ref T.heap.size :: rest, locked := none }) rfl hsize rfl rfl (rest := rest) rfl
    (by rw [hb]; exact d4) (by rw [hb]; exact d7) hout hRframes (by simp only [List.map_cons, List.sum_cons, hcat]; omega) hlocks
  obtain ⟨f1, f2⟩ := vx_frame hsame
  rw [hhp] at f1 f2
  have hWs : s.WarmedH U.vm := State.WarmedH.trans hW0 hW
  have hcl : s.vm.findClass cls = some ce.cls := by
    have h9 := hO.cls
    rw [hvm] at h9
    exact h9
  have hall : s.sameButNew ({ U with vm := s.vm } : State) locs mc ms := by
    subst hA
    obtain ⟨e1, e2⟩ := hsame
    rw [State.setFrames_setFrames] at e1
    have h2 : (T.setVm s.vm).sameButNew ({ U with vm := s.vm } : State) [] (0 + 1) (0 + 6) := ⟨e1, e2⟩
    have h3 := X.same.trans h2
    rw [List.append_nil] at h3
    exact h3.mono hc hs
  refine ⟨U, ?_, .threw T.heap.size, hrun, hend, Or.inr ⟨T.heap.size, rfl, cls, ce, locs, hx U hWs.alike f1 (fun q hq => f2 q hq (fun z hz => nomatch hz)), hce, hO.vm, hcl, hWs, hall, hf⟩⟩
  refine st1 _ ?_
  show Steps p.tables e below (T1.setTop { method := m, pc := pc + 3, locals := ls, stack := .ref T.heap.size :: rest, locked := none }) _
  jvm_step X₁.here [X₁.here.top, hexec, d3', Value.category]
  exact hsteps
/-- 'throw new E("text")': new; dup; ldc; invokespecial; athrow -/
theorem vx_throwS {cc : ByteArray} {pc : Nat} (hexec : p.tables.exec = Jvm.exec) (hb : c.code = cc) (hl : l.stackTraces = false) {own cls text : String} {names : List String} {ik is ic mc ms sa : Nat} {A : Nat → Prop}
    (hown : s.vm.findClass own = some m.cls) (hcls : Bundle.fit cls = true) (hnames : ∀ n ∈ names, Bundle.fit n = true)
    (hk : (Cond.classLink own ik cls).before args s = true) (hini : (Cond.initialized cls).before args s = true) (hstr : vk_R own is text sa s) (hat : ∀ w ∈ vx_atS own ic cls names, w.before args s = true)
    (hgood : ∀ w ∈ Cond.classLink own ik cls :: Cond.initialized cls :: vx_atS own ic cls names, vx_ot w = true)
    (hU : vx_Zq Bundle.tN "UNASSIGNED_STACK" Bundle.steD A s s.heap) (hN : vx_Zq Bundle.tN "SUPPRESSED_SENTINEL" Bundle.listD A s s.heap) (hS : va_S A s.heap H locs) (hsize : ls.size = c.maxLocals)
    (d0 : decode cc pc = .ok (.new ik, 3)) (d3 : decode cc (pc + 3) = .ok (.dup, 1)) (d4 : decode cc (pc + 4) = .ok (.ldc is, 2)) (d6 : decode cc (pc + 6) = .ok (.invokespecial ic, 3)) (d9 : decode cc (pc + 9) = .ok (.athrow, 1))
    (hout : ∀ x ∈ c.exceptionTable.toList, covers x (pc + 9) = false)
    (hRframes : names.length + 3 < R.frames) (hRlocals : (rest.map fun v => v.category).sum + (13 * (names.length + 1) + 43) ≤ R.locals) (hRcells : cells + 1 ≤ R.cells) (hRslots : slots + 6 ≤ R.slots) (hlocks : meth.locks = false)
    (hx : ∀ t : State, s.vm.Alike t.vm → H.size ≤ t.heap.size → (∀ q : Nat, q < H.size → t.heap[q]? = H[q]?) → XC cls s t)
    (hf : ∀ z ∈ locs, free z.base) (hc : cells + 1 ≤ mc) (hs : slots + 6 ≤ ms) :
    W p l e R s m args below meth c H locs cells slots (vx_MQ below Qc XC args s mc ms free) (F0 m pc ls rest) := by
  intro T hT X
  have htr : e.platform.stackTraces = false := (show e.platform.stackTraces = l.stackTraces by rw [X.admits.platform]).trans hl
  have Y := vx_rebase X (R' := { frames := R.frames, locals := R.locals, cells := 1, slots := 6 }) (Nat.le_refl _) (Nat.le_refl _) hRcells hRslots
  obtain ⟨s', hA⟩ : ∃ z, z = (T.setVm s.vm).setFrames (.invoking m args :: below) := ⟨_, rfl⟩
  rw [← hA] at Y
  have hvm : s'.vm = s.vm := by rw [hA]; rfl
  have hhp : s'.heap = H := by rw [hA]; exact hT
  have hW0 : s.WarmedH s'.vm := by rw [hvm]; exact State.WarmedH.refl s
  have hat' : ∀ w ∈ vx_atS own ic cls names, w.before args s' = true := fun w hw => vx_ot_at hW0 hvm.symm (hgood w (List.mem_cons_of_mem _ (List.mem_cons_of_mem _ hw))) (hat w hw)
  have hk' : (Cond.classLink own ik cls).before args s' = true := vx_ot_at hW0 hvm.symm (hgood _ List.mem_cons_self) hk
  have hini' : (Cond.initialized cls).before args s' = true := vx_ot_at hW0 hvm.symm (hgood _ (List.mem_cons_of_mem _ List.mem_cons_self)) hini
  have hU' : vx_Zq Bundle.tN "UNASSIGNED_STACK" Bundle.steD A s' s'.heap := by rw [hhp]; exact vx_Zq.moved hW0.alike (hU.kept hS.2.1)
  have hN' : vx_Zq Bundle.tN "SUPPRESSED_SENTINEL" Bundle.listD A s' s'.heap := by rw [hhp]; exact vx_Zq.moved hW0.alike (hN.kept hS.2.1)
  have h : ∀ w ∈ Bundle.ownAtoms own ic cls names, w.before args s' = true := vx_own hat' (vx_isRefq hU'.1) (vx_isRefq hN'.1) hU'.2.word hN'.2.word
  have hown' : s'.vm.findClass own = some m.cls := by rw [hvm]; exact hown
  have hins : (Cond.instantiable cls 6).before args s' = true := h _ (by simp [Bundle.ownAtoms])
  obtain ⟨vm₁, cX, kX, hfX, hkX, -, -, X₁, st1⟩ := Y.newCold hexec (own := own) (C := cls) (index := ik) (n := 6) hown' hk' hins hini'
    (g := F0 m pc ls rest) rfl (by rw [hb]; exact d0) (Nat.le_refl _) (Nat.le_refl _)
  generalize hT1 : (T.setVm vm₁).pushCell { cls := cX, slots := kX.instanceTypes.map defaultValue, vm := .none } = T1 at X₁ st1
  have hcat : (Value.ref T.heap.size).category = 1 := rfl
  have hcellA : T1.heap[T.heap.size]? = some (freshCell cX kX) := by rw [← hT1]; exact State.heap_pushCell_size _ _
  have d3' : decode c.code (pc + 3) = .ok (.dup, 1) := by rw [hb]; exact d3
  have d4' : decode c.code (pc + 4) = .ok (.ldc is, 2) := by rw [hb]; exact d4
  have hstr' : vk_R own is text sa s' := vk_R.warm hW0 hstr
  obtain ⟨U, hsteps, hrun, hend, hW, hsame, ce, hce, hO⟩ := X₁.ctorThrowS hexec htr (own := own) (cls := cls) (names := names) (ic := ic) hown' hcls hnames h (fun x hx => nomatch hx) hfX hkX hcellA (by rw [hhp, hT]; exact Nat.le_refl _) (msg := .ref sa) rfl
    (g := { method := m, pc := pc + 6, locals := ls, stack := .ref sa :: .ref T.heap.size :: .ref T.heap.size :: rest, locked := none }) rfl hsize rfl rfl (rest := rest) rfl
    (by rw [hb]; exact d6) (by rw [hb]; exact d9) hout hRframes (by simp only [List.map_cons, List.sum_cons, hcat]; omega) hlocks
  obtain ⟨f1, f2⟩ := vx_frame hsame
  rw [hhp] at f1 f2
  have hWs : s.WarmedH U.vm := State.WarmedH.trans hW0 hW
  have hcl : s.vm.findClass cls = some ce.cls := by
    have h9 := hO.cls
    rw [hvm] at h9
    exact h9
  have hall : s.sameButNew ({ U with vm := s.vm } : State) locs mc ms := by
    subst hA
    obtain ⟨e1, e2⟩ := hsame
    rw [State.setFrames_setFrames] at e1
    have h2 : (T.setVm s.vm).sameButNew ({ U with vm := s.vm } : State) [] (0 + 1) (0 + 6) := ⟨e1, e2⟩
    have h3 := X.same.trans h2
    rw [List.append_nil] at h3
    exact h3.mono hc hs
  refine ⟨U, ?_, .threw T.heap.size, hrun, hend, Or.inr ⟨T.heap.size, rfl, cls, ce, locs, hx U hWs.alike f1 (fun q hq => f2 q hq (fun z hz => nomatch hz)), hce, hO.vm, hcl, hWs, hall, hf⟩⟩
  refine st1 _ ?_
  show Steps p.tables e below (T1.setTop { method := m, pc := pc + 3, locals := ls, stack := .ref T.heap.size :: rest, locked := none }) _
  jvm_step X₁.here [X₁.here.top, hexec, d3', Value.category]
  exact X₁.ldcString hexec (own := own) (text := text) (index := is) (a := sa) hown' hstr'.1 hstr'.2
    (g := { method := m, pc := pc + 4, locals := ls, stack := .ref T.heap.size :: .ref T.heap.size :: rest, locked := none }) rfl d4' _ hsteps
/-- 'throw new E("text")', the text by a wide index -/
theorem vx_throwSW {cc : ByteArray} {pc : Nat} (hexec : p.tables.exec = Jvm.exec) (hb : c.code = cc) (hl : l.stackTraces = false) {own cls text : String} {names : List String} {ik is ic mc ms sa : Nat} {A : Nat → Prop}
    (hown : s.vm.findClass own = some m.cls) (hcls : Bundle.fit cls = true) (hnames : ∀ n ∈ names, Bundle.fit n = true)
    (hk : (Cond.classLink own ik cls).before args s = true) (hini : (Cond.initialized cls).before args s = true) (hstr : vk_R own is text sa s) (hat : ∀ w ∈ vx_atS own ic cls names, w.before args s = true)
    (hgood : ∀ w ∈ Cond.classLink own ik cls :: Cond.initialized cls :: vx_atS own ic cls names, vx_ot w = true)
    (hU : vx_Zq Bundle.tN "UNASSIGNED_STACK" Bundle.steD A s s.heap) (hN : vx_Zq Bundle.tN "SUPPRESSED_SENTINEL" Bundle.listD A s s.heap) (hS : va_S A s.heap H locs) (hsize : ls.size = c.maxLocals)
    (d0 : decode cc pc = .ok (.new ik, 3)) (d3 : decode cc (pc + 3) = .ok (.dup, 1)) (d4 : decode cc (pc + 4) = .ok (.ldc_w is, 3)) (d7 : decode cc (pc + 7) = .ok (.invokespecial ic, 3)) (d10 : decode cc (pc + 10) = .ok (.athrow, 1))
    (hout : ∀ x ∈ c.exceptionTable.toList, covers x (pc + 10) = false)
    (hRframes : names.length + 3 < R.frames) (hRlocals : (rest.map fun v => v.category).sum + (13 * (names.length + 1) + 43) ≤ R.locals) (hRcells : cells + 1 ≤ R.cells) (hRslots : slots + 6 ≤ R.slots) (hlocks : meth.locks = false)
    (hx : ∀ t : State, s.vm.Alike t.vm → H.size ≤ t.heap.size → (∀ q : Nat, q < H.size → t.heap[q]? = H[q]?) → XC cls s t)
    (hf : ∀ z ∈ locs, free z.base) (hc : cells + 1 ≤ mc) (hs : slots + 6 ≤ ms) :
    W p l e R s m args below meth c H locs cells slots (vx_MQ below Qc XC args s mc ms free) (F0 m pc ls rest) := by
  intro T hT X
  have htr : e.platform.stackTraces = false := (show e.platform.stackTraces = l.stackTraces by rw [X.admits.platform]).trans hl
  have Y := vx_rebase X (R' := { frames := R.frames, locals := R.locals, cells := 1, slots := 6 }) (Nat.le_refl _) (Nat.le_refl _) hRcells hRslots
  obtain ⟨s', hA⟩ : ∃ z, z = (T.setVm s.vm).setFrames (.invoking m args :: below) := ⟨_, rfl⟩
  rw [← hA] at Y
  have hvm : s'.vm = s.vm := by rw [hA]; rfl
  have hhp : s'.heap = H := by rw [hA]; exact hT
  have hW0 : s.WarmedH s'.vm := by rw [hvm]; exact State.WarmedH.refl s
  have hat' : ∀ w ∈ vx_atS own ic cls names, w.before args s' = true := fun w hw => vx_ot_at hW0 hvm.symm (hgood w (List.mem_cons_of_mem _ (List.mem_cons_of_mem _ hw))) (hat w hw)
  have hk' : (Cond.classLink own ik cls).before args s' = true := vx_ot_at hW0 hvm.symm (hgood _ List.mem_cons_self) hk
  have hini' : (Cond.initialized cls).before args s' = true := vx_ot_at hW0 hvm.symm (hgood _ (List.mem_cons_of_mem _ List.mem_cons_self)) hini
  have hU' : vx_Zq Bundle.tN "UNASSIGNED_STACK" Bundle.steD A s' s'.heap := by rw [hhp]; exact vx_Zq.moved hW0.alike (hU.kept hS.2.1)
  have hN' : vx_Zq Bundle.tN "SUPPRESSED_SENTINEL" Bundle.listD A s' s'.heap := by rw [hhp]; exact vx_Zq.moved hW0.alike (hN.kept hS.2.1)
  have h : ∀ w ∈ Bundle.ownAtoms own ic cls names, w.before args s' = true := vx_own hat' (vx_isRefq hU'.1) (vx_isRefq hN'.1) hU'.2.word hN'.2.word
  have hown' : s'.vm.findClass own = some m.cls := by rw [hvm]; exact hown
  have hins : (Cond.instantiable cls 6).before args s' = true := h _ (by simp [Bundle.ownAtoms])
  obtain ⟨vm₁, cX, kX, hfX, hkX, -, -, X₁, st1⟩ := Y.newCold hexec (own := own) (C := cls) (index := ik) (n := 6) hown' hk' hins hini'
    (g := F0 m pc ls rest) rfl (by rw [hb]; exact d0) (Nat.le_refl _) (Nat.le_refl _)
  generalize hT1 : (T.setVm vm₁).pushCell { cls := cX, slots := kX.instanceTypes.map defaultValue, vm := .none } = T1 at X₁ st1
  have hcat : (Value.ref T.heap.size).category = 1 := rfl
  have hcellA : T1.heap[T.heap.size]? = some (freshCell cX kX) := by rw [← hT1]; exact State.heap_pushCell_size _ _
  have d3' : decode c.code (pc + 3) = .ok (.dup, 1) := by rw [hb]; exact d3
  have d4' : decode c.code (pc + 4) = .ok (.ldc_w is, 3) := by rw [hb]; exact d4
  have hstr' : vk_R own is text sa s' := vk_R.warm hW0 hstr
  obtain ⟨U, hsteps, hrun, hend, hW, hsame, ce, hce, hO⟩ := X₁.ctorThrowS hexec htr (own := own) (cls := cls) (names := names) (ic := ic) hown' hcls hnames h (fun x hx => nomatch hx) hfX hkX hcellA (by rw [hhp, hT]; exact Nat.le_refl _) (msg := .ref sa) rfl
    (g := { method := m, pc := pc + 7, locals := ls, stack := .ref sa :: .ref T.heap.size :: .ref T.heap.size :: rest, locked := none }) rfl hsize rfl rfl (rest := rest) rfl
    (by rw [hb]; exact d7) (by rw [hb]; exact d10) hout hRframes (by simp only [List.map_cons, List.sum_cons, hcat]; omega) hlocks
  obtain ⟨f1, f2⟩ := vx_frame hsame
  rw [hhp] at f1 f2
  have hWs : s.WarmedH U.vm := State.WarmedH.trans hW0 hW
  have hcl : s.vm.findClass cls = some ce.cls := by
    have h9 := hO.cls
    rw [hvm] at h9
    exact h9
  have hall : s.sameButNew ({ U with vm := s.vm } : State) locs mc ms := by
    subst hA
    obtain ⟨e1, e2⟩ := hsame
    rw [State.setFrames_setFrames] at e1
    have h2 : (T.setVm s.vm).sameButNew ({ U with vm := s.vm } : State) [] (0 + 1) (0 + 6) := ⟨e1, e2⟩
    have h3 := X.same.trans h2
    rw [List.append_nil] at h3
    exact h3.mono hc hs
  refine ⟨U, ?_, .threw T.heap.size, hrun, hend, Or.inr ⟨T.heap.size, rfl, cls, ce, locs, hx U hWs.alike f1 (fun q hq => f2 q hq (fun z hz => nomatch hz)), hce, hO.vm, hcl, hWs, hall, hf⟩⟩
  refine st1 _ ?_
  show Steps p.tables e below (T1.setTop { method := m, pc := pc + 3, locals := ls, stack := .ref T.heap.size :: rest, locked := none }) _
  jvm_step X₁.here [X₁.here.top, hexec, d3', Value.category]
  exact X₁.ldcStringW hexec (own := own) (text := text) (index := is) (a := sa) hown' hstr'.1 hstr'.2
    (g := { method := m, pc := pc + 4, locals := ls, stack := .ref T.heap.size :: .ref T.heap.size :: rest, locked := none }) rfl d4' _ hsteps
end Ends
section Bodies
variable {l : Launch}
theorem vx_ofW {y : MethodName} {ws ws' : List Cond} {rm : Room} {Pc : Array Value → State → Prop} {Qc : Array Value → State → Outcome → State → Prop} {XC : String → State → State → Prop} {mc ms : Nat} {free : Addr → Prop} {cc : ByteArray} {maxL : Nat} {ret : Option FieldType}
    (hy : plainName y.cls = true) (hw : ws = Cond.code y cc maxL ret :: ws')
    (body : ∀ p e s m args below meth c s₁, BodyLoose p l y (headSpec ws rm) cc maxL ret e s m args below meth c s₁ → c.maxLocals = maxL → (∀ x ∈ c.exceptionTable.toList, False) → Pc args s →
      W p l e (headSpec ws rm).room s m args below meth c s.heap [] 0 0 (vx_MQ below Qc XC args s mc ms free) (entryFrame m args maxL)) : vx_Met l y ws rm Pc Qc XC mc ms free := by
  refine MetFree.of_bodyS (code := cc) (maxLocals := maxL) (ret := ret) hy ?_ ?_
  · intro args s m h hn
    obtain ⟨meth, c, h1, h2, h3, h4, h5, h6, -, -⟩ := Cond.code_spec hn (atoms_spec (ws := ws) h _ (by rw [hw]; exact List.mem_cons_self))
    exact ⟨meth, c, h1, h2, h3, h4, h5, h6⟩
  · intro p e s m args below meth c s₁ B hml hP _
    have hh0 : s₁.heap = s.heap := by rw [B.state]; rfl
    have ht : ∀ x ∈ c.exceptionTable.toList, False := by
      obtain ⟨meth9, c9, h1, h2, -, -, -, -, h7, -⟩ := Cond.code_spec B.named (atoms_spec (ws := ws) B.pre _ (by rw [hw]; exact List.mem_cons_self))
      cases Option.some.inj (h1.symm.trans B.method)
      cases Option.some.inj (h2.symm.trans (Stand.of_body B).code)
      intro x hx
      rw [Array.isEmpty_iff.mp h7] at hx
      cases hx
    obtain ⟨t, a1, o, b1, b2, b3⟩ := body p e s m args below meth c s₁ B hml ht hP s₁ hh0 (Stand.of_body B)
    exact ⟨t, o, a1, b1, b2, b3⟩
/-- the table of a body with handlers -/
theorem vx_table {p : Program} {x y : MethodName} {S : Spec} {cc bytes : ByteArray} {maxL maxL' : Nat} {ret ret' : Option FieldType} {e : Env} {s s₁ : State} {m : MethodId} {args : Array Value} {below : List Frame} {meth : Method} {c : Code} {hh : List (Nat × Nat × Nat × Nat)}
    (B : BodyLoose p l y S cc maxL ret e s m args below meth c s₁) (h : (Cond.codeWith y bytes maxL' ret' hh).before args s = true) : c.exceptionTable.toList = tableOf hh := by
  obtain ⟨m9, meth9, c9, hn9, h1, h2, -, -, h6, -⟩ := Cond.codeWith_spec h
  cases Option.some.inj (hn9.symm.trans B.named)
  cases Option.some.inj (h1.symm.trans B.method)
  cases Option.some.inj (h2.symm.trans (Stand.of_body B).code)
  rw [← h6, table_eq]
end Bodies
end VXA
/-! ===== END ===== -/
/-! ===== BEGIN a static call of a method with an exception table ===== -/
section VXS
variable {p : Program} {l : Launch} {e : Env} {R : Room} {s : State} {m : MethodId} {args : Array Value} {below : List Frame} {meth : Method} {c : Code} {T : State} {H : Heap} {locs : List Loc} {cells slots : Nat}
abbrev vx_CSW (R : Room) (s : State) (args : Array Value) (own : String) (index : Nat) (y : MethodName) (bytes : ByteArray) (maxL : Nat) (ret : Option FieldType) (hh : List (Nat × Nat × Nat × Nat)) (ws : List Cond) (rm : Room) (mc ms n : Nat) : Prop :=
  (rm.cells = mc ∧ rm.slots = ms ∧ rm.frames + 1 ≤ R.frames ∧ 8 + (maxL + 11) + rm.locals ≤ R.locals ∧ (∀ w ∈ ws, ∀ (a' : Array Value) (U : State), s.WarmedH U.vm → w.before a' U = true) ∧ Cond.codeWith y bytes maxL ret hh ∈ ws) ∧
  (Cond.codeWith y bytes maxL ret hh).before args s = true ∧ (Cond.initialized y.cls).before args s = true ∧ (y.cls ≠ "java/lang/invoke/MethodHandle" ∧ y.cls ≠ "java/lang/invoke/VarHandle") ∧
  (∀ sig, parseMethodDescriptor y.desc = some sig → n = sig.parameters.length) ∧ (Cond.methodLink own index y).before args s = true ∧ (Cond.static y).before args s = true
theorem vx_cwSW {own : String} {index maxL mc ms : Nat} {y : MethodName} {bytes : ByteArray} {ret : Option FieldType} {hh : List (Nat × Nat × Nat × Nat)} {Ts ws ws' : List Cond} {rm : Room} (n : Nat) (ht : ∀ w ∈ Ts, w.before args s = true) (hT : GoodIn Ts (va_wsS own index y ws)) (hw : ws = Cond.codeWith y bytes maxL ret hh :: ws') (hrc : rm.cells = mc) (hrs : rm.slots = ms)
    (hd : y.cls ≠ "java/lang/invoke/MethodHandle" ∧ y.cls ≠ "java/lang/invoke/VarHandle" ∧ (parseMethodDescriptor y.desc).map (fun d => d.parameters.length) = some n) (hR : rm.frames + 1 ≤ R.frames ∧ 8 + (maxL + 11) + rm.locals ≤ R.locals) :
    vx_CSW R s args own index y bytes maxL ret hh ws rm mc ms n := by
  have ok : ∀ w ∈ va_wsS own index y ws, w.before args s = true := fun w h => ht w (hT w h).1
  have hG : GoodIn Ts ws := fun w h => hT w (by unfold va_wsS; exact List.mem_append_right _ h)
  have hc : Cond.codeWith y bytes maxL ret hh ∈ ws := by rw [hw]; exact List.mem_cons_self
  refine ⟨⟨hrc, hrs, hR.1, hR.2, pay_in ht hG, hc⟩, ht _ (hG _ hc).1, ok _ (by simp [va_wsS]), ⟨hd.1, hd.2.1⟩, fun sig h => ?_, ok _ (by simp [va_wsS]), ok _ (by simp [va_wsS])⟩
  have h2 := hd.2.2
  rw [h] at h2
  exact (Option.some.inj h2).symm
theorem vx_callSW (X : Stand p l e R s m args below meth c T locs cells slots) (hexec : p.tables.exec = Jvm.exec) {own : String} {index : Nat} {y : MethodName} {bytes : ByteArray} {maxL : Nat} {ret : Option FieldType} {hh : List (Nat × Nat × Nat × Nat)}
    (hown : s.vm.findClass own = some m.cls) (hlink : (Cond.methodLink own index y).before args s = true) (hstat : (Cond.static y).before args s = true) (hinit : (Cond.initialized y.cls).before args s = true)
    (hcode : (Cond.codeWith y bytes maxL ret hh).before args s = true) (hy : y.cls ≠ "java/lang/invoke/MethodHandle" ∧ y.cls ≠ "java/lang/invoke/VarHandle")
    {W9 : Nat} {Pre : Pt → Array Value → Prop} {Post : Pt → Array Value → Option Value → Pt → Prop} (hK : Back l R p e below s args y 3 W9 Pre Post)
    {g : JFrame} (hg : g.method = m) (hsize : g.locals.size = c.maxLocals) {argsL rest : List Value} (hlen : ∀ sig, parseMethodDescriptor y.desc = some sig → argsL.length = sig.parameters.length)
    (hstack : g.stack = argsL.reverse ++ rest) (hW : 2 * g.monitorRoom + (rest.map fun v => v.category).sum ≤ W9) (hdg : decode c.code g.pc = .ok (.invokestatic index, 3))
    (hpre : ∀ vm₁, s.WarmedH vm₁ → Pre ⟨T.setVm vm₁, locs, cells, slots⟩ argsL.toArray) :
    ∃ (v : Option Value) (vm₁ : Vm) (B : Pt), s.WarmedH vm₁ ∧ Stand p l e R s m args below meth c B.U B.locs B.cells B.slots ∧ Post ⟨T.setVm vm₁, locs, cells, slots⟩ argsL.toArray v B ∧
      ∀ target, Steps p.tables e below (B.U.setTop { g with pc := g.pc + 3, stack := v.toList ++ rest }) target → Steps p.tables e below (T.setTop g) target := by
  obtain ⟨mk, methM, cM, hnamed, hmethM, -, -, -, -, -, -, hsigM⟩ := Cond.codeWith_spec hcode
  have hstatic : methM.isStatic = true := Cond.static_spec hnamed hmethM hstat
  obtain ⟨kP, hkP, -⟩ := className_of_methodNamed hnamed
  have hinitP : kP.init = .initialized := Cond.initialized_spec (findClass_of_methodNamed hnamed) hkP hinit
  obtain ⟨vm₁, X₁, hstep₁⟩ := X.invokestatic hexec hown hlink hnamed hmethM hstatic hkP hinitP hy (g := g) hg (argsL := argsL) (rest := rest) (hlen _ hsigM) hstack hdg
  obtain ⟨v, B, X', hpost, hsteps⟩ := hK m meth c ⟨T.setVm vm₁, locs, cells, slots⟩ { g with stack := rest } (.invokestatic index) mk argsL.toArray X₁ hg hsize hdg hW (X₁.named hnamed) (hpre vm₁ X₁.warmed)
  exact ⟨v, vm₁, B, X₁.warmed, X', hpost, fun target h => hstep₁ _ fun acts => by rw [doInvoke_state]; exact hsteps.trans h⟩
theorem vx_runSW {y : MethodName} {bytes cc : ByteArray} {maxL nL mc ms n index : Nat} {ret : Option FieldType} {hh : List (Nat × Nat × Nat × Nat)} {ws : List Cond} {rm : Room} {Pc : Array Value → State → Prop} {Qc : Array Value → State → Outcome → State → Prop} {free : Addr → Prop} {Ts : List Cond} {own : String} {As rest : List Value} {g : JFrame}
    (S : CallFix p m c cc nL s args Ts own) (hM : Met l y ws rm Pc Qc mc ms free) (cw : vx_CSW R s args own index y bytes maxL ret hh ws rm mc ms n) (hp : PreS s H Pc As)
    (hg : g.method = m) (hn : As.length = n) (hsize : g.locals.size = nL) (hstack : g.stack = As.reverse ++ rest) (hW : 2 * g.monitorRoom + (rest.map fun v => v.category).sum ≤ 8) (hdg : decode cc g.pc = .ok (.invokestatic index, 3)) (hf : cells + mc ≤ R.cells ∧ slots + ms ≤ R.slots) :
    va_Run p l e R s m args below meth c H locs cells slots mc ms g rest (Qc As.toArray) (free) := by
  obtain ⟨⟨hrc, hrs, hfr, hlo, hws, hcw⟩, hcode, hini, hy, hlen, hl, hstt⟩ := cw
  have hK : Back l R p e below s args y 3 8 (PreOf R mc ms Pc) (PostOf Qc mc ms free) := va_backW (hh := hh) (bytes := bytes) (maxL := maxL) (ret := ret) hM hp.1 hrc hrs hfr hlo hws hcw (fun a' U hW => word_at hW (Or.inl (by first | rfl | simp [Cond.onTables, Cond.keeps, Cond.steady])) hini)
  obtain ⟨hx, hb, hml, ho, -⟩ := S
  intro T hT X
  obtain ⟨v, vm₁, ⟨U', l2, c2, s2⟩, hW₁, X', ⟨g', mk, t, L, e1, e2, hq, h1, hL, h2, h3⟩, st⟩ := vx_callSW X hx (hh := hh) (bytes := bytes) (maxL := maxL) (ret := ret) ho hl hstt hini hcode hy hK hg (hsize.trans hml.symm) (argsL := As) (rest := rest) (fun sig h => hn.trans (hlen sig h)) hstack hW (by rw [hb]; exact hdg)
    (fun vm₁ hW₁ => ⟨hf.1, hf.2, hp.2 (T.setVm vm₁) hT hW₁⟩)
  dsimp only [Pt.U, Pt.locs, Pt.cells, Pt.slots] at X' e1 e2 h1 h2 h3 st
  subst h1; subst h2; subst h3
  exact ⟨v, (T.setVm vm₁).calling g' mk As.toArray, t, U', L, hT, X', hL, e1, e2, hq, st⟩
/-- not caught here, past rows that name other classes: it goes on to the caller -/
theorem vx_outP {p : Program} {l : Launch} {e : Env} {R : Room} {s : State} {m : MethodId} {args : Array Value} {below : List Frame} {meth : Method} {c : Code} {H : Heap} {locs : List Loc} {cells slots : Nat} {free : Addr → Prop} {ls : Array Slot} {rest : List Value} {Qc : Array Value → State → Outcome → State → Prop} {XC : String → State → State → Prop}
    {pc : Nat} {own E : String} {ce : Cell} {q : Addr} {mc ms : Nat} (hown : s.vm.findClass own = some m.cls) (hlocks : meth.locks = false)
    (hpass : ∀ z ∈ c.exceptionTable.toList, covers z pc = false ∨ (z.catchType ≠ 0 ∧ ∃ nm : String, (Cond.classLink own z.catchType nm).before args s = true ∧ va_Nc E nm s)) (hcell : H[q]? = some ce) (hv : ce.vm = .none) (hcl : s.vm.findClass E = some ce.cls)
    (hx : ∀ t : State, t.heap = H → s.vm.Alike t.vm → XC E s t) (hf : ∀ z ∈ locs, free z.base) (hc : cells ≤ mc) (hs : slots ≤ ms) :
    vx_W p l e R s m args below meth c H locs cells slots (vx_MQ below Qc XC args s mc ms free) (F0 m pc ls rest) q := by
  intro T hT X
  have hpl : e.platform.magicAccessors = ({} : Platform).magicAccessors := by rw [X.admits.platform]
  obtain ⟨vm', hW', X', st⟩ := Jvm.Stand.outThrough X hlocks q (g := F0 m pc ls rest) rfl rfl rfl (cell := ce) (by rw [hT]; exact hcell) (by rw [hv]; rfl)
    (by obtain ⟨k9, h9, -⟩ := Vm.findClass_spec hcl; exact ⟨k9, h9⟩) (fun z hz => by
      rcases hpass z hz with h | ⟨hz0, nm, hl1, hn1⟩
      · exact Or.inl h
      · obtain ⟨c6, hc6, hcl6⟩ := Cond.classLink_spec hown hl1 e.platform hpl
        obtain ⟨a8, b8, h1, h2, h3⟩ := hn1
        cases Option.some.inj (h1.symm.trans hcl)
        cases Option.some.inj (h2.symm.trans hc6)
        exact Or.inr ⟨hz0, _, hcl6, h3⟩)
  obtain ⟨g₀, hfr⟩ := X'.frames_eq
  have hcell9 : ((T.setVm vm').setFrames (.throwing q :: below)).heap[q]? = some ce := by
    show T.heap[q]? = some ce
    rw [hT]; exact hcell
  have hend : Ended ((T.setVm vm').setFrames (.throwing q :: below)) below (.threw q) := State.frames_setFrames _ (State.cur_lt_of_frames hfr)
  refine ⟨(T.setVm vm').setFrames (.throwing q :: below), ?_, .threw q, X'.here.running, hend, Or.inr ⟨q, rfl, E, ce, locs, hx _ hT (X'.ends _).1.alike, hcell9, hv, hcl, (X'.ends _).1, (X'.ends _).2.mono hc hs, hf⟩⟩
  rw [X.pushThrowing_eq]
  exact st
/-- a thing of a world lies in the heap -/
theorem vx_lt {D : va_G} {cl : List vw_C} {ws : va_W} {H1 : Heap} (h : va_P D cl ws H1) {k : Nat} {q : Nat × va_E} (hk : ws[k]? = some q) : q.1 < H1.size := (h k q hk).lt
end VXS
/-! ===== END ===== -/
/-! ===== BEGIN methods with a table of their own: called by a name, returning or throwing ===== -/
section VXH
/-! vx_backW, vx_callVX, vx_callSX, vx_callVW, vx_runVW, vx_runVX, vx_runSX, vx_ofWH follow the same proofs as their sisters above (Free/Laws.lean, Shelf42/LK1.lean); vx_outP calls Shelf42/NT130.lean (outThrough). -/
section
variable {l : Launch} {R : Room} {p : Program} {e : Env} {below : List Frame} {s : State} {sargs : Array Value} {y : MethodName} {len W9 : Nat}
theorem vx_backW {ws : List Cond} {rm : Room} {Pc : Array Value → State → Prop} {Qc : Array Value → State → Outcome → State → Prop} {XC : String → State → State → Prop} {mc ms : Nat} {free : Addr → Prop} {bytes : ByteArray} {maxL : Nat} {ret : Option FieldType} {hh : List (Nat × Nat × Nat × Nat)}
    (hM : vx_Met l y ws rm Pc Qc XC mc ms free) (hblind : FrameBlind Pc) (hrc : rm.cells = mc) (hrs : rm.slots = ms)
    (hframes : rm.frames + 1 ≤ R.frames) (hlocals : W9 + (maxL + 11) + rm.locals ≤ R.locals)
    (hws : ∀ w ∈ ws, ∀ a' U, s.WarmedH U.vm → w.before a' U = true) (hcode : Cond.codeWith y bytes maxL ret hh ∈ ws) (hinit : ∀ a' U, s.WarmedH U.vm → (Cond.initialized y.cls).before a' U = true) :
    vx_Back l R p e below s sargs y len W9 (PreOf R mc ms Pc) (PostOf Qc mc ms free) (vx_Post XC mc ms free) := by
  intro m meth c A g ig mk a X hg hsize hdg hW hn hp
  have h1 : (headSpec ws rm).pre.before a A.U = true := atoms_intro fun w hw => hws w hw _ _ X.warmed
  have h2 : (Cond.codeWith y bytes maxL ret hh).before a A.U = true := hws _ hcode _ _ X.warmed
  have h3 : (Cond.initialized y.cls).before a A.U = true := hinit _ _ X.warmed
  have h4 : A.cells + (headSpec ws rm).room.cells ≤ R.cells := by rw [show (headSpec ws rm).room.cells = mc from hrc]; exact hp.1
  have h5 : A.slots + (headSpec ws rm).room.slots ≤ R.slots := by rw [show (headSpec ws rm).room.slots = ms from hrs]; exact hp.2.1
  have hPc : Pc a (A.U.calling g mk a) := hblind _ _ _ _ hp.2.2
  obtain ⟨U, Ls, c0, s0⟩ := A
  dsimp only [Pt.U, Pt.locs, Pt.cells, Pt.slots] at h1 h2 h3 h4 h5 X hn hPc ⊢
  obtain ⟨m9, methY, cY, hn9, hmY, hcY, -, hlY, -⟩ := Cond.codeWith_spec h2
  cases Option.some.inj (hn9.symm.trans hn)
  obtain ⟨kY, hkY, -⟩ := className_of_methodNamed hn
  have hinitY : kY.init = .initialized := Cond.initialized_spec (findClass_of_methodNamed hn) hkY h3
  have h : At U g.method c below := by rw [hg]; exact X.here
  have hlocals9 : W9 + (maxL + 11) + (headSpec ws rm).room.locals ≤ R.locals := hlocals
  have happ : (headSpec ws rm).appliesLoose y e.platform (U.calling g mk a) = true :=
    Spec.appliesLoose_calling (g := g) h hdg hn hkY hinitY
      (X.room_calling (g := g) (R' := (headSpec ws rm).room) hsize hmY hcY hframes (by rw [hlY]; omega) h4 h5) h1
  obtain ⟨mid, hmid⟩ := h.above
  have hfr : (U.setTop g).frames = (.java g :: mid) ++ below := by rw [State.frames_setTop' g h.top, hmid]; rfl
  obtain ⟨o, s₂, hsteps, -, hend, hq⟩ := Steps.callFree hM p X.admits X.cas X.clock (acts := []) hfr happ hPc trivial
  have hq' : vx_Q Qc XC mc ms free a (U.calling g mk a) o s₂ := hq
  rw [State.frames_setTop' g h.top] at hend
  obtain ⟨g₀, hg0⟩ := Option.isSome_iff_exists.mp h.top
  obtain ⟨r, hr⟩ := State.topJava?_eq_some.mp hg0
  have hr' : (({ U with heap := s₂.heap, slotsUsed := s₂.slotsUsed } : State).setVm s₂.vm).frames = .java g₀ :: r := hr
  rcases hq' with ⟨hqc, L, hfe, hL⟩ | ⟨q, rfl, E, ce, L, hx, hce, hcv, hcl, hW₂, hsm, hL⟩
  · obtain ⟨⟨v, rfl⟩, hW₂, e2, q2, q3, q4, q5, q6⟩ := id hfe
    have e3 : s₂ = ({ (U.calling g mk a).setFrames s₂.frames with heap := s₂.heap, slotsUsed := s₂.slotsUsed } : State).setVm s₂.vm := by
      have : s₂ = ({ s₂ with vm := (U.calling g mk a).vm } : State).setVm s₂.vm := rfl
      rw [e2] at this
      exact this
    obtain ⟨c₂, i₂, len₂, hc₂, hd₂, hf₂⟩ := hend
    have hW' : U.WarmedH s₂.vm := hW₂
    have hcc : c₂ = c := by
      have h1 : s₂.code? g.method = U.code? g.method := by
        rw [State.code?_eq, State.code?_eq, hW'.alike.method?]
      exact Option.some.inj (hc₂.symm.trans (h1.trans h.code))
    subst hcc
    have hlen : len₂ = len := by rw [hdg] at hd₂; cases hd₂; rfl
    subst hlen
    have hs₂ : s₂ = (({ U with heap := s₂.heap, slotsUsed := s₂.slotsUsed } : State).setVm s₂.vm).setTop { g with pc := g.pc + len₂, stack := v.toList ++ g.stack } := by
      refine e3.trans ?_
      rw [hf₂, State.calling_eq h.top, State.setFrames_setFrames, State.setTop_of_frames _ hr', hr]
      rfl
    have hsame : U.sameButNew ({ U with heap := s₂.heap, slotsUsed := s₂.slotsUsed } : State) L mc ms := by
      refine ⟨?_, q2, q3, q4, q5, q6⟩
      obtain ⟨t, ht, -⟩ := State.frames_cons hr
      show ({ U with heap := s₂.heap, slotsUsed := s₂.slotsUsed } : State) = { U.setFrames U.frames with heap := s₂.heap, slotsUsed := s₂.slotsUsed }
      rw [State.setFrames_self ht]
    subst hg
    refine Or.inl ⟨v, ⟨(({ U with heap := s₂.heap, slotsUsed := s₂.slotsUsed } : State).setVm s₂.vm), Ls ++ L, c0 + mc, s0 + ms⟩,
      ⟨X.admits, X.cas, X.clock, X.frames, X.room, X.hears, X.method, X.code, (X.here.setHeapUsed s₂.heap s₂.slotsUsed).setVm hW'.alike, X.tail, State.WarmedH.trans X.warmed hW', X.limits, X.bytes, X.same.trans (hsame.setVm s.vm)⟩,
      ⟨g, mk, s₂, L, rfl, rfl, hqc, rfl, hL, rfl, rfl⟩, ?_⟩
    show Steps p.tables e below _ ((({ U with heap := s₂.heap, slotsUsed := s₂.slotsUsed } : State).setVm s₂.vm).setTop { g with pc := g.pc + len₂, stack := v.toList ++ g.stack })
    rw [← hs₂]
    exact hsteps
  · obtain ⟨e2, q2, q3, q4, q5, q6⟩ := id hsm
    have e3 : s₂ = ({ (U.calling g mk a).setFrames s₂.frames with heap := s₂.heap, slotsUsed := s₂.slotsUsed } : State).setVm s₂.vm := by
      have : s₂ = ({ s₂ with vm := (U.calling g mk a).vm } : State).setVm s₂.vm := rfl
      rw [e2] at this
      exact this
    have hf₂ : s₂.frames = .throwing q :: .java g :: U.frames.tail := hend
    have hW' : U.WarmedH s₂.vm := hW₂
    have hs₂ : s₂ = ((({ U with heap := s₂.heap, slotsUsed := s₂.slotsUsed } : State).setVm s₂.vm).setTop g).pushFrame (.throwing q) := by
      refine e3.trans ?_
      rw [hf₂, State.calling_eq h.top, State.setFrames_setFrames, State.pushFrame, State.frames_setTop _ hr', State.setTop_of_frames _ hr', State.setFrames_setFrames, hr]
      rfl
    have hsame : U.sameButNew ({ U with heap := s₂.heap, slotsUsed := s₂.slotsUsed } : State) L mc ms := by
      refine ⟨?_, q2, q3, q4, q5, q6⟩
      obtain ⟨t, ht, -⟩ := State.frames_cons hr
      show ({ U with heap := s₂.heap, slotsUsed := s₂.slotsUsed } : State) = { U.setFrames U.frames with heap := s₂.heap, slotsUsed := s₂.slotsUsed }
      rw [State.setFrames_self ht]
    subst hg
    refine Or.inr ⟨q, ⟨(({ U with heap := s₂.heap, slotsUsed := s₂.slotsUsed } : State).setVm s₂.vm), Ls ++ L, c0 + mc, s0 + ms⟩,
      ⟨X.admits, X.cas, X.clock, X.frames, X.room, X.hears, X.method, X.code, (X.here.setHeapUsed s₂.heap s₂.slotsUsed).setVm hW'.alike, X.tail, State.WarmedH.trans X.warmed hW', X.limits, X.bytes, X.same.trans (hsame.setVm s.vm)⟩,
      ⟨g, mk, s₂, L, E, ce, rfl, rfl, hx, hce, hcv, hcl, rfl, hL, rfl, rfl⟩, ?_⟩
    show Steps p.tables e below _ (((({ U with heap := s₂.heap, slotsUsed := s₂.slotsUsed } : State).setVm s₂.vm).setTop g).pushFrame (.throwing q))
    rw [← hs₂]
    exact hsteps
end
variable {p : Program} {l : Launch} {e : Env} {R : Room} {s : State} {m : MethodId} {args : Array Value} {below : List Frame} {meth : Method} {c : Code} {T : State} {H : Heap} {locs : List Loc} {cells slots : Nat}
theorem vx_callVX (X : Stand p l e R s m args below meth c T locs cells slots) (hexec : p.tables.exec = Jvm.exec) {own C : String} {index : Nat} {y : MethodName} {bytes : ByteArray} {maxL : Nat} {ret : Option FieldType} {hh : List (Nat × Nat × Nat × Nat)}
    (hown : s.vm.findClass own = some m.cls) (hlink : (Cond.methodLink own index y).before args s = true) (hinst : (Cond.instanceMethod y).before args s = true) (hsel : (Cond.selects C y y).before args s = true)
    (hcode : (Cond.codeWith y bytes maxL ret hh).before args s = true) (hy : y.cls ≠ "java/lang/invoke/MethodHandle" ∧ y.cls ≠ "java/lang/invoke/VarHandle")
    {W9 : Nat} {Pre : Pt → Array Value → Prop} {Post : Pt → Array Value → Option Value → Pt → Prop} {PostX : Pt → Array Value → Addr → Pt → Prop} (hK : vx_Back l R p e below s args y 3 W9 Pre Post PostX)
    {b : Addr} {cellB : Cell} (hcell : T.heap[b]? = some cellB) (hobj : cellB.vm.isStatics = false) (hcls : s.vm.findClass C = some cellB.cls)
    {g : JFrame} (hg : g.method = m) (hsize : g.locals.size = c.maxLocals) {argsL rest : List Value} (hlen : ∀ sig, parseMethodDescriptor y.desc = some sig → argsL.length = sig.parameters.length)
    (hstack : g.stack = argsL.reverse ++ .ref b :: rest) (hW : 2 * g.monitorRoom + (rest.map fun v => v.category).sum ≤ W9) (hdg : decode c.code g.pc = .ok (.invokevirtual index, 3))
    (hpre : ∀ vm₁, s.WarmedH vm₁ → Pre ⟨T.setVm vm₁, locs, cells, slots⟩ (Value.ref b :: argsL).toArray) :
    (∃ (v : Option Value) (vm₁ : Vm) (B : Pt), s.WarmedH vm₁ ∧ Stand p l e R s m args below meth c B.U B.locs B.cells B.slots ∧ Post ⟨T.setVm vm₁, locs, cells, slots⟩ (Value.ref b :: argsL).toArray v B ∧
      ∀ target, Steps p.tables e below (B.U.setTop { g with pc := g.pc + 3, stack := v.toList ++ rest }) target → Steps p.tables e below (T.setTop g) target) ∨
    (∃ (q : Addr) (vm₁ : Vm) (B : Pt), s.WarmedH vm₁ ∧ Stand p l e R s m args below meth c B.U B.locs B.cells B.slots ∧ PostX ⟨T.setVm vm₁, locs, cells, slots⟩ (Value.ref b :: argsL).toArray q B ∧
      Steps p.tables e below (T.setTop g) ((B.U.setTop { g with stack := rest }).pushFrame (.throwing q))) := by
  obtain ⟨mk, methM, hnamed, hmethM, hstM, habM⟩ := Cond.instanceMethod_spec hinst
  obtain ⟨m8, methM', cM, hn8, hmethM', -, -, -, -, -, -, hsigM⟩ := Cond.codeWith_spec hcode
  cases Option.some.inj (hn8.symm.trans hnamed)
  cases hmethM.symm.trans hmethM'
  obtain ⟨c2, r2, m2, q1, q2, q3, q4, kP, hkP, hkPi⟩ := Cond.selects_spec hsel
  cases hcls.symm.trans q1
  cases (State.methodFound?_of_named hnamed hy).symm.trans q2
  cases hnamed.symm.trans q3
  have hselP : selectMethod e.platform s.vm cellB.cls mk = .method mk := by rw [Launch.admits_selectMethod X.admits]; exact q4
  obtain ⟨vm₁, X₁, hstep₁⟩ := X.invokevirtual hexec hown hlink hnamed hmethM hstM hkP hkPi hy (a := b) (cell := cellB) hcell
    (fun z h => by rw [h] at hobj; cases hobj) hselP hmethM habM hkP hkPi (g := g) hg (argsL := argsL) (rest := rest) (hlen _ hsigM) hstack hdg
  rcases hK m meth c ⟨T.setVm vm₁, locs, cells, slots⟩ { g with stack := rest } (.invokevirtual index) mk (Value.ref b :: argsL).toArray X₁ hg hsize hdg hW (X₁.named hnamed) (hpre vm₁ X₁.warmed) with ⟨v, B, X', hpost, hsteps⟩ | ⟨q, B, X', hpost, hsteps⟩
  · exact Or.inl ⟨v, vm₁, B, X₁.warmed, X', hpost, fun target h => hstep₁ _ fun acts => by rw [doInvoke_state]; exact hsteps.trans h⟩
  · exact Or.inr ⟨q, vm₁, B, X₁.warmed, X', hpost, hstep₁ _ fun acts => by rw [doInvoke_state]; exact hsteps⟩
theorem vx_callSX (X : Stand p l e R s m args below meth c T locs cells slots) (hexec : p.tables.exec = Jvm.exec) {own : String} {index : Nat} {y : MethodName} {bytes : ByteArray} {maxL : Nat} {ret : Option FieldType} {hh : List (Nat × Nat × Nat × Nat)}
    (hown : s.vm.findClass own = some m.cls) (hlink : (Cond.methodLink own index y).before args s = true) (hstat : (Cond.static y).before args s = true) (hinit : (Cond.initialized y.cls).before args s = true)
    (hcode : (Cond.codeWith y bytes maxL ret hh).before args s = true) (hy : y.cls ≠ "java/lang/invoke/MethodHandle" ∧ y.cls ≠ "java/lang/invoke/VarHandle")
    {W9 : Nat} {Pre : Pt → Array Value → Prop} {Post : Pt → Array Value → Option Value → Pt → Prop} {PostX : Pt → Array Value → Addr → Pt → Prop} (hK : vx_Back l R p e below s args y 3 W9 Pre Post PostX)
    {g : JFrame} (hg : g.method = m) (hsize : g.locals.size = c.maxLocals) {argsL rest : List Value} (hlen : ∀ sig, parseMethodDescriptor y.desc = some sig → argsL.length = sig.parameters.length)
    (hstack : g.stack = argsL.reverse ++ rest) (hW : 2 * g.monitorRoom + (rest.map fun v => v.category).sum ≤ W9) (hdg : decode c.code g.pc = .ok (.invokestatic index, 3))
    (hpre : ∀ vm₁, s.WarmedH vm₁ → Pre ⟨T.setVm vm₁, locs, cells, slots⟩ argsL.toArray) :
    (∃ (v : Option Value) (vm₁ : Vm) (B : Pt), s.WarmedH vm₁ ∧ Stand p l e R s m args below meth c B.U B.locs B.cells B.slots ∧ Post ⟨T.setVm vm₁, locs, cells, slots⟩ argsL.toArray v B ∧
      ∀ target, Steps p.tables e below (B.U.setTop { g with pc := g.pc + 3, stack := v.toList ++ rest }) target → Steps p.tables e below (T.setTop g) target) ∨
    (∃ (q : Addr) (vm₁ : Vm) (B : Pt), s.WarmedH vm₁ ∧ Stand p l e R s m args below meth c B.U B.locs B.cells B.slots ∧ PostX ⟨T.setVm vm₁, locs, cells, slots⟩ argsL.toArray q B ∧
      Steps p.tables e below (T.setTop g) ((B.U.setTop { g with stack := rest }).pushFrame (.throwing q))) := by
  obtain ⟨mk, methM, cM, hnamed, hmethM, -, -, -, -, -, -, hsigM⟩ := Cond.codeWith_spec hcode
  have hstatic : methM.isStatic = true := Cond.static_spec hnamed hmethM hstat
  obtain ⟨kP, hkP, -⟩ := className_of_methodNamed hnamed
  have hinitP : kP.init = .initialized := Cond.initialized_spec (findClass_of_methodNamed hnamed) hkP hinit
  obtain ⟨vm₁, X₁, hstep₁⟩ := X.invokestatic hexec hown hlink hnamed hmethM hstatic hkP hinitP hy (g := g) hg (argsL := argsL) (rest := rest) (hlen _ hsigM) hstack hdg
  rcases hK m meth c ⟨T.setVm vm₁, locs, cells, slots⟩ { g with stack := rest } (.invokestatic index) mk argsL.toArray X₁ hg hsize hdg hW (X₁.named hnamed) (hpre vm₁ X₁.warmed) with ⟨v, B, X', hpost, hsteps⟩ | ⟨q, B, X', hpost, hsteps⟩
  · exact Or.inl ⟨v, vm₁, B, X₁.warmed, X', hpost, fun target h => hstep₁ _ fun acts => by rw [doInvoke_state]; exact hsteps.trans h⟩
  · exact Or.inr ⟨q, vm₁, B, X₁.warmed, X', hpost, hstep₁ _ fun acts => by rw [doInvoke_state]; exact hsteps⟩
theorem vx_callVW (X : Stand p l e R s m args below meth c T locs cells slots) (hexec : p.tables.exec = Jvm.exec) {own C : String} {index : Nat} {y : MethodName} {bytes : ByteArray} {maxL : Nat} {ret : Option FieldType} {hh : List (Nat × Nat × Nat × Nat)}
    (hown : s.vm.findClass own = some m.cls) (hlink : (Cond.methodLink own index y).before args s = true) (hinst : (Cond.instanceMethod y).before args s = true) (hsel : (Cond.selects C y y).before args s = true)
    (hcode : (Cond.codeWith y bytes maxL ret hh).before args s = true) (hy : y.cls ≠ "java/lang/invoke/MethodHandle" ∧ y.cls ≠ "java/lang/invoke/VarHandle")
    {W9 : Nat} {Pre : Pt → Array Value → Prop} {Post : Pt → Array Value → Option Value → Pt → Prop} (hK : Back l R p e below s args y 3 W9 Pre Post)
    {b : Addr} {cellB : Cell} (hcell : T.heap[b]? = some cellB) (hobj : cellB.vm.isStatics = false) (hcls : s.vm.findClass C = some cellB.cls)
    {g : JFrame} (hg : g.method = m) (hsize : g.locals.size = c.maxLocals) {argsL rest : List Value} (hlen : ∀ sig, parseMethodDescriptor y.desc = some sig → argsL.length = sig.parameters.length)
    (hstack : g.stack = argsL.reverse ++ .ref b :: rest) (hW : 2 * g.monitorRoom + (rest.map fun v => v.category).sum ≤ W9) (hdg : decode c.code g.pc = .ok (.invokevirtual index, 3))
    (hpre : ∀ vm₁, s.WarmedH vm₁ → Pre ⟨T.setVm vm₁, locs, cells, slots⟩ (Value.ref b :: argsL).toArray) :
    ∃ (v : Option Value) (vm₁ : Vm) (B : Pt), s.WarmedH vm₁ ∧ Stand p l e R s m args below meth c B.U B.locs B.cells B.slots ∧ Post ⟨T.setVm vm₁, locs, cells, slots⟩ (Value.ref b :: argsL).toArray v B ∧
      ∀ target, Steps p.tables e below (B.U.setTop { g with pc := g.pc + 3, stack := v.toList ++ rest }) target → Steps p.tables e below (T.setTop g) target := by
  obtain ⟨mk, methM, hnamed, hmethM, hstM, habM⟩ := Cond.instanceMethod_spec hinst
  obtain ⟨m8, methM', cM, hn8, hmethM', -, -, -, -, -, -, hsigM⟩ := Cond.codeWith_spec hcode
  cases Option.some.inj (hn8.symm.trans hnamed)
  cases hmethM.symm.trans hmethM'
  obtain ⟨c2, r2, m2, q1, q2, q3, q4, kP, hkP, hkPi⟩ := Cond.selects_spec hsel
  cases hcls.symm.trans q1
  cases (State.methodFound?_of_named hnamed hy).symm.trans q2
  cases hnamed.symm.trans q3
  have hselP : selectMethod e.platform s.vm cellB.cls mk = .method mk := by rw [Launch.admits_selectMethod X.admits]; exact q4
  obtain ⟨vm₁, X₁, hstep₁⟩ := X.invokevirtual hexec hown hlink hnamed hmethM hstM hkP hkPi hy (a := b) (cell := cellB) hcell
    (fun z h => by rw [h] at hobj; cases hobj) hselP hmethM habM hkP hkPi (g := g) hg (argsL := argsL) (rest := rest) (hlen _ hsigM) hstack hdg
  obtain ⟨v, B, X', hpost, hsteps⟩ := hK m meth c ⟨T.setVm vm₁, locs, cells, slots⟩ { g with stack := rest } (.invokevirtual index) mk (Value.ref b :: argsL).toArray X₁ hg hsize hdg hW (X₁.named hnamed) (hpre vm₁ X₁.warmed)
  exact ⟨v, vm₁, B, X₁.warmed, X', hpost, fun target h => hstep₁ _ fun acts => by rw [doInvoke_state]; exact hsteps.trans h⟩
abbrev vx_CVW (R : Room) (s : State) (args : Array Value) (own C : String) (index : Nat) (y : MethodName) (bytes : ByteArray) (maxL : Nat) (ret : Option FieldType) (hh : List (Nat × Nat × Nat × Nat)) (ws : List Cond) (rm : Room) (mc ms n : Nat) : Prop :=
  (rm.cells = mc ∧ rm.slots = ms ∧ rm.frames + 1 ≤ R.frames ∧ 8 + (maxL + 11) + rm.locals ≤ R.locals ∧ (∀ w ∈ ws, ∀ (a' : Array Value) (U : State), s.WarmedH U.vm → w.before a' U = true) ∧ Cond.codeWith y bytes maxL ret hh ∈ ws) ∧
  (Cond.codeWith y bytes maxL ret hh).before args s = true ∧ (Cond.initialized y.cls).before args s = true ∧ (y.cls ≠ "java/lang/invoke/MethodHandle" ∧ y.cls ≠ "java/lang/invoke/VarHandle") ∧
  (∀ sig, parseMethodDescriptor y.desc = some sig → n = sig.parameters.length) ∧ (Cond.methodLink own index y).before args s = true ∧ (Cond.instanceMethod y).before args s = true ∧ (Cond.selects C y y).before args s = true
theorem vx_cwVW {own C : String} {index maxL mc ms : Nat} {y : MethodName} {bytes : ByteArray} {ret : Option FieldType} {hh : List (Nat × Nat × Nat × Nat)} {Ts ws ws' : List Cond} {rm : Room} (n : Nat) (ht : ∀ w ∈ Ts, w.before args s = true) (hT : GoodIn Ts (wsV own index C y ws)) (hw : ws = Cond.codeWith y bytes maxL ret hh :: ws') (hrc : rm.cells = mc) (hrs : rm.slots = ms)
    (hd : y.cls = C ∧ y.cls ≠ "java/lang/invoke/MethodHandle" ∧ y.cls ≠ "java/lang/invoke/VarHandle" ∧ (parseMethodDescriptor y.desc).map (fun d => d.parameters.length) = some n) (hR : rm.frames + 1 ≤ R.frames ∧ 8 + (maxL + 11) + rm.locals ≤ R.locals) :
    vx_CVW R s args own C index y bytes maxL ret hh ws rm mc ms n := by
  obtain ⟨hC, hd⟩ := hd
  subst hC
  have ok : ∀ w ∈ wsV own index y.cls y ws, w.before args s = true := fun w h => ht w (hT w h).1
  have hG : GoodIn Ts ws := fun w h => hT w (by unfold wsV; exact List.mem_append_right _ h)
  have hc : Cond.codeWith y bytes maxL ret hh ∈ ws := by rw [hw]; exact List.mem_cons_self
  refine ⟨⟨hrc, hrs, hR.1, hR.2, pay_in ht hG, hc⟩, ht _ (hG _ hc).1, ok _ (by simp [wsV]), ⟨hd.1, hd.2.1⟩, fun sig h => ?_, ok _ (by simp [wsV]), ok _ (by simp [wsV]), ok _ (by simp [wsV])⟩
  have h2 := hd.2.2
  rw [h] at h2
  exact (Option.some.inj h2).symm
theorem vx_runVW {y : MethodName} {bytes cc : ByteArray} {maxL nL mc ms n index : Nat} {ret : Option FieldType} {hh : List (Nat × Nat × Nat × Nat)} {ws : List Cond} {rm : Room} {Pc : Array Value → State → Prop} {Qc : Array Value → State → Outcome → State → Prop} {free : Addr → Prop} {Ts : List Cond} {own C : String} {b : Addr} {As rest : List Value} {g : JFrame}
    (S : CallFix p m c cc nL s args Ts own) (hM : Met l y ws rm Pc Qc mc ms free) (cw : vx_CVW R s args own C index y bytes maxL ret hh ws rm mc ms n) (hp : PreV s H C b Pc As)
    (hg : g.method = m) (hn : As.length = n) (hsize : g.locals.size = nL) (hstack : g.stack = As.reverse ++ .ref b :: rest) (hW : 2 * g.monitorRoom + (rest.map fun v => v.category).sum ≤ 8) (hdg : decode cc g.pc = .ok (.invokevirtual index, 3)) (hf : cells + mc ≤ R.cells ∧ slots + ms ≤ R.slots) :
    va_Run p l e R s m args below meth c H locs cells slots mc ms g rest (Qc (Value.ref b :: As).toArray) free := by
  obtain ⟨⟨hrc, hrs, hfr, hlo, hws, hcw⟩, hcode, hini, hy, hlen, hl, hin, hse⟩ := cw
  have hK : Back l R p e below s args y 3 8 (PreOf R mc ms Pc) (PostOf Qc mc ms free) := va_backW (hh := hh) (bytes := bytes) (maxL := maxL) (ret := ret) hM hp.1 hrc hrs hfr hlo hws hcw (fun a' U hW => word_at hW (Or.inl (by first | rfl | simp [Cond.onTables, Cond.keeps, Cond.steady])) hini)
  obtain ⟨hx, hb, hml, ho, -⟩ := S
  obtain ⟨-, ⟨cellB, hcB, hoB, hclB⟩, hPc⟩ := hp
  intro T hT X
  obtain ⟨v, vm₁, ⟨U', l2, c2, s2⟩, hW₁, X', ⟨g', mk, t, L, e1, e2, hq, h1, hL, h2, h3⟩, st⟩ := vx_callVW X hx (C := C) (hh := hh) (bytes := bytes) (maxL := maxL) (ret := ret) ho hl hin hse hcode hy hK (by rw [hT]; exact hcB) hoB hclB hg (hsize.trans hml.symm) (argsL := As) (rest := rest) (fun sig h => hn.trans (hlen sig h)) hstack hW (by rw [hb]; exact hdg)
    (fun vm₁ hW₁ => ⟨hf.1, hf.2, hPc (T.setVm vm₁) hT hW₁⟩)
  dsimp only [Pt.U, Pt.locs, Pt.cells, Pt.slots] at X' e1 e2 h1 h2 h3 st
  subst h1; subst h2; subst h3
  exact ⟨v, (T.setVm vm₁).calling g' mk (Value.ref b :: As).toArray, t, U', L, hT, X', hL, e1, e2, hq, st⟩
section
variable {y : MethodName} {bytes cc : ByteArray} {maxL nL mc ms n index : Nat} {ret : Option FieldType} {ws : List Cond} {rm : Room} {Pc : Array Value → State → Prop} {Qc : Array Value → State → Outcome → State → Prop} {XC : String → State → State → Prop} {free : Addr → Prop} {Ts : List Cond} {own C : String} {b : Addr} {As rest : List Value} {g : JFrame}
theorem vx_runVX {hh : List (Nat × Nat × Nat × Nat)} (S : CallFix p m c cc nL s args Ts own) (hM : vx_Met l y ws rm Pc Qc XC mc ms free) (cw : vx_CVW R s args own C index y bytes maxL ret hh ws rm mc ms n) (hp : PreV s H C b Pc As)
    (hg : g.method = m) (hn : As.length = n) (hsize : g.locals.size = nL) (hstack : g.stack = As.reverse ++ .ref b :: rest) (hW : 2 * g.monitorRoom + (rest.map fun v => v.category).sum ≤ 8) (hdg : decode cc g.pc = .ok (.invokevirtual index, 3)) (hf : cells + mc ≤ R.cells ∧ slots + ms ≤ R.slots) :
    vx_Run p l e R s m args below meth c H locs cells slots mc ms g rest (Qc (Value.ref b :: As).toArray) XC free := by
  obtain ⟨⟨hrc, hrs, hfr, hlo, hws, hcw⟩, hcode, hini, hy, hlen, hl, hin, hse⟩ := cw
  have hK : vx_Back l R p e below s args y 3 8 (PreOf R mc ms Pc) (PostOf Qc mc ms free) (vx_Post XC mc ms free) := vx_backW (hh := hh) (bytes := bytes) (maxL := maxL) (ret := ret) hM hp.1 hrc hrs hfr hlo hws hcw (fun a' U hW => word_at hW (Or.inl (by first | rfl | simp [Cond.onTables, Cond.keeps, Cond.steady])) hini)
  obtain ⟨hx, hb, hml, ho, -⟩ := S
  obtain ⟨-, ⟨cellB, hcB, hoB, hclB⟩, hPc⟩ := hp
  intro T hT X
  rcases vx_callVX X hx (C := C) (hh := hh) (bytes := bytes) (maxL := maxL) (ret := ret) ho hl hin hse hcode hy hK (by rw [hT]; exact hcB) hoB hclB hg (hsize.trans hml.symm) (argsL := As) (rest := rest) (fun sig h => hn.trans (hlen sig h)) hstack hW (by rw [hb]; exact hdg)
    (fun vm₁ hW₁ => ⟨hf.1, hf.2, hPc (T.setVm vm₁) hT hW₁⟩) with ⟨v, vm₁, ⟨U', l2, c2, s2⟩, hW₁, X', ⟨g', mk, t, L, e1, e2, hq, h1, hL, h2, h3⟩, st⟩ | ⟨q, vm₁, ⟨U', l2, c2, s2⟩, hW₁, X', ⟨g', mk, t, L, E, ce, e1, e2, hq, hce, hcv, hcl, h1, hL, h2, h3⟩, st⟩
  · dsimp only [Pt.U, Pt.locs, Pt.cells, Pt.slots] at X' e1 e2 h1 h2 h3 st
    subst h1; subst h2; subst h3
    exact Or.inl ⟨v, (T.setVm vm₁).calling g' mk (Value.ref b :: As).toArray, t, U', L, hT, X', hL, e1, e2, hq, st⟩
  · dsimp only [Pt.U, Pt.locs, Pt.cells, Pt.slots] at X' e1 e2 h1 h2 h3 st hcl
    subst h1; subst h2; subst h3
    exact Or.inr ⟨q, (T.setVm vm₁).calling g' mk (Value.ref b :: As).toArray, t, U', L, E, ce, hT, X', hL, e1, e2, hq, hce, hcv, vx_cls hW₁ hcl, st⟩
theorem vx_runSX {hh : List (Nat × Nat × Nat × Nat)} (S : CallFix p m c cc nL s args Ts own) (hM : vx_Met l y ws rm Pc Qc XC mc ms free) (cw : vx_CSW R s args own index y bytes maxL ret hh ws rm mc ms n) (hp : PreS s H Pc As)
    (hg : g.method = m) (hn : As.length = n) (hsize : g.locals.size = nL) (hstack : g.stack = As.reverse ++ rest) (hW : 2 * g.monitorRoom + (rest.map fun v => v.category).sum ≤ 8) (hdg : decode cc g.pc = .ok (.invokestatic index, 3)) (hf : cells + mc ≤ R.cells ∧ slots + ms ≤ R.slots) :
    vx_Run p l e R s m args below meth c H locs cells slots mc ms g rest (Qc As.toArray) XC free := by
  obtain ⟨⟨hrc, hrs, hfr, hlo, hws, hcw⟩, hcode, hini, hy, hlen, hl, hstt⟩ := cw
  have hK : vx_Back l R p e below s args y 3 8 (PreOf R mc ms Pc) (PostOf Qc mc ms free) (vx_Post XC mc ms free) := vx_backW (hh := hh) (bytes := bytes) (maxL := maxL) (ret := ret) hM hp.1 hrc hrs hfr hlo hws hcw (fun a' U hW => word_at hW (Or.inl (by first | rfl | simp [Cond.onTables, Cond.keeps, Cond.steady])) hini)
  obtain ⟨hx, hb, hml, ho, -⟩ := S
  intro T hT X
  rcases vx_callSX X hx (hh := hh) (bytes := bytes) (maxL := maxL) (ret := ret) ho hl hstt hini hcode hy hK hg (hsize.trans hml.symm) (argsL := As) (rest := rest) (fun sig h => hn.trans (hlen sig h)) hstack hW (by rw [hb]; exact hdg)
    (fun vm₁ hW₁ => ⟨hf.1, hf.2, hp.2 (T.setVm vm₁) hT hW₁⟩) with ⟨v, vm₁, ⟨U', l2, c2, s2⟩, hW₁, X', ⟨g', mk, t, L, e1, e2, hq, h1, hL, h2, h3⟩, st⟩ | ⟨q, vm₁, ⟨U', l2, c2, s2⟩, hW₁, X', ⟨g', mk, t, L, E, ce, e1, e2, hq, hce, hcv, hcl, h1, hL, h2, h3⟩, st⟩
  · dsimp only [Pt.U, Pt.locs, Pt.cells, Pt.slots] at X' e1 e2 h1 h2 h3 st
    subst h1; subst h2; subst h3
    exact Or.inl ⟨v, (T.setVm vm₁).calling g' mk As.toArray, t, U', L, hT, X', hL, e1, e2, hq, st⟩
  · dsimp only [Pt.U, Pt.locs, Pt.cells, Pt.slots] at X' e1 e2 h1 h2 h3 st hcl
    subst h1; subst h2; subst h3
    exact Or.inr ⟨q, (T.setVm vm₁).calling g' mk As.toArray, t, U', L, E, ce, hT, X', hL, e1, e2, hq, hce, hcv, vx_cls hW₁ hcl, st⟩
end
end VXH
theorem vx_ofWH {l : Launch} {y : MethodName} {ws ws' : List Cond} {rm : Room} {Pc : Array Value → State → Prop} {Qc : Array Value → State → Outcome → State → Prop} {XC : String → State → State → Prop} {mc ms : Nat} {free : Addr → Prop} {cc : ByteArray} {maxL : Nat} {ret : Option FieldType} {hh : List (Nat × Nat × Nat × Nat)}
    (hy : plainName y.cls = true) (hw : ws = Cond.codeWith y cc maxL ret hh :: ws')
    (body : ∀ p e s m args below meth c s₁, BodyLoose p l y (headSpec ws rm) cc maxL ret e s m args below meth c s₁ → c.maxLocals = maxL → Pc args s →
      W p l e (headSpec ws rm).room s m args below meth c s.heap [] 0 0 (vx_MQ below Qc XC args s mc ms free) (entryFrame m args maxL)) : vx_Met l y ws rm Pc Qc XC mc ms free := by
  refine MetFree.of_bodyS (code := cc) (maxLocals := maxL) (ret := ret) hy ?_ ?_
  · intro args s m h hn
    obtain ⟨m9, meth, c, hn9, h1, h2, h3, h4, -, h5, h6, -⟩ := Cond.codeWith_spec (atoms_spec (ws := ws) h _ (by rw [hw]; exact List.mem_cons_self))
    cases hn.symm.trans hn9
    exact ⟨meth, c, h1, h2, h3, h4, h5, h6⟩
  · intro p e s m args below meth c s₁ B hml hP _
    have hh0 : s₁.heap = s.heap := by rw [B.state]; rfl
    obtain ⟨t, a1, o, b1, b2, b3⟩ := body p e s m args below meth c s₁ B hml hP s₁ hh0 (Stand.of_body B)
    exact ⟨t, o, a1, b1, b2, b3⟩
/-! ===== END ===== -/
end
section
/-! ===== BEGIN printed: names, fields, word lists, decode rows ===== -/
def RX0 : String := "SkyCuts$Ear"
def TX0 : u_T := fun k => match k with
  | 0 => ("SkyCuts$Ear", "air", "LSkyCuts$Streams;", true)
  | 1 => ("SkyCuts$Ear", "book", "LSkyCuts$Rules;", true)
  | 2 => ("SkyCuts$Ear", "visitors", "I", false)
  | 3 => ("SkyCuts$Ear", "visiting", "[I", true)
  | 4 => ("SkyCuts$Ear", "overs", "[I", true)
  | 5 => ("SkyCuts$Ear", "inner", "[I", true)
  | 6 => ("SkyCuts$Ear", "climbs", "[I", true)
  | 7 => ("SkyCuts$Ear", "meetings", "I", false)
  | 8 => ("SkyCuts$Ear", "firsts", "[I", true)
  | 9 => ("SkyCuts$Ear", "seconds", "[I", true)
  | 10 => ("SkyCuts$Ear", "often", "[I", true)
  | 11 => ("SkyCuts$Ear", "heard", "[I", true)
  | 12 => ("SkyCuts$Ear", "peakQuarter", "I", false)
  | _ => ("SkyCuts$Ear", "parts", "[I", true)
def tyX0 : Nat → FieldType := fun k => match k with
  | 0 => .object "SkyCuts$Streams"
  | 1 => .object "SkyCuts$Rules"
  | 2 => .int
  | 3 => .array .int
  | 4 => .array .int
  | 5 => .array .int
  | 6 => .array .int
  | 7 => .int
  | 8 => .array .int
  | 9 => .array .int
  | 10 => .array .int
  | 11 => .array .int
  | 12 => .int
  | _ => .array .int
abbrev wsX00 : List Cond := u_ws RX0 TX0 14
theorem nmX0 : ∀ a, a < 14 → ∀ b, b < 14 → a ≠ b → (TX0 a).2.1 ≠ (TX0 b).2.1 := by decide +kernel
theorem tyX0_ok : ∀ k, k < 14 → parseFieldDescriptor (TX0 k).2.2.1 = some (tyX0 k) := by decide +kernel
abbrev cX0_init : ByteArray := prog_2_method_1_code
def yX0_init : MethodName := ⟨RX0, "<init>", "(LSkyCuts$Streams;LSkyCuts$Rules;)V"⟩
abbrev cX0_listen : ByteArray := prog_2_method_2_code
def yX0_listen : MethodName := ⟨RX0, "listen", "(JJI)V"⟩
abbrev cX0_followSteps : ByteArray := prog_2_method_3_code
def yX0_followSteps : MethodName := ⟨RX0, "followSteps", "(IJJ)V"⟩
abbrev cX0_hear : ByteArray := prog_2_method_4_code
def yX0_hear : MethodName := ⟨RX0, "hear", "(II)V"⟩
abbrev cX0_loadAt : ByteArray := prog_2_method_5_code
def yX0_loadAt : MethodName := ⟨RX0, "loadAt", "(II)I"⟩
abbrev cX0_findPeak : ByteArray := prog_2_method_6_code
def yX0_findPeak : MethodName := ⟨RX0, "findPeak", "()I"⟩
abbrev cX0_keptCounts : ByteArray := prog_2_method_7_code
def yX0_keptCounts : MethodName := ⟨RX0, "keptCounts", "()I"⟩
abbrev cX0_overInAll : ByteArray := prog_2_method_8_code
def yX0_overInAll : MethodName := ⟨RX0, "overInAll", "()I"⟩
abbrev cX0_leadAt : ByteArray := prog_2_method_9_code
def yX0_leadAt : MethodName := ⟨RX0, "leadAt", "(II)I"⟩
abbrev cX0_aheadOf : ByteArray := prog_2_method_10_code
def yX0_aheadOf : MethodName := ⟨RX0, "aheadOf", "(I)I"⟩
def RX1 : String := "SkyCuts$Fits"
def TX1 : u_T := fun k => match k with
  | 0 => ("SkyCuts$Fits", "heard", "[I", true)
  | 1 => ("SkyCuts$Fits", "works", "[I", true)
  | 2 => ("SkyCuts$Fits", "backs", "[Z", true)
  | 3 => ("SkyCuts$Fits", "size", "I", false)
  | 4 => ("SkyCuts$Fits", "fitted", "I", false)
  | 5 => ("SkyCuts$Fits", "weights", "[I", true)
  | 6 => ("SkyCuts$Fits", "trial", "[I", true)
  | _ => ("SkyCuts$Fits", "off", "I", false)
def tyX1 : Nat → FieldType := fun k => match k with
  | 0 => .array .int
  | 1 => .array .int
  | 2 => .array .boolean
  | 3 => .int
  | 4 => .int
  | 5 => .array .int
  | 6 => .array .int
  | _ => .int
abbrev wsX10 : List Cond := u_ws RX1 TX1 8
theorem nmX1 : ∀ a, a < 8 → ∀ b, b < 8 → a ≠ b → (TX1 a).2.1 ≠ (TX1 b).2.1 := by decide +kernel
theorem tyX1_ok : ∀ k, k < 8 → parseFieldDescriptor (TX1 k).2.2.1 = some (tyX1 k) := by decide +kernel
abbrev cX1_init : ByteArray := prog_3_method_1_code
def yX1_init : MethodName := ⟨RX1, "<init>", "()V"⟩
abbrev cX1_add : ByteArray := prog_3_method_2_code
def yX1_add : MethodName := ⟨RX1, "add", "([IIZ)I"⟩
abbrev cX1_solve : ByteArray := prog_3_method_3_code
def yX1_solve : MethodName := ⟨RX1, "solve", "()Z"⟩
abbrev cX1_offBack : ByteArray := prog_3_method_4_code
def yX1_offBack : MethodName := ⟨RX1, "offBack", "()I"⟩
abbrev cX1_anyRow : ByteArray := prog_3_method_5_code
def yX1_anyRow : MethodName := ⟨RX1, "anyRow", "()Z"⟩
abbrev cX1_nextTrial : ByteArray := prog_3_method_6_code
def yX1_nextTrial : MethodName := ⟨RX1, "nextTrial", "()Z"⟩
abbrev cX1_offOf : ByteArray := prog_3_method_7_code
def yX1_offOf : MethodName := ⟨RX1, "offOf", "([IZ)I"⟩
def RX2 : String := "SkyCuts$Mover"
def TX2 : u_T := fun k => match k with
  | 0 => ("SkyCuts$Mover", "air", "LSkyCuts$Streams;", true)
  | 1 => ("SkyCuts$Mover", "parting", "LSkyCuts$Parting;", true)
  | 2 => ("SkyCuts$Mover", "ear", "LSkyCuts$Ear;", true)
  | 3 => ("SkyCuts$Mover", "present", "[Z", true)
  | 4 => ("SkyCuts$Mover", "peaks", "[I", true)
  | 5 => ("SkyCuts$Mover", "kept", "[I", true)
  | 6 => ("SkyCuts$Mover", "wholes", "[Z", true)
  | 7 => ("SkyCuts$Mover", "bestCell", "I", false)
  | 8 => ("SkyCuts$Mover", "bestPiece", "I", false)
  | _ => ("SkyCuts$Mover", "bestPrice", "I", false)
def tyX2 : Nat → FieldType := fun k => match k with
  | 0 => .object "SkyCuts$Streams"
  | 1 => .object "SkyCuts$Parting"
  | 2 => .object "SkyCuts$Ear"
  | 3 => .array .boolean
  | 4 => .array .int
  | 5 => .array .int
  | 6 => .array .boolean
  | 7 => .int
  | 8 => .int
  | _ => .int
abbrev wsX20 : List Cond := u_ws RX2 TX2 10
theorem nmX2 : ∀ a, a < 10 → ∀ b, b < 10 → a ≠ b → (TX2 a).2.1 ≠ (TX2 b).2.1 := by decide +kernel
theorem tyX2_ok : ∀ k, k < 10 → parseFieldDescriptor (TX2 k).2.2.1 = some (tyX2 k) := by decide +kernel
abbrev cX2_init : ByteArray := prog_4_method_1_code
def yX2_init : MethodName := ⟨RX2, "<init>", "(LSkyCuts$Streams;LSkyCuts$Parting;LSkyCuts$Ear;)V"⟩
abbrev cX2_stands : ByteArray := prog_4_method_2_code
def yX2_stands : MethodName := ⟨RX2, "stands", "(I)Z"⟩
abbrev cX2_isWhole : ByteArray := prog_4_method_3_code
def yX2_isWhole : MethodName := ⟨RX2, "isWhole", "(I)Z"⟩
abbrev cX2_measure : ByteArray := prog_4_method_4_code
def yX2_measure : MethodName := ⟨RX2, "measure", "()V"⟩
abbrev cX2_weigh : ByteArray := prog_4_method_5_code
def yX2_weigh : MethodName := ⟨RX2, "weigh", "(I)Z"⟩
abbrev cX2_priceNow : ByteArray := prog_4_method_6_code
def yX2_priceNow : MethodName := ⟨RX2, "priceNow", "()I"⟩
abbrev cX2_seek : ByteArray := prog_4_method_7_code
def yX2_seek : MethodName := ⟨RX2, "seek", "()Z"⟩
abbrev cX2_mayMatter : ByteArray := prog_4_method_8_code
def yX2_mayMatter : MethodName := ⟨RX2, "mayMatter", "(I)Z"⟩
abbrev cX2_tryCell : ByteArray := prog_4_method_9_code
def yX2_tryCell : MethodName := ⟨RX2, "tryCell", "(III)V"⟩
abbrev cX2_compare : ByteArray := prog_4_method_10_code
def yX2_compare : MethodName := ⟨RX2, "compare", "(III)V"⟩
def RX3 : String := "SkyCuts$Parting"
def TX3 : u_T := fun k => match k with
  | 0 => ("SkyCuts$Parting", "pieceOf", "[I", true)
  | 1 => ("SkyCuts$Parting", "lo", "[J", true)
  | 2 => ("SkyCuts$Parting", "hi", "[J", true)
  | 3 => ("SkyCuts$Parting", "limits", "[I", true)
  | 4 => ("SkyCuts$Parting", "marks", "[I", true)
  | 5 => ("SkyCuts$Parting", "markCount", "I", false)
  | _ => ("SkyCuts$Parting", "stretch", "I", false)
def tyX3 : Nat → FieldType := fun k => match k with
  | 0 => .array .int
  | 1 => .array .long
  | 2 => .array .long
  | 3 => .array .int
  | 4 => .array .int
  | 5 => .int
  | _ => .int
abbrev wsX30 : List Cond := u_ws RX3 TX3 7
theorem nmX3 : ∀ a, a < 7 → ∀ b, b < 7 → a ≠ b → (TX3 a).2.1 ≠ (TX3 b).2.1 := by decide +kernel
theorem tyX3_ok : ∀ k, k < 7 → parseFieldDescriptor (TX3 k).2.2.1 = some (tyX3 k) := by decide +kernel
abbrev cX3_init : ByteArray := prog_5_method_1_code
def yX3_init : MethodName := ⟨RX3, "<init>", "()V"⟩
abbrev cX3_put : ByteArray := prog_5_method_2_code
def yX3_put : MethodName := ⟨RX3, "put", "(II)I"⟩
abbrev cX3_putAll : ByteArray := prog_5_method_3_code
def yX3_putAll : MethodName := ⟨RX3, "putAll", "(III)I"⟩
abbrev cX3_hasCells : ByteArray := prog_5_method_4_code
def yX3_hasCells : MethodName := ⟨RX3, "hasCells", "(I)Z"⟩
abbrev cX3_countPieces : ByteArray := prog_5_method_5_code
def yX3_countPieces : MethodName := ⟨RX3, "countPieces", "()I"⟩
abbrev cX3_countShut : ByteArray := prog_5_method_6_code
def yX3_countShut : MethodName := ⟨RX3, "countShut", "()I"⟩
abbrev cX3_beside : ByteArray := prog_5_method_7_code
def yX3_beside : MethodName := ⟨RX3, "beside", "(JJ)J"⟩
abbrev cX3_hangs : ByteArray := prog_5_method_8_code
def yX3_hangs : MethodName := ⟨RX3, "hangs", "(JJ)Z"⟩
abbrev cX3_reaches : ByteArray := prog_5_method_9_code
def yX3_reaches : MethodName := ⟨RX3, "reaches", "(JJJJ)Z"⟩
abbrev cX3_neckAt : ByteArray := prog_5_method_10_code
def yX3_neckAt : MethodName := ⟨RX3, "neckAt", "(II)I"⟩
abbrev cX3_hangsWithout : ByteArray := prog_5_method_11_code
def yX3_hangsWithout : MethodName := ⟨RX3, "hangsWithout", "(II)Z"⟩
abbrev cX3_countAtEdge : ByteArray := prog_5_method_12_code
def yX3_countAtEdge : MethodName := ⟨RX3, "countAtEdge", "(IJJ)I"⟩
abbrev cX3_piecesBeside : ByteArray := prog_5_method_13_code
def yX3_piecesBeside : MethodName := ⟨RX3, "piecesBeside", "(I)I"⟩
abbrev cX3_keepMark : ByteArray := prog_5_method_14_code
def yX3_keepMark : MethodName := ⟨RX3, "keepMark", "()I"⟩
abbrev cX3_goBack : ByteArray := prog_5_method_15_code
def yX3_goBack : MethodName := ⟨RX3, "goBack", "()I"⟩
def RX4 : String := "SkyCuts$Plans"
def TX4 : u_T := fun k => match k with
  | 0 => ("SkyCuts$Plans", "air", "LSkyCuts$Streams;", true)
  | 1 => ("SkyCuts$Plans", "book", "LSkyCuts$Rules;", true)
  | 2 => ("SkyCuts$Plans", "parting", "LSkyCuts$Parting;", true)
  | 3 => ("SkyCuts$Plans", "ear", "LSkyCuts$Ear;", true)
  | 4 => ("SkyCuts$Plans", "groups", "[I", true)
  | 5 => ("SkyCuts$Plans", "size", "I", false)
  | 6 => ("SkyCuts$Plans", "busySum", "I", false)
  | 7 => ("SkyCuts$Plans", "needs", "[I", true)
  | 8 => ("SkyCuts$Plans", "can", "[Z", true)
  | 9 => ("SkyCuts$Plans", "loads", "[I", true)
  | 10 => ("SkyCuts$Plans", "fewest", "[I", true)
  | 11 => ("SkyCuts$Plans", "line", "[I", true)
  | 12 => ("SkyCuts$Plans", "bestPairs", "I", false)
  | _ => ("SkyCuts$Plans", "bestChanges", "I", false)
def tyX4 : Nat → FieldType := fun k => match k with
  | 0 => .object "SkyCuts$Streams"
  | 1 => .object "SkyCuts$Rules"
  | 2 => .object "SkyCuts$Parting"
  | 3 => .object "SkyCuts$Ear"
  | 4 => .array .int
  | 5 => .int
  | 6 => .int
  | 7 => .array .int
  | 8 => .array .boolean
  | 9 => .array .int
  | 10 => .array .int
  | 11 => .array .int
  | 12 => .int
  | _ => .int
abbrev wsX40 : List Cond := u_ws RX4 TX4 14
theorem nmX4 : ∀ a, a < 14 → ∀ b, b < 14 → a ≠ b → (TX4 a).2.1 ≠ (TX4 b).2.1 := by decide +kernel
theorem tyX4_ok : ∀ k, k < 14 → parseFieldDescriptor (TX4 k).2.2.1 = some (tyX4 k) := by decide +kernel
abbrev cX4_init : ByteArray := prog_6_method_1_code
def yX4_init : MethodName := ⟨RX4, "<init>", "(LSkyCuts$Streams;LSkyCuts$Rules;LSkyCuts$Parting;LSkyCuts$Ear;)V"⟩
abbrev cX4_add : ByteArray := prog_6_method_2_code
def yX4_add : MethodName := ⟨RX4, "add", "(I)I"⟩
abbrev cX4_needAt : ByteArray := prog_6_method_3_code
def yX4_needAt : MethodName := ⟨RX4, "needAt", "(I)I"⟩
abbrev cX4_judge : ByteArray := prog_6_method_4_code
def yX4_judge : MethodName := ⟨RX4, "judge", "(I)V"⟩
abbrev cX4_judgeGroup : ByteArray := prog_6_method_5_code
def yX4_judgeGroup : MethodName := ⟨RX4, "judgeGroup", "(IIZ)V"⟩
abbrev cX4_addLoads : ByteArray := prog_6_method_6_code
def yX4_addLoads : MethodName := ⟨RX4, "addLoads", "()V"⟩
abbrev cX4_solve : ByteArray := prog_6_method_7_code
def yX4_solve : MethodName := ⟨RX4, "solve", "(I)Z"⟩
abbrev cX4_placeOf : ByteArray := prog_6_method_8_code
def yX4_placeOf : MethodName := ⟨RX4, "placeOf", "(III)I"⟩
abbrev cX4_fewestBehind : ByteArray := prog_6_method_9_code
def yX4_fewestBehind : MethodName := ⟨RX4, "fewestBehind", "(III)I"⟩
abbrev cX4_choose : ByteArray := prog_6_method_10_code
def yX4_choose : MethodName := ⟨RX4, "choose", "(I)Z"⟩
abbrev cX4_nextOf : ByteArray := prog_6_method_11_code
def yX4_nextOf : MethodName := ⟨RX4, "nextOf", "(III)I"⟩
def RX5 : String := "SkyCuts$Region"
def TX5 : u_T := fun k => match k with
  | 0 => ("SkyCuts$Region", "air", "LSkyCuts$Streams;", true)
  | 1 => ("SkyCuts$Region", "ear", "LSkyCuts$Ear;", true)
  | 2 => ("SkyCuts$Region", "cells", "[I", true)
  | 3 => ("SkyCuts$Region", "size", "I", false)
  | 4 => ("SkyCuts$Region", "hanging", "[Z", true)
  | 5 => ("SkyCuts$Region", "peaks", "[I", true)
  | 6 => ("SkyCuts$Region", "overs", "[I", true)
  | 7 => ("SkyCuts$Region", "heaps", "[I", true)
  | 8 => ("SkyCuts$Region", "subsets", "[I", true)
  | 9 => ("SkyCuts$Region", "bestHeaps", "[I", true)
  | 10 => ("SkyCuts$Region", "bestPeak", "I", false)
  | 11 => ("SkyCuts$Region", "bestOver", "I", false)
  | _ => ("SkyCuts$Region", "found", "Z", false)
def tyX5 : Nat → FieldType := fun k => match k with
  | 0 => .object "SkyCuts$Streams"
  | 1 => .object "SkyCuts$Ear"
  | 2 => .array .int
  | 3 => .int
  | 4 => .array .boolean
  | 5 => .array .int
  | 6 => .array .int
  | 7 => .array .int
  | 8 => .array .int
  | 9 => .array .int
  | 10 => .int
  | 11 => .int
  | _ => .boolean
abbrev wsX50 : List Cond := u_ws RX5 TX5 13
theorem nmX5 : ∀ a, a < 13 → ∀ b, b < 13 → a ≠ b → (TX5 a).2.1 ≠ (TX5 b).2.1 := by decide +kernel
theorem tyX5_ok : ∀ k, k < 13 → parseFieldDescriptor (TX5 k).2.2.1 = some (tyX5 k) := by decide +kernel
abbrev cX5_init : ByteArray := prog_7_method_1_code
def yX5_init : MethodName := ⟨RX5, "<init>", "(LSkyCuts$Streams;LSkyCuts$Ear;)V"⟩
abbrev cX5_add : ByteArray := prog_7_method_2_code
def yX5_add : MethodName := ⟨RX5, "add", "(I)I"⟩
abbrev cX5_solve : ByteArray := prog_7_method_3_code
def yX5_solve : MethodName := ⟨RX5, "solve", "(I)Z"⟩
abbrev cX5_hearSubset : ByteArray := prog_7_method_4_code
def yX5_hearSubset : MethodName := ⟨RX5, "hearSubset", "(I)V"⟩
abbrev cX5_place : ByteArray := prog_7_method_5_code
def yX5_place : MethodName := ⟨RX5, "place", "(III)V"⟩
abbrev cX5_compare : ByteArray := prog_7_method_6_code
def yX5_compare : MethodName := ⟨RX5, "compare", "(I)V"⟩
def RX6 : String := "SkyCuts$Rota"
def TX6 : u_T := fun k => match k with
  | 0 => ("SkyCuts$Rota", "plans", "LSkyCuts$Plans;", true)
  | 1 => ("SkyCuts$Rota", "work", "I", false)
  | 2 => ("SkyCuts$Rota", "rest", "I", false)
  | 3 => ("SkyCuts$Rota", "illFrom", "[I", true)
  | 4 => ("SkyCuts$Rota", "onEnd", "[I", true)
  | 5 => ("SkyCuts$Rota", "freeFrom", "[I", true)
  | 6 => ("SkyCuts$Rota", "watched", "[I", true)
  | 7 => ("SkyCuts$Rota", "watching", "[I", true)
  | _ => ("SkyCuts$Rota", "wanting", "I", false)
def tyX6 : Nat → FieldType := fun k => match k with
  | 0 => .object "SkyCuts$Plans"
  | 1 => .int
  | 2 => .int
  | 3 => .array .int
  | 4 => .array .int
  | 5 => .array .int
  | 6 => .array .int
  | 7 => .array .int
  | _ => .int
abbrev wsX60 : List Cond := u_ws RX6 TX6 9
theorem nmX6 : ∀ a, a < 9 → ∀ b, b < 9 → a ≠ b → (TX6 a).2.1 ≠ (TX6 b).2.1 := by decide +kernel
theorem tyX6_ok : ∀ k, k < 9 → parseFieldDescriptor (TX6 k).2.2.1 = some (tyX6 k) := by decide +kernel
abbrev cX6_init : ByteArray := prog_8_method_1_code
def yX6_init : MethodName := ⟨RX6, "<init>", "(LSkyCuts$Plans;)V"⟩
abbrev cX6_setWork : ByteArray := prog_8_method_2_code
def yX6_setWork : MethodName := ⟨RX6, "setWork", "(I)I"⟩
abbrev cX6_setRest : ByteArray := prog_8_method_3_code
def yX6_setRest : MethodName := ⟨RX6, "setRest", "(I)I"⟩
abbrev cX6_run : ByteArray := prog_8_method_4_code
def yX6_run : MethodName := ⟨RX6, "run", "(I)V"⟩
abbrev cX6_mayGoOn : ByteArray := prog_8_method_5_code
def yX6_mayGoOn : MethodName := ⟨RX6, "mayGoOn", "(II)I"⟩
abbrev cX6_mayBegin : ByteArray := prog_8_method_6_code
def yX6_mayBegin : MethodName := ⟨RX6, "mayBegin", "(II)I"⟩
abbrev cX6_fewestOf : ByteArray := prog_8_method_7_code
def yX6_fewestOf : MethodName := ⟨RX6, "fewestOf", "(II)I"⟩
abbrev cX6_settle : ByteArray := prog_8_method_8_code
def yX6_settle : MethodName := ⟨RX6, "settle", "(III)V"⟩
def RX7 : String := "SkyCuts$Rules"
def TX7 : u_T := fun k => match k with
  | 0 => ("SkyCuts$Rules", "text", "LSkyCuts$Text;", true)
  | 1 => ("SkyCuts$Rules", "codes", "[I", false)
  | 2 => ("SkyCuts$Rules", "ends", "[I", false)
  | 3 => ("SkyCuts$Rules", "clauses", "I", false)
  | 4 => ("SkyCuts$Rules", "loadClause", "I", false)
  | 5 => ("SkyCuts$Rules", "joinBits", "I", false)
  | 6 => ("SkyCuts$Rules", "countsCells", "Z", false)
  | 7 => ("SkyCuts$Rules", "draft", "[I", false)
  | 8 => ("SkyCuts$Rules", "draftEnds", "[I", false)
  | 9 => ("SkyCuts$Rules", "draftSize", "I", false)
  | 10 => ("SkyCuts$Rules", "draftLoad", "I", false)
  | 11 => ("SkyCuts$Rules", "draftJoins", "I", false)
  | 12 => ("SkyCuts$Rules", "open", "I", false)
  | _ => ("SkyCuts$Rules", "stack", "[I", true)
def tyX7 : Nat → FieldType := fun k => match k with
  | 0 => .object "SkyCuts$Text"
  | 1 => .array .int
  | 2 => .array .int
  | 3 => .int
  | 4 => .int
  | 5 => .int
  | 6 => .boolean
  | 7 => .array .int
  | 8 => .array .int
  | 9 => .int
  | 10 => .int
  | 11 => .int
  | 12 => .int
  | _ => .array .int
abbrev wsX70 : List Cond := u_ws RX7 TX7 14
theorem nmX7 : ∀ a, a < 14 → ∀ b, b < 14 → a ≠ b → (TX7 a).2.1 ≠ (TX7 b).2.1 := by decide +kernel
theorem tyX7_ok : ∀ k, k < 14 → parseFieldDescriptor (TX7 k).2.2.1 = some (tyX7 k) := by decide +kernel
abbrev cX7_init : ByteArray := prog_9_method_1_code
def yX7_init : MethodName := ⟨RX7, "<init>", "(LSkyCuts$Text;)V"⟩
abbrev cX7_read : ByteArray := prog_9_method_2_code
def yX7_read : MethodName := ⟨RX7, "read", "()Z"⟩
abbrev cX7_adopt : ByteArray := prog_9_method_3_code
def yX7_adopt : MethodName := ⟨RX7, "adopt", "(I)V"⟩
abbrev cX7_beginOf : ByteArray := prog_9_method_4_code
def yX7_beginOf : MethodName := ⟨RX7, "beginOf", "(I)I"⟩
abbrev cX7_readClause : ByteArray := prog_9_method_5_code
def yX7_readClause : MethodName := ⟨RX7, "readClause", "(I)Z"⟩
abbrev cX7_readEither : ByteArray := prog_9_method_6_code
def yX7_readEither : MethodName := ⟨RX7, "readEither", "()Z"⟩
abbrev cX7_readBoth : ByteArray := prog_9_method_7_code
def yX7_readBoth : MethodName := ⟨RX7, "readBoth", "()Z"⟩
abbrev cX7_readTest : ByteArray := prog_9_method_8_code
def yX7_readTest : MethodName := ⟨RX7, "readTest", "()Z"⟩
abbrev cX7_readSum : ByteArray := prog_9_method_9_code
def yX7_readSum : MethodName := ⟨RX7, "readSum", "()Z"⟩
abbrev cX7_readProduct : ByteArray := prog_9_method_10_code
def yX7_readProduct : MethodName := ⟨RX7, "readProduct", "()Z"⟩
abbrev cX7_readUnit : ByteArray := prog_9_method_11_code
def yX7_readUnit : MethodName := ⟨RX7, "readUnit", "()Z"⟩
abbrev cX7_readOfTwo : ByteArray := prog_9_method_12_code
def yX7_readOfTwo : MethodName := ⟨RX7, "readOfTwo", "(I)Z"⟩
abbrev cX7_codeOfName : ByteArray := prog_9_method_13_code
def yX7_codeOfName : MethodName := ⟨RX7, "codeOfName", "()I"⟩
abbrev cX7_enter : ByteArray := prog_9_method_14_code
def yX7_enter : MethodName := ⟨RX7, "enter", "()Z"⟩
abbrev cX7_pass : ByteArray := prog_9_method_15_code
def yX7_pass : MethodName := ⟨RX7, "pass", "(I)Z"⟩
abbrev cX7_put : ByteArray := prog_9_method_16_code
def yX7_put : MethodName := ⟨RX7, "put", "(I)V"⟩
abbrev cX7_joinsHold : ByteArray := prog_9_method_17_code
def yX7_joinsHold : MethodName := ⟨RX7, "joinsHold", "([I)Z"⟩
abbrev cX7_work : ByteArray := prog_9_method_18_code
def yX7_work : MethodName := ⟨RX7, "work", "(I[I)I"⟩
abbrev cX7_joined : ByteArray := prog_9_method_19_code
def yX7_joined : MethodName := ⟨RX7, "joined", "(III)I"⟩
def RX8 : String := "SkyCuts$Storm"
def TX8 : u_T := fun k => match k with
  | 0 => ("SkyCuts$Storm", "air", "LSkyCuts$Streams;", true)
  | 1 => ("SkyCuts$Storm", "mended", "LSkyCuts$Streams;", true)
  | 2 => ("SkyCuts$Storm", "parting", "LSkyCuts$Parting;", true)
  | 3 => ("SkyCuts$Storm", "ears", "[LSkyCuts$Ear;", true)
  | 4 => ("SkyCuts$Storm", "lo", "J", false)
  | 5 => ("SkyCuts$Storm", "hi", "J", false)
  | 6 => ("SkyCuts$Storm", "quarter", "I", false)
  | 7 => ("SkyCuts$Storm", "hitBits", "I", false)
  | 8 => ("SkyCuts$Storm", "hits", "[I", true)
  | 9 => ("SkyCuts$Storm", "hitCount", "I", false)
  | 10 => ("SkyCuts$Storm", "rounds", "[I", true)
  | 11 => ("SkyCuts$Storm", "mends", "[I", true)
  | 12 => ("SkyCuts$Storm", "bestMends", "[I", true)
  | 13 => ("SkyCuts$Storm", "bestMinutes", "I", false)
  | 14 => ("SkyCuts$Storm", "known", "[I", true)
  | 15 => ("SkyCuts$Storm", "far", "[I", true)
  | 16 => ("SkyCuts$Storm", "queue", "[I", true)
  | _ => ("SkyCuts$Storm", "path", "[I", true)
def tyX8 : Nat → FieldType := fun k => match k with
  | 0 => .object "SkyCuts$Streams"
  | 1 => .object "SkyCuts$Streams"
  | 2 => .object "SkyCuts$Parting"
  | 3 => .array (.object "SkyCuts$Ear")
  | 4 => .long
  | 5 => .long
  | 6 => .int
  | 7 => .int
  | 8 => .array .int
  | 9 => .int
  | 10 => .array .int
  | 11 => .array .int
  | 12 => .array .int
  | 13 => .int
  | 14 => .array .int
  | 15 => .array .int
  | 16 => .array .int
  | _ => .array .int
abbrev wsX80 : List Cond := u_ws RX8 TX8 18
theorem nmX8 : ∀ a, a < 18 → ∀ b, b < 18 → a ≠ b → (TX8 a).2.1 ≠ (TX8 b).2.1 := by decide +kernel
theorem tyX8_ok : ∀ k, k < 18 → parseFieldDescriptor (TX8 k).2.2.1 = some (tyX8 k) := by decide +kernel
abbrev cX8_init : ByteArray := prog_10_method_1_code
def yX8_init : MethodName := ⟨RX8, "<init>", "(LSkyCuts$Streams;LSkyCuts$Rules;LSkyCuts$Parting;)V"⟩
abbrev cX8_shut : ByteArray := prog_10_method_2_code
def yX8_shut : MethodName := ⟨RX8, "shut", "(IZ)Z"⟩
abbrev cX8_isShut : ByteArray := prog_10_method_3_code
def yX8_isShut : MethodName := ⟨RX8, "isShut", "(I)Z"⟩
abbrev cX8_findHits : ByteArray := prog_10_method_4_code
def yX8_findHits : MethodName := ⟨RX8, "findHits", "(I)V"⟩
abbrev cX8_mendOf : ByteArray := prog_10_method_5_code
def yX8_mendOf : MethodName := ⟨RX8, "mendOf", "(I)I"⟩
abbrev cX8_solve : ByteArray := prog_10_method_6_code
def yX8_solve : MethodName := ⟨RX8, "solve", "(II)Z"⟩
abbrev cX8_layWays : ByteArray := prog_10_method_7_code
def yX8_layWays : MethodName := ⟨RX8, "layWays", "()V"⟩
abbrev cX8_findRound : ByteArray := prog_10_method_8_code
def yX8_findRound : MethodName := ⟨RX8, "findRound", "(II)I"⟩
abbrev cX8_spreadFrom : ByteArray := prog_10_method_9_code
def yX8_spreadFrom : MethodName := ⟨RX8, "spreadFrom", "(I)V"⟩
abbrev cX8_nearerThan : ByteArray := prog_10_method_10_code
def yX8_nearerThan : MethodName := ⟨RX8, "nearerThan", "(I)I"⟩
abbrev cX8_tryMends : ByteArray := prog_10_method_11_code
def yX8_tryMends : MethodName := ⟨RX8, "tryMends", "(IIIII)V"⟩
abbrev cX8_fits : ByteArray := prog_10_method_12_code
def yX8_fits : MethodName := ⟨RX8, "fits", "(I)Z"⟩
abbrev cX8_anyFull : ByteArray := prog_10_method_13_code
def yX8_anyFull : MethodName := ⟨RX8, "anyFull", "(I)Z"⟩
def RX9 : String := "SkyCuts$Streams"
def TX9 : u_T := fun k => match k with
  | 0 => ("SkyCuts$Streams", "count", "I", false)
  | 1 => ("SkyCuts$Streams", "cells", "[I", true)
  | 2 => ("SkyCuts$Streams", "sizes", "[I", true)
  | 3 => ("SkyCuts$Streams", "masks", "[J", true)
  | 4 => ("SkyCuts$Streams", "goMasks", "[J", true)
  | 5 => ("SkyCuts$Streams", "steps", "[J", true)
  | 6 => ("SkyCuts$Streams", "couples", "[I", true)
  | 7 => ("SkyCuts$Streams", "meets", "[J", true)
  | 8 => ("SkyCuts$Streams", "coupleCount", "I", false)
  | 9 => ("SkyCuts$Streams", "counts", "[I", true)
  | 10 => ("SkyCuts$Streams", "early", "[I", true)
  | 11 => ("SkyCuts$Streams", "late", "[I", true)
  | 12 => ("SkyCuts$Streams", "mosts", "[I", true)
  | 13 => ("SkyCuts$Streams", "totals", "[I", true)
  | 14 => ("SkyCuts$Streams", "mostTotals", "[I", true)
  | 15 => ("SkyCuts$Streams", "twins", "[I", true)
  | 16 => ("SkyCuts$Streams", "trial", "[I", true)
  | _ => ("SkyCuts$Streams", "trialSize", "I", false)
def tyX9 : Nat → FieldType := fun k => match k with
  | 0 => .int
  | 1 => .array .int
  | 2 => .array .int
  | 3 => .array .long
  | 4 => .array .long
  | 5 => .array .long
  | 6 => .array .int
  | 7 => .array .long
  | 8 => .int
  | 9 => .array .int
  | 10 => .array .int
  | 11 => .array .int
  | 12 => .array .int
  | 13 => .array .int
  | 14 => .array .int
  | 15 => .array .int
  | 16 => .array .int
  | _ => .int
abbrev wsX90 : List Cond := u_ws RX9 TX9 18
theorem nmX9 : ∀ a, a < 18 → ∀ b, b < 18 → a ≠ b → (TX9 a).2.1 ≠ (TX9 b).2.1 := by decide +kernel
theorem tyX9_ok : ∀ k, k < 18 → parseFieldDescriptor (TX9 k).2.2.1 = some (tyX9 k) := by decide +kernel
abbrev cX9_init : ByteArray := prog_11_method_1_code
def yX9_init : MethodName := ⟨RX9, "<init>", "()V"⟩
abbrev cX9_stepFrom : ByteArray := prog_11_method_2_code
def yX9_stepFrom : MethodName := ⟨RX9, "stepFrom", "(II)I"⟩
abbrev cX9_goOf : ByteArray := prog_11_method_3_code
def yX9_goOf : MethodName := ⟨RX9, "goOf", "(I)I"⟩
abbrev cX9_goBetween : ByteArray := prog_11_method_4_code
def yX9_goBetween : MethodName := ⟨RX9, "goBetween", "(II)I"⟩
abbrev cX9_readWay : ByteArray := prog_11_method_5_code
def yX9_readWay : MethodName := ⟨RX9, "readWay", "(LSkyCuts$Text;)Z"⟩
abbrev cX9_readMove : ByteArray := prog_11_method_6_code
def yX9_readMove : MethodName := ⟨RX9, "readMove", "(LSkyCuts$Text;)Z"⟩
abbrev cX9_lengthen : ByteArray := prog_11_method_7_code
def yX9_lengthen : MethodName := ⟨RX9, "lengthen", "(I)I"⟩
abbrev cX9_addTrial : ByteArray := prog_11_method_8_code
def yX9_addTrial : MethodName := ⟨RX9, "addTrial", "()I"⟩
abbrev cX9_setWay : ByteArray := prog_11_method_9_code
def yX9_setWay : MethodName := ⟨RX9, "setWay", "(I[III)V"⟩
abbrev cX9_wipe : ByteArray := prog_11_method_10_code
def yX9_wipe : MethodName := ⟨RX9, "wipe", "(I)V"⟩
abbrev cX9_setStep : ByteArray := prog_11_method_11_code
def yX9_setStep : MethodName := ⟨RX9, "setStep", "(III)V"⟩
abbrev cX9_pairUp : ByteArray := prog_11_method_12_code
def yX9_pairUp : MethodName := ⟨RX9, "pairUp", "()V"⟩
abbrev cX9_meetsOf : ByteArray := prog_11_method_13_code
def yX9_meetsOf : MethodName := ⟨RX9, "meetsOf", "(III)J"⟩
abbrev cX9_allMeets : ByteArray := prog_11_method_14_code
def yX9_allMeets : MethodName := ⟨RX9, "allMeets", "(I)J"⟩
abbrev cX9_cellAt : ByteArray := prog_11_method_15_code
def yX9_cellAt : MethodName := ⟨RX9, "cellAt", "(II)I"⟩
abbrev cX9_setCounts : ByteArray := prog_11_method_16_code
def yX9_setCounts : MethodName := ⟨RX9, "setCounts", "(IIII)V"⟩
abbrev cX9_setSpan : ByteArray := prog_11_method_17_code
def yX9_setSpan : MethodName := ⟨RX9, "setSpan", "(III)V"⟩
abbrev cX9_retell : ByteArray := prog_11_method_18_code
def yX9_retell : MethodName := ⟨RX9, "retell", "(I)V"⟩
abbrev cX9_mostIn : ByteArray := prog_11_method_19_code
def yX9_mostIn : MethodName := ⟨RX9, "mostIn", "(II)I"⟩
abbrev cX9_twinOf : ByteArray := prog_11_method_20_code
def yX9_twinOf : MethodName := ⟨RX9, "twinOf", "(I)I"⟩
abbrev cX9_shorterThan : ByteArray := prog_11_method_21_code
def yX9_shorterThan : MethodName := ⟨RX9, "shorterThan", "(IJJ)I"⟩
abbrev cX9_shortestStretch : ByteArray := prog_11_method_22_code
def yX9_shortestStretch : MethodName := ⟨RX9, "shortestStretch", "(IJJ)I"⟩
abbrev cX9_countsAt : ByteArray := prog_11_method_23_code
def yX9_countsAt : MethodName := ⟨RX9, "countsAt", "(I)I"⟩
abbrev cX9_isVisited : ByteArray := prog_11_method_24_code
def yX9_isVisited : MethodName := ⟨RX9, "isVisited", "(I)Z"⟩
abbrev cX9_comesTo : ByteArray := prog_11_method_25_code
def yX9_comesTo : MethodName := ⟨RX9, "comesTo", "(II)Z"⟩
abbrev cX9_countsOfSteps : ByteArray := prog_11_method_26_code
def yX9_countsOfSteps : MethodName := ⟨RX9, "countsOfSteps", "()I"⟩
def RX10 : String := "SkyCuts$Text"
def TX10 : u_T := fun k => match k with
  | 0 => ("SkyCuts$Text", "bytes", "[I", true)
  | 1 => ("SkyCuts$Text", "size", "I", false)
  | 2 => ("SkyCuts$Text", "end", "I", false)
  | 3 => ("SkyCuts$Text", "at", "I", false)
  | 4 => ("SkyCuts$Text", "words", "Z", false)
  | 5 => ("SkyCuts$Text", "start", "I", false)
  | 6 => ("SkyCuts$Text", "kind", "I", false)
  | 7 => ("SkyCuts$Text", "value", "I", false)
  | 8 => ("SkyCuts$Text", "faultKind", "I", false)
  | _ => ("SkyCuts$Text", "faultPlace", "I", false)
def tyX10 : Nat → FieldType := fun k => match k with
  | 0 => .array .int
  | 1 => .int
  | 2 => .int
  | 3 => .int
  | 4 => .boolean
  | 5 => .int
  | 6 => .int
  | 7 => .int
  | 8 => .int
  | _ => .int
abbrev wsX100 : List Cond := u_ws RX10 TX10 10
theorem nmX10 : ∀ a, a < 10 → ∀ b, b < 10 → a ≠ b → (TX10 a).2.1 ≠ (TX10 b).2.1 := by decide +kernel
theorem tyX10_ok : ∀ k, k < 10 → parseFieldDescriptor (TX10 k).2.2.1 = some (tyX10 k) := by decide +kernel
abbrev cX10_init : ByteArray := prog_12_method_1_code
def yX10_init : MethodName := ⟨RX10, "<init>", "()V"⟩
abbrev cX10_takeAll : ByteArray := prog_12_method_2_code
def yX10_takeAll : MethodName := ⟨RX10, "takeAll", "(IIIII)I"⟩
abbrev cX10_take : ByteArray := prog_12_method_3_code
def yX10_take : MethodName := ⟨RX10, "take", "(I)V"⟩
abbrev cX10_open : ByteArray := prog_12_method_4_code
def yX10_open : MethodName := ⟨RX10, "open", "(IZ)V"⟩
abbrev cX10_step : ByteArray := prog_12_method_5_code
def yX10_step : MethodName := ⟨RX10, "step", "()V"⟩
abbrev cX10_kindOf : ByteArray := prog_12_method_6_code
def yX10_kindOf : MethodName := ⟨RX10, "kindOf", "(I)I"⟩
abbrev cX10_says : ByteArray := prog_12_method_7_code
def yX10_says : MethodName := ⟨RX10, "says", "(Ljava/lang/String;)Z"⟩
abbrev cX10_refuse : ByteArray := prog_12_method_8_code
def yX10_refuse : MethodName := ⟨RX10, "refuse", "(I)Z"⟩
abbrev cX10_refuseAt : ByteArray := prog_12_method_9_code
def yX10_refuseAt : MethodName := ⟨RX10, "refuseAt", "(II)Z"⟩
def RX11 : String := "SkyCuts"
def TX11 : u_T := fun k => match k with
  | 0 => ("SkyCuts", "tape", "LSkyCuts$Text;", true)
  | 1 => ("SkyCuts", "air", "LSkyCuts$Streams;", true)
  | 2 => ("SkyCuts", "book", "LSkyCuts$Rules;", true)
  | 3 => ("SkyCuts", "parting", "LSkyCuts$Parting;", true)
  | 4 => ("SkyCuts", "ear", "LSkyCuts$Ear;", true)
  | 5 => ("SkyCuts", "mover", "LSkyCuts$Mover;", true)
  | 6 => ("SkyCuts", "patch", "LSkyCuts$Region;", true)
  | 7 => ("SkyCuts", "plans", "LSkyCuts$Plans;", true)
  | 8 => ("SkyCuts", "watches", "LSkyCuts$Rota;", true)
  | 9 => ("SkyCuts", "tempest", "LSkyCuts$Storm;", true)
  | _ => ("SkyCuts", "fits", "LSkyCuts$Fits;", true)
def tyX11 : Nat → FieldType := fun k => match k with
  | 0 => .object "SkyCuts$Text"
  | 1 => .object "SkyCuts$Streams"
  | 2 => .object "SkyCuts$Rules"
  | 3 => .object "SkyCuts$Parting"
  | 4 => .object "SkyCuts$Ear"
  | 5 => .object "SkyCuts$Mover"
  | 6 => .object "SkyCuts$Region"
  | 7 => .object "SkyCuts$Plans"
  | 8 => .object "SkyCuts$Rota"
  | 9 => .object "SkyCuts$Storm"
  | _ => .object "SkyCuts$Fits"
abbrev wsX110 : List Cond := u_ws RX11 TX11 11
theorem nmX11 : ∀ a, a < 11 → ∀ b, b < 11 → a ≠ b → (TX11 a).2.1 ≠ (TX11 b).2.1 := by decide +kernel
theorem tyX11_ok : ∀ k, k < 11 → parseFieldDescriptor (TX11 k).2.2.1 = some (tyX11 k) := by decide +kernel
abbrev cX11_init : ByteArray := prog_1_method_1_code
def yX11_init : MethodName := ⟨RX11, "<init>", "()V"⟩
abbrev cX11_feed : ByteArray := prog_1_method_2_code
def yX11_feed : MethodName := ⟨RX11, "feed", "(IIIII)I"⟩
abbrev cX11_stream : ByteArray := prog_1_method_3_code
def yX11_stream : MethodName := ⟨RX11, "stream", "(I)I"⟩
abbrev cX11_rules : ByteArray := prog_1_method_4_code
def yX11_rules : MethodName := ⟨RX11, "rules", "(I)I"⟩
abbrev cX11_fault : ByteArray := prog_1_method_5_code
def yX11_fault : MethodName := ⟨RX11, "fault", "()I"⟩
abbrev cX11_way : ByteArray := prog_1_method_6_code
def yX11_way : MethodName := ⟨RX11, "way", "(II)I"⟩
abbrev cX11_flow : ByteArray := prog_1_method_7_code
def yX11_flow : MethodName := ⟨RX11, "flow", "(IIII)V"⟩
abbrev cX11_span : ByteArray := prog_1_method_8_code
def yX11_span : MethodName := ⟨RX11, "span", "(III)V"⟩
abbrev cX11_most : ByteArray := prog_1_method_9_code
def yX11_most : MethodName := ⟨RX11, "most", "(II)I"⟩
abbrev cX11_assign : ByteArray := prog_1_method_10_code
def yX11_assign : MethodName := ⟨RX11, "assign", "(II)I"⟩
abbrev cX11_paint : ByteArray := prog_1_method_11_code
def yX11_paint : MethodName := ⟨RX11, "paint", "(III)I"⟩
abbrev cX11_limit : ByteArray := prog_1_method_12_code
def yX11_limit : MethodName := ⟨RX11, "limit", "(II)I"⟩
abbrev cX11_hears : ByteArray := prog_1_method_13_code
def yX11_hears : MethodName := ⟨RX11, "hears", "(III)I"⟩
abbrev cX11_peak : ByteArray := prog_1_method_14_code
def yX11_peak : MethodName := ⟨RX11, "peak", "(II)I"⟩
abbrev cX11_whole : ByteArray := prog_1_method_15_code
def yX11_whole : MethodName := ⟨RX11, "whole", "(I)Z"⟩
abbrev cX11_neck : ByteArray := prog_1_method_16_code
def yX11_neck : MethodName := ⟨RX11, "neck", "(II)I"⟩
abbrev cX11_shorts : ByteArray := prog_1_method_17_code
def yX11_shorts : MethodName := ⟨RX11, "shorts", "(I)I"⟩
abbrev cX11_length : ByteArray := prog_1_method_18_code
def yX11_length : MethodName := ⟨RX11, "length", "(I)I"⟩
abbrev cX11_edge : ByteArray := prog_1_method_19_code
def yX11_edge : MethodName := ⟨RX11, "edge", "(I)I"⟩
abbrev cX11_holds : ByteArray := prog_1_method_20_code
def yX11_holds : MethodName := ⟨RX11, "holds", "()Z"⟩
abbrev cX11_cost : ByteArray := prog_1_method_21_code
def yX11_cost : MethodName := ⟨RX11, "cost", "()I"⟩
abbrev cX11_better : ByteArray := prog_1_method_22_code
def yX11_better : MethodName := ⟨RX11, "better", "(I)I"⟩
abbrev cX11_grow : ByteArray := prog_1_method_23_code
def yX11_grow : MethodName := ⟨RX11, "grow", "(I)I"⟩
abbrev cX11_region : ByteArray := prog_1_method_24_code
def yX11_region : MethodName := ⟨RX11, "region", "(I)I"⟩
abbrev cX11_parted : ByteArray := prog_1_method_25_code
def yX11_parted : MethodName := ⟨RX11, "parted", "(II)I"⟩
abbrev cX11_clear : ByteArray := prog_1_method_26_code
def yX11_clear : MethodName := ⟨RX11, "clear", "()I"⟩
abbrev cX11_configure : ByteArray := prog_1_method_27_code
def yX11_configure : MethodName := ⟨RX11, "configure", "(I)I"⟩
abbrev cX11_pairs : ByteArray := prog_1_method_28_code
def yX11_pairs : MethodName := ⟨RX11, "pairs", "(II)I"⟩
abbrev cX11_busy : ByteArray := prog_1_method_29_code
def yX11_busy : MethodName := ⟨RX11, "busy", "(I)I"⟩
abbrev cX11_plan : ByteArray := prog_1_method_30_code
def yX11_plan : MethodName := ⟨RX11, "plan", "(II)I"⟩
abbrev cX11_hours : ByteArray := prog_1_method_31_code
def yX11_hours : MethodName := ⟨RX11, "hours", "(II)I"⟩
abbrev cX11_ill : ByteArray := prog_1_method_32_code
def yX11_ill : MethodName := ⟨RX11, "ill", "(II)I"⟩
abbrev cX11_rota : ByteArray := prog_1_method_33_code
def yX11_rota : MethodName := ⟨RX11, "rota", "(III)I"⟩
abbrev cX11_lacks : ByteArray := prog_1_method_34_code
def yX11_lacks : MethodName := ⟨RX11, "lacks", "(II)I"⟩
abbrev cX11_enough : ByteArray := prog_1_method_35_code
def yX11_enough : MethodName := ⟨RX11, "enough", "(I)I"⟩
abbrev cX11_storm : ByteArray := prog_1_method_36_code
def yX11_storm : MethodName := ⟨RX11, "storm", "(IZ)Z"⟩
abbrev cX11_mends : ByteArray := prog_1_method_37_code
def yX11_mends : MethodName := ⟨RX11, "mends", "(IIII)I"⟩
abbrev cX11_did : ByteArray := prog_1_method_38_code
def yX11_did : MethodName := ⟨RX11, "did", "(IIIZ)I"⟩
abbrev cX11_fit : ByteArray := prog_1_method_39_code
def yX11_fit : MethodName := ⟨RX11, "fit", "(I)I"⟩
abbrev cX11_lead : ByteArray := prog_1_method_40_code
def yX11_lead : MethodName := ⟨RX11, "lead", "(IIIZ)I"⟩
abbrev cX11_worth : ByteArray := prog_1_method_41_code
def yX11_worth : MethodName := ⟨RX11, "worth", "(II)I"⟩
abbrev cX11_quiet : ByteArray := prog_1_method_42_code
def yX11_quiet : MethodName := ⟨RX11, "quiet", "(I)I"⟩
abbrev cX11_mark : ByteArray := prog_1_method_43_code
def yX11_mark : MethodName := ⟨RX11, "mark", "()I"⟩
abbrev cX11_back : ByteArray := prog_1_method_44_code
def yX11_back : MethodName := ⟨RX11, "back", "()I"⟩
abbrev cX11_count : ByteArray := prog_1_method_45_code
def yX11_count : MethodName := ⟨RX11, "count", "(I)I"⟩
abbrev cX11_listenTo : ByteArray := prog_1_method_46_code
def yX11_listenTo : MethodName := ⟨RX11, "listenTo", "(I)V"⟩
abbrev cX11_needStream : ByteArray := prog_1_method_47_code
def yX11_needStream : MethodName := ⟨RX11, "needStream", "(I)V"⟩
abbrev cX11_needCell : ByteArray := prog_1_method_48_code
def yX11_needCell : MethodName := ⟨RX11, "needCell", "(I)V"⟩
abbrev cX11_needPiece : ByteArray := prog_1_method_49_code
def yX11_needPiece : MethodName := ⟨RX11, "needPiece", "(I)V"⟩
abbrev cX11_needQuarter : ByteArray := prog_1_method_50_code
def yX11_needQuarter : MethodName := ⟨RX11, "needQuarter", "(I)V"⟩
abbrev cX11_needWithin : ByteArray := prog_1_method_51_code
def yX11_needWithin : MethodName := ⟨RX11, "needWithin", "(III)V"⟩
def RX12 : String := "SkyCutsModel"
def TX12 : u_T := fun k => match k with
  | 0 => ("SkyCutsModel", "thrown", "I", false)
  | 1 => ("SkyCutsModel", "tape", "I", false)
  | 2 => ("SkyCutsModel", "size", "I", false)
  | 3 => ("SkyCutsModel", "place", "I", false)
  | 4 => ("SkyCutsModel", "at", "I", false)
  | 5 => ("SkyCutsModel", "open", "I", false)
  | 6 => ("SkyCutsModel", "fault", "I", false)
  | 7 => ("SkyCutsModel", "faultAt", "I", false)
  | 8 => ("SkyCutsModel", "which", "I", false)
  | 9 => ("SkyCutsModel", "fed", "[I", true)
  | 10 => ("SkyCutsModel", "rules", "[I", true)
  | 11 => ("SkyCutsModel", "ruleSize", "I", false)
  | 12 => ("SkyCutsModel", "clauses", "I", false)
  | 13 => ("SkyCutsModel", "joins", "I", false)
  | 14 => ("SkyCutsModel", "loadAt", "I", false)
  | 15 => ("SkyCutsModel", "joinAt", "[I", true)
  | 16 => ("SkyCutsModel", "foundClauses", "I", false)
  | 17 => ("SkyCutsModel", "foundJoins", "I", false)
  | 18 => ("SkyCutsModel", "foundLoad", "I", false)
  | 19 => ("SkyCutsModel", "madeOf", "I", false)
  | 20 => ("SkyCutsModel", "foundJoinAt", "[I", true)
  | 21 => ("SkyCutsModel", "names", "[I", true)
  | 22 => ("SkyCutsModel", "streams", "I", false)
  | 23 => ("SkyCutsModel", "many", "[I", true)
  | 24 => ("SkyCutsModel", "early", "[I", true)
  | 25 => ("SkyCutsModel", "late", "[I", true)
  | 26 => ("SkyCutsModel", "told", "[I", true)
  | 27 => ("SkyCutsModel", "toldMany", "I", false)
  | 28 => ("SkyCutsModel", "way", "[[I", true)
  | 29 => ("SkyCutsModel", "lies", "[[I", true)
  | 30 => ("SkyCutsModel", "count", "[[I", true)
  | 31 => ("SkyCutsModel", "nowMany", "[I", true)
  | 32 => ("SkyCutsModel", "nowMost", "[I", true)
  | 33 => ("SkyCutsModel", "nowWay", "[[I", true)
  | 34 => ("SkyCutsModel", "nowLies", "[[I", true)
  | 35 => ("SkyCutsModel", "piece", "[I", true)
  | 36 => ("SkyCutsModel", "limit", "[I", true)
  | 37 => ("SkyCutsModel", "set", "[Z", true)
  | 38 => ("SkyCutsModel", "met", "[Z", true)
  | 39 => ("SkyCutsModel", "heap", "[I", true)
  | 40 => ("SkyCutsModel", "peaks", "[I", true)
  | 41 => ("SkyCutsModel", "moveCell", "I", false)
  | 42 => ("SkyCutsModel", "movePiece", "I", false)
  | 43 => ("SkyCutsModel", "moveCost", "I", false)
  | 44 => ("SkyCutsModel", "length", "I", false)
  | 45 => ("SkyCutsModel", "busy", "I", false)
  | 46 => ("SkyCutsModel", "regions", "I", false)
  | 47 => ("SkyCutsModel", "markMany", "I", false)
  | 48 => ("SkyCutsModel", "configurations", "I", false)
  | 49 => ("SkyCutsModel", "region", "[I", true)
  | 50 => ("SkyCutsModel", "parting", "[I", true)
  | 51 => ("SkyCutsModel", "bestParting", "[I", true)
  | 52 => ("SkyCutsModel", "groups", "[I", true)
  | 53 => ("SkyCutsModel", "peakOf", "[I", true)
  | 54 => ("SkyCutsModel", "overOf", "[I", true)
  | 55 => ("SkyCutsModel", "isWholeOf", "[Z", true)
  | 56 => ("SkyCutsModel", "bestPeak", "I", false)
  | 57 => ("SkyCutsModel", "bestOver", "I", false)
  | 58 => ("SkyCutsModel", "marks", "[[I", true)
  | 59 => ("SkyCutsModel", "planned", "[[[I", true)
  | 60 => ("SkyCutsModel", "plan", "[I", true)
  | 61 => ("SkyCutsModel", "needs", "[I", true)
  | 62 => ("SkyCutsModel", "watch", "[I", true)
  | 63 => ("SkyCutsModel", "work", "I", false)
  | 64 => ("SkyCutsModel", "rest", "I", false)
  | 65 => ("SkyCutsModel", "lacking", "I", false)
  | 66 => ("SkyCutsModel", "ill", "[I", true)
  | 67 => ("SkyCutsModel", "isStorm", "[Z", true)
  | 68 => ("SkyCutsModel", "hits", "[I", true)
  | 69 => ("SkyCutsModel", "mend", "[I", true)
  | 70 => ("SkyCutsModel", "bestMend", "[I", true)
  | 71 => ("SkyCutsModel", "roundMany", "[I", true)
  | 72 => ("SkyCutsModel", "from", "[I", true)
  | 73 => ("SkyCutsModel", "round", "[[I", true)
  | 74 => ("SkyCutsModel", "hitMany", "I", false)
  | 75 => ("SkyCutsModel", "leastMinutes", "I", false)
  | 76 => ("SkyCutsModel", "rows", "I", false)
  | 77 => ("SkyCutsModel", "heard", "[[I", true)
  | 78 => ("SkyCutsModel", "did", "[I", true)
  | 79 => ("SkyCutsModel", "weights", "[I", true)
  | 80 => ("SkyCutsModel", "isBack", "[Z", true)
  | 81 => ("SkyCutsModel", "off", "I", false)
  | _ => ("SkyCutsModel", "offBack", "I", false)
def tyX12 : Nat → FieldType := fun k => match k with
  | 0 => .int
  | 1 => .int
  | 2 => .int
  | 3 => .int
  | 4 => .int
  | 5 => .int
  | 6 => .int
  | 7 => .int
  | 8 => .int
  | 9 => .array .int
  | 10 => .array .int
  | 11 => .int
  | 12 => .int
  | 13 => .int
  | 14 => .int
  | 15 => .array .int
  | 16 => .int
  | 17 => .int
  | 18 => .int
  | 19 => .int
  | 20 => .array .int
  | 21 => .array .int
  | 22 => .int
  | 23 => .array .int
  | 24 => .array .int
  | 25 => .array .int
  | 26 => .array .int
  | 27 => .int
  | 28 => .array (.array .int)
  | 29 => .array (.array .int)
  | 30 => .array (.array .int)
  | 31 => .array .int
  | 32 => .array .int
  | 33 => .array (.array .int)
  | 34 => .array (.array .int)
  | 35 => .array .int
  | 36 => .array .int
  | 37 => .array .boolean
  | 38 => .array .boolean
  | 39 => .array .int
  | 40 => .array .int
  | 41 => .int
  | 42 => .int
  | 43 => .int
  | 44 => .int
  | 45 => .int
  | 46 => .int
  | 47 => .int
  | 48 => .int
  | 49 => .array .int
  | 50 => .array .int
  | 51 => .array .int
  | 52 => .array .int
  | 53 => .array .int
  | 54 => .array .int
  | 55 => .array .boolean
  | 56 => .int
  | 57 => .int
  | 58 => .array (.array .int)
  | 59 => .array (.array (.array .int))
  | 60 => .array .int
  | 61 => .array .int
  | 62 => .array .int
  | 63 => .int
  | 64 => .int
  | 65 => .int
  | 66 => .array .int
  | 67 => .array .boolean
  | 68 => .array .int
  | 69 => .array .int
  | 70 => .array .int
  | 71 => .array .int
  | 72 => .array .int
  | 73 => .array (.array .int)
  | 74 => .int
  | 75 => .int
  | 76 => .int
  | 77 => .array (.array .int)
  | 78 => .array .int
  | 79 => .array .int
  | 80 => .array .boolean
  | 81 => .int
  | _ => .int
abbrev wsX120 : List Cond := u_ws RX12 TX12 83
theorem nmX12 : ∀ a, a < 83 → ∀ b, b < 83 → a ≠ b → (TX12 a).2.1 ≠ (TX12 b).2.1 := by decide +kernel
theorem tyX12_ok : ∀ k, k < 83 → parseFieldDescriptor (TX12 k).2.2.1 = some (tyX12 k) := by decide +kernel
abbrev cX12_init : ByteArray := prog_14_method_1_code
def yX12_init : MethodName := ⟨RX12, "<init>", "()V"⟩
abbrev cX12_thrown : ByteArray := prog_14_method_2_code
def yX12_thrown : MethodName := ⟨RX12, "thrown", "()I"⟩
abbrev cX12_bad : ByteArray := prog_14_method_3_code
def yX12_bad : MethodName := ⟨RX12, "bad", "(ZI)Z"⟩
abbrev cX12_in : ByteArray := prog_14_method_4_code
def yX12_in : MethodName := ⟨RX12, "in", "(III)Z"⟩
abbrev cX12_amount : ByteArray := prog_14_method_5_code
def yX12_amount : MethodName := ⟨RX12, "amount", "(I)I"⟩
abbrev cX12_beside : ByteArray := prog_14_method_6_code
def yX12_beside : MethodName := ⟨RX12, "beside", "(II)I"⟩
abbrev cX12_feed : ByteArray := prog_14_method_7_code
def yX12_feed : MethodName := ⟨RX12, "feed", "(IIIII)I"⟩
abbrev cX12_byteAt : ByteArray := prog_14_method_8_code
def yX12_byteAt : MethodName := ⟨RX12, "byteAt", "(I)I"⟩
abbrev cX12_blanks : ByteArray := prog_14_method_9_code
def yX12_blanks : MethodName := ⟨RX12, "blanks", "()V"⟩
abbrev cX12_wrong : ByteArray := prog_14_method_10_code
def yX12_wrong : MethodName := ⟨RX12, "wrong", "(II)V"⟩
abbrev cX12_isDigit : ByteArray := prog_14_method_11_code
def yX12_isDigit : MethodName := ⟨RX12, "isDigit", "(I)Z"⟩
abbrev cX12_number : ByteArray := prog_14_method_12_code
def yX12_number : MethodName := ⟨RX12, "number", "(II)I"⟩
abbrev cX12_beginText : ByteArray := prog_14_method_13_code
def yX12_beginText : MethodName := ⟨RX12, "beginText", "(I)V"⟩
abbrev cX12_isTold : ByteArray := prog_14_method_14_code
def yX12_isTold : MethodName := ⟨RX12, "isTold", "(I)Z"⟩
abbrev cX12_move : ByteArray := prog_14_method_15_code
def yX12_move : MethodName := ⟨RX12, "move", "()V"⟩
abbrev cX12_stream : ByteArray := prog_14_method_16_code
def yX12_stream : MethodName := ⟨RX12, "stream", "(I)I"⟩
abbrev cX12_wordHere : ByteArray := prog_14_method_17_code
def yX12_wordHere : MethodName := ⟨RX12, "wordHere", "()I"⟩
abbrev cX12_word : ByteArray := prog_14_method_18_code
def yX12_word : MethodName := ⟨RX12, "word", "(IIIIII)I"⟩
abbrev cX12_skipWord : ByteArray := prog_14_method_19_code
def yX12_skipWord : MethodName := ⟨RX12, "skipWord", "()V"⟩
abbrev cX12_sign : ByteArray := prog_14_method_20_code
def yX12_sign : MethodName := ⟨RX12, "sign", "(I)V"⟩
abbrev cX12_opens : ByteArray := prog_14_method_21_code
def yX12_opens : MethodName := ⟨RX12, "opens", "(I)V"⟩
abbrev cX12_nameHere : ByteArray := prog_14_method_22_code
def yX12_nameHere : MethodName := ⟨RX12, "nameHere", "()I"⟩
abbrev cX12_unit : ByteArray := prog_14_method_23_code
def yX12_unit : MethodName := ⟨RX12, "unit", "()I"⟩
abbrev cX12_product : ByteArray := prog_14_method_24_code
def yX12_product : MethodName := ⟨RX12, "product", "()I"⟩
abbrev cX12_sum : ByteArray := prog_14_method_25_code
def yX12_sum : MethodName := ⟨RX12, "sum", "()I"⟩
abbrev cX12_test : ByteArray := prog_14_method_26_code
def yX12_test : MethodName := ⟨RX12, "test", "()Z"⟩
abbrev cX12_ands : ByteArray := prog_14_method_27_code
def yX12_ands : MethodName := ⟨RX12, "ands", "()Z"⟩
abbrev cX12_ors : ByteArray := prog_14_method_28_code
def yX12_ors : MethodName := ⟨RX12, "ors", "()Z"⟩
abbrev cX12_clause : ByteArray := prog_14_method_29_code
def yX12_clause : MethodName := ⟨RX12, "clause", "()V"⟩
abbrev cX12_rules : ByteArray := prog_14_method_30_code
def yX12_rules : MethodName := ⟨RX12, "rules", "(I)I"⟩
abbrev cX12_fault : ByteArray := prog_14_method_31_code
def yX12_fault : MethodName := ⟨RX12, "fault", "()I"⟩
abbrev cX12_readsAt : ByteArray := prog_14_method_32_code
def yX12_readsAt : MethodName := ⟨RX12, "readsAt", "(I)V"⟩
abbrev cX12_way : ByteArray := prog_14_method_33_code
def yX12_way : MethodName := ⟨RX12, "way", "(II)I"⟩
abbrev cX12_flow : ByteArray := prog_14_method_34_code
def yX12_flow : MethodName := ⟨RX12, "flow", "(IIII)V"⟩
abbrev cX12_span : ByteArray := prog_14_method_35_code
def yX12_span : MethodName := ⟨RX12, "span", "(III)V"⟩
abbrev cX12_mostOf : ByteArray := prog_14_method_36_code
def yX12_mostOf : MethodName := ⟨RX12, "mostOf", "(II)I"⟩
abbrev cX12_most : ByteArray := prog_14_method_37_code
def yX12_most : MethodName := ⟨RX12, "most", "(II)I"⟩
abbrev cX12_asTold : ByteArray := prog_14_method_38_code
def yX12_asTold : MethodName := ⟨RX12, "asTold", "(I)V"⟩
abbrev cX12_waysAsTold : ByteArray := prog_14_method_39_code
def yX12_waysAsTold : MethodName := ⟨RX12, "waysAsTold", "()V"⟩
abbrev cX12_numbersIn : ByteArray := prog_14_method_40_code
def yX12_numbersIn : MethodName := ⟨RX12, "numbersIn", "(I)V"⟩
abbrev cX12_stepOf : ByteArray := prog_14_method_41_code
def yX12_stepOf : MethodName := ⟨RX12, "stepOf", "(II)I"⟩
abbrev cX12_goes : ByteArray := prog_14_method_42_code
def yX12_goes : MethodName := ⟨RX12, "goes", "(II)I"⟩
abbrev cX12_listen : ByteArray := prog_14_method_43_code
def yX12_listen : MethodName := ⟨RX12, "listen", "()V"⟩
abbrev cX12_load : ByteArray := prog_14_method_44_code
def yX12_load : MethodName := ⟨RX12, "load", "()I"⟩
abbrev cX12_joinsHold : ByteArray := prog_14_method_45_code
def yX12_joinsHold : MethodName := ⟨RX12, "joinsHold", "()Z"⟩
abbrev cX12_setOf : ByteArray := prog_14_method_46_code
def yX12_setOf : MethodName := ⟨RX12, "setOf", "(I)V"⟩
abbrev cX12_peakOfSet : ByteArray := prog_14_method_47_code
def yX12_peakOfSet : MethodName := ⟨RX12, "peakOfSet", "()I"⟩
abbrev cX12_peakOfPiece : ByteArray := prog_14_method_48_code
def yX12_peakOfPiece : MethodName := ⟨RX12, "peakOfPiece", "(I)I"⟩
abbrev cX12_hasCells : ByteArray := prog_14_method_49_code
def yX12_hasCells : MethodName := ⟨RX12, "hasCells", "(I)Z"⟩
abbrev cX12_assign : ByteArray := prog_14_method_50_code
def yX12_assign : MethodName := ⟨RX12, "assign", "(II)I"⟩
abbrev cX12_paint : ByteArray := prog_14_method_51_code
def yX12_paint : MethodName := ⟨RX12, "paint", "(III)I"⟩
abbrev cX12_limit : ByteArray := prog_14_method_52_code
def yX12_limit : MethodName := ⟨RX12, "limit", "(II)I"⟩
abbrev cX12_hears : ByteArray := prog_14_method_53_code
def yX12_hears : MethodName := ⟨RX12, "hears", "(III)I"⟩
abbrev cX12_peak : ByteArray := prog_14_method_54_code
def yX12_peak : MethodName := ⟨RX12, "peak", "(II)I"⟩
abbrev cX12_hangs : ByteArray := prog_14_method_55_code
def yX12_hangs : MethodName := ⟨RX12, "hangs", "()Z"⟩
abbrev cX12_isWhole : ByteArray := prog_14_method_56_code
def yX12_isWhole : MethodName := ⟨RX12, "isWhole", "(I)Z"⟩
abbrev cX12_whole : ByteArray := prog_14_method_57_code
def yX12_whole : MethodName := ⟨RX12, "whole", "(I)Z"⟩
abbrev cX12_neck : ByteArray := prog_14_method_58_code
def yX12_neck : MethodName := ⟨RX12, "neck", "(II)I"⟩
abbrev cX12_shorts : ByteArray := prog_14_method_59_code
def yX12_shorts : MethodName := ⟨RX12, "shorts", "(I)I"⟩
abbrev cX12_length : ByteArray := prog_14_method_60_code
def yX12_length : MethodName := ⟨RX12, "length", "(I)I"⟩
abbrev cX12_isCrossing : ByteArray := prog_14_method_61_code
def yX12_isCrossing : MethodName := ⟨RX12, "isCrossing", "(I)Z"⟩
abbrev cX12_edge : ByteArray := prog_14_method_62_code
def yX12_edge : MethodName := ⟨RX12, "edge", "(I)I"⟩
abbrev cX12_holds : ByteArray := prog_14_method_63_code
def yX12_holds : MethodName := ⟨RX12, "holds", "()Z"⟩
abbrev cX12_total : ByteArray := prog_14_method_64_code
def yX12_total : MethodName := ⟨RX12, "total", "(I)I"⟩
abbrev cX12_stepsCost : ByteArray := prog_14_method_65_code
def yX12_stepsCost : MethodName := ⟨RX12, "stepsCost", "()I"⟩
abbrev cX12_findPeaks : ByteArray := prog_14_method_66_code
def yX12_findPeaks : MethodName := ⟨RX12, "findPeaks", "()V"⟩
abbrev cX12_costByPeaks : ByteArray := prog_14_method_67_code
def yX12_costByPeaks : MethodName := ⟨RX12, "costByPeaks", "()I"⟩
abbrev cX12_costOf : ByteArray := prog_14_method_68_code
def yX12_costOf : MethodName := ⟨RX12, "costOf", "()I"⟩
abbrev cX12_cost : ByteArray := prog_14_method_69_code
def yX12_cost : MethodName := ⟨RX12, "cost", "()I"⟩
abbrev cX12_findMove : ByteArray := prog_14_method_70_code
def yX12_findMove : MethodName := ⟨RX12, "findMove", "()V"⟩
abbrev cX12_tries : ByteArray := prog_14_method_71_code
def yX12_tries : MethodName := ⟨RX12, "tries", "(II)V"⟩
abbrev cX12_better : ByteArray := prog_14_method_72_code
def yX12_better : MethodName := ⟨RX12, "better", "(I)I"⟩
abbrev cX12_grow : ByteArray := prog_14_method_73_code
def yX12_grow : MethodName := ⟨RX12, "grow", "(I)I"⟩
abbrev cX12_region : ByteArray := prog_14_method_74_code
def yX12_region : MethodName := ⟨RX12, "region", "(I)I"⟩
abbrev cX12_clear : ByteArray := prog_14_method_75_code
def yX12_clear : MethodName := ⟨RX12, "clear", "()I"⟩
abbrev cX12_findSets : ByteArray := prog_14_method_76_code
def yX12_findSets : MethodName := ⟨RX12, "findSets", "()V"⟩
abbrev cX12_parts : ByteArray := prog_14_method_77_code
def yX12_parts : MethodName := ⟨RX12, "parts", "(III)V"⟩
abbrev cX12_judges : ByteArray := prog_14_method_78_code
def yX12_judges : MethodName := ⟨RX12, "judges", "(I)V"⟩
abbrev cX12_parted : ByteArray := prog_14_method_79_code
def yX12_parted : MethodName := ⟨RX12, "parted", "(II)I"⟩
abbrev cX12_configure : ByteArray := prog_14_method_80_code
def yX12_configure : MethodName := ⟨RX12, "configure", "(I)I"⟩
abbrev cX12_groupOf : ByteArray := prog_14_method_81_code
def yX12_groupOf : MethodName := ⟨RX12, "groupOf", "(II)I"⟩
abbrev cX12_pairsOf : ByteArray := prog_14_method_82_code
def yX12_pairsOf : MethodName := ⟨RX12, "pairsOf", "(I)I"⟩
abbrev cX12_pairs : ByteArray := prog_14_method_83_code
def yX12_pairs : MethodName := ⟨RX12, "pairs", "(II)I"⟩
abbrev cX12_busy : ByteArray := prog_14_method_84_code
def yX12_busy : MethodName := ⟨RX12, "busy", "(I)I"⟩
abbrev cX12_isBusy : ByteArray := prog_14_method_85_code
def yX12_isBusy : MethodName := ⟨RX12, "isBusy", "(I)Z"⟩
abbrev cX12_findPlan : ByteArray := prog_14_method_86_code
def yX12_findPlan : MethodName := ⟨RX12, "findPlan", "(I)Z"⟩
abbrev cX12_tells : ByteArray := prog_14_method_87_code
def yX12_tells : MethodName := ⟨RX12, "tells", "(I)Z"⟩
abbrev cX12_plan : ByteArray := prog_14_method_88_code
def yX12_plan : MethodName := ⟨RX12, "plan", "(II)I"⟩
abbrev cX12_hours : ByteArray := prog_14_method_89_code
def yX12_hours : MethodName := ⟨RX12, "hours", "(II)I"⟩
abbrev cX12_ill : ByteArray := prog_14_method_90_code
def yX12_ill : MethodName := ⟨RX12, "ill", "(II)I"⟩
abbrev cX12_findRota : ByteArray := prog_14_method_91_code
def yX12_findRota : MethodName := ⟨RX12, "findRota", "(I)V"⟩
abbrev cX12_rota : ByteArray := prog_14_method_92_code
def yX12_rota : MethodName := ⟨RX12, "rota", "(III)I"⟩
abbrev cX12_lacks : ByteArray := prog_14_method_93_code
def yX12_lacks : MethodName := ⟨RX12, "lacks", "(II)I"⟩
abbrev cX12_enough : ByteArray := prog_14_method_94_code
def yX12_enough : MethodName := ⟨RX12, "enough", "(I)I"⟩
abbrev cX12_storm : ByteArray := prog_14_method_95_code
def yX12_storm : MethodName := ⟨RX12, "storm", "(IZ)Z"⟩
abbrev cX12_isHit : ByteArray := prog_14_method_96_code
def yX12_isHit : MethodName := ⟨RX12, "isHit", "(II)Z"⟩
abbrev cX12_findRound : ByteArray := prog_14_method_97_code
def yX12_findRound : MethodName := ⟨RX12, "findRound", "(I)V"⟩
abbrev cX12_minutesOf : ByteArray := prog_14_method_98_code
def yX12_minutesOf : MethodName := ⟨RX12, "minutesOf", "(III)I"⟩
abbrev cX12_isNoneFull : ByteArray := prog_14_method_99_code
def yX12_isNoneFull : MethodName := ⟨RX12, "isNoneFull", "()Z"⟩
abbrev cX12_asMended : ByteArray := prog_14_method_100_code
def yX12_asMended : MethodName := ⟨RX12, "asMended", "(I)V"⟩
abbrev cX12_goThrough : ByteArray := prog_14_method_101_code
def yX12_goThrough : MethodName := ⟨RX12, "goThrough", "(IIIII)V"⟩
abbrev cX12_mends : ByteArray := prog_14_method_102_code
def yX12_mends : MethodName := ⟨RX12, "mends", "(IIII)I"⟩
abbrev cX12_did : ByteArray := prog_14_method_103_code
def yX12_did : MethodName := ⟨RX12, "did", "(IIIZ)I"⟩
abbrev cX12_offOf : ByteArray := prog_14_method_104_code
def yX12_offOf : MethodName := ⟨RX12, "offOf", "(IZ)I"⟩
abbrev cX12_fit : ByteArray := prog_14_method_105_code
def yX12_fit : MethodName := ⟨RX12, "fit", "(I)I"⟩
abbrev cX12_lead : ByteArray := prog_14_method_106_code
def yX12_lead : MethodName := ⟨RX12, "lead", "(IIIZ)I"⟩
abbrev cX12_worth : ByteArray := prog_14_method_107_code
def yX12_worth : MethodName := ⟨RX12, "worth", "(II)I"⟩
abbrev cX12_quiet : ByteArray := prog_14_method_108_code
def yX12_quiet : MethodName := ⟨RX12, "quiet", "(I)I"⟩
abbrev cX12_mark : ByteArray := prog_14_method_109_code
def yX12_mark : MethodName := ⟨RX12, "mark", "()I"⟩
abbrev cX12_back : ByteArray := prog_14_method_110_code
def yX12_back : MethodName := ⟨RX12, "back", "()I"⟩
abbrev cX12_count : ByteArray := prog_14_method_111_code
def yX12_count : MethodName := ⟨RX12, "count", "(I)I"⟩
def RJ6 : String := "java/lang/Integer"
def TJ6 : u_T := fun k => match k with
  | _ => ("", "", "", false)
def tyJ6 : Nat → FieldType := fun k => match k with
  | _ => .int
abbrev wsJ60 : List Cond := u_ws RJ6 TJ6 0
theorem nmJ6 : ∀ a, a < 0 → ∀ b, b < 0 → a ≠ b → (TJ6 a).2.1 ≠ (TJ6 b).2.1 := by decide +kernel
theorem tyJ6_ok : ∀ k, k < 0 → parseFieldDescriptor (TJ6 k).2.2.1 = some (tyJ6 k) := by decide +kernel
abbrev cJ6_bitCount_0f7a4 : ByteArray := prog_18_method_49_code
def yJ6_bitCount_0f7a4 : MethodName := ⟨RJ6, "bitCount", "(I)I"⟩
def RJ13 : String := "java/lang/Long"
def TJ13 : u_T := fun k => match k with
  | _ => ("", "", "", false)
def tyJ13 : Nat → FieldType := fun k => match k with
  | _ => .int
abbrev wsJ130 : List Cond := u_ws RJ13 TJ13 0
theorem nmJ13 : ∀ a, a < 0 → ∀ b, b < 0 → a ≠ b → (TJ13 a).2.1 ≠ (TJ13 b).2.1 := by decide +kernel
theorem tyJ13_ok : ∀ k, k < 0 → parseFieldDescriptor (TJ13 k).2.2.1 = some (tyJ13 k) := by decide +kernel
abbrev cJ13_lowestOneBit_067f4 : ByteArray := prog_19_method_47_code
def yJ13_lowestOneBit_067f4 : MethodName := ⟨RJ13, "lowestOneBit", "(J)J"⟩
abbrev cJ13_bitCount_95d88 : ByteArray := prog_19_method_50_code
def yJ13_bitCount_95d88 : MethodName := ⟨RJ13, "bitCount", "(J)I"⟩
def RJ9 : String := "java/lang/Math"
def TJ9 : u_T := fun k => match k with
  | _ => ("", "", "", false)
def tyJ9 : Nat → FieldType := fun k => match k with
  | _ => .int
abbrev wsJ90 : List Cond := u_ws RJ9 TJ9 0
theorem nmJ9 : ∀ a, a < 0 → ∀ b, b < 0 → a ≠ b → (TJ9 a).2.1 ≠ (TJ9 b).2.1 := by decide +kernel
theorem tyJ9_ok : ∀ k, k < 0 → parseFieldDescriptor (TJ9 k).2.2.1 = some (tyJ9 k) := by decide +kernel
abbrev cJ9_abs_0f7a4 : ByteArray := prog_20_method_59_code
def yJ9_abs_0f7a4 : MethodName := ⟨RJ9, "abs", "(I)I"⟩
abbrev cJ9_max_7cf53 : ByteArray := prog_20_method_65_code
def yJ9_max_7cf53 : MethodName := ⟨RJ9, "max", "(II)I"⟩
abbrev cJ9_min_7cf53 : ByteArray := prog_20_method_69_code
def yJ9_min_7cf53 : MethodName := ⟨RJ9, "min", "(II)I"⟩
def RJ0 : String := "java/lang/String"
def TJ0 : u_T := fun k => match k with
  | _ => ("", "", "", false)
def tyJ0 : Nat → FieldType := fun k => match k with
  | _ => .int
abbrev wsJ00 : List Cond := u_ws RJ0 TJ0 0
theorem nmJ0 : ∀ a, a < 0 → ∀ b, b < 0 → a ≠ b → (TJ0 a).2.1 ≠ (TJ0 b).2.1 := by decide +kernel
theorem tyJ0_ok : ∀ k, k < 0 → parseFieldDescriptor (TJ0 k).2.2.1 = some (tyJ0 k) := by decide +kernel
abbrev cJ0_length_8abf5 : ByteArray := prog_22_method_54_code
def yJ0_length_8abf5 : MethodName := ⟨RJ0, "length", "()I"⟩
abbrev cJ0_charAt_5068e : ByteArray := prog_22_method_56_code
def yJ0_charAt_5068e : MethodName := ⟨RJ0, "charAt", "(I)C"⟩
abbrev cJ0_coder_7d493 : ByteArray := prog_22_method_152_code
def yJ0_coder_7d493 : MethodName := ⟨RJ0, "coder", "()B"⟩
abbrev cJ0_isLatin1_aae02 : ByteArray := prog_22_method_154_code
def yJ0_isLatin1_aae02 : MethodName := ⟨RJ0, "isLatin1", "()Z"⟩
abbrev cJ0_checkIndex_df160 : ByteArray := prog_22_method_155_code
def yJ0_checkIndex_df160 : MethodName := ⟨RJ0, "checkIndex", "(II)V"⟩
def RJ1 : String := "java/lang/StringLatin1"
def TJ1 : u_T := fun k => match k with
  | _ => ("", "", "", false)
def tyJ1 : Nat → FieldType := fun k => match k with
  | _ => .int
abbrev wsJ10 : List Cond := u_ws RJ1 TJ1 0
theorem nmJ1 : ∀ a, a < 0 → ∀ b, b < 0 → a ≠ b → (TJ1 a).2.1 ≠ (TJ1 b).2.1 := by decide +kernel
theorem tyJ1_ok : ∀ k, k < 0 → parseFieldDescriptor (TJ1 k).2.2.1 = some (tyJ1 k) := by decide +kernel
abbrev cJ1_charAt_3b067 : ByteArray := prog_23_method_2_code
def yJ1_charAt_3b067 : MethodName := ⟨RJ1, "charAt", "([BI)C"⟩
def RJ2 : String := "java/lang/StringUTF16"
def TJ2 : u_T := fun k => match k with
  | _ => ("", "", "", false)
def tyJ2 : Nat → FieldType := fun k => match k with
  | _ => .int
abbrev wsJ20 : List Cond := u_ws RJ2 TJ2 0
theorem nmJ2 : ∀ a, a < 0 → ∀ b, b < 0 → a ≠ b → (TJ2 a).2.1 ≠ (TJ2 b).2.1 := by decide +kernel
theorem tyJ2_ok : ∀ k, k < 0 → parseFieldDescriptor (TJ2 k).2.2.1 = some (tyJ2 k) := by decide +kernel
abbrev cJ2_getChar_3b067 : ByteArray := prog_24_method_5_code
def yJ2_getChar_3b067 : MethodName := ⟨RJ2, "getChar", "([BI)C"⟩
abbrev cJ2_length_9d52b : ByteArray := prog_24_method_6_code
def yJ2_length_9d52b : MethodName := ⟨RJ2, "length", "([B)I"⟩
abbrev cJ2_charAt_3b067 : ByteArray := prog_24_method_83_code
def yJ2_charAt_3b067 : MethodName := ⟨RJ2, "charAt", "([BI)C"⟩
abbrev cJ2_checkIndex_2214a : ByteArray := prog_24_method_91_code
def yJ2_checkIndex_2214a : MethodName := ⟨RJ2, "checkIndex", "(I[B)V"⟩
def RJ10 : String := "java/lang/System"
def TJ10 : u_T := fun k => match k with
  | _ => ("", "", "", false)
def tyJ10 : Nat → FieldType := fun k => match k with
  | _ => .int
abbrev wsJ100 : List Cond := u_ws RJ10 TJ10 0
theorem nmJ10 : ∀ a, a < 0 → ∀ b, b < 0 → a ≠ b → (TJ10 a).2.1 ≠ (TJ10 b).2.1 := by decide +kernel
theorem tyJ10_ok : ∀ k, k < 0 → parseFieldDescriptor (TJ10 k).2.2.1 = some (tyJ10 k) := by decide +kernel
def RJ7 : String := "java/util/Arrays"
def TJ7 : u_T := fun k => match k with
  | _ => ("", "", "", false)
def tyJ7 : Nat → FieldType := fun k => match k with
  | _ => .int
abbrev wsJ70 : List Cond := u_ws RJ7 TJ7 0
theorem nmJ7 : ∀ a, a < 0 → ∀ b, b < 0 → a ≠ b → (TJ7 a).2.1 ≠ (TJ7 b).2.1 := by decide +kernel
theorem tyJ7_ok : ∀ k, k < 0 → parseFieldDescriptor (TJ7 k).2.2.1 = some (tyJ7 k) := by decide +kernel
abbrev cJ7_fill_53178 : ByteArray := prog_27_method_103_code
def yJ7_fill_53178 : MethodName := ⟨RJ7, "fill", "([II)V"⟩
def RJ3 : String := "jdk/internal/util/Preconditions"
def TJ3 : u_T := fun k => match k with
  | _ => ("", "", "", false)
def tyJ3 : Nat → FieldType := fun k => match k with
  | _ => .int
abbrev wsJ30 : List Cond := u_ws RJ3 TJ3 0
theorem nmJ3 : ∀ a, a < 0 → ∀ b, b < 0 → a ≠ b → (TJ3 a).2.1 ≠ (TJ3 b).2.1 := by decide +kernel
theorem tyJ3_ok : ∀ k, k < 0 → parseFieldDescriptor (TJ3 k).2.2.1 = some (tyJ3 k) := by decide +kernel
abbrev cJ3_checkIndex_8e157 : ByteArray := prog_29_method_11_code
def yJ3_checkIndex_8e157 : MethodName := ⟨RJ3, "checkIndex", "(IILjava/util/function/BiFunction;)I"⟩
def RL : String := "SkyCutsLaw"
abbrev cL_stream : ByteArray := method_3_code
def yL_stream : MethodName := ⟨RL, "stream", "(LSkyCuts;I[J)I"⟩
abbrev cL_rules : ByteArray := method_4_code
def yL_rules : MethodName := ⟨RL, "rules", "(LSkyCuts;I[J)I"⟩
abbrev cL_way : ByteArray := method_5_code
def yL_way : MethodName := ⟨RL, "way", "(LSkyCuts;II[J)I"⟩
abbrev cL_flow : ByteArray := method_6_code
def yL_flow : MethodName := ⟨RL, "flow", "(LSkyCuts;IIII)I"⟩
abbrev cL_span : ByteArray := method_7_code
def yL_span : MethodName := ⟨RL, "span", "(LSkyCuts;III)I"⟩
abbrev cL_most : ByteArray := method_8_code
def yL_most : MethodName := ⟨RL, "most", "(LSkyCuts;II[J)I"⟩
abbrev cL_assign : ByteArray := method_9_code
def yL_assign : MethodName := ⟨RL, "assign", "(LSkyCuts;II[J)I"⟩
abbrev cL_paint : ByteArray := method_10_code
def yL_paint : MethodName := ⟨RL, "paint", "(LSkyCuts;III[J)I"⟩
abbrev cL_limit : ByteArray := method_11_code
def yL_limit : MethodName := ⟨RL, "limit", "(LSkyCuts;II[J)I"⟩
abbrev cL_hears : ByteArray := method_12_code
def yL_hears : MethodName := ⟨RL, "hears", "(LSkyCuts;III[J)I"⟩
abbrev cL_peak : ByteArray := method_13_code
def yL_peak : MethodName := ⟨RL, "peak", "(LSkyCuts;II[J)I"⟩
abbrev cL_whole : ByteArray := method_14_code
def yL_whole : MethodName := ⟨RL, "whole", "(LSkyCuts;I[J)I"⟩
abbrev cL_neck : ByteArray := method_15_code
def yL_neck : MethodName := ⟨RL, "neck", "(LSkyCuts;II[J)I"⟩
abbrev cL_shorts : ByteArray := method_16_code
def yL_shorts : MethodName := ⟨RL, "shorts", "(LSkyCuts;I[J)I"⟩
abbrev cL_length : ByteArray := method_17_code
def yL_length : MethodName := ⟨RL, "length", "(LSkyCuts;I[J)I"⟩
abbrev cL_edge : ByteArray := method_18_code
def yL_edge : MethodName := ⟨RL, "edge", "(LSkyCuts;I[J)I"⟩
abbrev cL_better : ByteArray := method_19_code
def yL_better : MethodName := ⟨RL, "better", "(LSkyCuts;I[J)I"⟩
abbrev cL_grow : ByteArray := method_20_code
def yL_grow : MethodName := ⟨RL, "grow", "(LSkyCuts;I[J)I"⟩
abbrev cL_region : ByteArray := method_21_code
def yL_region : MethodName := ⟨RL, "region", "(LSkyCuts;I[J)I"⟩
abbrev cL_parted : ByteArray := method_22_code
def yL_parted : MethodName := ⟨RL, "parted", "(LSkyCuts;II[J)I"⟩
abbrev cL_configure : ByteArray := method_23_code
def yL_configure : MethodName := ⟨RL, "configure", "(LSkyCuts;I[J)I"⟩
abbrev cL_pairs : ByteArray := method_24_code
def yL_pairs : MethodName := ⟨RL, "pairs", "(LSkyCuts;II[J)I"⟩
abbrev cL_busy : ByteArray := method_25_code
def yL_busy : MethodName := ⟨RL, "busy", "(LSkyCuts;I[J)I"⟩
abbrev cL_plan : ByteArray := method_26_code
def yL_plan : MethodName := ⟨RL, "plan", "(LSkyCuts;II[J)I"⟩
abbrev cL_hours : ByteArray := method_27_code
def yL_hours : MethodName := ⟨RL, "hours", "(LSkyCuts;II[J)I"⟩
abbrev cL_ill : ByteArray := method_28_code
def yL_ill : MethodName := ⟨RL, "ill", "(LSkyCuts;II[J)I"⟩
abbrev cL_rota : ByteArray := method_29_code
def yL_rota : MethodName := ⟨RL, "rota", "(LSkyCuts;III[J)I"⟩
abbrev cL_lacks : ByteArray := method_30_code
def yL_lacks : MethodName := ⟨RL, "lacks", "(LSkyCuts;II[J)I"⟩
abbrev cL_enough : ByteArray := method_31_code
def yL_enough : MethodName := ⟨RL, "enough", "(LSkyCuts;I[J)I"⟩
abbrev cL_storm : ByteArray := method_32_code
def yL_storm : MethodName := ⟨RL, "storm", "(LSkyCuts;IZ[J)I"⟩
abbrev cL_mends : ByteArray := method_33_code
def yL_mends : MethodName := ⟨RL, "mends", "(LSkyCuts;IIII[J)I"⟩
abbrev cL_did : ByteArray := method_34_code
def yL_did : MethodName := ⟨RL, "did", "(LSkyCuts;IIIZ[J)I"⟩
abbrev cL_fit : ByteArray := method_35_code
def yL_fit : MethodName := ⟨RL, "fit", "(LSkyCuts;I[J)I"⟩
abbrev cL_lead : ByteArray := method_36_code
def yL_lead : MethodName := ⟨RL, "lead", "(LSkyCuts;IIIZ[J)I"⟩
abbrev cL_worth : ByteArray := method_37_code
def yL_worth : MethodName := ⟨RL, "worth", "(LSkyCuts;II[J)I"⟩
abbrev cL_quiet : ByteArray := method_38_code
def yL_quiet : MethodName := ⟨RL, "quiet", "(LSkyCuts;I[J)I"⟩
abbrev cL_law : ByteArray := code
def yL_law : MethodName := ⟨RL, "law", "([I)Z"⟩
abbrev vwCl : List vw_C := [(RX0, TX0, 14), (RX1, TX1, 8), (RX2, TX2, 10), (RX3, TX3, 7), (RX4, TX4, 14), (RX5, TX5, 13), (RX6, TX6, 9), (RX7, TX7, 14), (RX8, TX8, 18), (RX9, TX9, 18), (RX10, TX10, 10), (RX11, TX11, 11), (RX12, TX12, 83)]
end
section
/-! Layer 1: the kit's rows over one world (a list of cells by number), all that is fixed in an activation held in one thing k. -/
abbrev kx_T : Type := (Program × Launch × Env × Room × State × MethodId × Array Value × List Frame × Method × Code × (State → Prop)) × (State × va_G × List (ClassId × FieldType) × String × ByteArray × Nat)
abbrev kP (k : kx_T) : Program := k.1.1
abbrev kL (k : kx_T) : Launch := k.1.2.1
abbrev kE (k : kx_T) : Env := k.1.2.2.1
abbrev kR (k : kx_T) : Room := k.1.2.2.2.1
abbrev kS (k : kx_T) : State := k.1.2.2.2.2.1
abbrev kM (k : kx_T) : MethodId := k.1.2.2.2.2.2.1
abbrev kA (k : kx_T) : Array Value := k.1.2.2.2.2.2.2.1
abbrev kB (k : kx_T) : List Frame := k.1.2.2.2.2.2.2.2.1
abbrev kMe (k : kx_T) : Method := k.1.2.2.2.2.2.2.2.2.1
abbrev kC (k : kx_T) : Code := k.1.2.2.2.2.2.2.2.2.2.1
abbrev kQ (k : kx_T) : State → Prop := k.1.2.2.2.2.2.2.2.2.2.2
abbrev kS0 (k : kx_T) : State := k.2.1
abbrev kD (k : kx_T) : va_G := k.2.2.1
abbrev kTy (k : kx_T) : List (ClassId × FieldType) := k.2.2.2.1
abbrev kOwn (k : kx_T) : String := k.2.2.2.2.1
abbrev kCc (k : kx_T) : ByteArray := k.2.2.2.2.2.1
abbrev kN (k : kx_T) : Nat := k.2.2.2.2.2.2
/-- the words that stay true while tables grow warm -/
def gT : List Cond := lw_tbl.filter goodWord
theorem gT_of {w : Cond} (h : w ∈ lw_tbl) (g : goodWord w = true) : w ∈ gT := List.mem_filter.mpr ⟨h, g⟩
/-- the cells that may change: all from the law's first heap on -/
abbrev kF (k : kx_T) : Nat → Prop := fun q => (kS0 k).heap.size ≤ q
/-- what holds all through an activation -/
def kx_ok (k : kx_T) : Prop :=
  (kP k).tables.exec = Jvm.exec ∧ (kC k).code = kCc k ∧ (kC k).maxLocals = kN k ∧ (kS k).vm.findClass (kOwn k) = some (kM k).cls ∧ (kS0 k).WarmedH (kS k).vm ∧
  va_K (kD k) vwCl (kTy k) (kS k) ∧ (kS0 k).heap.size ≤ (kS k).heap.size ∧ (∀ q : Nat, q < (kS0 k).heap.size → (kS k).heap[q]? = (kS0 k).heap[q]?) ∧ (kMe k).locks = false ∧ ∀ w ∈ gT, w.before (kA k) (kS k) = true
abbrev kx_W (k : kx_T) (H : Heap) (locs : List Loc) (ce sl : Nat) (g : JFrame) : Prop := W (kP k) (kL k) (kE k) (kR k) (kS k) (kM k) (kA k) (kB k) (kMe k) (kC k) H locs ce sl (kQ k) g
/-- from every heap that holds the world ws, every row of locals that holds lv: the machine comes to its goal -/
def WS (k : kx_T) (pc : Nat) (lv : List (Nat × Value)) (st : List Value) (ws : va_W) (ce sl : Nat) : Prop :=
  ∀ (H : Heap) (locs : List Loc) (ls : Array Slot), va_P (kD k) vwCl ws H → va_D (kF k) ws → va_S (kF k) (kS k).heap H locs → lv_has ls (kN k) lv → kx_W k H locs ce sl (F0 (kM k) pc ls st)
section L1
variable {k : kx_T} {pc : Nat} {lv : List (Nat × Value)} {st : List Value} {ws : va_W} {ce sl : Nat}
theorem kx_wd (C : kx_ok k) : ∀ w ∈ gT, w.before (kA k) (kS k) = true := C.2.2.2.2.2.2.2.2.2
theorem kx_K (C : kx_ok k) : va_K (kD k) vwCl (kTy k) (kS k) := C.2.2.2.2.2.1
theorem kx_new (C : kx_ok k) : ∀ q, (kS k).heap.size ≤ q → kF k q := fun _ h => Nat.le_trans C.2.2.2.2.2.2.1 h
theorem lv_mono {ls : Array Slot} {n : Nat} {l l' : List (Nat × Value)} (h : lv_has ls n l) (hs : ∀ q ∈ l', q ∈ l) : lv_has ls n l' := ⟨h.1, h.2.1, fun q hq => h.2.2 q (hs q hq)⟩
theorem lv_mem {ls : Array Slot} {n i : Nat} {v : Value} {l : List (Nat × Value)} (h : lv_has ls n l) (hm : (i, v) ∈ l) : ls[i]? = some (.val v) := h.2.2 (i, v) hm
theorem w_iconst (C : kx_ok k) {n : Int} (d : decode (kCc k) pc = .ok (.iconst n, 1)) (h : WS k (pc + 1) lv (.int (Int32.ofInt n) :: st) ws ce sl) : WS k pc lv st ws ce sl :=
  fun H locs ls hP hD hS hl => lv_iconst C.1 C.2.1 d rfl (h H locs ls hP hD hS hl)
theorem w_bipush (C : kx_ok k) {n : Int} (d : decode (kCc k) pc = .ok (.bipush n, 2)) {z : Int32} (hz : (Int8.ofInt n).toInt32 = z) (h : WS k (pc + 2) lv (.int z :: st) ws ce sl) : WS k pc lv st ws ce sl :=
  fun H locs ls hP hD hS hl => lv_bipush C.1 C.2.1 d hz (h H locs ls hP hD hS hl)
theorem w_sipush (C : kx_ok k) {n : Int} (d : decode (kCc k) pc = .ok (.sipush n, 3)) {z : Int32} (hz : (Int16.ofInt n).toInt32 = z) (h : WS k (pc + 3) lv (.int z :: st) ws ce sl) : WS k pc lv st ws ce sl :=
  fun H locs ls hP hD hS hl => lv_sipush C.1 C.2.1 d hz (h H locs ls hP hD hS hl)
theorem w_lconst (C : kx_ok k) {n : Fin 2} (d : decode (kCc k) pc = .ok (.lconst n, 1)) {z : Int64} (hz : Int64.ofNat (n : Nat) = z) (h : WS k (pc + 1) lv (.long z :: st) ws ce sl) : WS k pc lv st ws ce sl :=
  fun H locs ls hP hD hS hl => lv_lconst C.1 C.2.1 d hz (h H locs ls hP hD hS hl)
theorem w_iload_n (C : kx_ok k) {i : Fin 4} (d : decode (kCc k) pc = .ok (.iload_n i, 1)) {x : Int32} (hm : ((i : Nat), Value.int x) ∈ lv) (h : WS k (pc + 1) lv (.int x :: st) ws ce sl) : WS k pc lv st ws ce sl :=
  fun H locs ls hP hD hS hl => lv_iload_n C.1 C.2.1 d rfl (lv_mem hl hm) (h H locs ls hP hD hS hl)
theorem w_iload (C : kx_ok k) {i : Nat} (d : decode (kCc k) pc = .ok (.iload i, 2)) {x : Int32} (hm : (i, Value.int x) ∈ lv) (h : WS k (pc + 2) lv (.int x :: st) ws ce sl) : WS k pc lv st ws ce sl :=
  fun H locs ls hP hD hS hl => lv_iload C.1 C.2.1 d (lv_mem hl hm) (h H locs ls hP hD hS hl)
theorem w_lload_n (C : kx_ok k) {i : Fin 4} (d : decode (kCc k) pc = .ok (.lload_n i, 1)) {x : Int64} (hm : ((i : Nat), Value.long x) ∈ lv) (h : WS k (pc + 1) lv (.long x :: st) ws ce sl) : WS k pc lv st ws ce sl :=
  fun H locs ls hP hD hS hl => lv_lload_n C.1 C.2.1 d rfl (lv_mem hl hm) (h H locs ls hP hD hS hl)
theorem w_lload (C : kx_ok k) {i : Nat} (d : decode (kCc k) pc = .ok (.lload i, 2)) {x : Int64} (hm : (i, Value.long x) ∈ lv) (h : WS k (pc + 2) lv (.long x :: st) ws ce sl) : WS k pc lv st ws ce sl :=
  fun H locs ls hP hD hS hl => lv_lload C.1 C.2.1 d (lv_mem hl hm) (h H locs ls hP hD hS hl)
theorem w_aload_n (C : kx_ok k) {i : Fin 4} (d : decode (kCc k) pc = .ok (.aload_n i, 1)) {x : Nat} (hm : ((i : Nat), Value.ref x) ∈ lv) (h : WS k (pc + 1) lv (.ref x :: st) ws ce sl) : WS k pc lv st ws ce sl :=
  fun H locs ls hP hD hS hl => lv_aload_n C.1 C.2.1 d rfl (lv_mem hl hm) (h H locs ls hP hD hS hl)
theorem w_aload (C : kx_ok k) {i : Nat} (d : decode (kCc k) pc = .ok (.aload i, 2)) {x : Nat} (hm : (i, Value.ref x) ∈ lv) (h : WS k (pc + 2) lv (.ref x :: st) ws ce sl) : WS k pc lv st ws ce sl :=
  fun H locs ls hP hD hS hl => lv_aload C.1 C.2.1 d (lv_mem hl hm) (h H locs ls hP hD hS hl)
/-- what stays of the locals behind a store at i -/
def lv_but (i : Nat) (lv : List (Nat × Value)) : List (Nat × Value) := lv.filter (fun q => !(q.1 == i) && !(q.1 + 1 == i && q.2.category == 2))
def lv_but2 (i : Nat) (lv : List (Nat × Value)) : List (Nat × Value) := lv.filter (fun q => !(q.1 == i) && (!(q.1 == i + 1) && !(q.1 + 1 == i && q.2.category == 2)))
theorem w_istore_n (C : kx_ok k) {i : Fin 4} {x : Int32} {lv' : List (Nat × Value)} (d : decode (kCc k) pc = .ok (.istore_n i, 1)) (hn : (i : Nat) < kN k) (hs : ∀ q ∈ lv', q ∈ ((i : Nat), Value.int x) :: lv_but i lv) (h : WS k (pc + 1) lv' st ws ce sl) : WS k pc lv (.int x :: st) ws ce sl :=
  fun H locs ls hP hD hS hl => lv_istore_n C.1 C.2.1 d rfl hl hn rfl (fun ls' hl' => h H locs ls' hP hD hS (lv_mono hl' hs))
theorem w_istore (C : kx_ok k) {i : Nat} {x : Int32} {lv' : List (Nat × Value)} (d : decode (kCc k) pc = .ok (.istore i, 2)) (hn : i < kN k) (hs : ∀ q ∈ lv', q ∈ (i, Value.int x) :: lv_but i lv) (h : WS k (pc + 2) lv' st ws ce sl) : WS k pc lv (.int x :: st) ws ce sl :=
  fun H locs ls hP hD hS hl => lv_istore C.1 C.2.1 d hl hn rfl (fun ls' hl' => h H locs ls' hP hD hS (lv_mono hl' hs))
theorem w_lstore_n (C : kx_ok k) {i : Fin 4} {x : Int64} {lv' : List (Nat × Value)} (d : decode (kCc k) pc = .ok (.lstore_n i, 1)) (hn : (i : Nat) + 1 < kN k) (hs : ∀ q ∈ lv', q ∈ ((i : Nat), Value.long x) :: lv_but2 i lv) (h : WS k (pc + 1) lv' st ws ce sl) : WS k pc lv (.long x :: st) ws ce sl :=
  fun H locs ls hP hD hS hl => lv_lstore_n C.1 C.2.1 d rfl hl hn rfl (fun ls' hl' => h H locs ls' hP hD hS (lv_mono hl' hs))
theorem w_lstore (C : kx_ok k) {i : Nat} {x : Int64} {lv' : List (Nat × Value)} (d : decode (kCc k) pc = .ok (.lstore i, 2)) (hn : i + 1 < kN k) (hs : ∀ q ∈ lv', q ∈ (i, Value.long x) :: lv_but2 i lv) (h : WS k (pc + 2) lv' st ws ce sl) : WS k pc lv (.long x :: st) ws ce sl :=
  fun H locs ls hP hD hS hl => lv_lstore C.1 C.2.1 d hl hn rfl (fun ls' hl' => h H locs ls' hP hD hS (lv_mono hl' hs))
theorem w_astore_n (C : kx_ok k) {i : Fin 4} {x : Nat} {lv' : List (Nat × Value)} (d : decode (kCc k) pc = .ok (.astore_n i, 1)) (hn : (i : Nat) < kN k) (hs : ∀ q ∈ lv', q ∈ ((i : Nat), Value.ref x) :: lv_but i lv) (h : WS k (pc + 1) lv' st ws ce sl) : WS k pc lv (.ref x :: st) ws ce sl :=
  fun H locs ls hP hD hS hl => lv_astore_n C.1 C.2.1 d rfl hl hn rfl (fun ls' hl' => h H locs ls' hP hD hS (lv_mono hl' hs))
theorem w_astore (C : kx_ok k) {i : Nat} {x : Nat} {lv' : List (Nat × Value)} (d : decode (kCc k) pc = .ok (.astore i, 2)) (hn : i < kN k) (hs : ∀ q ∈ lv', q ∈ (i, Value.ref x) :: lv_but i lv) (h : WS k (pc + 2) lv' st ws ce sl) : WS k pc lv (.ref x :: st) ws ce sl :=
  fun H locs ls hP hD hS hl => lv_astore C.1 C.2.1 d hl hn rfl (fun ls' hl' => h H locs ls' hP hD hS (lv_mono hl' hs))
theorem w_iinc (C : kx_ok k) {i : Nat} {n : Int} {x : Int32} {lv' : List (Nat × Value)} (d : decode (kCc k) pc = .ok (.iinc i n, 3)) (hn : i < kN k) (hm : (i, Value.int x) ∈ lv) (hs : ∀ q ∈ lv', q ∈ (i, Value.int (x + Int32.ofInt n)) :: lv_but i lv) (h : WS k (pc + 3) lv' st ws ce sl) : WS k pc lv st ws ce sl := by
  intro H locs ls hP hD hS hl
  obtain ⟨j, hj⟩ := List.mem_iff_getElem?.mp hm
  exact lv_iinc C.1 C.2.1 d hl hj rfl hn rfl (fun ls' hl' => h H locs ls' hP hD hS (lv_mono hl' hs))
theorem w_iadd (C : kx_ok k) {x y : Int32} (d : decode (kCc k) pc = .ok (.iadd, 1)) (h : WS k (pc + 1) lv (.int (x + y) :: st) ws ce sl) : WS k pc lv (.int y :: .int x :: st) ws ce sl :=
  fun H locs ls hP hD hS hl => lv_iadd C.1 C.2.1 d (h H locs ls hP hD hS hl)
theorem w_isub (C : kx_ok k) {x y : Int32} (d : decode (kCc k) pc = .ok (.isub, 1)) (h : WS k (pc + 1) lv (.int (x - y) :: st) ws ce sl) : WS k pc lv (.int y :: .int x :: st) ws ce sl :=
  fun H locs ls hP hD hS hl => lv_isub C.1 C.2.1 d (h H locs ls hP hD hS hl)
theorem w_imul (C : kx_ok k) {x y : Int32} (d : decode (kCc k) pc = .ok (.imul, 1)) (h : WS k (pc + 1) lv (.int (x * y) :: st) ws ce sl) : WS k pc lv (.int y :: .int x :: st) ws ce sl :=
  fun H locs ls hP hD hS hl => lv_imul C.1 C.2.1 d (h H locs ls hP hD hS hl)
theorem w_iand (C : kx_ok k) {x y : Int32} (d : decode (kCc k) pc = .ok (.iand, 1)) (h : WS k (pc + 1) lv (.int (x &&& y) :: st) ws ce sl) : WS k pc lv (.int y :: .int x :: st) ws ce sl :=
  fun H locs ls hP hD hS hl => lv_iand C.1 C.2.1 d (h H locs ls hP hD hS hl)
theorem w_ior (C : kx_ok k) {x y : Int32} (d : decode (kCc k) pc = .ok (.ior, 1)) (h : WS k (pc + 1) lv (.int (x ||| y) :: st) ws ce sl) : WS k pc lv (.int y :: .int x :: st) ws ce sl :=
  fun H locs ls hP hD hS hl => lv_ior C.1 C.2.1 d (h H locs ls hP hD hS hl)
theorem w_ixor (C : kx_ok k) {x y : Int32} (d : decode (kCc k) pc = .ok (.ixor, 1)) (h : WS k (pc + 1) lv (.int (x ^^^ y) :: st) ws ce sl) : WS k pc lv (.int y :: .int x :: st) ws ce sl :=
  fun H locs ls hP hD hS hl => lv_ixor C.1 C.2.1 d (h H locs ls hP hD hS hl)
theorem w_ishl (C : kx_ok k) {x y : Int32} (d : decode (kCc k) pc = .ok (.ishl, 1)) (h : WS k (pc + 1) lv (.int (x <<< (y &&& 31)) :: st) ws ce sl) : WS k pc lv (.int y :: .int x :: st) ws ce sl :=
  fun H locs ls hP hD hS hl => lv_ishl C.1 C.2.1 d (h H locs ls hP hD hS hl)
theorem w_ishr (C : kx_ok k) {x y : Int32} (d : decode (kCc k) pc = .ok (.ishr, 1)) (h : WS k (pc + 1) lv (.int (x >>> (y &&& 31)) :: st) ws ce sl) : WS k pc lv (.int y :: .int x :: st) ws ce sl :=
  fun H locs ls hP hD hS hl => lv_ishr C.1 C.2.1 d (h H locs ls hP hD hS hl)
theorem w_ladd (C : kx_ok k) {x y : Int64} (d : decode (kCc k) pc = .ok (.ladd, 1)) (h : WS k (pc + 1) lv (.long (x + y) :: st) ws ce sl) : WS k pc lv (.long y :: .long x :: st) ws ce sl :=
  fun H locs ls hP hD hS hl => lv_ladd C.1 C.2.1 d (h H locs ls hP hD hS hl)
theorem w_lsub (C : kx_ok k) {x y : Int64} (d : decode (kCc k) pc = .ok (.lsub, 1)) (h : WS k (pc + 1) lv (.long (x - y) :: st) ws ce sl) : WS k pc lv (.long y :: .long x :: st) ws ce sl :=
  fun H locs ls hP hD hS hl => lv_lsub C.1 C.2.1 d (h H locs ls hP hD hS hl)
theorem w_land (C : kx_ok k) {x y : Int64} (d : decode (kCc k) pc = .ok (.land, 1)) (h : WS k (pc + 1) lv (.long (x &&& y) :: st) ws ce sl) : WS k pc lv (.long y :: .long x :: st) ws ce sl :=
  fun H locs ls hP hD hS hl => lv_land C.1 C.2.1 d (h H locs ls hP hD hS hl)
theorem w_lor (C : kx_ok k) {x y : Int64} (d : decode (kCc k) pc = .ok (.lor, 1)) (h : WS k (pc + 1) lv (.long (x ||| y) :: st) ws ce sl) : WS k pc lv (.long y :: .long x :: st) ws ce sl :=
  fun H locs ls hP hD hS hl => lv_lor C.1 C.2.1 d (h H locs ls hP hD hS hl)
theorem w_lxor (C : kx_ok k) {x y : Int64} (d : decode (kCc k) pc = .ok (.lxor, 1)) (h : WS k (pc + 1) lv (.long (x ^^^ y) :: st) ws ce sl) : WS k pc lv (.long y :: .long x :: st) ws ce sl :=
  fun H locs ls hP hD hS hl => lv_lxor C.1 C.2.1 d (h H locs ls hP hD hS hl)
theorem w_ineg (C : kx_ok k) {x : Int32} (d : decode (kCc k) pc = .ok (.ineg, 1)) (h : WS k (pc + 1) lv (.int (-x) :: st) ws ce sl) : WS k pc lv (.int x :: st) ws ce sl :=
  fun H locs ls hP hD hS hl => lv_ineg C.1 C.2.1 d (h H locs ls hP hD hS hl)
theorem w_lneg (C : kx_ok k) {x : Int64} (d : decode (kCc k) pc = .ok (.lneg, 1)) (h : WS k (pc + 1) lv (.long (-x) :: st) ws ce sl) : WS k pc lv (.long x :: st) ws ce sl :=
  fun H locs ls hP hD hS hl => lv_lneg C.1 C.2.1 d (h H locs ls hP hD hS hl)
theorem w_idiv (C : kx_ok k) {x y : Int32} (d : decode (kCc k) pc = .ok (.idiv, 1)) (hne : ¬ y = 0) (h : WS k (pc + 1) lv (.int (x / y) :: st) ws ce sl) : WS k pc lv (.int y :: .int x :: st) ws ce sl :=
  fun H locs ls hP hD hS hl => lv_idiv C.1 C.2.1 d hne (h H locs ls hP hD hS hl)
theorem w_irem (C : kx_ok k) {x y : Int32} (d : decode (kCc k) pc = .ok (.irem, 1)) (hne : ¬ y = 0) (h : WS k (pc + 1) lv (.int (x - x / y * y) :: st) ws ce sl) : WS k pc lv (.int y :: .int x :: st) ws ce sl :=
  fun H locs ls hP hD hS hl => lv_irem C.1 C.2.1 d hne (h H locs ls hP hD hS hl)
theorem w_iushr (C : kx_ok k) {x y : Int32} (d : decode (kCc k) pc = .ok (.iushr, 1)) (h : WS k (pc + 1) lv (.int ((x.toUInt32 >>> (y.toUInt32 &&& Int32.toUInt32 31)).toInt32) :: st) ws ce sl) : WS k pc lv (.int y :: .int x :: st) ws ce sl :=
  fun H locs ls hP hD hS hl => lv_iushr C.1 C.2.1 d rfl (h H locs ls hP hD hS hl)
theorem w_lushr (C : kx_ok k) {x : Int64} {y : Int32} (d : decode (kCc k) pc = .ok (.lushr, 1)) (h : WS k (pc + 1) lv (.long ((x.toUInt64 >>> (y.toInt64.toUInt64 &&& Int64.toUInt64 63)).toInt64) :: st) ws ce sl) : WS k pc lv (.int y :: .long x :: st) ws ce sl :=
  fun H locs ls hP hD hS hl => lv_lushr C.1 C.2.1 d rfl (h H locs ls hP hD hS hl)
theorem w_lshl (C : kx_ok k) {x : Int64} {y : Int32} (d : decode (kCc k) pc = .ok (.lshl, 1)) (h : WS k (pc + 1) lv (.long (x <<< (y.toInt64 &&& 63)) :: st) ws ce sl) : WS k pc lv (.int y :: .long x :: st) ws ce sl :=
  fun H locs ls hP hD hS hl => lv_lshl C.1 C.2.1 d rfl (h H locs ls hP hD hS hl)
theorem w_lcmp (C : kx_ok k) {x y : Int64} (d : decode (kCc k) pc = .ok (.lcmp, 1)) (h : WS k (pc + 1) lv (.int (lg_cmp x y) :: st) ws ce sl) : WS k pc lv (.long y :: .long x :: st) ws ce sl :=
  fun H locs ls hP hD hS hl => W.lcmp C.1 C.2.1 d (h H locs ls hP hD hS hl)
theorem w_i2l (C : kx_ok k) {x : Int32} (d : decode (kCc k) pc = .ok (.i2l, 1)) (h : WS k (pc + 1) lv (.long x.toInt64 :: st) ws ce sl) : WS k pc lv (.int x :: st) ws ce sl :=
  fun H locs ls hP hD hS hl => lv_i2l C.1 C.2.1 d rfl (h H locs ls hP hD hS hl)
theorem w_l2i (C : kx_ok k) {x : Int64} (d : decode (kCc k) pc = .ok (.l2i, 1)) (h : WS k (pc + 1) lv (.int x.toInt32 :: st) ws ce sl) : WS k pc lv (.long x :: st) ws ce sl :=
  fun H locs ls hP hD hS hl => lv_l2i C.1 C.2.1 d rfl (h H locs ls hP hD hS hl)
theorem w_dup (C : kx_ok k) {x : Value} (d : decode (kCc k) pc = .ok (.dup, 1)) (hx : x.category = 1) (h : WS k (pc + 1) lv (x :: x :: st) ws ce sl) : WS k pc lv (x :: st) ws ce sl :=
  fun H locs ls hP hD hS hl => lv_dup C.1 C.2.1 d hx (h H locs ls hP hD hS hl)
theorem w_pop (C : kx_ok k) {x : Value} (d : decode (kCc k) pc = .ok (.pop, 1)) (hx : x.category = 1) (h : WS k (pc + 1) lv st ws ce sl) : WS k pc lv (x :: st) ws ce sl :=
  fun H locs ls hP hD hS hl => lv_pop C.1 C.2.1 d hx (h H locs ls hP hD hS hl)
theorem w_dup2_11 (C : kx_ok k) {x y : Value} (d : decode (kCc k) pc = .ok (.dup2, 1)) (hx : x.category = 1) (hy : y.category = 1) (h : WS k (pc + 1) lv (x :: y :: x :: y :: st) ws ce sl) : WS k pc lv (x :: y :: st) ws ce sl :=
  fun H locs ls hP hD hS hl => lv_dup2_11 C.1 C.2.1 d hx hy (h H locs ls hP hD hS hl)
theorem w_dup2_2 (C : kx_ok k) {x : Value} (d : decode (kCc k) pc = .ok (.dup2, 1)) (hx : x.category = 2) (h : WS k (pc + 1) lv (x :: x :: st) ws ce sl) : WS k pc lv (x :: st) ws ce sl :=
  fun H locs ls hP hD hS hl => lv_dup2_2 C.1 C.2.1 d hx (h H locs ls hP hD hS hl)
theorem w_icmp_eq (C : kx_ok k) {x y : Int32} {off : Int} {t : Nat} (d : decode (kCc k) pc = .ok (.if_icmp .eq off, 3)) (ht : (pc : Int) + off = (t : Int)) (h1 : x = y → WS k t lv st ws ce sl) (h2 : ¬ (x = y) → WS k (pc + 3) lv st ws ce sl) : WS k pc lv (.int y :: .int x :: st) ws ce sl :=
  fun H locs ls hP hD hS hl => lv_icmp_eq C.1 C.2.1 d ht (fun q => h1 q H locs ls hP hD hS hl) (fun q => h2 q H locs ls hP hD hS hl)
theorem w_if_eq (C : kx_ok k) {x : Int32} {off : Int} {t : Nat} (d : decode (kCc k) pc = .ok (.ifCond .eq off, 3)) (ht : (pc : Int) + off = (t : Int)) (h1 : x = 0 → WS k t lv st ws ce sl) (h2 : ¬ (x = 0) → WS k (pc + 3) lv st ws ce sl) : WS k pc lv (.int x :: st) ws ce sl :=
  fun H locs ls hP hD hS hl => lv_if_eq C.1 C.2.1 d ht (fun q => h1 q H locs ls hP hD hS hl) (fun q => h2 q H locs ls hP hD hS hl)
theorem w_icmp_ne (C : kx_ok k) {x y : Int32} {off : Int} {t : Nat} (d : decode (kCc k) pc = .ok (.if_icmp .ne off, 3)) (ht : (pc : Int) + off = (t : Int)) (h1 : x ≠ y → WS k t lv st ws ce sl) (h2 : x = y → WS k (pc + 3) lv st ws ce sl) : WS k pc lv (.int y :: .int x :: st) ws ce sl :=
  fun H locs ls hP hD hS hl => lv_icmp_ne C.1 C.2.1 d ht (fun q => h1 q H locs ls hP hD hS hl) (fun q => h2 q H locs ls hP hD hS hl)
theorem w_if_ne (C : kx_ok k) {x : Int32} {off : Int} {t : Nat} (d : decode (kCc k) pc = .ok (.ifCond .ne off, 3)) (ht : (pc : Int) + off = (t : Int)) (h1 : x ≠ 0 → WS k t lv st ws ce sl) (h2 : x = 0 → WS k (pc + 3) lv st ws ce sl) : WS k pc lv (.int x :: st) ws ce sl :=
  fun H locs ls hP hD hS hl => lv_if_ne C.1 C.2.1 d ht (fun q => h1 q H locs ls hP hD hS hl) (fun q => h2 q H locs ls hP hD hS hl)
theorem w_icmp_lt (C : kx_ok k) {x y : Int32} {off : Int} {t : Nat} (d : decode (kCc k) pc = .ok (.if_icmp .lt off, 3)) (ht : (pc : Int) + off = (t : Int)) (h1 : x < y → WS k t lv st ws ce sl) (h2 : ¬ (x < y) → WS k (pc + 3) lv st ws ce sl) : WS k pc lv (.int y :: .int x :: st) ws ce sl :=
  fun H locs ls hP hD hS hl => lv_icmp_lt C.1 C.2.1 d ht (fun q => h1 q H locs ls hP hD hS hl) (fun q => h2 q H locs ls hP hD hS hl)
theorem w_if_lt (C : kx_ok k) {x : Int32} {off : Int} {t : Nat} (d : decode (kCc k) pc = .ok (.ifCond .lt off, 3)) (ht : (pc : Int) + off = (t : Int)) (h1 : x < 0 → WS k t lv st ws ce sl) (h2 : ¬ (x < 0) → WS k (pc + 3) lv st ws ce sl) : WS k pc lv (.int x :: st) ws ce sl :=
  fun H locs ls hP hD hS hl => lv_if_lt C.1 C.2.1 d ht (fun q => h1 q H locs ls hP hD hS hl) (fun q => h2 q H locs ls hP hD hS hl)
theorem w_icmp_ge (C : kx_ok k) {x y : Int32} {off : Int} {t : Nat} (d : decode (kCc k) pc = .ok (.if_icmp .ge off, 3)) (ht : (pc : Int) + off = (t : Int)) (h1 : y ≤ x → WS k t lv st ws ce sl) (h2 : ¬ (y ≤ x) → WS k (pc + 3) lv st ws ce sl) : WS k pc lv (.int y :: .int x :: st) ws ce sl :=
  fun H locs ls hP hD hS hl => lv_icmp_ge C.1 C.2.1 d ht (fun q => h1 q H locs ls hP hD hS hl) (fun q => h2 q H locs ls hP hD hS hl)
theorem w_if_ge (C : kx_ok k) {x : Int32} {off : Int} {t : Nat} (d : decode (kCc k) pc = .ok (.ifCond .ge off, 3)) (ht : (pc : Int) + off = (t : Int)) (h1 : 0 ≤ x → WS k t lv st ws ce sl) (h2 : ¬ (0 ≤ x) → WS k (pc + 3) lv st ws ce sl) : WS k pc lv (.int x :: st) ws ce sl :=
  fun H locs ls hP hD hS hl => lv_if_ge C.1 C.2.1 d ht (fun q => h1 q H locs ls hP hD hS hl) (fun q => h2 q H locs ls hP hD hS hl)
theorem w_icmp_gt (C : kx_ok k) {x y : Int32} {off : Int} {t : Nat} (d : decode (kCc k) pc = .ok (.if_icmp .gt off, 3)) (ht : (pc : Int) + off = (t : Int)) (h1 : y < x → WS k t lv st ws ce sl) (h2 : ¬ (y < x) → WS k (pc + 3) lv st ws ce sl) : WS k pc lv (.int y :: .int x :: st) ws ce sl :=
  fun H locs ls hP hD hS hl => lv_icmp_gt C.1 C.2.1 d ht (fun q => h1 q H locs ls hP hD hS hl) (fun q => h2 q H locs ls hP hD hS hl)
theorem w_if_gt (C : kx_ok k) {x : Int32} {off : Int} {t : Nat} (d : decode (kCc k) pc = .ok (.ifCond .gt off, 3)) (ht : (pc : Int) + off = (t : Int)) (h1 : 0 < x → WS k t lv st ws ce sl) (h2 : ¬ (0 < x) → WS k (pc + 3) lv st ws ce sl) : WS k pc lv (.int x :: st) ws ce sl :=
  fun H locs ls hP hD hS hl => lv_if_gt C.1 C.2.1 d ht (fun q => h1 q H locs ls hP hD hS hl) (fun q => h2 q H locs ls hP hD hS hl)
theorem w_icmp_le (C : kx_ok k) {x y : Int32} {off : Int} {t : Nat} (d : decode (kCc k) pc = .ok (.if_icmp .le off, 3)) (ht : (pc : Int) + off = (t : Int)) (h1 : x ≤ y → WS k t lv st ws ce sl) (h2 : ¬ (x ≤ y) → WS k (pc + 3) lv st ws ce sl) : WS k pc lv (.int y :: .int x :: st) ws ce sl :=
  fun H locs ls hP hD hS hl => lv_icmp_le C.1 C.2.1 d ht (fun q => h1 q H locs ls hP hD hS hl) (fun q => h2 q H locs ls hP hD hS hl)
theorem w_if_le (C : kx_ok k) {x : Int32} {off : Int} {t : Nat} (d : decode (kCc k) pc = .ok (.ifCond .le off, 3)) (ht : (pc : Int) + off = (t : Int)) (h1 : x ≤ 0 → WS k t lv st ws ce sl) (h2 : ¬ (x ≤ 0) → WS k (pc + 3) lv st ws ce sl) : WS k pc lv (.int x :: st) ws ce sl :=
  fun H locs ls hP hD hS hl => lv_if_le C.1 C.2.1 d ht (fun q => h1 q H locs ls hP hD hS hl) (fun q => h2 q H locs ls hP hD hS hl)
theorem w_goto (C : kx_ok k) {off : Int} {t : Nat} (d : decode (kCc k) pc = .ok (.goto off, 3)) (ht : (pc : Int) + off = (t : Int)) (h : WS k t lv st ws ce sl) : WS k pc lv st ws ce sl :=
  fun H locs ls hP hD hS hl => lv_goto C.1 C.2.1 d ht (h H locs ls hP hD hS hl)
theorem w_tabOut (C : kx_ok k) {dflt lo hi : Int} {offs : Array Int} {len : Nat} {x : Int32} {t : Nat} (d : decode (kCc k) pc = .ok (.tableswitch dflt lo hi offs, len)) (hx : x.toInt < lo ∨ hi < x.toInt) (ht : (pc : Int) + dflt = (t : Int)) (h : WS k t lv st ws ce sl) : WS k pc lv (.int x :: st) ws ce sl :=
  fun H locs ls hP hD hS hl => lv_tableOut C.1 C.2.1 d hx ht (h H locs ls hP hD hS hl)
theorem w_tabIn (C : kx_ok k) {dflt lo hi off : Int} {offs : Array Int} {len : Nat} {x : Int32} {t : Nat} (d : decode (kCc k) pc = .ok (.tableswitch dflt lo hi offs, len)) (h1 : ¬ x.toInt < lo) (h2 : ¬ hi < x.toInt) (ho : offs[(x.toInt - lo).toNat]? = some off) (ht : (pc : Int) + off = (t : Int)) (h : WS k t lv st ws ce sl) : WS k pc lv (.int x :: st) ws ce sl :=
  fun H locs ls hP hD hS hl => lv_tableIn C.1 C.2.1 d h1 h2 ho ht (h H locs ls hP hD hS hl)
end L1
end
section
/-! Layer 1: fields, arrays, new things -/
/-- what is known of class ci: its name, fields, their types -/
def cl_ok (ci : Nat) (N : Nat) (C : String) (T : u_T) (ty : Nat → FieldType) : Prop :=
  vwCl[ci]? = some (C, T, N) ∧ (∀ w ∈ u_ws C T N, w ∈ gT) ∧ (∀ j, j < N → parseFieldDescriptor (T j).2.2.1 = some (ty j)) ∧ (∀ a, a < N → ∀ b, b < N → a ≠ b → (T a).2.1 ≠ (T b).2.1)
section L2
variable {k : kx_T} {pc : Nat} {lv : List (Nat × Value)} {st : List Value} {ws : va_W} {ce sl : Nat}
theorem w_get (C : kx_ok k) {idx ci f N a : Nat} {Cn : String} {T : u_T} {ty : Nat → FieldType} {fs : List Value} {v : Value} (q0 : Nat) (hc : cl_ok ci N Cn T ty) (he : ws[q0]? = some (a, .inr (ci, fs))) (hf : f < N) (hl : Cond.fieldLink (kOwn k) idx (T f).1 (T f).2.1 (T f).2.2.1 ∈ gT) (hv : fs[f]? = some v)
    (d : decode (kCc k) pc = .ok (.getfield idx, 3)) (h : WS k (pc + 3) lv (v :: st) ws ce sl) : WS k pc lv (.ref a :: st) ws ce sl :=
  fun H locs ls hP hD hS hlv => va_get C.1 C.2.1 (kx_wd C) hc.2.1 C.2.2.2.1 (kx_K C) hP q0 he hc.1 f hf (kx_wd C _ hl) (fun _ q => q) hv d (h H locs ls hP hD hS hlv)
theorem w_put (C : kx_ok k) {idx ci f N a : Nat} {Cn : String} {T : u_T} {ty : Nat → FieldType} {fs : List Value} {v : Value} (q0 : Nat) (hc : cl_ok ci N Cn T ty) (he : ws[q0]? = some (a, .inr (ci, fs))) (hf : f < N) (hl : Cond.fieldLink (kOwn k) idx (T f).1 (T f).2.1 (T f).2.2.1 ∈ gT) (hn : narrow (ty f) v = v) (hfit : fits (ty f) v = true) (hfs : f < fs.length)
    (hfin : (T f).2.2.2 = false ∨ ((T f).2.2.2 = true ∧ (kMe k).name = "<init>" ∧ (T f).1 = kOwn k))
    (d : decode (kCc k) pc = .ok (.putfield idx, 3)) (h : WS k (pc + 3) lv st (ws.set q0 (a, .inr (ci, fs.set f v))) ce sl) : WS k pc lv (v :: .ref a :: st) ws ce sl := by
  intro H locs ls hP hD hS hlv
  rcases hfin with h1 | ⟨h1, h2, h3⟩
  · exact va_put C.1 C.2.1 (kx_wd C) hc.2.1 ty hc.2.2.1 hc.2.2.2 C.2.2.2.1 (kx_K C) hP hD hS q0 he hc.1 f hf (kx_wd C _ hl) (fun _ q => q) h1 (hc.2.2.1 f hf) hn hfit hfs d (fun H1 l1 p1 p2 p3 => h H1 l1 ls p1 p2 p3 hlv)
  · exact va_putF C.1 C.2.1 (kx_wd C) hc.2.1 ty hc.2.2.1 hc.2.2.2 C.2.2.2.1 (kx_K C) hP hD hS q0 he hc.1 f hf (kx_wd C _ hl) (fun _ q => q) h1 h2 h3 (hc.2.2.1 f hf) hn hfit hfs d (fun H1 l1 p1 p2 p3 => h H1 l1 ls p1 p2 p3 hlv)
theorem w_iald (C : kx_ok k) {a n t0 : Nat} {cA : ClassId} {f : Nat → Int32} {i : Int32} (q0 : Nat) (he : ws[q0]? = some (a, .inl (cA, n, .inl f))) (ht : (kTy k)[t0]? = some (cA, .int)) (hi : vp_in i n) (d : decode (kCc k) pc = .ok (.iaload, 1)) (h : WS k (pc + 1) lv (.int (f i.toNatClampNeg) :: st) ws ce sl) : WS k pc lv (.int i :: .ref a :: st) ws ce sl :=
  fun H locs ls hP hD hS hlv => va_iald C.1 C.2.1 (kx_K C) hP q0 t0 he ht hi d (h H locs ls hP hD hS hlv)
theorem w_zald (C : kx_ok k) {a n t0 : Nat} {cA : ClassId} {f : Nat → Int32} {i : Int32} (q0 : Nat) (he : ws[q0]? = some (a, .inl (cA, n, .inl f))) (ht : (kTy k)[t0]? = some (cA, .boolean)) (hi : vp_in i n) (d : decode (kCc k) pc = .ok (.baload, 1)) (h : WS k (pc + 1) lv (.int (f i.toNatClampNeg) :: st) ws ce sl) : WS k pc lv (.int i :: .ref a :: st) ws ce sl :=
  fun H locs ls hP hD hS hlv => va_zald C.1 C.2.1 (kx_K C) hP q0 t0 he ht hi d (h H locs ls hP hD hS hlv)
theorem w_lald (C : kx_ok k) {a n t0 : Nat} {cA : ClassId} {f : Nat → Int64} {i : Int32} (q0 : Nat) (he : ws[q0]? = some (a, .inl (cA, n, .inr (.inl f)))) (ht : (kTy k)[t0]? = some (cA, .long)) (hi : vp_in i n) (d : decode (kCc k) pc = .ok (.laload, 1)) (h : WS k (pc + 1) lv (.long (f i.toNatClampNeg) :: st) ws ce sl) : WS k pc lv (.int i :: .ref a :: st) ws ce sl :=
  fun H locs ls hP hD hS hlv => va_lald C.1 C.2.1 (kx_K C) hP q0 t0 he ht hi d (h H locs ls hP hD hS hlv)
theorem w_aald (C : kx_ok k) {a n t0 : Nat} {cA : ClassId} {ty : FieldType} {f : Nat → Option Nat} {i : Int32} (q0 : Nat) (he : ws[q0]? = some (a, .inl (cA, n, .inr (.inr (.inr (.inr f)))))) (ht : (kTy k)[t0]? = some (cA, ty)) (hr : refKind ty = true) (hi : vp_in i n) (d : decode (kCc k) pc = .ok (.aaload, 1)) (h : WS k (pc + 1) lv (va_rf (f i.toNatClampNeg) :: st) ws ce sl) : WS k pc lv (.int i :: .ref a :: st) ws ce sl := by
  intro H locs ls hP hD hS hlv
  have hlt : i.toNatClampNeg < n := Nat.not_le.mp fun q => hi (Or.inr q)
  exact W.aald (v := va_rf (f i.toNatClampNeg)) (ty := ty) C.1 C.2.1 (hP q0 _ he) (((kx_K C).2 t0 _ ht).1 n (fun j => va_rf (f j))) hr (fun q => by cases q) (by show ¬ (i < 0 ∨ (arrV _ _ _).slots.size ≤ _); rw [arrV_size]; exact hi) (by show (arrV _ _ _).slots[_]? = _; rw [arrV_read _ _ hlt]) rfl rfl d (h H locs ls hP hD hS hlv)
theorem w_iast (C : kx_ok k) {a n t0 : Nat} {cA : ClassId} {f : Nat → Int32} {i x : Int32} (q0 : Nat) (he : ws[q0]? = some (a, .inl (cA, n, .inl f))) (ht : (kTy k)[t0]? = some (cA, .int)) (hi : vp_in i n) (d : decode (kCc k) pc = .ok (.iastore, 1)) (h : WS k (pc + 1) lv st (ws.set q0 (a, .inl (cA, n, .inl (upd f i.toNatClampNeg x)))) ce sl) : WS k pc lv (.int x :: .int i :: .ref a :: st) ws ce sl :=
  fun H locs ls hP hD hS hlv => va_iast C.1 C.2.1 (kx_K C) hP hD hS q0 t0 he ht hi d (fun H1 l1 p1 p2 p3 => h H1 l1 ls p1 p2 p3 hlv)
theorem w_zast (C : kx_ok k) {a n t0 : Nat} {cA : ClassId} {f : Nat → Int32} {i x : Int32} (q0 : Nat) (he : ws[q0]? = some (a, .inl (cA, n, .inl f))) (ht : (kTy k)[t0]? = some (cA, .boolean)) (hi : vp_in i n) (d : decode (kCc k) pc = .ok (.bastore, 1)) (h : WS k (pc + 1) lv st (ws.set q0 (a, .inl (cA, n, .inl (upd f i.toNatClampNeg (vp_nar .boolean x))))) ce sl) : WS k pc lv (.int x :: .int i :: .ref a :: st) ws ce sl :=
  fun H locs ls hP hD hS hlv => va_zast C.1 C.2.1 (kx_K C) hP hD hS q0 t0 he ht hi d (fun H1 l1 p1 p2 p3 => h H1 l1 ls p1 p2 p3 hlv)
theorem w_last (C : kx_ok k) {a n t0 : Nat} {cA : ClassId} {f : Nat → Int64} {i : Int32} {x : Int64} (q0 : Nat) (he : ws[q0]? = some (a, .inl (cA, n, .inr (.inl f)))) (ht : (kTy k)[t0]? = some (cA, .long)) (hi : vp_in i n) (d : decode (kCc k) pc = .ok (.lastore, 1)) (h : WS k (pc + 1) lv st (ws.set q0 (a, .inl (cA, n, .inr (.inl (vp_updL f i.toNatClampNeg x))))) ce sl) : WS k pc lv (.long x :: .int i :: .ref a :: st) ws ce sl :=
  fun H locs ls hP hD hS hlv => va_last C.1 C.2.1 (kx_K C) hP hD hS q0 t0 he ht hi d (fun H1 l1 p1 p2 p3 => h H1 l1 ls p1 p2 p3 hlv)
theorem w_aast (C : kx_ok k) {a n t0 ci v N : Nat} {cA : ClassId} {Cn : String} {T : u_T} {vs : List Value} {f : Nat → Option Nat} {i : Int32} (q0 qk : Nat) (he : ws[q0]? = some (a, .inl (cA, n, .inr (.inr (.inr (.inr f)))))) (ht : (kTy k)[t0]? = some (cA, .object Cn)) (hv : ws[qk]? = some (v, .inr (ci, vs))) (hc : vwCl[ci]? = some (Cn, T, N)) (hi : vp_in i n) (d : decode (kCc k) pc = .ok (.aastore, 1)) (h : WS k (pc + 1) lv st (ws.set q0 (a, .inl (cA, n, .inr (.inr (.inr (.inr (va_up f i.toNatClampNeg (some v)))))))) ce sl) : WS k pc lv (.ref v :: .int i :: .ref a :: st) ws ce sl :=
  fun H locs ls hP hD hS hlv => va_astq C.1 C.2.1 (kx_K C) hP hD hS q0 t0 qk ci he ht hv hc hi d (fun H1 l1 p1 p2 p3 => h H1 l1 ls p1 p2 p3 hlv)
theorem w_alen (C : kx_ok k) {a t0 : Nat} {cA : ClassId} {x : vp_A} {ty : FieldType} (q0 : Nat) (he : ws[q0]? = some (a, .inl (cA, x))) (ht : (kTy k)[t0]? = some (cA, ty)) (d : decode (kCc k) pc = .ok (.arraylength, 1)) (h : WS k (pc + 1) lv (.int (Int32.ofNat x.1) :: st) ws ce sl) : WS k pc lv (.ref a :: st) ws ce sl :=
  fun H locs ls hP hD hS hlv => va_alen C.1 C.2.1 (kx_K C) hP q0 t0 he ht rfl d (h H locs ls hP hD hS hlv)
theorem w_new (C : kx_ok k) {idx ci N : Nat} {Cn : String} {T : u_T} {ty : Nat → FieldType} {fs : List Value} (hc : cl_ok ci N Cn T ty) (hcl : Cond.classLink (kOwn k) idx Cn ∈ gT) (hins : Cond.instantiable Cn N ∈ gT) (hini : Cond.initialized Cn ∈ gT) (hfs : ∀ j, j < N → defaultValue (ty j) = vp_V fs j) (h1 : ce + 1 ≤ (kR k).cells) (h2 : sl + N ≤ (kR k).slots) (d : decode (kCc k) pc = .ok (.new idx, 3))
    (h : ∀ q : Nat, WS k (pc + 3) lv (.ref q :: st) (ws ++ [(q, .inr (ci, fs))]) (ce + 1) (sl + N)) : WS k pc lv st ws ce sl :=
  fun H locs ls hP hD hS hlv => va_new C.1 C.2.1 (kx_wd C) hc.2.1 ty hc.2.2.1 C.2.2.2.1 (kx_wd C _ hcl) (kx_wd C _ hins) (kx_wd C _ hini) (kx_K C) hP hD hS (kx_new C) hc.1 hfs h1 h2 d (fun q H1 p1 p2 p3 => h q H1 locs ls p1 p2 p3 hlv)
/-- the array's class of type t, as the tables have it -/
theorem kx_ty (C : kx_ok k) {t0 : Nat} {cA cB : ClassId} {ty : FieldType} (hno : ∀ n, ty ≠ .object n) (ht : (kTy k)[t0]? = some (cA, ty)) (h : va_RA (kS k) cB ty) : cB = cA := by
  have h1 := ((kx_K C).2 t0 _ ht).2
  cases ty with
  | object n => exact absurd rfl (hno n)
  | _ => exact Option.some.inj (Eq.trans (Eq.symm h) h1)
theorem kx_tyo (C : kx_ok k) {t0 : Nat} {cA cB : ClassId} {n : String} (ht : (kTy k)[t0]? = some (cA, .object n)) (h : va_RA (kS k) cB (.object n)) : cB = cA := by
  obtain ⟨_, _, -, -, -, h1⟩ := ((kx_K C).2 t0 _ ht).2
  obtain ⟨_, _, -, -, -, h2⟩ := h
  exact Option.some.inj (h2.symm.trans h1)
theorem w_newa (C : kx_ok k) {atype : ArrayType} {ty : FieldType} {n : Int32} {N t0 : Nat} {cA : ClassId} {a0 : vp_A} (harr : Cond.arrayClass ty ∈ gT) (hty : newarray.typeOf atype = ty) (hno : ∀ n, ty ≠ .object n) (ht : (kTy k)[t0]? = some (cA, ty)) (ha : vp_cell cA a0 = arrV cA N (fun _ => defaultValue ty)) (ha2 : ∀ c : ClassId, vp_cell c a0 = arrV c N (fun _ => defaultValue ty)) (hn : ¬ n < 0) (hN : n.toNatClampNeg = N) (hb : N * componentBytes ty ≤ 536870912) (h1 : ce + 1 ≤ (kR k).cells) (h2 : sl + N ≤ (kR k).slots) (d : decode (kCc k) pc = .ok (.newarray atype, 2))
    (h : ∀ q : Nat, WS k (pc + 2) lv (.ref q :: st) (ws ++ [(q, .inl (cA, a0))]) (ce + 1) (sl + N)) : WS k pc lv (.int n :: st) ws ce sl := by
  intro H locs ls hP hD hS hlv
  refine va_newa C.1 C.2.1 (by rw [hty]; exact kx_wd C _ harr) hty (kx_K C) hP hD hS (kx_new C) ha2 hn hN hb h1 h2 d (fun q cB H1 hK p1 p2 p3 => ?_)
  have e : cB = cA := kx_ty C hno ht (hK.2 (kTy k).length (cB, ty) (by simp)).2
  subst e
  exact h q H1 locs ls p1 p2 p3 hlv
theorem w_newq (C : kx_ok k) {idx t0 N : Nat} {Cn : String} {n : Int32} {cA : ClassId} (hcl : Cond.classLink (kOwn k) idx Cn ∈ gT) (hov : va_AO Cn (kS k)) (ht : (kTy k)[t0]? = some (cA, .object Cn)) (hn : ¬ n < 0) (hN : n.toNatClampNeg = N) (hb : N * 4 ≤ 536870912) (h1 : ce + 1 ≤ (kR k).cells) (h2 : sl + N ≤ (kR k).slots) (d : decode (kCc k) pc = .ok (.anewarray idx, 3))
    (h : ∀ q : Nat, WS k (pc + 3) lv (.ref q :: st) (ws ++ [(q, .inl (cA, N, .inr (.inr (.inr (.inr (fun _ => none))))))]) (ce + 1) (sl + N)) : WS k pc lv (.int n :: st) ws ce sl := by
  intro H locs ls hP hD hS hlv
  refine va_newq C.1 C.2.1 C.2.2.2.1 (kx_wd C _ hcl) hov (kx_K C) hP hD hS (kx_new C) hn hN hb h1 h2 d (fun q cB H1 hK p1 p2 p3 => ?_)
  have e : cB = cA := kx_tyo C ht (hK.2 (kTy k).length (cB, .object Cn) (by simp)).2
  subst e
  exact h q H1 locs ls p1 p2 p3 hlv
theorem w_objInit (C : kx_ok k) {idx a : Nat} (hl : Cond.methodLink (kOwn k) idx Lib.objectInit ∈ gT) (hi : Cond.instanceMethod Lib.objectInit ∈ gT) (hc : Cond.code Lib.objectInit ⟨#[0xb1]⟩ 1 none ∈ gT) (d : decode (kCc k) pc = .ok (.invokespecial idx, 3)) (h1 : 1 ≤ (kR k).frames) (h2 : (st.map fun v => v.category).sum + 12 ≤ (kR k).locals) (h : WS k (pc + 3) lv st ws ce sl) : WS k pc lv (.ref a :: st) ws ce sl :=
  fun H locs ls hP hD hS hlv => W.objInit C.1 C.2.1 C.2.2.2.1 (kx_wd C _ hl) (kx_wd C _ hi) (kx_wd C _ hc) rfl (hlv.1.trans C.2.2.1.symm) rfl d h1 (by simpa using h2) (h H locs ls hP hD hS hlv)
theorem w_widen {ce' sl' : Nat} (h1 : ce ≤ ce') (h2 : sl ≤ sl') (h : WS k pc lv st ws ce' sl') : WS k pc lv st ws ce sl :=
  fun H locs ls hP hD hS hlv => W.widen h1 h2 (h H locs ls hP hD hS hlv)
end L2
end
section
/-! Layer 1: methods by their whole run, calls, returns, throws -/
/-- how a method ends: with a value (or none), or by an exception of a class -/
abbrev mb_O : Type := Option Value ⊕ String
abbrev mb_F (s0 : State) : Nat → Prop := fun q => s0.heap.size ≤ q
def mb_Q (s0 : State) (D : va_G) (K : mb_O → va_W → Prop) : Array Value → State → Outcome → State → Prop := fun _ st oc t =>
  ∃ (v : Option Value) (ws : va_W), oc = .returned v ∧ K (.inl v) ws ∧ va_P D vwCl ws t.heap ∧ va_D (mb_F s0) ws ∧ va_F (mb_F s0) st t
def mb_X (s0 : State) (D : va_G) (K : mb_O → va_W → Prop) : String → State → State → Prop := fun E st t =>
  ∃ ws : va_W, K (.inr E) ws ∧ va_P D vwCl ws t.heap ∧ va_D (mb_F s0) ws ∧ va_F (mb_F s0) st t
def mb_B (s0 : State) (D : va_G) (ws : va_W) : State → Prop := fun U =>
  s0.WarmedH U.vm ∧ s0.heap.size ≤ U.heap.size ∧ (∀ q : Nat, q < s0.heap.size → U.heap[q]? = s0.heap[q]?) ∧ va_P D vwCl ws U.heap ∧ va_D (mb_F s0) ws
/-- the method y, called with vals in the world ws, ends in one of the ways K -/
def MB (l : Launch) (s0 : State) (D : va_G) (y : MethodName) (wd : Cond) (rm : Room) (vals : List Value) (ws : va_W) (K : mb_O → va_W → Prop) : Prop :=
  vx_Met l y [wd] rm (va_Pc vals (mb_B s0 D ws)) (mb_Q s0 D K) (mb_X s0 D K) rm.cells rm.slots (mb_F s0)
theorem mb_blind {s0 : State} {D : va_G} {ws : va_W} {vals : List Value} : FrameBlind (va_Pc vals (mb_B s0 D ws)) := fun _ _ _ _ q => q
/-- thrown over the frame: an exception of class E -/
def WX (k : kx_T) (pc : Nat) (lv : List (Nat × Value)) (st : List Value) (ws : va_W) (E : String) (ce sl : Nat) : Prop :=
  ∀ (H : Heap) (locs : List Loc) (ls : Array Slot) (q : Addr) (cell : Cell), va_P (kD k) vwCl ws H → va_D (kF k) ws → va_S (kF k) (kS k).heap H locs → lv_has ls (kN k) lv → H[q]? = some cell → cell.vm = .none → (kS k).vm.findClass E = some cell.cls →
    vx_W (kP k) (kL k) (kE k) (kR k) (kS k) (kM k) (kA k) (kB k) (kMe k) (kC k) H locs ce sl (kQ k) (F0 (kM k) pc ls st) q
section L3
variable {k : kx_T} {pc : Nat} {lv : List (Nat × Value)} {st : List Value} {ws : va_W} {ce sl : Nat} {K : mb_O → va_W → Prop} {y : MethodName} {rm : Room} {bytes : ByteArray} {maxL : Nat} {ret : Option FieldType}
/-- behind a call, whatever it brought -/
theorem w_run {H : Heap} {locs : List Loc} {ls : Array Slot} {st0 rest : List Value} {mc ms : Nat} {a : Array Value} (hl : lv_has ls (kN k) lv) (hS : va_S (kF k) (kS k).heap H locs)
    (hr : vx_Run (kP k) (kL k) (kE k) (kR k) (kS k) (kM k) (kA k) (kB k) (kMe k) (kC k) H locs ce sl mc ms (F0 (kM k) pc ls st0) rest (mb_Q (kS0 k) (kD k) K a) (mb_X (kS0 k) (kD k) K) (mb_F (kS0 k)))
    (h1 : ∀ v ws', K (.inl v) ws' → WS k (pc + 3) lv (v.toList ++ rest) ws' (ce + mc) (sl + ms)) (h2 : ∀ E ws', K (.inr E) ws' → WX k pc lv rest ws' E (ce + mc) (sl + ms)) :
    kx_W k H locs ce sl (F0 (kM k) pc ls st0) := by
  intro T hT X
  rcases hr T hT X with ⟨v, st₀, t, T', L, h0, X', hL, e1, e2, ⟨v', ws', hv, hK, hP', hD', hF⟩, stp⟩ | ⟨q, st₀, t, T', L, E, cx, h0, X', hL, e1, e2, ⟨ws', hK, hP', hD', hF⟩, hce, hcv, hcl, stp⟩
  · cases hv
    obtain ⟨-, -, k3⟩ := vx_keep (A0 := kF k) (A1 := kF k) h0 e1 hS (fun _ _ q => q) (fun _ q => q) hL hF
    obtain ⟨t2, a1, b1⟩ := h1 v ws' hK T'.heap (locs ++ L) ls (by rw [e1]; exact hP') hD' k3 hl T' rfl X'
    exact ⟨t2, stp t2 a1, b1⟩
  · obtain ⟨-, -, k3⟩ := vx_keep (A0 := kF k) (A1 := kF k) h0 e1 hS (fun _ _ q => q) (fun _ q => q) hL hF
    obtain ⟨t2, a1, b1⟩ := h2 E ws' hK T'.heap (locs ++ L) ls q cx (by rw [e1]; exact hP') hD' k3 hl (by rw [e1]; exact hce) hcv hcl T' rfl X'
    exact ⟨t2, stp.trans a1, b1⟩
theorem kx_B (C : kx_ok k) {H : Heap} {locs : List Loc} (hP : va_P (kD k) vwCl ws H) (hD : va_D (kF k) ws) (hS : va_S (kF k) (kS k).heap H locs) : ∀ U : State, U.heap = H → (kS k).WarmedH U.vm → mb_B (kS0 k) (kD k) ws U := by
  intro U hU hW
  have h7 := C.2.2.2.2.2.2.1
  refine ⟨State.WarmedH.trans C.2.2.2.2.1 hW, by rw [hU]; exact Nat.le_trans h7 hS.1, fun q hq => ?_, by rw [hU]; exact hP, hD⟩
  rw [hU, hS.2.1 q (Nat.lt_of_lt_of_le hq h7) (Nat.not_le.mpr hq)]
  exact C.2.2.2.2.2.2.2.1 q hq
/-- what a call of y wants of words and room -/
def cb_ok (k : kx_T) (idx : Nat) (y : MethodName) (bytes : ByteArray) (maxL : Nat) (ret : Option FieldType) (rm : Room) (n : Nat) : Prop :=
  Cond.methodLink (kOwn k) idx y ∈ gT ∧ Cond.code y bytes maxL ret ∈ gT ∧ Cond.initialized y.cls ∈ gT ∧ (y.cls ≠ "java/lang/invoke/MethodHandle" ∧ y.cls ≠ "java/lang/invoke/VarHandle" ∧ (parseMethodDescriptor y.desc).map (fun d => d.parameters.length) = some n) ∧
  rm.frames + 1 ≤ (kR k).frames ∧ 8 + (maxL + 11) + rm.locals ≤ (kR k).locals
theorem cb_B (C : kx_ok k) {idx n : Nat} (h : cb_ok k idx y bytes maxL ret rm n) : CallB (kR k) (kS k) (kA k) (kOwn k) idx y bytes maxL ret [Cond.code y bytes maxL ret] rm rm.cells rm.slots n := by
  obtain ⟨h1, h2, h3, h4, h5, h6⟩ := h
  exact callB_of n (kx_wd C) (fun w hw => by
    rw [List.mem_singleton.mp hw]
    exact ⟨h2, good_of_word (List.mem_filter.mp h2).2⟩) rfl rfl rfl (kx_wd C _ h3) (kx_wd C _ h1) h4 ⟨h5, h6⟩
theorem w_callV (C : kx_ok k) {idx n q0 ci N b : Nat} {T : u_T} {fs As : List Value} (cb : cb_ok k idx y bytes maxL ret rm n) (hi : Cond.instanceMethod y ∈ gT) (hse : Cond.selects y.cls y y ∈ gT) (hM : MB (kL k) (kS0 k) (kD k) y (.code y bytes maxL ret) rm (.ref b :: As) ws K)
    (he : ws[q0]? = some (b, .inr (ci, fs))) (hc : vwCl[ci]? = some (y.cls, T, N)) (hn : As.length = n) (hw : (st.map fun v => v.category).sum ≤ 8) (hf : ce + rm.cells ≤ (kR k).cells ∧ sl + rm.slots ≤ (kR k).slots) (d : decode (kCc k) pc = .ok (.invokevirtual idx, 3))
    (h1 : ∀ v ws', K (.inl v) ws' → WS k (pc + 3) lv (v.toList ++ st) ws' (ce + rm.cells) (sl + rm.slots)) (h2 : ∀ E ws', K (.inr E) ws' → WX k pc lv st ws' E (ce + rm.cells) (sl + rm.slots)) : WS k pc lv (As.reverse ++ .ref b :: st) ws ce sl := by
  intro H locs ls hP hD hS hl
  refine w_run (K := K) hl hS (vx_runV (C := y.cls) (As := As) (rest := st) ⟨C.1, C.2.1, C.2.2.1, C.2.2.2.1, kx_wd C⟩ hM ⟨cb_B C cb, kx_wd C _ hi, kx_wd C _ hse⟩ ⟨mb_blind, va_recv (kx_K C) hP hc he, fun U hU hW => ⟨rfl, kx_B C hP hD hS U hU hW⟩⟩ rfl hn hl.1 rfl ?_ d hf) h1 h2
  simpa using hw
theorem w_callS (C : kx_ok k) {idx n : Nat} {As : List Value} (cb : cb_ok k idx y bytes maxL ret rm n) (hi : Cond.static y ∈ gT) (hM : MB (kL k) (kS0 k) (kD k) y (.code y bytes maxL ret) rm As ws K)
    (hn : As.length = n) (hw : (st.map fun v => v.category).sum ≤ 8) (hf : ce + rm.cells ≤ (kR k).cells ∧ sl + rm.slots ≤ (kR k).slots) (d : decode (kCc k) pc = .ok (.invokestatic idx, 3))
    (h1 : ∀ v ws', K (.inl v) ws' → WS k (pc + 3) lv (v.toList ++ st) ws' (ce + rm.cells) (sl + rm.slots)) (h2 : ∀ E ws', K (.inr E) ws' → WX k pc lv st ws' E (ce + rm.cells) (sl + rm.slots)) : WS k pc lv (As.reverse ++ st) ws ce sl := by
  intro H locs ls hP hD hS hl
  refine w_run (K := K) hl hS (vx_runS (As := As) (rest := st) ⟨C.1, C.2.1, C.2.2.1, C.2.2.2.1, kx_wd C⟩ hM ⟨cb_B C cb, kx_wd C _ hi⟩ ⟨mb_blind, fun U hU hW => ⟨rfl, kx_B C hP hD hS U hU hW⟩⟩ rfl hn hl.1 rfl ?_ d hf) h1 h2
  simpa using hw
/-- a method that never throws -/
theorem mb_noX {l : Launch} {s0 : State} {D : va_G} {wd : Cond} {vals : List Value} (h : MB l s0 D y wd rm vals ws K) (hx : ∀ E ws', ¬ K (.inr E) ws') : Met l y [wd] rm (va_Pc vals (mb_B s0 D ws)) (mb_Q s0 D K) rm.cells rm.slots (mb_F s0) := by
  intro p e h1 h2 h3 s m args below hf ha hP hK
  obtain ⟨n, o, a1, a2, a3, a4⟩ := h p e h1 h2 h3 s m args below hf ha hP hK
  refine ⟨n, o, a1, a2, a3, ?_⟩
  rcases a4 with a4 | ⟨q, -, E, ce, L, ⟨ws', hk, -⟩, -⟩
  · exact a4
  · exact absurd hk (hx E ws')
/-- a call by Met, run -/
theorem w_runM {H : Heap} {locs : List Loc} {ls : Array Slot} {st0 rest : List Value} {mc ms : Nat} {a : Array Value} (hl : lv_has ls (kN k) lv) (hS : va_S (kF k) (kS k).heap H locs)
    (hr : va_Run (kP k) (kL k) (kE k) (kR k) (kS k) (kM k) (kA k) (kB k) (kMe k) (kC k) H locs ce sl mc ms (F0 (kM k) pc ls st0) rest (mb_Q (kS0 k) (kD k) K a) (mb_F (kS0 k)))
    (h1 : ∀ v ws', K (.inl v) ws' → WS k (pc + 3) lv (v.toList ++ rest) ws' (ce + mc) (sl + ms)) :
    kx_W k H locs ce sl (F0 (kM k) pc ls st0) := by
  intro T hT X
  obtain ⟨v, st₀, t, T', L, h0, X', hL, e1, e2, ⟨v', ws', hv, hK, hP', hD', hF⟩, stp⟩ := hr T hT X
  cases hv
  obtain ⟨-, -, k3⟩ := vx_keep (A0 := kF k) (A1 := kF k) h0 e1 hS (fun _ _ q => q) (fun _ q => q) hL hF
  obtain ⟨t2, a1, b1⟩ := h1 v ws' hK T'.heap (locs ++ L) ls (by rw [e1]; exact hP') hD' k3 hl T' rfl X'
  exact ⟨t2, stp t2 a1, b1⟩
theorem w_callI (C : kx_ok k) {idx n b : Nat} {As : List Value} (cb : cb_ok k idx y bytes maxL none rm n) (hy : y.name = "<init>") (hi : Cond.instanceMethod y ∈ gT) (hM : MB (kL k) (kS0 k) (kD k) y (.code y bytes maxL none) rm (.ref b :: As) ws K) (hx : ∀ E ws', ¬ K (.inr E) ws')
    (hn : As.length = n) (hw : (st.map fun v => v.category).sum ≤ 8) (hf : ce + rm.cells ≤ (kR k).cells ∧ sl + rm.slots ≤ (kR k).slots) (d : decode (kCc k) pc = .ok (.invokespecial idx, 3))
    (h1 : ∀ v ws', K (.inl v) ws' → WS k (pc + 3) lv (v.toList ++ st) ws' (ce + rm.cells) (sl + rm.slots)) : WS k pc lv (As.reverse ++ .ref b :: st) ws ce sl := by
  intro H locs ls hP hD hS hl
  refine w_runM (K := K) hl hS (va_runI (As := As) (rest := st) ⟨C.1, C.2.1, C.2.2.1, C.2.2.2.1, kx_wd C⟩ (mb_noX hM hx) ⟨cb_B C cb, hy, kx_wd C _ hi⟩ ⟨mb_blind, fun U hU hW => ⟨rfl, kx_B C hP hD hS U hU hW⟩⟩ rfl hn hl.1 rfl ?_ d hf) h1
  simpa using hw
/-- how an activation is to end: the ways K, room mc ms -/
def kx_end (k : kx_T) (K : mb_O → va_W → Prop) (mc ms : Nat) : Prop := kQ k = vx_MQ (kB k) (mb_Q (kS0 k) (kD k) K) (mb_X (kS0 k) (kD k) K) (kA k) (kS k) mc ms (mb_F (kS0 k))
theorem w_vret (C : kx_ok k) {mc ms : Nat} (q : kx_end k K mc ms) (hr : (kMe k).sig.returnType = none) (d : decode (kCc k) pc = .ok (.return_, 1)) (h1 : ce ≤ mc) (h2 : sl ≤ ms) (h : K (.inl none) ws) : WS k pc lv [] ws ce sl := by
  intro H locs ls hP hD hS hl
  show W _ _ _ _ _ _ _ _ _ _ _ _ _ _ (kQ k) _
  rw [q]
  refine vx_ret (W.widen h1 h2 (W.vret C.1 C.2.1 hr (fun t ht hW => ?_) (fun z hz => hS.2.2 z hz) d C.2.2.2.2.2.2.2.2.1))
  exact ⟨none, ws, rfl, h, by rw [ht]; exact hP, hD, hS.F ht⟩
theorem w_iret (C : kx_ok k) {mc ms : Nat} {x : Int32} {ty : FieldType} (q : kx_end k K mc ms) (hr : (kMe k).sig.returnType = some ty) (hn : narrow ty (.int x) = .int x) (d : decode (kCc k) pc = .ok (.ireturn, 1)) (h1 : ce ≤ mc) (h2 : sl ≤ ms) (h : K (.inl (some (.int x))) ws) : WS k pc lv [.int x] ws ce sl := by
  intro H locs ls hP hD hS hl
  show W _ _ _ _ _ _ _ _ _ _ _ _ _ _ (kQ k) _
  rw [q]
  refine vx_ret (W.widen h1 h2 (W.zret C.1 C.2.1 hr hn (fun t ht hW => ?_) (fun z hz => hS.2.2 z hz) d C.2.2.2.2.2.2.2.2.1))
  exact ⟨some (.int x), ws, rfl, h, by rw [ht]; exact hP, hD, hS.F ht⟩
theorem w_lret (C : kx_ok k) {mc ms : Nat} {x : Int64} (q : kx_end k K mc ms) (hr : (kMe k).sig.returnType = some .long) (d : decode (kCc k) pc = .ok (.lreturn, 1)) (h1 : ce ≤ mc) (h2 : sl ≤ ms) (h : K (.inl (some (.long x))) ws) : WS k pc lv [.long x] ws ce sl := by
  intro H locs ls hP hD hS hl
  show W _ _ _ _ _ _ _ _ _ _ _ _ _ _ (kQ k) _
  rw [q]
  refine vx_ret (W.widen h1 h2 (W.lret C.1 C.2.1 hr (fun t ht hW => ?_) (fun z hz => hS.2.2 z hz) d C.2.2.2.2.2.2.2.2.1))
  exact ⟨some (.long x), ws, rfl, h, by rw [ht]; exact hP, hD, hS.F ht⟩
/-- an exception that no row of the table takes goes on to the caller -/
theorem x_out (C : kx_ok k) {mc ms : Nat} {E : String} (q : kx_end k K mc ms) (hout : ∀ x ∈ (kC k).exceptionTable.toList, covers x pc = false) (h1 : ce ≤ mc) (h2 : sl ≤ ms) (h : K (.inr E) ws) : WX k pc lv st ws E ce sl := by
  intro H locs ls a cell hP hD hS hl hc hv hcl
  show vx_W _ _ _ _ _ _ _ _ _ _ _ _ _ _ (kQ k) _ _
  rw [q]
  exact vx_out hout C.2.2.2.2.2.2.2.2.1 hc hv hcl (fun t ht _ => ⟨ws, h, by rw [ht]; exact hP, hD, hS.F ht⟩) (fun z hz => hS.2.2 z hz) h1 h2
end L3
end
section
/-! Throws of exceptions whose constructor links its super's at any place of its pool: th_ctor follows the library's ctorThrowS, with chainSX for chainS; vx_throwX, vx_throwXW follow the printed vx_throwS, vx_throwSW -/
def vx_atX (own : String) (ic : Nat) (X : String) (ix : Nat) (rx : ByteArray) (names : List String) : List Cond := (Bundle.ownAtomsX own ic X ix rx names).filter vx_no
section THX
variable {p : Program} {l : Launch} {e : Env} {R : Room} {s : State} {m₀ : MethodId} {args : Array Value} {below : List Frame} {meth : Method} {c : Code} {W : State} {locs : List Loc} {cells slots : Nat}
set_option maxHeartbeats 1000000 in
theorem th_ctor (X : Stand p l e R s m₀ args below meth c W locs cells slots) (hexec : p.tables.exec = Jvm.exec) (htr : e.platform.stackTraces = false) {own cls : String} {names : List String} {ic ix : Nat} {rx : ByteArray}
    (x0 : decode rx 0 = .ok (.aload_n 0, 1)) (x1 : decode rx 1 = .ok (.aload_n 1, 1)) (x2 : decode rx 2 = .ok (.invokespecial ix, 3)) (x5 : decode rx 5 = .ok (.return_, 1))
    (hown : s.vm.findClass own = some m₀.cls) (hcls : Bundle.fit cls = true) (hnames : ∀ n ∈ names, Bundle.fit n = true)
    (h : ∀ a ∈ Bundle.ownAtomsX own ic cls ix rx names, a.before args s = true)
    (hlocs : ∀ x ∈ locs, ∀ cell, s.heap[x.base]? = some cell → cell.vm.isStatics = false)
    {a : Addr} {cX : ClassId} {kX : Class} (hfoundX : s.vm.findClass cls = some cX) (hkX : s.vm.classes[cX]? = some kX) (hcell : W.heap[a]? = some (freshCell cX kX)) (hnew : s.heap.size ≤ a)
    {msg : Value} (hmsg : msg.isRef = true)
    {g : JFrame} (hg : g.method = m₀) (hsize : g.locals.size = c.maxLocals) (hlocked : g.locked = none) (hentered : g.entered = []) {rest : List Value} (hstack : g.stack = msg :: .ref a :: .ref a :: rest)
    (hd6 : decode c.code g.pc = .ok (.invokespecial ic, 3)) (hd9 : decode c.code (g.pc + 3) = .ok (.athrow, 1)) (hout : ∀ x ∈ c.exceptionTable.toList, covers x (g.pc + 3) = false)
    (hRframes : names.length + 3 < R.frames) (hRlocals : 2 * g.monitorRoom + ((Value.ref a :: rest).map fun v => v.category).sum + (13 * (names.length + 1) + 42) ≤ R.locals) (hlocks : meth.locks = false) :
    ∃ U : State, Steps p.tables e below (W.setTop g) U ∧ U.status = .running ∧ Ended U below (.threw a) ∧ s.WarmedH U.vm ∧ s.sameButNew ({ U with vm := s.vm } : State) locs cells slots ∧
      ∃ ce, U.heap[a]? = some ce ∧ ce.vm = .none ∧ s.vm.findClass cls = some ce.cls := by
  have howns : e.platform.frameOwnsMonitors = true := by rw [X.admits.platform]
  have hfin : e.platform.finalization = false := by rw [X.admits.platform]
  have hpl : e.platform.magicAccessors = ({} : Platform).magicAccessors := by rw [X.admits.platform]
  have a' : ∀ x, x ∈ Bundle.ownAtomsX own ic cls ix rx names → x.holds args s none s [] = true := fun x hx => h x hx
  obtain ⟨T, Z0, L, -, Y⟩ := ThrowableC.of_atoms (args := args) howns hfin hpl (fun x hx => h x (by simp [Bundle.ownAtomsX, hx]))
  obtain ⟨Z, M, LZ, LM, hnZ⟩ := Init0T.ofS_atoms (args := args) hpl L Y (fun x hx => h x (by simp [Bundle.ownAtomsX, hx]))
  obtain ⟨P1, Ps, hlen, L1, hL, hP1m, hlink1, hlink⟩ := Bundle.chainSX (args := args) hpl hnZ x0 x1 x2 x5 names cls hcls hnames (fun x hx => h x (by simp [Bundle.ownAtomsX, hx]))
  have hfound : s.vm.findClass cls = some P1.m.cls := findClass_of_methodNamed hP1m
  cases Option.some.inj (hfoundX.symm.trans hfound)
  obtain ⟨c1, kX', hc1, hk, hord, -, -, hn6⟩ := Cond.instantiable_spec (a' (.instantiable cls 6) (by simp [Bundle.ownAtomsX]))
  cases Option.some.inj (hc1.symm.trans hfound)
  cases Option.some.inj (hkX.symm.trans hk)
  have hsel0 : selectMethod e.platform s.vm P1.m.cls T.fill0 = .method T.fill0 := by
    obtain ⟨c2, r2, m2, q1, q2, q3, q4, -⟩ := Cond.selects_spec (a' (.selects cls Bundle.tFill0 Bundle.tFill0) (by simp [Bundle.ownAtomsX]))
    cases Option.some.inj (q1.symm.trans hfound)
    cases Option.some.inj (q2.symm.trans (State.methodFound?_of_named Y.fill0 (by decide)))
    cases Option.some.inj (q3.symm.trans Y.fill0)
    rw [Launch.admits_selectMethod X.admits]; exact q4
  have hselF : selectMethod e.platform s.vm P1.m.cls T.fill = .method T.fill := by
    obtain ⟨c2, r2, m2, q1, q2, q3, q4, -⟩ := Cond.selects_spec (a' (.selects cls Bundle.tFill Bundle.tFill) (by simp [Bundle.ownAtomsX]))
    cases Option.some.inj (q1.symm.trans hfound)
    cases Option.some.inj (q2.symm.trans (State.methodFound?_of_named Y.fill (by decide)))
    cases Option.some.inj (q3.symm.trans Y.fill)
    rw [Launch.admits_selectMethod X.admits]; exact q4
  obtain ⟨cellS0, hcS0, hiss⟩ := Y.statics
  obtain ⟨u0, hu0⟩ := Cond.staticRefV Y.unassigned L.unassignedStatic L.statics hcS0 hiss (a' (.isRef (.static Bundle.tN "UNASSIGNED_STACK" Bundle.steD)) (by simp [Bundle.ownAtomsX]))
  obtain ⟨sen, hsen⟩ := Cond.staticRefV Y.sentinel L.sentinelStatic L.statics hcS0 hiss (a' (.isRef (.static Bundle.tN "SUPPRESSED_SENTINEL" Bundle.listD)) (by simp [Bundle.ownAtomsX]))
  obtain ⟨ci198, i198, fB, hk198, hg198, ha198, hsB, -, hnB, htB, hffB⟩ := Cond.ownField (t := .object "java/lang/Object") Y.found L.cls (by decide +kernel) (a' (.fieldLink Bundle.tN 198 Bundle.tN "backtrace" "Ljava/lang/Object;") (by simp [Bundle.ownAtomsX])) (a' (.lays Bundle.tN Bundle.tN "backtrace" "Ljava/lang/Object;") (by simp [Bundle.ownAtomsX])) e.platform hpl
  obtain ⟨cellS, hcS', heS, -, hkeep⟩ := X.same.2.2.2.2.2 T.aS cellS0 hcS0
  have hcellS : W.heap[T.aS]? = some cellS := hcS'
  have hout' : ∀ i, (⟨T.aS, i⟩ : Loc) ∉ locs := fun i hmem => by
    have := hlocs _ hmem cellS0 hcS0
    rw [hiss] at this; cases this
  have hknownS : cellS.vm ≠ .unknown := by
    rw [heS]; intro hu
    rw [show cellS0.vm = .unknown from hu] at hiss
    cases hiss
  have hneS : T.aS ≠ a := Nat.ne_of_lt (Nat.lt_of_lt_of_le (Array.getElem?_eq_some_iff.mp hcS0).1 hnew)
  obtain ⟨iM, hffM⟩ := Y.msg
  obtain ⟨tyC, dC, hdC, hdnC⟩ := Cond.laysAt hfound hk Y.cause (a' (.lays cls Bundle.tN "cause" "Ljava/lang/Throwable;") (by simp [Bundle.ownAtomsX]))
  obtain ⟨tyS, dS, hdS, hdnS⟩ := Cond.laysAt hfound hk Y.stack (a' (.lays cls Bundle.tN "stackTrace" Bundle.steD) (by simp [Bundle.ownAtomsX]))
  obtain ⟨tyP, dP, hdP, hdnP⟩ := Cond.laysAt hfound hk Y.supp (a' (.lays cls Bundle.tN "suppressedExceptions" Bundle.listD) (by simp [Bundle.ownAtomsX]))
  obtain ⟨tyM, dM, hdM, hdnM⟩ := Cond.laysAt hfound hk hffM (a' (.lays cls Bundle.tN "detailMessage" "Ljava/lang/String;") (by simp [Bundle.ownAtomsX]))
  obtain ⟨tyB, dB, hdB, hdnB⟩ := Cond.laysAt hfound hk hffB (a' (.lays cls Bundle.tN "backtrace" "Ljava/lang/Object;") (by simp [Bundle.ownAtomsX]))
  have bC := Cond.laysApart hdB hdC hdnB hdnC (by rw [hnB, Y.causeName]; decide)
  have bS := Cond.laysApart hdB hdS hdnB hdnS (by rw [hnB, Y.stackName]; decide)
  have bP := Cond.laysApart hdB hdP hdnB hdnP (by rw [hnB, Y.suppName]; decide)
  have hskip : SkipFacts T e.platform s (fun u => u) u0 ((preparedCellV T.toThrowableT (freshCell P1.m.cls kX) a u0 sen).withEntry W.cur) :=
    ⟨{ ci198 := ci198, i198 := i198, fBack := fB }, ⟨hk198, hg198, ha198, hsB⟩, by
      have := fresh_default (c := P1.m.cls) tyB
      rw [htB] at this
      simpa [preparedCellV, Cell.setSlot, Cell.withEntry, Array.getElem?_setIfInBounds, bC, bS, bP, bC.symm, bS.symm, bP.symm, defaultValue] using this, fun _ _ => rfl⟩
  obtain ⟨tm, methC, cdC, kC, vm₁, hnC, -, -, -, -, -, -, -, hW₁, st1⟩ := Steps.initColdS (tb := p.tables) (e := e) (below := below) (s := s) (U := W) X.here hexec X.warmed hpl hown (t := Bundle.initS cls) rfl rfl (Bundle.fit_spec hcls).2
    (a' (.methodLink own ic (Bundle.initS cls)) (by simp [Bundle.ownAtomsX])) (h (.instanceMethod (Bundle.initS cls)) (by cases names <;> simp [Bundle.ownAtomsX, Bundle.chainSAtomsX, Bundle.passSAtoms])) (bytes := rx) (maxL := 2) (h (.code (Bundle.initS cls) rx 2 none) (by cases names <;> simp [Bundle.ownAtomsX, Bundle.chainSAtomsX, Bundle.passSAtoms]))
    (f := g) hg (a := a) (msg := msg) (rest := .ref a :: rest) hstack hd6
  cases Option.some.inj (hnC.symm.trans hP1m)
  have X₁ := X.noted hW₁
  obtain ⟨vm₂, X₂, st2⟩ := X₁.ctorMessageOffV hexec (g := { g with stack := .ref a :: rest }) hg hsize T L Z LZ M LM (P1 :: Ps)
    (fun P hP => by rcases List.mem_cons.mp hP with rfl | hP; exact L1; exact hL P hP) ⟨hlink1, hlink⟩ (u0 := u0) (sen := sen) (self := a) hmsg (cell := freshCell P1.m.cls kX) (cellS := cellS)
    hcell (fun _ => by simp) (by simp) rfl rfl hsel0 hselF hcellS hneS hknownS (by rw [hkeep _ (hout' _)]; exact hu0) (by rw [hkeep _ (hout' _)]; exact hsen)
    (Takes.of_laid hk hord tyC (by rw [Y.causeType]; rfl)) (Takes.of_laid hk hord tyS (by rw [Y.stackType]; exact fits_refV_array _ u0)) (Takes.of_laid hk hord tyP (by rw [Y.suppType]; exact fits_refV_object _ sen))
    (Takes.of_laid hk hord tyM (by rw [Y.msgType]; exact fits_refV_object _ ⟨msg, hmsg⟩)) Y.objLocals hskip htr [] hd6
    (by simp only [List.length_cons, hlen]; omega) (by simp only [List.length_cons, hlen]; exact hRlocals)
  obtain ⟨hwalk, hrun, hended, hWU, hsame⟩ := X₂.athrowLeaves hexec (g := { g with stack := .ref a :: rest, pc := g.pc + 3 }) hg hlocked hentered hout (a := a) (rest := rest) rfl hd9
  have hlt : a < ((W.setVm vm₁).setVm vm₂).heap.size := (Array.getElem?_eq_some_iff.mp hcell).1
  have hU := heapAt_setCell_self (s := (W.setVm vm₁).setVm vm₂) (plainBareV T.toThrowableT (freshCell P1.m.cls kX) a u0 sen msg) hlt
  refine ⟨_, st1 _ (fun acts => ?_), hrun, hended, hWU, hsame.weaken (fun y hy hlt' => ?_) (Nat.le_refl _) (Nat.le_refl _), _, hU, rfl, hfound⟩
  · rw [doInvoke_state]
    exact st2 _ hwalk
  · rcases List.mem_append.mp hy with h1 | h1
    · exact h1
    · exfalso
      have hb : y.base = a := by
        simp only [List.mem_cons, List.not_mem_nil, or_false] at h1
        rcases h1 with rfl | rfl | rfl | rfl | rfl <;> rfl
      rw [hb] at hlt'
      exact Nat.not_lt.mpr hnew hlt'
end THX
section THY
variable {p : Program} {l : Launch} {e : Env} {R : Room} {s : State} {m : MethodId} {args : Array Value} {below : List Frame} {meth : Method} {c : Code} {H : Heap} {locs : List Loc} {cells slots : Nat} {Q : State → Prop}
variable {mc ms : Nat} {free : Addr → Prop} {A0 A1 : Nat → Prop} {H0 : Heap} {a : Array Value} {ls : Array Slot} {st0 rest : List Value}
variable {Qc : Array Value → State → Outcome → State → Prop} {XC : String → State → State → Prop}
theorem vx_throwX {cc : ByteArray} {pc : Nat} (hexec : p.tables.exec = Jvm.exec) (hb : c.code = cc) (hl : l.stackTraces = false) {own cls text : String} {names : List String} {ik is ic mc ms sa ix : Nat} {rx : ByteArray} {A : Nat → Prop}
    (x0 : decode rx 0 = .ok (.aload_n 0, 1)) (x1 : decode rx 1 = .ok (.aload_n 1, 1)) (x2 : decode rx 2 = .ok (.invokespecial ix, 3)) (x5 : decode rx 5 = .ok (.return_, 1))
    (hown : s.vm.findClass own = some m.cls) (hcls : Bundle.fit cls = true) (hnames : ∀ n ∈ names, Bundle.fit n = true)
    (hk : (Cond.classLink own ik cls).before args s = true) (hini : (Cond.initialized cls).before args s = true) (hstr : vk_R own is text sa s) (hat : ∀ w ∈ vx_atX own ic cls ix rx names, w.before args s = true)
    (hgood : ∀ w ∈ Cond.classLink own ik cls :: Cond.initialized cls :: vx_atX own ic cls ix rx names, vx_ot w = true)
    (hU : vx_Zq Bundle.tN "UNASSIGNED_STACK" Bundle.steD A s s.heap) (hN : vx_Zq Bundle.tN "SUPPRESSED_SENTINEL" Bundle.listD A s s.heap) (hS : va_S A s.heap H locs) (hsize : ls.size = c.maxLocals)
    (d0 : decode cc pc = .ok (.new ik, 3)) (d3 : decode cc (pc + 3) = .ok (.dup, 1)) (d4 : decode cc (pc + 4) = .ok (.ldc is, 2)) (d6 : decode cc (pc + 6) = .ok (.invokespecial ic, 3)) (d9 : decode cc (pc + 9) = .ok (.athrow, 1))
    (hout : ∀ x ∈ c.exceptionTable.toList, covers x (pc + 9) = false)
    (hRframes : names.length + 3 < R.frames) (hRlocals : (rest.map fun v => v.category).sum + (13 * (names.length + 1) + 43) ≤ R.locals) (hRcells : cells + 1 ≤ R.cells) (hRslots : slots + 6 ≤ R.slots) (hlocks : meth.locks = false)
    (hx : ∀ t : State, s.vm.Alike t.vm → H.size ≤ t.heap.size → (∀ q : Nat, q < H.size → t.heap[q]? = H[q]?) → XC cls s t)
    (hf : ∀ z ∈ locs, free z.base) (hc : cells + 1 ≤ mc) (hs : slots + 6 ≤ ms) :
    W p l e R s m args below meth c H locs cells slots (vx_MQ below Qc XC args s mc ms free) (F0 m pc ls rest) := by
  intro T hT X
  have htr : e.platform.stackTraces = false := (show e.platform.stackTraces = l.stackTraces by rw [X.admits.platform]).trans hl
  have Y := vx_rebase X (R' := { frames := R.frames, locals := R.locals, cells := 1, slots := 6 }) (Nat.le_refl _) (Nat.le_refl _) hRcells hRslots
  obtain ⟨s', hA⟩ : ∃ z, z = (T.setVm s.vm).setFrames (.invoking m args :: below) := ⟨_, rfl⟩
  rw [← hA] at Y
  have hvm : s'.vm = s.vm := by rw [hA]; rfl
  have hhp : s'.heap = H := by rw [hA]; exact hT
  have hW0 : s.WarmedH s'.vm := by rw [hvm]; exact State.WarmedH.refl s
  have hat' : ∀ w ∈ vx_atX own ic cls ix rx names, w.before args s' = true := fun w hw => vx_ot_at hW0 hvm.symm (hgood w (List.mem_cons_of_mem _ (List.mem_cons_of_mem _ hw))) (hat w hw)
  have hk' : (Cond.classLink own ik cls).before args s' = true := vx_ot_at hW0 hvm.symm (hgood _ List.mem_cons_self) hk
  have hini' : (Cond.initialized cls).before args s' = true := vx_ot_at hW0 hvm.symm (hgood _ (List.mem_cons_of_mem _ List.mem_cons_self)) hini
  have hU' : vx_Zq Bundle.tN "UNASSIGNED_STACK" Bundle.steD A s' s'.heap := by rw [hhp]; exact vx_Zq.moved hW0.alike (hU.kept hS.2.1)
  have hN' : vx_Zq Bundle.tN "SUPPRESSED_SENTINEL" Bundle.listD A s' s'.heap := by rw [hhp]; exact vx_Zq.moved hW0.alike (hN.kept hS.2.1)
  have h : ∀ w ∈ Bundle.ownAtomsX own ic cls ix rx names, w.before args s' = true := vx_own hat' (vx_isRefq hU'.1) (vx_isRefq hN'.1) hU'.2.word hN'.2.word
  have hown' : s'.vm.findClass own = some m.cls := by rw [hvm]; exact hown
  have hins : (Cond.instantiable cls 6).before args s' = true := h _ (by simp [Bundle.ownAtomsX])
  obtain ⟨vm₁, cX, kX, hfX, hkX, -, -, X₁, st1⟩ := Y.newCold hexec (own := own) (C := cls) (index := ik) (n := 6) hown' hk' hins hini'
    (g := F0 m pc ls rest) rfl (by rw [hb]; exact d0) (Nat.le_refl _) (Nat.le_refl _)
  generalize hT1 : (T.setVm vm₁).pushCell { cls := cX, slots := kX.instanceTypes.map defaultValue, vm := .none } = T1 at X₁ st1
  have hcat : (Value.ref T.heap.size).category = 1 := rfl
  have hcellA : T1.heap[T.heap.size]? = some (freshCell cX kX) := by rw [← hT1]; exact State.heap_pushCell_size _ _
  have d3' : decode c.code (pc + 3) = .ok (.dup, 1) := by rw [hb]; exact d3
  have d4' : decode c.code (pc + 4) = .ok (.ldc is, 2) := by rw [hb]; exact d4
  have hstr' : vk_R own is text sa s' := vk_R.warm hW0 hstr
  obtain ⟨U, hsteps, hrun, hend, hW, hsame, ce, hce, hOv, hOc⟩ := th_ctor X₁ hexec htr x0 x1 x2 x5 (own := own) (cls := cls) (names := names) (ic := ic) hown' hcls hnames h (fun x hx => nomatch hx) hfX hkX hcellA (by rw [hhp, hT]; exact Nat.le_refl _) (msg := .ref sa) rfl
    (g := { method := m, pc := pc + 6, locals := ls, stack := .ref sa :: .ref T.heap.size :: .ref T.heap.size :: rest, locked := none }) rfl hsize rfl rfl (rest := rest) rfl
    (by rw [hb]; exact d6) (by rw [hb]; exact d9) hout hRframes (by simp only [List.map_cons, List.sum_cons, hcat]; omega) hlocks
  obtain ⟨f1, f2⟩ := vx_frame hsame
  rw [hhp] at f1 f2
  have hWs : s.WarmedH U.vm := State.WarmedH.trans hW0 hW
  have hcl : s.vm.findClass cls = some ce.cls := by
    have h9 := hOc
    rw [hvm] at h9
    exact h9
  have hall : s.sameButNew ({ U with vm := s.vm } : State) locs mc ms := by
    subst hA
    obtain ⟨e1, e2⟩ := hsame
    rw [State.setFrames_setFrames] at e1
    have h2 : (T.setVm s.vm).sameButNew ({ U with vm := s.vm } : State) [] (0 + 1) (0 + 6) := ⟨e1, e2⟩
    have h3 := X.same.trans h2
    rw [List.append_nil] at h3
    exact h3.mono hc hs
  refine ⟨U, ?_, .threw T.heap.size, hrun, hend, Or.inr ⟨T.heap.size, rfl, cls, ce, locs, hx U hWs.alike f1 (fun q hq => f2 q hq (fun z hz => nomatch hz)), hce, hOv, hcl, hWs, hall, hf⟩⟩
  refine st1 _ ?_
  show Steps p.tables e below (T1.setTop { method := m, pc := pc + 3, locals := ls, stack := .ref T.heap.size :: rest, locked := none }) _
  jvm_step X₁.here [X₁.here.top, hexec, d3', Value.category]
  exact X₁.ldcString hexec (own := own) (text := text) (index := is) (a := sa) hown' hstr'.1 hstr'.2
    (g := { method := m, pc := pc + 4, locals := ls, stack := .ref T.heap.size :: .ref T.heap.size :: rest, locked := none }) rfl d4' _ hsteps
/-- the text by a wide index -/
theorem vx_throwXW {cc : ByteArray} {pc : Nat} (hexec : p.tables.exec = Jvm.exec) (hb : c.code = cc) (hl : l.stackTraces = false) {own cls text : String} {names : List String} {ik is ic mc ms sa ix : Nat} {rx : ByteArray} {A : Nat → Prop}
    (x0 : decode rx 0 = .ok (.aload_n 0, 1)) (x1 : decode rx 1 = .ok (.aload_n 1, 1)) (x2 : decode rx 2 = .ok (.invokespecial ix, 3)) (x5 : decode rx 5 = .ok (.return_, 1))
    (hown : s.vm.findClass own = some m.cls) (hcls : Bundle.fit cls = true) (hnames : ∀ n ∈ names, Bundle.fit n = true)
    (hk : (Cond.classLink own ik cls).before args s = true) (hini : (Cond.initialized cls).before args s = true) (hstr : vk_R own is text sa s) (hat : ∀ w ∈ vx_atX own ic cls ix rx names, w.before args s = true)
    (hgood : ∀ w ∈ Cond.classLink own ik cls :: Cond.initialized cls :: vx_atX own ic cls ix rx names, vx_ot w = true)
    (hU : vx_Zq Bundle.tN "UNASSIGNED_STACK" Bundle.steD A s s.heap) (hN : vx_Zq Bundle.tN "SUPPRESSED_SENTINEL" Bundle.listD A s s.heap) (hS : va_S A s.heap H locs) (hsize : ls.size = c.maxLocals)
    (d0 : decode cc pc = .ok (.new ik, 3)) (d3 : decode cc (pc + 3) = .ok (.dup, 1)) (d4 : decode cc (pc + 4) = .ok (.ldc_w is, 3)) (d7 : decode cc (pc + 7) = .ok (.invokespecial ic, 3)) (d10 : decode cc (pc + 10) = .ok (.athrow, 1))
    (hout : ∀ x ∈ c.exceptionTable.toList, covers x (pc + 10) = false)
    (hRframes : names.length + 3 < R.frames) (hRlocals : (rest.map fun v => v.category).sum + (13 * (names.length + 1) + 43) ≤ R.locals) (hRcells : cells + 1 ≤ R.cells) (hRslots : slots + 6 ≤ R.slots) (hlocks : meth.locks = false)
    (hx : ∀ t : State, s.vm.Alike t.vm → H.size ≤ t.heap.size → (∀ q : Nat, q < H.size → t.heap[q]? = H[q]?) → XC cls s t)
    (hf : ∀ z ∈ locs, free z.base) (hc : cells + 1 ≤ mc) (hs : slots + 6 ≤ ms) :
    W p l e R s m args below meth c H locs cells slots (vx_MQ below Qc XC args s mc ms free) (F0 m pc ls rest) := by
  intro T hT X
  have htr : e.platform.stackTraces = false := (show e.platform.stackTraces = l.stackTraces by rw [X.admits.platform]).trans hl
  have Y := vx_rebase X (R' := { frames := R.frames, locals := R.locals, cells := 1, slots := 6 }) (Nat.le_refl _) (Nat.le_refl _) hRcells hRslots
  obtain ⟨s', hA⟩ : ∃ z, z = (T.setVm s.vm).setFrames (.invoking m args :: below) := ⟨_, rfl⟩
  rw [← hA] at Y
  have hvm : s'.vm = s.vm := by rw [hA]; rfl
  have hhp : s'.heap = H := by rw [hA]; exact hT
  have hW0 : s.WarmedH s'.vm := by rw [hvm]; exact State.WarmedH.refl s
  have hat' : ∀ w ∈ vx_atX own ic cls ix rx names, w.before args s' = true := fun w hw => vx_ot_at hW0 hvm.symm (hgood w (List.mem_cons_of_mem _ (List.mem_cons_of_mem _ hw))) (hat w hw)
  have hk' : (Cond.classLink own ik cls).before args s' = true := vx_ot_at hW0 hvm.symm (hgood _ List.mem_cons_self) hk
  have hini' : (Cond.initialized cls).before args s' = true := vx_ot_at hW0 hvm.symm (hgood _ (List.mem_cons_of_mem _ List.mem_cons_self)) hini
  have hU' : vx_Zq Bundle.tN "UNASSIGNED_STACK" Bundle.steD A s' s'.heap := by rw [hhp]; exact vx_Zq.moved hW0.alike (hU.kept hS.2.1)
  have hN' : vx_Zq Bundle.tN "SUPPRESSED_SENTINEL" Bundle.listD A s' s'.heap := by rw [hhp]; exact vx_Zq.moved hW0.alike (hN.kept hS.2.1)
  have h : ∀ w ∈ Bundle.ownAtomsX own ic cls ix rx names, w.before args s' = true := vx_own hat' (vx_isRefq hU'.1) (vx_isRefq hN'.1) hU'.2.word hN'.2.word
  have hown' : s'.vm.findClass own = some m.cls := by rw [hvm]; exact hown
  have hins : (Cond.instantiable cls 6).before args s' = true := h _ (by simp [Bundle.ownAtomsX])
  obtain ⟨vm₁, cX, kX, hfX, hkX, -, -, X₁, st1⟩ := Y.newCold hexec (own := own) (C := cls) (index := ik) (n := 6) hown' hk' hins hini'
    (g := F0 m pc ls rest) rfl (by rw [hb]; exact d0) (Nat.le_refl _) (Nat.le_refl _)
  generalize hT1 : (T.setVm vm₁).pushCell { cls := cX, slots := kX.instanceTypes.map defaultValue, vm := .none } = T1 at X₁ st1
  have hcat : (Value.ref T.heap.size).category = 1 := rfl
  have hcellA : T1.heap[T.heap.size]? = some (freshCell cX kX) := by rw [← hT1]; exact State.heap_pushCell_size _ _
  have d3' : decode c.code (pc + 3) = .ok (.dup, 1) := by rw [hb]; exact d3
  have d4' : decode c.code (pc + 4) = .ok (.ldc_w is, 3) := by rw [hb]; exact d4
  have hstr' : vk_R own is text sa s' := vk_R.warm hW0 hstr
  obtain ⟨U, hsteps, hrun, hend, hW, hsame, ce, hce, hOv, hOc⟩ := th_ctor X₁ hexec htr x0 x1 x2 x5 (own := own) (cls := cls) (names := names) (ic := ic) hown' hcls hnames h (fun x hx => nomatch hx) hfX hkX hcellA (by rw [hhp, hT]; exact Nat.le_refl _) (msg := .ref sa) rfl
    (g := { method := m, pc := pc + 7, locals := ls, stack := .ref sa :: .ref T.heap.size :: .ref T.heap.size :: rest, locked := none }) rfl hsize rfl rfl (rest := rest) rfl
    (by rw [hb]; exact d7) (by rw [hb]; exact d10) hout hRframes (by simp only [List.map_cons, List.sum_cons, hcat]; omega) hlocks
  obtain ⟨f1, f2⟩ := vx_frame hsame
  rw [hhp] at f1 f2
  have hWs : s.WarmedH U.vm := State.WarmedH.trans hW0 hW
  have hcl : s.vm.findClass cls = some ce.cls := by
    have h9 := hOc
    rw [hvm] at h9
    exact h9
  have hall : s.sameButNew ({ U with vm := s.vm } : State) locs mc ms := by
    subst hA
    obtain ⟨e1, e2⟩ := hsame
    rw [State.setFrames_setFrames] at e1
    have h2 : (T.setVm s.vm).sameButNew ({ U with vm := s.vm } : State) [] (0 + 1) (0 + 6) := ⟨e1, e2⟩
    have h3 := X.same.trans h2
    rw [List.append_nil] at h3
    exact h3.mono hc hs
  refine ⟨U, ?_, .threw T.heap.size, hrun, hend, Or.inr ⟨T.heap.size, rfl, cls, ce, locs, hx U hWs.alike f1 (fun q hq => f2 q hq (fun z hz => nomatch hz)), hce, hOv, hcl, hWs, hall, hf⟩⟩
  refine st1 _ ?_
  show Steps p.tables e below (T1.setTop { method := m, pc := pc + 3, locals := ls, stack := .ref T.heap.size :: rest, locked := none }) _
  jvm_step X₁.here [X₁.here.top, hexec, d3', Value.category]
  exact X₁.ldcStringW hexec (own := own) (text := text) (index := is) (a := sa) hown' hstr'.1 hstr'.2
    (g := { method := m, pc := pc + 4, locals := ls, stack := .ref T.heap.size :: .ref T.heap.size :: rest, locked := none }) rfl d4' _ hsteps
end THY
end
