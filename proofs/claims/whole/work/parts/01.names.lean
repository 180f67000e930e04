-- ===== PART A: goes FIRST, ahead of the names: the tables' words, and 'selects' of the private methods out of them =====
/-- a private method of a class that the tables say can be made, by its rows of tables_1 -/
def lw_okq (q : MethodName × Nat) : Prop := (q.1.cls ≠ "java/lang/invoke/MethodHandle" ∧ q.1.cls ≠ "java/lang/invoke/VarHandle") ∧ Cond.instantiable q.1.cls q.2 ∈ tables_1 ∧ Cond.privateMethod q.1 ∈ tables_1 ∧ Cond.instanceMethod q.1 ∈ tables_1
theorem lw_p0 : lw_okq (⟨"AlarmMatrix$Reader", "readSentence", "()I"⟩, 3) := ⟨⟨by decide +kernel, by decide +kernel⟩, List.mem_of_getElem? (i := 246) (by decide +kernel), List.mem_of_getElem? (i := 323) (by decide +kernel), List.mem_of_getElem? (i := 324) (by decide +kernel)⟩
theorem lw_p1 : lw_okq (⟨"AlarmMatrix$Reader", "readZone", "()I"⟩, 3) := ⟨⟨by decide +kernel, by decide +kernel⟩, List.mem_of_getElem? (i := 246) (by decide +kernel), List.mem_of_getElem? (i := 380) (by decide +kernel), List.mem_of_getElem? (i := 381) (by decide +kernel)⟩
theorem lw_p2 : lw_okq (⟨"AlarmMatrix$Reader", "readPoints", "(I)Z"⟩, 3) := ⟨⟨by decide +kernel, by decide +kernel⟩, List.mem_of_getElem? (i := 246) (by decide +kernel), List.mem_of_getElem? (i := 416) (by decide +kernel), List.mem_of_getElem? (i := 417) (by decide +kernel)⟩
theorem lw_p3 : lw_okq (⟨"AlarmMatrix$Reader", "readAct", "()I"⟩, 3) := ⟨⟨by decide +kernel, by decide +kernel⟩, List.mem_of_getElem? (i := 246) (by decide +kernel), List.mem_of_getElem? (i := 439) (by decide +kernel), List.mem_of_getElem? (i := 440) (by decide +kernel)⟩
theorem lw_p4 : lw_okq (⟨"AlarmMatrix$Acts", "putInOrder", "(I)V"⟩, 13) := ⟨⟨by decide +kernel, by decide +kernel⟩, List.mem_of_getElem? (i := 155) (by decide +kernel), List.mem_of_getElem? (i := 459) (by decide +kernel), List.mem_of_getElem? (i := 460) (by decide +kernel)⟩
theorem lw_p5 : lw_okq (⟨"AlarmMatrix$Acts", "goesBefore", "(II)Z"⟩, 13) := ⟨⟨by decide +kernel, by decide +kernel⟩, List.mem_of_getElem? (i := 155) (by decide +kernel), List.mem_of_getElem? (i := 463) (by decide +kernel), List.mem_of_getElem? (i := 464) (by decide +kernel)⟩
theorem lw_p6 : lw_okq (⟨"AlarmMatrix$Reader", "readRow", "()I"⟩, 3) := ⟨⟨by decide +kernel, by decide +kernel⟩, List.mem_of_getElem? (i := 246) (by decide +kernel), List.mem_of_getElem? (i := 468) (by decide +kernel), List.mem_of_getElem? (i := 469) (by decide +kernel)⟩
theorem lw_p7 : lw_okq (⟨"AlarmMatrix$Reader", "stepToToldZone", "()I"⟩, 3) := ⟨⟨by decide +kernel, by decide +kernel⟩, List.mem_of_getElem? (i := 246) (by decide +kernel), List.mem_of_getElem? (i := 476) (by decide +kernel), List.mem_of_getElem? (i := 477) (by decide +kernel)⟩
theorem lw_p8 : lw_okq (⟨"AlarmMatrix$Reader", "stepToToldAct", "()I"⟩, 3) := ⟨⟨by decide +kernel, by decide +kernel⟩, List.mem_of_getElem? (i := 246) (by decide +kernel), List.mem_of_getElem? (i := 482) (by decide +kernel), List.mem_of_getElem? (i := 483) (by decide +kernel)⟩
theorem lw_p9 : lw_okq (⟨"AlarmMatrix$Reader", "readHold", "()I"⟩, 3) := ⟨⟨by decide +kernel, by decide +kernel⟩, List.mem_of_getElem? (i := 246) (by decide +kernel), List.mem_of_getElem? (i := 491) (by decide +kernel), List.mem_of_getElem? (i := 492) (by decide +kernel)⟩
theorem lw_p10 : lw_okq (⟨"AlarmMatrix$Zones", "lookAt", "(ILAlarmMatrix$Points;I)V"⟩, 5) := ⟨⟨by decide +kernel, by decide +kernel⟩, List.mem_of_getElem? (i := 133) (by decide +kernel), List.mem_of_getElem? (i := 517) (by decide +kernel), List.mem_of_getElem? (i := 518) (by decide +kernel)⟩
theorem lw_p11 : lw_okq (⟨"AlarmMatrix$Plan", "isMet", "(I)Z"⟩, 6) := ⟨⟨by decide +kernel, by decide +kernel⟩, List.mem_of_getElem? (i := 127) (by decide +kernel), List.mem_of_getElem? (i := 536) (by decide +kernel), List.mem_of_getElem? (i := 537) (by decide +kernel)⟩
theorem lw_p12 : lw_okq (⟨"AlarmMatrix$Plan", "hasSureZone", "(I)Z"⟩, 6) := ⟨⟨by decide +kernel, by decide +kernel⟩, List.mem_of_getElem? (i := 127) (by decide +kernel), List.mem_of_getElem? (i := 544) (by decide +kernel), List.mem_of_getElem? (i := 545) (by decide +kernel)⟩
theorem lw_p13 : lw_okq (⟨"java/lang/Throwable", "fillInStackTrace", "(I)Ljava/lang/Throwable;"⟩, 6) := ⟨⟨by decide +kernel, by decide +kernel⟩, List.mem_of_getElem? (i := 620) (by decide +kernel), List.mem_of_getElem? (i := 618) (by decide +kernel), List.mem_of_getElem? (i := 619) (by decide +kernel)⟩
theorem lw_p14 : lw_okq (⟨"AlarmMatrix", "putSentence", "(IIIII)V"⟩, 7) := ⟨⟨by decide +kernel, by decide +kernel⟩, List.mem_of_getElem? (i := 24) (by decide +kernel), List.mem_of_getElem? (i := 684) (by decide +kernel), List.mem_of_getElem? (i := 685) (by decide +kernel)⟩
theorem lw_p15 : lw_okq (⟨"AlarmMatrix$Loop", "findEnds", "()V"⟩, 5) := ⟨⟨by decide +kernel, by decide +kernel⟩, List.mem_of_getElem? (i := 83) (by decide +kernel), List.mem_of_getElem? (i := 816) (by decide +kernel), List.mem_of_getElem? (i := 817) (by decide +kernel)⟩
def lw_privs_1 : List (MethodName × Nat) := [(⟨"AlarmMatrix$Reader", "readSentence", "()I"⟩, 3), (⟨"AlarmMatrix$Reader", "readZone", "()I"⟩, 3), (⟨"AlarmMatrix$Reader", "readPoints", "(I)Z"⟩, 3), (⟨"AlarmMatrix$Reader", "readAct", "()I"⟩, 3), (⟨"AlarmMatrix$Acts", "putInOrder", "(I)V"⟩, 13), (⟨"AlarmMatrix$Acts", "goesBefore", "(II)Z"⟩, 13), (⟨"AlarmMatrix$Reader", "readRow", "()I"⟩, 3), (⟨"AlarmMatrix$Reader", "stepToToldZone", "()I"⟩, 3), (⟨"AlarmMatrix$Reader", "stepToToldAct", "()I"⟩, 3), (⟨"AlarmMatrix$Reader", "readHold", "()I"⟩, 3), (⟨"AlarmMatrix$Zones", "lookAt", "(ILAlarmMatrix$Points;I)V"⟩, 5), (⟨"AlarmMatrix$Plan", "isMet", "(I)Z"⟩, 6), (⟨"AlarmMatrix$Plan", "hasSureZone", "(I)Z"⟩, 6), (⟨"java/lang/Throwable", "fillInStackTrace", "(I)Ljava/lang/Throwable;"⟩, 6), (⟨"AlarmMatrix", "putSentence", "(IIIII)V"⟩, 7), (⟨"AlarmMatrix$Loop", "findEnds", "()V"⟩, 5)]
theorem lw_r1 : ∀ q ∈ lw_privs_1, lw_okq q := List.forall_mem_cons.mpr ⟨lw_p0, List.forall_mem_cons.mpr ⟨lw_p1, List.forall_mem_cons.mpr ⟨lw_p2, List.forall_mem_cons.mpr ⟨lw_p3, List.forall_mem_cons.mpr ⟨lw_p4, List.forall_mem_cons.mpr ⟨lw_p5, List.forall_mem_cons.mpr ⟨lw_p6, List.forall_mem_cons.mpr ⟨lw_p7, List.forall_mem_cons.mpr ⟨lw_p8, List.forall_mem_cons.mpr ⟨lw_p9, List.forall_mem_cons.mpr ⟨lw_p10, List.forall_mem_cons.mpr ⟨lw_p11, List.forall_mem_cons.mpr ⟨lw_p12, List.forall_mem_cons.mpr ⟨lw_p13, List.forall_mem_cons.mpr ⟨lw_p14, List.forall_mem_cons.mpr ⟨lw_p15, fun _ h => absurd h List.not_mem_nil⟩⟩⟩⟩⟩⟩⟩⟩⟩⟩⟩⟩⟩⟩⟩⟩
theorem lw_p16 : lw_okq (⟨"AlarmMatrix$Acts", "heed", "(II)I"⟩, 13) := ⟨⟨by decide +kernel, by decide +kernel⟩, List.mem_of_getElem? (i := 155) (by decide +kernel), List.mem_of_getElem? (i := 873) (by decide +kernel), List.mem_of_getElem? (i := 874) (by decide +kernel)⟩
theorem lw_p17 : lw_okq (⟨"AlarmMatrix$Acts", "beginToWait", "(II)V"⟩, 13) := ⟨⟨by decide +kernel, by decide +kernel⟩, List.mem_of_getElem? (i := 155) (by decide +kernel), List.mem_of_getElem? (i := 877) (by decide +kernel), List.mem_of_getElem? (i := 878) (by decide +kernel)⟩
theorem lw_p18 : lw_okq (⟨"AlarmMatrix$Acts", "isDue", "(II)Z"⟩, 13) := ⟨⟨by decide +kernel, by decide +kernel⟩, List.mem_of_getElem? (i := 155) (by decide +kernel), List.mem_of_getElem? (i := 881) (by decide +kernel), List.mem_of_getElem? (i := 882) (by decide +kernel)⟩
theorem lw_p19 : lw_okq (⟨"AlarmMatrix$Acts", "letGo", "(I)I"⟩, 13) := ⟨⟨by decide +kernel, by decide +kernel⟩, List.mem_of_getElem? (i := 155) (by decide +kernel), List.mem_of_getElem? (i := 885) (by decide +kernel), List.mem_of_getElem? (i := 886) (by decide +kernel)⟩
theorem lw_p20 : lw_okq (⟨"AlarmMatrixModel", "goes", "(ZZ)Z"⟩, 42) := ⟨⟨by decide +kernel, by decide +kernel⟩, List.mem_of_getElem? (i := 975) (by decide +kernel), List.mem_of_getElem? (i := 1116) (by decide +kernel), List.mem_of_getElem? (i := 1117) (by decide +kernel)⟩
theorem lw_p21 : lw_okq (⟨"AlarmMatrixModel", "write", "(I)V"⟩, 42) := ⟨⟨by decide +kernel, by decide +kernel⟩, List.mem_of_getElem? (i := 975) (by decide +kernel), List.mem_of_getElem? (i := 1120) (by decide +kernel), List.mem_of_getElem? (i := 1121) (by decide +kernel)⟩
theorem lw_p22 : lw_okq (⟨"AlarmMatrixModel", "sentence", "(IIIII)V"⟩, 42) := ⟨⟨by decide +kernel, by decide +kernel⟩, List.mem_of_getElem? (i := 975) (by decide +kernel), List.mem_of_getElem? (i := 1131) (by decide +kernel), List.mem_of_getElem? (i := 1132) (by decide +kernel)⟩
theorem lw_p23 : lw_okq (⟨"AlarmMatrixModel", "word", "(I)V"⟩, 42) := ⟨⟨by decide +kernel, by decide +kernel⟩, List.mem_of_getElem? (i := 975) (by decide +kernel), List.mem_of_getElem? (i := 1138) (by decide +kernel), List.mem_of_getElem? (i := 1139) (by decide +kernel)⟩
theorem lw_p24 : lw_okq (⟨"AlarmMatrixModel", "letter", "(I)V"⟩, 42) := ⟨⟨by decide +kernel, by decide +kernel⟩, List.mem_of_getElem? (i := 975) (by decide +kernel), List.mem_of_getElem? (i := 1142) (by decide +kernel), List.mem_of_getElem? (i := 1143) (by decide +kernel)⟩
theorem lw_p25 : lw_okq (⟨"AlarmMatrixModel", "number", "(I)V"⟩, 42) := ⟨⟨by decide +kernel, by decide +kernel⟩, List.mem_of_getElem? (i := 975) (by decide +kernel), List.mem_of_getElem? (i := 1146) (by decide +kernel), List.mem_of_getElem? (i := 1147) (by decide +kernel)⟩
theorem lw_p26 : lw_okq (⟨"AlarmMatrixModel", "stop", "()V"⟩, 42) := ⟨⟨by decide +kernel, by decide +kernel⟩, List.mem_of_getElem? (i := 975) (by decide +kernel), List.mem_of_getElem? (i := 1155) (by decide +kernel), List.mem_of_getElem? (i := 1156) (by decide +kernel)⟩
theorem lw_p27 : lw_okq (⟨"AlarmMatrixModel", "list", "()V"⟩, 42) := ⟨⟨by decide +kernel, by decide +kernel⟩, List.mem_of_getElem? (i := 975) (by decide +kernel), List.mem_of_getElem? (i := 1167) (by decide +kernel), List.mem_of_getElem? (i := 1168) (by decide +kernel)⟩
theorem lw_p28 : lw_okq (⟨"AlarmMatrixModel", "readSentence", "()V"⟩, 42) := ⟨⟨by decide +kernel, by decide +kernel⟩, List.mem_of_getElem? (i := 975) (by decide +kernel), List.mem_of_getElem? (i := 1174) (by decide +kernel), List.mem_of_getElem? (i := 1175) (by decide +kernel)⟩
theorem lw_p29 : lw_okq (⟨"AlarmMatrixModel", "letters", "()I"⟩, 42) := ⟨⟨by decide +kernel, by decide +kernel⟩, List.mem_of_getElem? (i := 975) (by decide +kernel), List.mem_of_getElem? (i := 1178) (by decide +kernel), List.mem_of_getElem? (i := 1179) (by decide +kernel)⟩
theorem lw_p30 : lw_okq (⟨"AlarmMatrixModel", "readZone", "()V"⟩, 42) := ⟨⟨by decide +kernel, by decide +kernel⟩, List.mem_of_getElem? (i := 975) (by decide +kernel), List.mem_of_getElem? (i := 1182) (by decide +kernel), List.mem_of_getElem? (i := 1183) (by decide +kernel)⟩
theorem lw_p31 : lw_okq (⟨"AlarmMatrixModel", "look", "(II)I"⟩, 42) := ⟨⟨by decide +kernel, by decide +kernel⟩, List.mem_of_getElem? (i := 975) (by decide +kernel), List.mem_of_getElem? (i := 1186) (by decide +kernel), List.mem_of_getElem? (i := 1187) (by decide +kernel)⟩
def lw_privs_2 : List (MethodName × Nat) := [(⟨"AlarmMatrix$Acts", "heed", "(II)I"⟩, 13), (⟨"AlarmMatrix$Acts", "beginToWait", "(II)V"⟩, 13), (⟨"AlarmMatrix$Acts", "isDue", "(II)Z"⟩, 13), (⟨"AlarmMatrix$Acts", "letGo", "(I)I"⟩, 13), (⟨"AlarmMatrixModel", "goes", "(ZZ)Z"⟩, 42), (⟨"AlarmMatrixModel", "write", "(I)V"⟩, 42), (⟨"AlarmMatrixModel", "sentence", "(IIIII)V"⟩, 42), (⟨"AlarmMatrixModel", "word", "(I)V"⟩, 42), (⟨"AlarmMatrixModel", "letter", "(I)V"⟩, 42), (⟨"AlarmMatrixModel", "number", "(I)V"⟩, 42), (⟨"AlarmMatrixModel", "stop", "()V"⟩, 42), (⟨"AlarmMatrixModel", "list", "()V"⟩, 42), (⟨"AlarmMatrixModel", "readSentence", "()V"⟩, 42), (⟨"AlarmMatrixModel", "letters", "()I"⟩, 42), (⟨"AlarmMatrixModel", "readZone", "()V"⟩, 42), (⟨"AlarmMatrixModel", "look", "(II)I"⟩, 42)]
theorem lw_r2 : ∀ q ∈ lw_privs_2, lw_okq q := List.forall_mem_cons.mpr ⟨lw_p16, List.forall_mem_cons.mpr ⟨lw_p17, List.forall_mem_cons.mpr ⟨lw_p18, List.forall_mem_cons.mpr ⟨lw_p19, List.forall_mem_cons.mpr ⟨lw_p20, List.forall_mem_cons.mpr ⟨lw_p21, List.forall_mem_cons.mpr ⟨lw_p22, List.forall_mem_cons.mpr ⟨lw_p23, List.forall_mem_cons.mpr ⟨lw_p24, List.forall_mem_cons.mpr ⟨lw_p25, List.forall_mem_cons.mpr ⟨lw_p26, List.forall_mem_cons.mpr ⟨lw_p27, List.forall_mem_cons.mpr ⟨lw_p28, List.forall_mem_cons.mpr ⟨lw_p29, List.forall_mem_cons.mpr ⟨lw_p30, List.forall_mem_cons.mpr ⟨lw_p31, fun _ h => absurd h List.not_mem_nil⟩⟩⟩⟩⟩⟩⟩⟩⟩⟩⟩⟩⟩⟩⟩⟩
theorem lw_p32 : lw_okq (⟨"AlarmMatrixModel", "want", "(Z)Z"⟩, 42) := ⟨⟨by decide +kernel, by decide +kernel⟩, List.mem_of_getElem? (i := 975) (by decide +kernel), List.mem_of_getElem? (i := 1190) (by decide +kernel), List.mem_of_getElem? (i := 1191) (by decide +kernel)⟩
theorem lw_p33 : lw_okq (⟨"AlarmMatrixModel", "take", "(I)V"⟩, 42) := ⟨⟨by decide +kernel, by decide +kernel⟩, List.mem_of_getElem? (i := 975) (by decide +kernel), List.mem_of_getElem? (i := 1194) (by decide +kernel), List.mem_of_getElem? (i := 1195) (by decide +kernel)⟩
theorem lw_p34 : lw_okq (⟨"AlarmMatrixModel", "takeNumber", "(II)I"⟩, 42) := ⟨⟨by decide +kernel, by decide +kernel⟩, List.mem_of_getElem? (i := 975) (by decide +kernel), List.mem_of_getElem? (i := 1198) (by decide +kernel), List.mem_of_getElem? (i := 1199) (by decide +kernel)⟩
theorem lw_p35 : lw_okq (⟨"AlarmMatrixModel", "has", "(II)Z"⟩, 42) := ⟨⟨by decide +kernel, by decide +kernel⟩, List.mem_of_getElem? (i := 975) (by decide +kernel), List.mem_of_getElem? (i := 1202) (by decide +kernel), List.mem_of_getElem? (i := 1203) (by decide +kernel)⟩
theorem lw_p36 : lw_okq (⟨"AlarmMatrixModel", "isSign", "(I)Z"⟩, 42) := ⟨⟨by decide +kernel, by decide +kernel⟩, List.mem_of_getElem? (i := 975) (by decide +kernel), List.mem_of_getElem? (i := 1206) (by decide +kernel), List.mem_of_getElem? (i := 1207) (by decide +kernel)⟩
theorem lw_p37 : lw_okq (⟨"AlarmMatrixModel", "readAct", "()V"⟩, 42) := ⟨⟨by decide +kernel, by decide +kernel⟩, List.mem_of_getElem? (i := 975) (by decide +kernel), List.mem_of_getElem? (i := 1210) (by decide +kernel), List.mem_of_getElem? (i := 1211) (by decide +kernel)⟩
theorem lw_p38 : lw_okq (⟨"AlarmMatrixModel", "takeStop", "()V"⟩, 42) := ⟨⟨by decide +kernel, by decide +kernel⟩, List.mem_of_getElem? (i := 975) (by decide +kernel), List.mem_of_getElem? (i := 1214) (by decide +kernel), List.mem_of_getElem? (i := 1215) (by decide +kernel)⟩
theorem lw_p39 : lw_okq (⟨"AlarmMatrixModel", "readRow", "()V"⟩, 42) := ⟨⟨by decide +kernel, by decide +kernel⟩, List.mem_of_getElem? (i := 975) (by decide +kernel), List.mem_of_getElem? (i := 1218) (by decide +kernel), List.mem_of_getElem? (i := 1219) (by decide +kernel)⟩
theorem lw_p40 : lw_okq (⟨"AlarmMatrixModel", "takeZone", "(I)I"⟩, 42) := ⟨⟨by decide +kernel, by decide +kernel⟩, List.mem_of_getElem? (i := 975) (by decide +kernel), List.mem_of_getElem? (i := 1222) (by decide +kernel), List.mem_of_getElem? (i := 1223) (by decide +kernel)⟩
theorem lw_p41 : lw_okq (⟨"AlarmMatrixModel", "readHold", "()V"⟩, 42) := ⟨⟨by decide +kernel, by decide +kernel⟩, List.mem_of_getElem? (i := 975) (by decide +kernel), List.mem_of_getElem? (i := 1226) (by decide +kernel), List.mem_of_getElem? (i := 1227) (by decide +kernel)⟩
theorem lw_p42 : lw_okq (⟨"AlarmMatrixModel", "take", "()V"⟩, 42) := ⟨⟨by decide +kernel, by decide +kernel⟩, List.mem_of_getElem? (i := 975) (by decide +kernel), List.mem_of_getElem? (i := 1230) (by decide +kernel), List.mem_of_getElem? (i := 1231) (by decide +kernel)⟩
theorem lw_p43 : lw_okq (⟨"AlarmMatrixModel", "rests", "(I)V"⟩, 42) := ⟨⟨by decide +kernel, by decide +kernel⟩, List.mem_of_getElem? (i := 975) (by decide +kernel), List.mem_of_getElem? (i := 1234) (by decide +kernel), List.mem_of_getElem? (i := 1235) (by decide +kernel)⟩
theorem lw_p44 : lw_okq (⟨"AlarmMatrixModel", "isPoint", "(I)Z"⟩, 42) := ⟨⟨by decide +kernel, by decide +kernel⟩, List.mem_of_getElem? (i := 975) (by decide +kernel), List.mem_of_getElem? (i := 1242) (by decide +kernel), List.mem_of_getElem? (i := 1243) (by decide +kernel)⟩
theorem lw_p45 : lw_okq (⟨"AlarmMatrixModel", "isHeard", "(I)Z"⟩, 42) := ⟨⟨by decide +kernel, by decide +kernel⟩, List.mem_of_getElem? (i := 975) (by decide +kernel), List.mem_of_getElem? (i := 1270) (by decide +kernel), List.mem_of_getElem? (i := 1271) (by decide +kernel)⟩
theorem lw_p46 : lw_okq (⟨"AlarmMatrixModel", "rankedOne", "(I)I"⟩, 42) := ⟨⟨by decide +kernel, by decide +kernel⟩, List.mem_of_getElem? (i := 975) (by decide +kernel), List.mem_of_getElem? (i := 1282) (by decide +kernel), List.mem_of_getElem? (i := 1283) (by decide +kernel)⟩
theorem lw_p47 : lw_okq (⟨"AlarmMatrixModel", "go", "(I)I"⟩, 42) := ⟨⟨by decide +kernel, by decide +kernel⟩, List.mem_of_getElem? (i := 975) (by decide +kernel), List.mem_of_getElem? (i := 1286) (by decide +kernel), List.mem_of_getElem? (i := 1287) (by decide +kernel)⟩
def lw_privs_3 : List (MethodName × Nat) := [(⟨"AlarmMatrixModel", "want", "(Z)Z"⟩, 42), (⟨"AlarmMatrixModel", "take", "(I)V"⟩, 42), (⟨"AlarmMatrixModel", "takeNumber", "(II)I"⟩, 42), (⟨"AlarmMatrixModel", "has", "(II)Z"⟩, 42), (⟨"AlarmMatrixModel", "isSign", "(I)Z"⟩, 42), (⟨"AlarmMatrixModel", "readAct", "()V"⟩, 42), (⟨"AlarmMatrixModel", "takeStop", "()V"⟩, 42), (⟨"AlarmMatrixModel", "readRow", "()V"⟩, 42), (⟨"AlarmMatrixModel", "takeZone", "(I)I"⟩, 42), (⟨"AlarmMatrixModel", "readHold", "()V"⟩, 42), (⟨"AlarmMatrixModel", "take", "()V"⟩, 42), (⟨"AlarmMatrixModel", "rests", "(I)V"⟩, 42), (⟨"AlarmMatrixModel", "isPoint", "(I)Z"⟩, 42), (⟨"AlarmMatrixModel", "isHeard", "(I)Z"⟩, 42), (⟨"AlarmMatrixModel", "rankedOne", "(I)I"⟩, 42), (⟨"AlarmMatrixModel", "go", "(I)I"⟩, 42)]
theorem lw_r3 : ∀ q ∈ lw_privs_3, lw_okq q := List.forall_mem_cons.mpr ⟨lw_p32, List.forall_mem_cons.mpr ⟨lw_p33, List.forall_mem_cons.mpr ⟨lw_p34, List.forall_mem_cons.mpr ⟨lw_p35, List.forall_mem_cons.mpr ⟨lw_p36, List.forall_mem_cons.mpr ⟨lw_p37, List.forall_mem_cons.mpr ⟨lw_p38, List.forall_mem_cons.mpr ⟨lw_p39, List.forall_mem_cons.mpr ⟨lw_p40, List.forall_mem_cons.mpr ⟨lw_p41, List.forall_mem_cons.mpr ⟨lw_p42, List.forall_mem_cons.mpr ⟨lw_p43, List.forall_mem_cons.mpr ⟨lw_p44, List.forall_mem_cons.mpr ⟨lw_p45, List.forall_mem_cons.mpr ⟨lw_p46, List.forall_mem_cons.mpr ⟨lw_p47, fun _ h => absurd h List.not_mem_nil⟩⟩⟩⟩⟩⟩⟩⟩⟩⟩⟩⟩⟩⟩⟩⟩
theorem lw_p48 : lw_okq (⟨"AlarmMatrixModel", "isCalled", "(IZ)Z"⟩, 42) := ⟨⟨by decide +kernel, by decide +kernel⟩, List.mem_of_getElem? (i := 975) (by decide +kernel), List.mem_of_getElem? (i := 1290) (by decide +kernel), List.mem_of_getElem? (i := 1291) (by decide +kernel)⟩
theorem lw_p49 : lw_okq (⟨"AlarmMatrixModel", "isMet", "(I)Z"⟩, 42) := ⟨⟨by decide +kernel, by decide +kernel⟩, List.mem_of_getElem? (i := 975) (by decide +kernel), List.mem_of_getElem? (i := 1294) (by decide +kernel), List.mem_of_getElem? (i := 1295) (by decide +kernel)⟩
theorem lw_p50 : lw_okq (⟨"AlarmMatrixModel", "isOn", "(I)Z"⟩, 42) := ⟨⟨by decide +kernel, by decide +kernel⟩, List.mem_of_getElem? (i := 975) (by decide +kernel), List.mem_of_getElem? (i := 1298) (by decide +kernel), List.mem_of_getElem? (i := 1299) (by decide +kernel)⟩
theorem lw_p51 : lw_okq (⟨"AlarmMatrixModel", "ofZone", "(IZ)I"⟩, 42) := ⟨⟨by decide +kernel, by decide +kernel⟩, List.mem_of_getElem? (i := 975) (by decide +kernel), List.mem_of_getElem? (i := 1302) (by decide +kernel), List.mem_of_getElem? (i := 1303) (by decide +kernel)⟩
theorem lw_p52 : lw_okq (⟨"AlarmMatrixModel", "counts", "(I)Z"⟩, 42) := ⟨⟨by decide +kernel, by decide +kernel⟩, List.mem_of_getElem? (i := 975) (by decide +kernel), List.mem_of_getElem? (i := 1306) (by decide +kernel), List.mem_of_getElem? (i := 1307) (by decide +kernel)⟩
theorem lw_p53 : lw_okq (⟨"AlarmMatrixModel", "isSure", "(I)Z"⟩, 42) := ⟨⟨by decide +kernel, by decide +kernel⟩, List.mem_of_getElem? (i := 975) (by decide +kernel), List.mem_of_getElem? (i := 1310) (by decide +kernel), List.mem_of_getElem? (i := 1311) (by decide +kernel)⟩
theorem lw_p54 : lw_okq (⟨"AlarmMatrixModel", "tell", "(II)V"⟩, 42) := ⟨⟨by decide +kernel, by decide +kernel⟩, List.mem_of_getElem? (i := 975) (by decide +kernel), List.mem_of_getElem? (i := 1314) (by decide +kernel), List.mem_of_getElem? (i := 1315) (by decide +kernel)⟩
def lw_privs_4 : List (MethodName × Nat) := [(⟨"AlarmMatrixModel", "isCalled", "(IZ)Z"⟩, 42), (⟨"AlarmMatrixModel", "isMet", "(I)Z"⟩, 42), (⟨"AlarmMatrixModel", "isOn", "(I)Z"⟩, 42), (⟨"AlarmMatrixModel", "ofZone", "(IZ)I"⟩, 42), (⟨"AlarmMatrixModel", "counts", "(I)Z"⟩, 42), (⟨"AlarmMatrixModel", "isSure", "(I)Z"⟩, 42), (⟨"AlarmMatrixModel", "tell", "(II)V"⟩, 42)]
theorem lw_r4 : ∀ q ∈ lw_privs_4, lw_okq q := List.forall_mem_cons.mpr ⟨lw_p48, List.forall_mem_cons.mpr ⟨lw_p49, List.forall_mem_cons.mpr ⟨lw_p50, List.forall_mem_cons.mpr ⟨lw_p51, List.forall_mem_cons.mpr ⟨lw_p52, List.forall_mem_cons.mpr ⟨lw_p53, List.forall_mem_cons.mpr ⟨lw_p54, fun _ h => absurd h List.not_mem_nil⟩⟩⟩⟩⟩⟩⟩
def lw_privs : List (MethodName × Nat) := lw_privs_1 ++ (lw_privs_2 ++ (lw_privs_3 ++ (lw_privs_4)))
def lw_tbl : List Cond := k2_sels lw_privs ++ tables_1
theorem lw_privs_ok : ∀ q ∈ lw_privs, lw_okq q := by
  show ∀ q ∈ lw_privs_1 ++ (lw_privs_2 ++ (lw_privs_3 ++ (lw_privs_4))), lw_okq q
  exact List.forall_mem_append.mpr ⟨lw_r1, List.forall_mem_append.mpr ⟨lw_r2, List.forall_mem_append.mpr ⟨lw_r3, lw_r4⟩⟩⟩
-- ===== end of PART A =====
-- names: fields of a class in the order of the slots (declaring class, name, descriptor, final), their types
def T_AM : u_T := fun k => match k with
  | 0 => ("AlarmMatrix", "text", "LAlarmMatrix$Text;", true)
  | 1 => ("AlarmMatrix", "points", "LAlarmMatrix$Points;", true)
  | 2 => ("AlarmMatrix", "loops", "[LAlarmMatrix$Loop;", true)
  | 3 => ("AlarmMatrix", "events", "LAlarmMatrix$Events;", true)
  | 4 => ("AlarmMatrix", "plan", "LAlarmMatrix$Plan;", false)
  | 5 => ("AlarmMatrix", "spare", "LAlarmMatrix$Plan;", false)
  | _ => ("AlarmMatrix", "now", "I", false)
def t_AM : Nat → FieldType := fun k => match k with
  | 0 => .object "AlarmMatrix$Text"
  | 1 => .object "AlarmMatrix$Points"
  | 2 => .array (.object "AlarmMatrix$Loop")
  | 3 => .object "AlarmMatrix$Events"
  | 4 => .object "AlarmMatrix$Plan"
  | 5 => .object "AlarmMatrix$Plan"
  | _ => .int
theorem n_AM : ∀ a, a < 7 → ∀ b, b < 7 → a ≠ b → (T_AM a).2.1 ≠ (T_AM b).2.1 := by decide +kernel
theorem o_AM : ∀ k, k < 7 → parseFieldDescriptor (T_AM k).2.2.1 = some (t_AM k) := by decide +kernel
def T_Text : u_T := fun k => match k with
  | 0 => ("AlarmMatrix$Text", "characters", "[C", true)
  | 1 => ("AlarmMatrix$Text", "digits", "[C", true)
  | _ => ("AlarmMatrix$Text", "length", "I", false)
def t_Text : Nat → FieldType := fun k => match k with
  | 0 => .array (.char)
  | 1 => .array (.char)
  | _ => .int
theorem n_Text : ∀ a, a < 3 → ∀ b, b < 3 → a ≠ b → (T_Text a).2.1 ≠ (T_Text b).2.1 := by decide +kernel
theorem o_Text : ∀ k, k < 3 → parseFieldDescriptor (T_Text k).2.2.1 = some (t_Text k) := by decide +kernel
def T_Words : u_T := fun k => match k with
  | 0 => ("AlarmMatrix$Words", "text", "LAlarmMatrix$Text;", true)
  | 1 => ("AlarmMatrix$Words", "begin", "I", false)
  | 2 => ("AlarmMatrix$Words", "end", "I", false)
  | _ => ("AlarmMatrix$Words", "number", "I", false)
def t_Words : Nat → FieldType := fun k => match k with
  | 0 => .object "AlarmMatrix$Text"
  | 1 => .int
  | 2 => .int
  | _ => .int
theorem n_Words : ∀ a, a < 4 → ∀ b, b < 4 → a ≠ b → (T_Words a).2.1 ≠ (T_Words b).2.1 := by decide +kernel
theorem o_Words : ∀ k, k < 4 → parseFieldDescriptor (T_Words k).2.2.1 = some (t_Words k) := by decide +kernel
def T_Reader : u_T := fun k => match k with
  | 0 => ("AlarmMatrix$Reader", "words", "LAlarmMatrix$Words;", true)
  | 1 => ("AlarmMatrix$Reader", "plan", "LAlarmMatrix$Plan;", true)
  | _ => ("AlarmMatrix$Reader", "pointCount", "I", true)
def t_Reader : Nat → FieldType := fun k => match k with
  | 0 => .object "AlarmMatrix$Words"
  | 1 => .object "AlarmMatrix$Plan"
  | _ => .int
theorem n_Reader : ∀ a, a < 3 → ∀ b, b < 3 → a ≠ b → (T_Reader a).2.1 ≠ (T_Reader b).2.1 := by decide +kernel
theorem o_Reader : ∀ k, k < 3 → parseFieldDescriptor (T_Reader k).2.2.1 = some (t_Reader k) := by decide +kernel
def T_Plan : u_T := fun k => match k with
  | 0 => ("AlarmMatrix$Plan", "zones", "LAlarmMatrix$Zones;", true)
  | 1 => ("AlarmMatrix$Plan", "acts", "LAlarmMatrix$Acts;", true)
  | 2 => ("AlarmMatrix$Plan", "firstZones", "[I", true)
  | 3 => ("AlarmMatrix$Plan", "otherZones", "[I", true)
  | 4 => ("AlarmMatrix$Plan", "rowActs", "[I", true)
  | _ => ("AlarmMatrix$Plan", "rowCount", "I", false)
def t_Plan : Nat → FieldType := fun k => match k with
  | 0 => .object "AlarmMatrix$Zones"
  | 1 => .object "AlarmMatrix$Acts"
  | 2 => .array (.int)
  | 3 => .array (.int)
  | 4 => .array (.int)
  | _ => .int
theorem n_Plan : ∀ a, a < 6 → ∀ b, b < 6 → a ≠ b → (T_Plan a).2.1 ≠ (T_Plan b).2.1 := by decide +kernel
theorem o_Plan : ∀ k, k < 6 → parseFieldDescriptor (T_Plan k).2.2.1 = some (t_Plan k) := by decide +kernel
def T_Zones : u_T := fun k => match k with
  | 0 => ("AlarmMatrix$Zones", "needs", "[I", true)
  | 1 => ("AlarmMatrix$Zones", "sizes", "[I", true)
  | 2 => ("AlarmMatrix$Zones", "members", "[I", true)
  | 3 => ("AlarmMatrix$Zones", "onCounts", "[I", true)
  | _ => ("AlarmMatrix$Zones", "ableCounts", "[I", true)
def t_Zones : Nat → FieldType := fun k => match k with
  | 0 => .array (.int)
  | 1 => .array (.int)
  | 2 => .array (.int)
  | 3 => .array (.int)
  | _ => .array (.int)
theorem n_Zones : ∀ a, a < 5 → ∀ b, b < 5 → a ≠ b → (T_Zones a).2.1 ≠ (T_Zones b).2.1 := by decide +kernel
theorem o_Zones : ∀ k, k < 5 → parseFieldDescriptor (T_Zones k).2.2.1 = some (t_Zones k) := by decide +kernel
def T_Acts : u_T := fun k => match k with
  | 0 => ("AlarmMatrix$Acts", "kinds", "[I", true)
  | 1 => ("AlarmMatrix$Acts", "ranks", "[I", true)
  | 2 => ("AlarmMatrix$Acts", "delays", "[I", true)
  | 3 => ("AlarmMatrix$Acts", "told", "[Z", true)
  | 4 => ("AlarmMatrix$Acts", "held", "[Z", true)
  | 5 => ("AlarmMatrix$Acts", "order", "[I", true)
  | 6 => ("AlarmMatrix$Acts", "count", "I", false)
  | 7 => ("AlarmMatrix$Acts", "states", "[I", true)
  | 8 => ("AlarmMatrix$Acts", "since", "[I", true)
  | 9 => ("AlarmMatrix$Acts", "looked", "[Z", true)
  | 10 => ("AlarmMatrix$Acts", "confirmed", "[Z", true)
  | 11 => ("AlarmMatrix$Acts", "called", "[Z", true)
  | _ => ("AlarmMatrix$Acts", "surelyCalled", "[Z", true)
def t_Acts : Nat → FieldType := fun k => match k with
  | 0 => .array (.int)
  | 1 => .array (.int)
  | 2 => .array (.int)
  | 3 => .array (.boolean)
  | 4 => .array (.boolean)
  | 5 => .array (.int)
  | 6 => .int
  | 7 => .array (.int)
  | 8 => .array (.int)
  | 9 => .array (.boolean)
  | 10 => .array (.boolean)
  | 11 => .array (.boolean)
  | _ => .array (.boolean)
theorem n_Acts : ∀ a, a < 13 → ∀ b, b < 13 → a ≠ b → (T_Acts a).2.1 ≠ (T_Acts b).2.1 := by decide +kernel
theorem o_Acts : ∀ k, k < 13 → parseFieldDescriptor (T_Acts k).2.2.1 = some (t_Acts k) := by decide +kernel
def T_Points : u_T := fun k => match k with
  | 0 => ("AlarmMatrix$Points", "count", "I", true)
  | 1 => ("AlarmMatrix$Points", "values", "[I", true)
  | 2 => ("AlarmMatrix$Points", "disabledUntil", "[I", true)
  | 3 => ("AlarmMatrix$Points", "faulty", "[Z", true)
  | 4 => ("AlarmMatrix$Points", "inLoop", "[Z", true)
  | _ => ("AlarmMatrix$Points", "unheard", "[Z", true)
def t_Points : Nat → FieldType := fun k => match k with
  | 0 => .int
  | 1 => .array (.int)
  | 2 => .array (.int)
  | 3 => .array (.boolean)
  | 4 => .array (.boolean)
  | _ => .array (.boolean)
theorem n_Points : ∀ a, a < 6 → ∀ b, b < 6 → a ≠ b → (T_Points a).2.1 ≠ (T_Points b).2.1 := by decide +kernel
theorem o_Points : ∀ k, k < 6 → parseFieldDescriptor (T_Points k).2.2.1 = some (t_Points k) := by decide +kernel
def T_Loop : u_T := fun k => match k with
  | 0 => ("AlarmMatrix$Loop", "members", "[I", true)
  | 1 => ("AlarmMatrix$Loop", "cuts", "[Z", true)
  | 2 => ("AlarmMatrix$Loop", "size", "I", false)
  | 3 => ("AlarmMatrix$Loop", "firstCut", "I", false)
  | _ => ("AlarmMatrix$Loop", "lastCut", "I", false)
def t_Loop : Nat → FieldType := fun k => match k with
  | 0 => .array (.int)
  | 1 => .array (.boolean)
  | 2 => .int
  | 3 => .int
  | _ => .int
theorem n_Loop : ∀ a, a < 5 → ∀ b, b < 5 → a ≠ b → (T_Loop a).2.1 ≠ (T_Loop b).2.1 := by decide +kernel
theorem o_Loop : ∀ k, k < 5 → parseFieldDescriptor (T_Loop k).2.2.1 = some (t_Loop k) := by decide +kernel
def T_Events : u_T := fun k => match k with
  | 0 => ("AlarmMatrix$Events", "times", "[I", true)
  | 1 => ("AlarmMatrix$Events", "acts", "[I", true)
  | 2 => ("AlarmMatrix$Events", "kinds", "[I", true)
  | 3 => ("AlarmMatrix$Events", "next", "I", false)
  | _ => ("AlarmMatrix$Events", "count", "I", false)
def t_Events : Nat → FieldType := fun k => match k with
  | 0 => .array (.int)
  | 1 => .array (.int)
  | 2 => .array (.int)
  | 3 => .int
  | _ => .int
theorem n_Events : ∀ a, a < 5 → ∀ b, b < 5 → a ≠ b → (T_Events a).2.1 ≠ (T_Events b).2.1 := by decide +kernel
theorem o_Events : ∀ k, k < 5 → parseFieldDescriptor (T_Events k).2.2.1 = some (t_Events k) := by decide +kernel
def T_MD : u_T := fun k => match k with
  | 0 => ("AlarmMatrixModel", "code", "I", false)
  | 1 => ("AlarmMatrixModel", "points", "I", true)
  | 2 => ("AlarmMatrixModel", "now", "I", false)
  | 3 => ("AlarmMatrixModel", "value", "[I", true)
  | 4 => ("AlarmMatrixModel", "faulty", "[Z", true)
  | 5 => ("AlarmMatrixModel", "until", "[I", true)
  | 6 => ("AlarmMatrixModel", "loopOf", "[I", true)
  | 7 => ("AlarmMatrixModel", "placeOf", "[I", true)
  | 8 => ("AlarmMatrixModel", "members", "[I", true)
  | 9 => ("AlarmMatrixModel", "member", "[I", true)
  | 10 => ("AlarmMatrixModel", "cuts", "[Z", true)
  | 11 => ("AlarmMatrixModel", "text", "[I", true)
  | 12 => ("AlarmMatrixModel", "size", "I", false)
  | 13 => ("AlarmMatrixModel", "words", "I", false)
  | 14 => ("AlarmMatrixModel", "begin", "[I", true)
  | 15 => ("AlarmMatrixModel", "end", "[I", true)
  | 16 => ("AlarmMatrixModel", "at", "I", false)
  | 17 => ("AlarmMatrixModel", "wrong", "I", false)
  | 18 => ("AlarmMatrixModel", "zoneTold", "[Z", true)
  | 19 => ("AlarmMatrixModel", "needs", "[I", true)
  | 20 => ("AlarmMatrixModel", "zoneSize", "[I", true)
  | 21 => ("AlarmMatrixModel", "zonePoint", "[I", true)
  | 22 => ("AlarmMatrixModel", "actTold", "[Z", true)
  | 23 => ("AlarmMatrixModel", "kind", "[I", true)
  | 24 => ("AlarmMatrixModel", "rank", "[I", true)
  | 25 => ("AlarmMatrixModel", "delay", "[I", true)
  | 26 => ("AlarmMatrixModel", "latches", "[Z", true)
  | 27 => ("AlarmMatrixModel", "rows", "I", false)
  | 28 => ("AlarmMatrixModel", "readRows", "I", false)
  | 29 => ("AlarmMatrixModel", "rowFirst", "[I", true)
  | 30 => ("AlarmMatrixModel", "rowSecond", "[I", true)
  | 31 => ("AlarmMatrixModel", "rowAct", "[I", true)
  | 32 => ("AlarmMatrixModel", "state", "[I", true)
  | 33 => ("AlarmMatrixModel", "since", "[I", true)
  | 34 => ("AlarmMatrixModel", "looked", "[Z", true)
  | 35 => ("AlarmMatrixModel", "confirmed", "[Z", true)
  | 36 => ("AlarmMatrixModel", "events", "I", false)
  | 37 => ("AlarmMatrixModel", "eventTime", "[I", true)
  | 38 => ("AlarmMatrixModel", "eventAct", "[I", true)
  | 39 => ("AlarmMatrixModel", "eventDone", "[I", true)
  | 40 => ("AlarmMatrixModel", "said", "[I", true)
  | _ => ("AlarmMatrixModel", "saidSize", "I", false)
def t_MD : Nat → FieldType := fun k => match k with
  | 0 => .int
  | 1 => .int
  | 2 => .int
  | 3 => .array (.int)
  | 4 => .array (.boolean)
  | 5 => .array (.int)
  | 6 => .array (.int)
  | 7 => .array (.int)
  | 8 => .array (.int)
  | 9 => .array (.int)
  | 10 => .array (.boolean)
  | 11 => .array (.int)
  | 12 => .int
  | 13 => .int
  | 14 => .array (.int)
  | 15 => .array (.int)
  | 16 => .int
  | 17 => .int
  | 18 => .array (.boolean)
  | 19 => .array (.int)
  | 20 => .array (.int)
  | 21 => .array (.int)
  | 22 => .array (.boolean)
  | 23 => .array (.int)
  | 24 => .array (.int)
  | 25 => .array (.int)
  | 26 => .array (.boolean)
  | 27 => .int
  | 28 => .int
  | 29 => .array (.int)
  | 30 => .array (.int)
  | 31 => .array (.int)
  | 32 => .array (.int)
  | 33 => .array (.int)
  | 34 => .array (.boolean)
  | 35 => .array (.boolean)
  | 36 => .int
  | 37 => .array (.int)
  | 38 => .array (.int)
  | 39 => .array (.int)
  | 40 => .array (.int)
  | _ => .int
theorem n_MD : ∀ a, a < 42 → ∀ b, b < 42 → a ≠ b → (T_MD a).2.1 ≠ (T_MD b).2.1 := by decide +kernel
theorem o_MD : ∀ k, k < 42 → parseFieldDescriptor (T_MD k).2.2.1 = some (t_MD k) := by decide +kernel
abbrev vwCl : List vw_C := [("AlarmMatrix", T_AM, 7), ("AlarmMatrix$Text", T_Text, 3), ("AlarmMatrix$Words", T_Words, 4), ("AlarmMatrix$Reader", T_Reader, 3), ("AlarmMatrix$Plan", T_Plan, 6), ("AlarmMatrix$Zones", T_Zones, 5), ("AlarmMatrix$Acts", T_Acts, 13), ("AlarmMatrix$Points", T_Points, 6), ("AlarmMatrix$Loop", T_Loop, 5), ("AlarmMatrix$Events", T_Events, 5), ("AlarmMatrixModel", T_MD, 42)]
-- the words that a method may use: those of the tables that stay
def gw : List Cond := lw_tbl.filter goodWord
theorem in_t1 {w : Cond} (h : w ∈ tables_1_1) : w ∈ lw_tbl := List.mem_append_right _ (List.mem_append_left _ h)
theorem in_t2 {w : Cond} (h : w ∈ tables_1_2) : w ∈ lw_tbl := List.mem_append_right _ (List.mem_append_right _ (List.mem_append_left _ h))
theorem in_t3 {w : Cond} (h : w ∈ tables_1_3) : w ∈ lw_tbl := List.mem_append_right _ (List.mem_append_right _ (List.mem_append_right _ (List.mem_append_left _ h)))
theorem in_t4 {w : Cond} (h : w ∈ tables_1_4) : w ∈ lw_tbl := List.mem_append_right _ (List.mem_append_right _ (List.mem_append_right _ (List.mem_append_right _ (List.mem_append_left _ h))))
theorem in_t5 {w : Cond} (h : w ∈ tables_1_5) : w ∈ lw_tbl := List.mem_append_right _ (List.mem_append_right _ (List.mem_append_right _ (List.mem_append_right _ (List.mem_append_right _ (List.mem_append_left _ h)))))
theorem in_t6 {w : Cond} (h : w ∈ tables_1_6) : w ∈ lw_tbl := List.mem_append_right _ (List.mem_append_right _ (List.mem_append_right _ (List.mem_append_right _ (List.mem_append_right _ (List.mem_append_right _ (h))))))
theorem in_p {w : Cond} (h : w ∈ k2_sels lw_privs) : w ∈ lw_tbl := List.mem_append_left _ h
theorem in_gw {w : Cond} (h : w ∈ lw_tbl) (g : goodWord w = true) : w ∈ gw := List.mem_filter.mpr ⟨h, g⟩
theorem gw_good {w : Cond} (h : w ∈ gw) : (w.onTables && w.keeps) = true ∨ ∃ ty, w = .arrayClass ty := good_of_word (List.mem_filter.mp h).2
theorem gw_in {x : Cond} {Ts : List Cond} (h : ∀ w ∈ gw, w ∈ Ts) : GoodIn Ts gw := fun w hw => ⟨h w hw, gw_good hw⟩
theorem kp_0 : Cond.selects "AlarmMatrix$Reader" ⟨"AlarmMatrix$Reader", "readSentence", "()I"⟩ ⟨"AlarmMatrix$Reader", "readSentence", "()I"⟩ ∈ gw := in_gw (in_p (List.mem_of_getElem? (i := 0) rfl)) rfl
theorem kp_1 : Cond.selects "AlarmMatrix$Reader" ⟨"AlarmMatrix$Reader", "readZone", "()I"⟩ ⟨"AlarmMatrix$Reader", "readZone", "()I"⟩ ∈ gw := in_gw (in_p (List.mem_of_getElem? (i := 1) rfl)) rfl
theorem kp_2 : Cond.selects "AlarmMatrix$Reader" ⟨"AlarmMatrix$Reader", "readPoints", "(I)Z"⟩ ⟨"AlarmMatrix$Reader", "readPoints", "(I)Z"⟩ ∈ gw := in_gw (in_p (List.mem_of_getElem? (i := 2) rfl)) rfl
theorem kp_3 : Cond.selects "AlarmMatrix$Reader" ⟨"AlarmMatrix$Reader", "readAct", "()I"⟩ ⟨"AlarmMatrix$Reader", "readAct", "()I"⟩ ∈ gw := in_gw (in_p (List.mem_of_getElem? (i := 3) rfl)) rfl
theorem kp_4 : Cond.selects "AlarmMatrix$Acts" ⟨"AlarmMatrix$Acts", "putInOrder", "(I)V"⟩ ⟨"AlarmMatrix$Acts", "putInOrder", "(I)V"⟩ ∈ gw := in_gw (in_p (List.mem_of_getElem? (i := 4) rfl)) rfl
theorem kp_5 : Cond.selects "AlarmMatrix$Acts" ⟨"AlarmMatrix$Acts", "goesBefore", "(II)Z"⟩ ⟨"AlarmMatrix$Acts", "goesBefore", "(II)Z"⟩ ∈ gw := in_gw (in_p (List.mem_of_getElem? (i := 5) rfl)) rfl
theorem kp_6 : Cond.selects "AlarmMatrix$Reader" ⟨"AlarmMatrix$Reader", "readRow", "()I"⟩ ⟨"AlarmMatrix$Reader", "readRow", "()I"⟩ ∈ gw := in_gw (in_p (List.mem_of_getElem? (i := 6) rfl)) rfl
theorem kp_7 : Cond.selects "AlarmMatrix$Reader" ⟨"AlarmMatrix$Reader", "stepToToldZone", "()I"⟩ ⟨"AlarmMatrix$Reader", "stepToToldZone", "()I"⟩ ∈ gw := in_gw (in_p (List.mem_of_getElem? (i := 7) rfl)) rfl
theorem kp_8 : Cond.selects "AlarmMatrix$Reader" ⟨"AlarmMatrix$Reader", "stepToToldAct", "()I"⟩ ⟨"AlarmMatrix$Reader", "stepToToldAct", "()I"⟩ ∈ gw := in_gw (in_p (List.mem_of_getElem? (i := 8) rfl)) rfl
theorem kp_9 : Cond.selects "AlarmMatrix$Reader" ⟨"AlarmMatrix$Reader", "readHold", "()I"⟩ ⟨"AlarmMatrix$Reader", "readHold", "()I"⟩ ∈ gw := in_gw (in_p (List.mem_of_getElem? (i := 9) rfl)) rfl
theorem kp_10 : Cond.selects "AlarmMatrix$Zones" ⟨"AlarmMatrix$Zones", "lookAt", "(ILAlarmMatrix$Points;I)V"⟩ ⟨"AlarmMatrix$Zones", "lookAt", "(ILAlarmMatrix$Points;I)V"⟩ ∈ gw := in_gw (in_p (List.mem_of_getElem? (i := 10) rfl)) rfl
theorem kp_11 : Cond.selects "AlarmMatrix$Plan" ⟨"AlarmMatrix$Plan", "isMet", "(I)Z"⟩ ⟨"AlarmMatrix$Plan", "isMet", "(I)Z"⟩ ∈ gw := in_gw (in_p (List.mem_of_getElem? (i := 11) rfl)) rfl
theorem kp_12 : Cond.selects "AlarmMatrix$Plan" ⟨"AlarmMatrix$Plan", "hasSureZone", "(I)Z"⟩ ⟨"AlarmMatrix$Plan", "hasSureZone", "(I)Z"⟩ ∈ gw := in_gw (in_p (List.mem_of_getElem? (i := 12) rfl)) rfl
theorem kp_13 : Cond.selects "java/lang/Throwable" ⟨"java/lang/Throwable", "fillInStackTrace", "(I)Ljava/lang/Throwable;"⟩ ⟨"java/lang/Throwable", "fillInStackTrace", "(I)Ljava/lang/Throwable;"⟩ ∈ gw := in_gw (in_p (List.mem_of_getElem? (i := 13) rfl)) rfl
theorem kp_14 : Cond.selects "AlarmMatrix" ⟨"AlarmMatrix", "putSentence", "(IIIII)V"⟩ ⟨"AlarmMatrix", "putSentence", "(IIIII)V"⟩ ∈ gw := in_gw (in_p (List.mem_of_getElem? (i := 14) rfl)) rfl
theorem kp_15 : Cond.selects "AlarmMatrix$Loop" ⟨"AlarmMatrix$Loop", "findEnds", "()V"⟩ ⟨"AlarmMatrix$Loop", "findEnds", "()V"⟩ ∈ gw := in_gw (in_p (List.mem_of_getElem? (i := 15) rfl)) rfl
theorem kp_16 : Cond.selects "AlarmMatrix$Acts" ⟨"AlarmMatrix$Acts", "heed", "(II)I"⟩ ⟨"AlarmMatrix$Acts", "heed", "(II)I"⟩ ∈ gw := in_gw (in_p (List.mem_of_getElem? (i := 16) rfl)) rfl
theorem kp_17 : Cond.selects "AlarmMatrix$Acts" ⟨"AlarmMatrix$Acts", "beginToWait", "(II)V"⟩ ⟨"AlarmMatrix$Acts", "beginToWait", "(II)V"⟩ ∈ gw := in_gw (in_p (List.mem_of_getElem? (i := 17) rfl)) rfl
theorem kp_18 : Cond.selects "AlarmMatrix$Acts" ⟨"AlarmMatrix$Acts", "isDue", "(II)Z"⟩ ⟨"AlarmMatrix$Acts", "isDue", "(II)Z"⟩ ∈ gw := in_gw (in_p (List.mem_of_getElem? (i := 18) rfl)) rfl
theorem kp_19 : Cond.selects "AlarmMatrix$Acts" ⟨"AlarmMatrix$Acts", "letGo", "(I)I"⟩ ⟨"AlarmMatrix$Acts", "letGo", "(I)I"⟩ ∈ gw := in_gw (in_p (List.mem_of_getElem? (i := 19) rfl)) rfl
theorem kp_20 : Cond.selects "AlarmMatrixModel" ⟨"AlarmMatrixModel", "goes", "(ZZ)Z"⟩ ⟨"AlarmMatrixModel", "goes", "(ZZ)Z"⟩ ∈ gw := in_gw (in_p (List.mem_of_getElem? (i := 20) rfl)) rfl
theorem kp_21 : Cond.selects "AlarmMatrixModel" ⟨"AlarmMatrixModel", "write", "(I)V"⟩ ⟨"AlarmMatrixModel", "write", "(I)V"⟩ ∈ gw := in_gw (in_p (List.mem_of_getElem? (i := 21) rfl)) rfl
theorem kp_22 : Cond.selects "AlarmMatrixModel" ⟨"AlarmMatrixModel", "sentence", "(IIIII)V"⟩ ⟨"AlarmMatrixModel", "sentence", "(IIIII)V"⟩ ∈ gw := in_gw (in_p (List.mem_of_getElem? (i := 22) rfl)) rfl
theorem kp_23 : Cond.selects "AlarmMatrixModel" ⟨"AlarmMatrixModel", "word", "(I)V"⟩ ⟨"AlarmMatrixModel", "word", "(I)V"⟩ ∈ gw := in_gw (in_p (List.mem_of_getElem? (i := 23) rfl)) rfl
theorem kp_24 : Cond.selects "AlarmMatrixModel" ⟨"AlarmMatrixModel", "letter", "(I)V"⟩ ⟨"AlarmMatrixModel", "letter", "(I)V"⟩ ∈ gw := in_gw (in_p (List.mem_of_getElem? (i := 24) rfl)) rfl
theorem kp_25 : Cond.selects "AlarmMatrixModel" ⟨"AlarmMatrixModel", "number", "(I)V"⟩ ⟨"AlarmMatrixModel", "number", "(I)V"⟩ ∈ gw := in_gw (in_p (List.mem_of_getElem? (i := 25) rfl)) rfl
theorem kp_26 : Cond.selects "AlarmMatrixModel" ⟨"AlarmMatrixModel", "stop", "()V"⟩ ⟨"AlarmMatrixModel", "stop", "()V"⟩ ∈ gw := in_gw (in_p (List.mem_of_getElem? (i := 26) rfl)) rfl
theorem kp_27 : Cond.selects "AlarmMatrixModel" ⟨"AlarmMatrixModel", "list", "()V"⟩ ⟨"AlarmMatrixModel", "list", "()V"⟩ ∈ gw := in_gw (in_p (List.mem_of_getElem? (i := 27) rfl)) rfl
theorem kp_28 : Cond.selects "AlarmMatrixModel" ⟨"AlarmMatrixModel", "readSentence", "()V"⟩ ⟨"AlarmMatrixModel", "readSentence", "()V"⟩ ∈ gw := in_gw (in_p (List.mem_of_getElem? (i := 28) rfl)) rfl
theorem kp_29 : Cond.selects "AlarmMatrixModel" ⟨"AlarmMatrixModel", "letters", "()I"⟩ ⟨"AlarmMatrixModel", "letters", "()I"⟩ ∈ gw := in_gw (in_p (List.mem_of_getElem? (i := 29) rfl)) rfl
theorem kp_30 : Cond.selects "AlarmMatrixModel" ⟨"AlarmMatrixModel", "readZone", "()V"⟩ ⟨"AlarmMatrixModel", "readZone", "()V"⟩ ∈ gw := in_gw (in_p (List.mem_of_getElem? (i := 30) rfl)) rfl
theorem kp_31 : Cond.selects "AlarmMatrixModel" ⟨"AlarmMatrixModel", "look", "(II)I"⟩ ⟨"AlarmMatrixModel", "look", "(II)I"⟩ ∈ gw := in_gw (in_p (List.mem_of_getElem? (i := 31) rfl)) rfl
theorem kp_32 : Cond.selects "AlarmMatrixModel" ⟨"AlarmMatrixModel", "want", "(Z)Z"⟩ ⟨"AlarmMatrixModel", "want", "(Z)Z"⟩ ∈ gw := in_gw (in_p (List.mem_of_getElem? (i := 32) rfl)) rfl
theorem kp_33 : Cond.selects "AlarmMatrixModel" ⟨"AlarmMatrixModel", "take", "(I)V"⟩ ⟨"AlarmMatrixModel", "take", "(I)V"⟩ ∈ gw := in_gw (in_p (List.mem_of_getElem? (i := 33) rfl)) rfl
theorem kp_34 : Cond.selects "AlarmMatrixModel" ⟨"AlarmMatrixModel", "takeNumber", "(II)I"⟩ ⟨"AlarmMatrixModel", "takeNumber", "(II)I"⟩ ∈ gw := in_gw (in_p (List.mem_of_getElem? (i := 34) rfl)) rfl
theorem kp_35 : Cond.selects "AlarmMatrixModel" ⟨"AlarmMatrixModel", "has", "(II)Z"⟩ ⟨"AlarmMatrixModel", "has", "(II)Z"⟩ ∈ gw := in_gw (in_p (List.mem_of_getElem? (i := 35) rfl)) rfl
theorem kp_36 : Cond.selects "AlarmMatrixModel" ⟨"AlarmMatrixModel", "isSign", "(I)Z"⟩ ⟨"AlarmMatrixModel", "isSign", "(I)Z"⟩ ∈ gw := in_gw (in_p (List.mem_of_getElem? (i := 36) rfl)) rfl
theorem kp_37 : Cond.selects "AlarmMatrixModel" ⟨"AlarmMatrixModel", "readAct", "()V"⟩ ⟨"AlarmMatrixModel", "readAct", "()V"⟩ ∈ gw := in_gw (in_p (List.mem_of_getElem? (i := 37) rfl)) rfl
theorem kp_38 : Cond.selects "AlarmMatrixModel" ⟨"AlarmMatrixModel", "takeStop", "()V"⟩ ⟨"AlarmMatrixModel", "takeStop", "()V"⟩ ∈ gw := in_gw (in_p (List.mem_of_getElem? (i := 38) rfl)) rfl
theorem kp_39 : Cond.selects "AlarmMatrixModel" ⟨"AlarmMatrixModel", "readRow", "()V"⟩ ⟨"AlarmMatrixModel", "readRow", "()V"⟩ ∈ gw := in_gw (in_p (List.mem_of_getElem? (i := 39) rfl)) rfl
theorem kp_40 : Cond.selects "AlarmMatrixModel" ⟨"AlarmMatrixModel", "takeZone", "(I)I"⟩ ⟨"AlarmMatrixModel", "takeZone", "(I)I"⟩ ∈ gw := in_gw (in_p (List.mem_of_getElem? (i := 40) rfl)) rfl
theorem kp_41 : Cond.selects "AlarmMatrixModel" ⟨"AlarmMatrixModel", "readHold", "()V"⟩ ⟨"AlarmMatrixModel", "readHold", "()V"⟩ ∈ gw := in_gw (in_p (List.mem_of_getElem? (i := 41) rfl)) rfl
theorem kp_42 : Cond.selects "AlarmMatrixModel" ⟨"AlarmMatrixModel", "take", "()V"⟩ ⟨"AlarmMatrixModel", "take", "()V"⟩ ∈ gw := in_gw (in_p (List.mem_of_getElem? (i := 42) rfl)) rfl
theorem kp_43 : Cond.selects "AlarmMatrixModel" ⟨"AlarmMatrixModel", "rests", "(I)V"⟩ ⟨"AlarmMatrixModel", "rests", "(I)V"⟩ ∈ gw := in_gw (in_p (List.mem_of_getElem? (i := 43) rfl)) rfl
theorem kp_44 : Cond.selects "AlarmMatrixModel" ⟨"AlarmMatrixModel", "isPoint", "(I)Z"⟩ ⟨"AlarmMatrixModel", "isPoint", "(I)Z"⟩ ∈ gw := in_gw (in_p (List.mem_of_getElem? (i := 44) rfl)) rfl
theorem kp_45 : Cond.selects "AlarmMatrixModel" ⟨"AlarmMatrixModel", "isHeard", "(I)Z"⟩ ⟨"AlarmMatrixModel", "isHeard", "(I)Z"⟩ ∈ gw := in_gw (in_p (List.mem_of_getElem? (i := 45) rfl)) rfl
theorem kp_46 : Cond.selects "AlarmMatrixModel" ⟨"AlarmMatrixModel", "rankedOne", "(I)I"⟩ ⟨"AlarmMatrixModel", "rankedOne", "(I)I"⟩ ∈ gw := in_gw (in_p (List.mem_of_getElem? (i := 46) rfl)) rfl
theorem kp_47 : Cond.selects "AlarmMatrixModel" ⟨"AlarmMatrixModel", "go", "(I)I"⟩ ⟨"AlarmMatrixModel", "go", "(I)I"⟩ ∈ gw := in_gw (in_p (List.mem_of_getElem? (i := 47) rfl)) rfl
theorem kp_48 : Cond.selects "AlarmMatrixModel" ⟨"AlarmMatrixModel", "isCalled", "(IZ)Z"⟩ ⟨"AlarmMatrixModel", "isCalled", "(IZ)Z"⟩ ∈ gw := in_gw (in_p (List.mem_of_getElem? (i := 48) rfl)) rfl
theorem kp_49 : Cond.selects "AlarmMatrixModel" ⟨"AlarmMatrixModel", "isMet", "(I)Z"⟩ ⟨"AlarmMatrixModel", "isMet", "(I)Z"⟩ ∈ gw := in_gw (in_p (List.mem_of_getElem? (i := 49) rfl)) rfl
theorem kp_50 : Cond.selects "AlarmMatrixModel" ⟨"AlarmMatrixModel", "isOn", "(I)Z"⟩ ⟨"AlarmMatrixModel", "isOn", "(I)Z"⟩ ∈ gw := in_gw (in_p (List.mem_of_getElem? (i := 50) rfl)) rfl
theorem kp_51 : Cond.selects "AlarmMatrixModel" ⟨"AlarmMatrixModel", "ofZone", "(IZ)I"⟩ ⟨"AlarmMatrixModel", "ofZone", "(IZ)I"⟩ ∈ gw := in_gw (in_p (List.mem_of_getElem? (i := 51) rfl)) rfl
theorem kp_52 : Cond.selects "AlarmMatrixModel" ⟨"AlarmMatrixModel", "counts", "(I)Z"⟩ ⟨"AlarmMatrixModel", "counts", "(I)Z"⟩ ∈ gw := in_gw (in_p (List.mem_of_getElem? (i := 52) rfl)) rfl
theorem kp_53 : Cond.selects "AlarmMatrixModel" ⟨"AlarmMatrixModel", "isSure", "(I)Z"⟩ ⟨"AlarmMatrixModel", "isSure", "(I)Z"⟩ ∈ gw := in_gw (in_p (List.mem_of_getElem? (i := 53) rfl)) rfl
theorem kp_54 : Cond.selects "AlarmMatrixModel" ⟨"AlarmMatrixModel", "tell", "(II)V"⟩ ⟨"AlarmMatrixModel", "tell", "(II)V"⟩ ∈ gw := in_gw (in_p (List.mem_of_getElem? (i := 54) rfl)) rfl
theorem k1_0 : (Jvm.Cond.initialized "AlarmMatrixLaw") ∈ gw := in_gw (in_t1 (List.mem_of_getElem? (i := 0) rfl)) rfl
theorem k1_1 : (Jvm.Cond.initialized "AlarmMatrix") ∈ gw := in_gw (in_t1 (List.mem_of_getElem? (i := 1) rfl)) rfl
theorem k1_2 : (Jvm.Cond.initialized "AlarmMatrix$Text") ∈ gw := in_gw (in_t1 (List.mem_of_getElem? (i := 2) rfl)) rfl
theorem k1_3 : (Jvm.Cond.initialized "AlarmMatrix$Points") ∈ gw := in_gw (in_t1 (List.mem_of_getElem? (i := 3) rfl)) rfl
theorem k1_4 : (Jvm.Cond.initialized "java/lang/Math") ∈ gw := in_gw (in_t1 (List.mem_of_getElem? (i := 4) rfl)) rfl
theorem k1_5 : (Jvm.Cond.initialized "AlarmMatrix$Loop") ∈ gw := in_gw (in_t1 (List.mem_of_getElem? (i := 5) rfl)) rfl
theorem k1_6 : (Jvm.Cond.initialized "AlarmMatrix$Events") ∈ gw := in_gw (in_t1 (List.mem_of_getElem? (i := 6) rfl)) rfl
theorem k1_7 : (Jvm.Cond.initialized "AlarmMatrix$Plan") ∈ gw := in_gw (in_t1 (List.mem_of_getElem? (i := 7) rfl)) rfl
theorem k1_8 : (Jvm.Cond.initialized "AlarmMatrix$Zones") ∈ gw := in_gw (in_t1 (List.mem_of_getElem? (i := 8) rfl)) rfl
theorem k1_9 : (Jvm.Cond.initialized "AlarmMatrix$Acts") ∈ gw := in_gw (in_t1 (List.mem_of_getElem? (i := 9) rfl)) rfl
theorem k1_10 : (Jvm.Cond.initialized "AlarmMatrixModel") ∈ gw := in_gw (in_t1 (List.mem_of_getElem? (i := 10) rfl)) rfl
theorem k1_11 : (Jvm.Cond.initialized "java/lang/Throwable") ∈ gw := in_gw (in_t1 (List.mem_of_getElem? (i := 11) rfl)) rfl
theorem k1_12 : (Jvm.Cond.initialized "java/lang/Exception") ∈ gw := in_gw (in_t1 (List.mem_of_getElem? (i := 12) rfl)) rfl
theorem k1_13 : (Jvm.Cond.initialized "java/lang/RuntimeException") ∈ gw := in_gw (in_t1 (List.mem_of_getElem? (i := 13) rfl)) rfl
theorem k1_14 : (Jvm.Cond.initialized "java/lang/IllegalArgumentException") ∈ gw := in_gw (in_t1 (List.mem_of_getElem? (i := 14) rfl)) rfl
theorem k1_15 : (Jvm.Cond.initialized "java/lang/IllegalStateException") ∈ gw := in_gw (in_t1 (List.mem_of_getElem? (i := 15) rfl)) rfl
theorem k1_16 : (Jvm.Cond.initialized "java/lang/String") ∈ gw := in_gw (in_t1 (List.mem_of_getElem? (i := 16) rfl)) rfl
theorem k1_17 : (Jvm.Cond.initialized "java/lang/StringLatin1") ∈ gw := in_gw (in_t1 (List.mem_of_getElem? (i := 17) rfl)) rfl
theorem k1_18 : (Jvm.Cond.initialized "jdk/internal/util/Preconditions") ∈ gw := in_gw (in_t1 (List.mem_of_getElem? (i := 18) rfl)) rfl
theorem k1_19 : (Jvm.Cond.initialized "java/lang/StringUTF16") ∈ gw := in_gw (in_t1 (List.mem_of_getElem? (i := 19) rfl)) rfl
theorem k1_20 : (Jvm.Cond.initialized "AlarmMatrix$Reader") ∈ gw := in_gw (in_t1 (List.mem_of_getElem? (i := 20) rfl)) rfl
theorem k1_21 : (Jvm.Cond.initialized "AlarmMatrix$Words") ∈ gw := in_gw (in_t1 (List.mem_of_getElem? (i := 21) rfl)) rfl
theorem k1_22 : (Jvm.Cond.initialized "java/util/Arrays") ∈ gw := in_gw (in_t1 (List.mem_of_getElem? (i := 22) rfl)) rfl
theorem k1_23 : (Jvm.Cond.classLink "AlarmMatrixLaw" (8 : Nat) "AlarmMatrix") ∈ gw := in_gw (in_t1 (List.mem_of_getElem? (i := 23) rfl)) rfl
theorem k1_24 : (Jvm.Cond.instantiable "AlarmMatrix" (7 : Nat)) ∈ gw := in_gw (in_t1 (List.mem_of_getElem? (i := 24) rfl)) rfl
theorem k1_25 : (Jvm.Cond.methodLink "AlarmMatrixLaw" (75 : Nat) ({ cls := "AlarmMatrix", name := "<init>", desc := "(I)V" } : Jvm.MethodName)) ∈ gw := in_gw (in_t1 (List.mem_of_getElem? (i := 25) rfl)) rfl
theorem k1_26 : (Jvm.Cond.instanceMethod ({ cls := "AlarmMatrix", name := "<init>", desc := "(I)V" } : Jvm.MethodName)) ∈ gw := in_gw (in_t1 (List.mem_of_getElem? (i := 26) rfl)) rfl
theorem k1_27 : (Jvm.Cond.code ({ cls := "AlarmMatrix", name := "<init>", desc := "(I)V" } : Jvm.MethodName) prog_1_method_1_code (3 : Nat) (Option.none : Option Jvm.ClassFile.FieldType)) ∈ gw := in_gw (in_t1 (List.mem_of_getElem? (i := 27) rfl)) rfl
theorem k1_28 : (Jvm.Cond.methodLink "AlarmMatrix" (1 : Nat) ({ cls := "java/lang/Object", name := "<init>", desc := "()V" } : Jvm.MethodName)) ∈ gw := in_gw (in_t1 (List.mem_of_getElem? (i := 28) rfl)) rfl
theorem k1_29 : (Jvm.Cond.instanceMethod ({ cls := "java/lang/Object", name := "<init>", desc := "()V" } : Jvm.MethodName)) ∈ gw := in_gw (in_t1 (List.mem_of_getElem? (i := 29) rfl)) rfl
theorem k1_30 : (Jvm.Cond.code ({ cls := "java/lang/Object", name := "<init>", desc := "()V" } : Jvm.MethodName) object_method_1_code (1 : Nat) (Option.none : Option Jvm.ClassFile.FieldType)) ∈ gw := in_gw (in_t1 (List.mem_of_getElem? (i := 30) rfl)) rfl
theorem k1_31 : (Jvm.Cond.classLink "AlarmMatrix" (7 : Nat) "AlarmMatrix$Text") ∈ gw := in_gw (in_t1 (List.mem_of_getElem? (i := 31) rfl)) rfl
theorem k1_32 : (Jvm.Cond.instantiable "AlarmMatrix$Text" (3 : Nat)) ∈ gw := in_gw (in_t1 (List.mem_of_getElem? (i := 32) rfl)) rfl
theorem k1_34 : (Jvm.Cond.instanceMethod ({ cls := "AlarmMatrix$Text", name := "<init>", desc := "()V" } : Jvm.MethodName)) ∈ gw := in_gw (in_t1 (List.mem_of_getElem? (i := 34) rfl)) rfl
theorem k1_35 : (Jvm.Cond.code ({ cls := "AlarmMatrix$Text", name := "<init>", desc := "()V" } : Jvm.MethodName) prog_8_method_1_code (1 : Nat) (Option.none : Option Jvm.ClassFile.FieldType)) ∈ gw := in_gw (in_t1 (List.mem_of_getElem? (i := 35) rfl)) rfl
theorem k1_36 : (Jvm.Cond.methodLink "AlarmMatrix$Text" (3 : Nat) ({ cls := "java/lang/Object", name := "<init>", desc := "()V" } : Jvm.MethodName)) ∈ gw := in_gw (in_t1 (List.mem_of_getElem? (i := 36) rfl)) rfl
theorem k1_37 : (Jvm.Cond.fieldLink "AlarmMatrix$Text" (9 : Nat) "AlarmMatrix$Text" "characters" "[C") ∈ gw := in_gw (in_t1 (List.mem_of_getElem? (i := 37) rfl)) rfl
theorem k1_38 : (Jvm.Cond.fieldLink "AlarmMatrix$Text" (15 : Nat) "AlarmMatrix$Text" "digits" "[C") ∈ gw := in_gw (in_t1 (List.mem_of_getElem? (i := 38) rfl)) rfl
theorem k1_39 : (Jvm.Cond.fieldLink "AlarmMatrix$Text" (18 : Nat) "AlarmMatrix$Text" "length" "I") ∈ gw := in_gw (in_t1 (List.mem_of_getElem? (i := 39) rfl)) rfl
theorem k1_47 : (Jvm.Cond.arrayClass Jvm.ClassFile.FieldType.char) ∈ gw := in_gw (in_t1 (List.mem_of_getElem? (i := 47) rfl)) rfl
theorem k1_48 : (Jvm.Cond.classLink "AlarmMatrix" (16 : Nat) "AlarmMatrix$Points") ∈ gw := in_gw (in_t1 (List.mem_of_getElem? (i := 48) rfl)) rfl
theorem k1_49 : (Jvm.Cond.instantiable "AlarmMatrix$Points" (6 : Nat)) ∈ gw := in_gw (in_t1 (List.mem_of_getElem? (i := 49) rfl)) rfl
theorem k1_50 : (Jvm.Cond.methodLink "AlarmMatrix" (18 : Nat) ({ cls := "java/lang/Math", name := "min", desc := "(II)I" } : Jvm.MethodName)) ∈ gw := in_gw (in_t1 (List.mem_of_getElem? (i := 50) rfl)) rfl
theorem k1_51 : (Jvm.Cond.static ({ cls := "java/lang/Math", name := "min", desc := "(II)I" } : Jvm.MethodName)) ∈ gw := in_gw (in_t1 (List.mem_of_getElem? (i := 51) rfl)) rfl
theorem k1_52 : (Jvm.Cond.code ({ cls := "java/lang/Math", name := "min", desc := "(II)I" } : Jvm.MethodName) prog_16_method_69_code (2 : Nat) (Option.some Jvm.ClassFile.FieldType.int)) ∈ gw := in_gw (in_t1 (List.mem_of_getElem? (i := 52) rfl)) rfl
theorem k1_53 : (Jvm.Cond.methodLink "AlarmMatrix" (24 : Nat) ({ cls := "java/lang/Math", name := "max", desc := "(II)I" } : Jvm.MethodName)) ∈ gw := in_gw (in_t1 (List.mem_of_getElem? (i := 53) rfl)) rfl
theorem k1_54 : (Jvm.Cond.static ({ cls := "java/lang/Math", name := "max", desc := "(II)I" } : Jvm.MethodName)) ∈ gw := in_gw (in_t1 (List.mem_of_getElem? (i := 54) rfl)) rfl
theorem k1_55 : (Jvm.Cond.code ({ cls := "java/lang/Math", name := "max", desc := "(II)I" } : Jvm.MethodName) prog_16_method_65_code (2 : Nat) (Option.some Jvm.ClassFile.FieldType.int)) ∈ gw := in_gw (in_t1 (List.mem_of_getElem? (i := 55) rfl)) rfl
theorem k1_56 : (Jvm.Cond.methodLink "AlarmMatrix" (27 : Nat) ({ cls := "AlarmMatrix$Points", name := "<init>", desc := "(I)V" } : Jvm.MethodName)) ∈ gw := in_gw (in_t1 (List.mem_of_getElem? (i := 56) rfl)) rfl
theorem k1_57 : (Jvm.Cond.instanceMethod ({ cls := "AlarmMatrix$Points", name := "<init>", desc := "(I)V" } : Jvm.MethodName)) ∈ gw := in_gw (in_t1 (List.mem_of_getElem? (i := 57) rfl)) rfl
theorem k1_58 : (Jvm.Cond.code ({ cls := "AlarmMatrix$Points", name := "<init>", desc := "(I)V" } : Jvm.MethodName) prog_6_method_1_code (2 : Nat) (Option.none : Option Jvm.ClassFile.FieldType)) ∈ gw := in_gw (in_t1 (List.mem_of_getElem? (i := 58) rfl)) rfl
theorem k1_59 : (Jvm.Cond.methodLink "AlarmMatrix$Points" (3 : Nat) ({ cls := "java/lang/Object", name := "<init>", desc := "()V" } : Jvm.MethodName)) ∈ gw := in_gw (in_t1 (List.mem_of_getElem? (i := 59) rfl)) rfl
theorem k1_60 : (Jvm.Cond.fieldLink "AlarmMatrix$Points" (9 : Nat) "AlarmMatrix$Points" "count" "I") ∈ gw := in_gw (in_t1 (List.mem_of_getElem? (i := 60) rfl)) rfl
theorem k1_61 : (Jvm.Cond.fieldLink "AlarmMatrix$Points" (15 : Nat) "AlarmMatrix$Points" "values" "[I") ∈ gw := in_gw (in_t1 (List.mem_of_getElem? (i := 61) rfl)) rfl
theorem k1_62 : (Jvm.Cond.fieldLink "AlarmMatrix$Points" (19 : Nat) "AlarmMatrix$Points" "disabledUntil" "[I") ∈ gw := in_gw (in_t1 (List.mem_of_getElem? (i := 62) rfl)) rfl
theorem k1_63 : (Jvm.Cond.fieldLink "AlarmMatrix$Points" (22 : Nat) "AlarmMatrix$Points" "faulty" "[Z") ∈ gw := in_gw (in_t1 (List.mem_of_getElem? (i := 63) rfl)) rfl
theorem k1_64 : (Jvm.Cond.fieldLink "AlarmMatrix$Points" (26 : Nat) "AlarmMatrix$Points" "inLoop" "[Z") ∈ gw := in_gw (in_t1 (List.mem_of_getElem? (i := 64) rfl)) rfl
theorem k1_65 : (Jvm.Cond.fieldLink "AlarmMatrix$Points" (29 : Nat) "AlarmMatrix$Points" "unheard" "[Z") ∈ gw := in_gw (in_t1 (List.mem_of_getElem? (i := 65) rfl)) rfl
theorem k1_79 : (Jvm.Cond.arrayClass Jvm.ClassFile.FieldType.int) ∈ gw := in_gw (in_t1 (List.mem_of_getElem? (i := 79) rfl)) rfl
theorem k1_80 : (Jvm.Cond.arrayClass Jvm.ClassFile.FieldType.boolean) ∈ gw := in_gw (in_t1 (List.mem_of_getElem? (i := 80) rfl)) rfl
theorem k1_81 : (Jvm.Cond.classLink "AlarmMatrix" (34 : Nat) "AlarmMatrix$Loop") ∈ gw := in_gw (in_t1 (List.mem_of_getElem? (i := 81) rfl)) rfl
theorem k1_83 : (Jvm.Cond.instantiable "AlarmMatrix$Loop" (5 : Nat)) ∈ gw := in_gw (in_t1 (List.mem_of_getElem? (i := 83) rfl)) rfl
theorem k1_85 : (Jvm.Cond.instanceMethod ({ cls := "AlarmMatrix$Loop", name := "<init>", desc := "()V" } : Jvm.MethodName)) ∈ gw := in_gw (in_t1 (List.mem_of_getElem? (i := 85) rfl)) rfl
theorem k1_86 : (Jvm.Cond.code ({ cls := "AlarmMatrix$Loop", name := "<init>", desc := "()V" } : Jvm.MethodName) prog_4_method_1_code (1 : Nat) (Option.none : Option Jvm.ClassFile.FieldType)) ∈ gw := in_gw (in_t1 (List.mem_of_getElem? (i := 86) rfl)) rfl
theorem k1_87 : (Jvm.Cond.methodLink "AlarmMatrix$Loop" (3 : Nat) ({ cls := "java/lang/Object", name := "<init>", desc := "()V" } : Jvm.MethodName)) ∈ gw := in_gw (in_t1 (List.mem_of_getElem? (i := 87) rfl)) rfl
theorem k1_88 : (Jvm.Cond.fieldLink "AlarmMatrix$Loop" (9 : Nat) "AlarmMatrix$Loop" "members" "[I") ∈ gw := in_gw (in_t1 (List.mem_of_getElem? (i := 88) rfl)) rfl
theorem k1_89 : (Jvm.Cond.fieldLink "AlarmMatrix$Loop" (15 : Nat) "AlarmMatrix$Loop" "cuts" "[Z") ∈ gw := in_gw (in_t1 (List.mem_of_getElem? (i := 89) rfl)) rfl
theorem k1_90 : (Jvm.Cond.fieldLink "AlarmMatrix$Loop" (19 : Nat) "AlarmMatrix$Loop" "size" "I") ∈ gw := in_gw (in_t1 (List.mem_of_getElem? (i := 90) rfl)) rfl
theorem k1_91 : (Jvm.Cond.fieldLink "AlarmMatrix$Loop" (23 : Nat) "AlarmMatrix$Loop" "firstCut" "I") ∈ gw := in_gw (in_t1 (List.mem_of_getElem? (i := 91) rfl)) rfl
theorem k1_92 : (Jvm.Cond.fieldLink "AlarmMatrix$Loop" (26 : Nat) "AlarmMatrix$Loop" "lastCut" "I") ∈ gw := in_gw (in_t1 (List.mem_of_getElem? (i := 92) rfl)) rfl
theorem k1_104 : (Jvm.Cond.classLink "AlarmMatrix" (41 : Nat) "AlarmMatrix$Events") ∈ gw := in_gw (in_t1 (List.mem_of_getElem? (i := 104) rfl)) rfl
theorem k1_105 : (Jvm.Cond.instantiable "AlarmMatrix$Events" (5 : Nat)) ∈ gw := in_gw (in_t1 (List.mem_of_getElem? (i := 105) rfl)) rfl
theorem k1_107 : (Jvm.Cond.instanceMethod ({ cls := "AlarmMatrix$Events", name := "<init>", desc := "()V" } : Jvm.MethodName)) ∈ gw := in_gw (in_t1 (List.mem_of_getElem? (i := 107) rfl)) rfl
theorem k1_108 : (Jvm.Cond.code ({ cls := "AlarmMatrix$Events", name := "<init>", desc := "()V" } : Jvm.MethodName) prog_3_method_1_code (1 : Nat) (Option.none : Option Jvm.ClassFile.FieldType)) ∈ gw := in_gw (in_t1 (List.mem_of_getElem? (i := 108) rfl)) rfl
theorem k1_109 : (Jvm.Cond.methodLink "AlarmMatrix$Events" (3 : Nat) ({ cls := "java/lang/Object", name := "<init>", desc := "()V" } : Jvm.MethodName)) ∈ gw := in_gw (in_t1 (List.mem_of_getElem? (i := 109) rfl)) rfl
theorem k1_110 : (Jvm.Cond.fieldLink "AlarmMatrix$Events" (9 : Nat) "AlarmMatrix$Events" "times" "[I") ∈ gw := in_gw (in_t1 (List.mem_of_getElem? (i := 110) rfl)) rfl
theorem k1_111 : (Jvm.Cond.fieldLink "AlarmMatrix$Events" (15 : Nat) "AlarmMatrix$Events" "acts" "[I") ∈ gw := in_gw (in_t1 (List.mem_of_getElem? (i := 111) rfl)) rfl
theorem k1_112 : (Jvm.Cond.fieldLink "AlarmMatrix$Events" (18 : Nat) "AlarmMatrix$Events" "kinds" "[I") ∈ gw := in_gw (in_t1 (List.mem_of_getElem? (i := 112) rfl)) rfl
theorem k1_113 : (Jvm.Cond.fieldLink "AlarmMatrix$Events" (21 : Nat) "AlarmMatrix$Events" "next" "I") ∈ gw := in_gw (in_t1 (List.mem_of_getElem? (i := 113) rfl)) rfl
theorem k1_114 : (Jvm.Cond.fieldLink "AlarmMatrix$Events" (25 : Nat) "AlarmMatrix$Events" "count" "I") ∈ gw := in_gw (in_t1 (List.mem_of_getElem? (i := 114) rfl)) rfl
theorem k1_126 : (Jvm.Cond.classLink "AlarmMatrix" (48 : Nat) "AlarmMatrix$Plan") ∈ gw := in_gw (in_t1 (List.mem_of_getElem? (i := 126) rfl)) rfl
theorem k1_127 : (Jvm.Cond.instantiable "AlarmMatrix$Plan" (6 : Nat)) ∈ gw := in_gw (in_t1 (List.mem_of_getElem? (i := 127) rfl)) rfl
theorem k1_129 : (Jvm.Cond.instanceMethod ({ cls := "AlarmMatrix$Plan", name := "<init>", desc := "()V" } : Jvm.MethodName)) ∈ gw := in_gw (in_t1 (List.mem_of_getElem? (i := 129) rfl)) rfl
theorem k1_130 : (Jvm.Cond.code ({ cls := "AlarmMatrix$Plan", name := "<init>", desc := "()V" } : Jvm.MethodName) prog_5_method_1_code (1 : Nat) (Option.none : Option Jvm.ClassFile.FieldType)) ∈ gw := in_gw (in_t1 (List.mem_of_getElem? (i := 130) rfl)) rfl
theorem k1_131 : (Jvm.Cond.methodLink "AlarmMatrix$Plan" (3 : Nat) ({ cls := "java/lang/Object", name := "<init>", desc := "()V" } : Jvm.MethodName)) ∈ gw := in_gw (in_t1 (List.mem_of_getElem? (i := 131) rfl)) rfl
theorem k1_132 : (Jvm.Cond.classLink "AlarmMatrix$Plan" (9 : Nat) "AlarmMatrix$Zones") ∈ gw := in_gw (in_t1 (List.mem_of_getElem? (i := 132) rfl)) rfl
theorem k1_133 : (Jvm.Cond.instantiable "AlarmMatrix$Zones" (5 : Nat)) ∈ gw := in_gw (in_t1 (List.mem_of_getElem? (i := 133) rfl)) rfl
theorem k1_135 : (Jvm.Cond.instanceMethod ({ cls := "AlarmMatrix$Zones", name := "<init>", desc := "()V" } : Jvm.MethodName)) ∈ gw := in_gw (in_t1 (List.mem_of_getElem? (i := 135) rfl)) rfl
theorem k1_136 : (Jvm.Cond.code ({ cls := "AlarmMatrix$Zones", name := "<init>", desc := "()V" } : Jvm.MethodName) prog_10_method_1_code (1 : Nat) (Option.none : Option Jvm.ClassFile.FieldType)) ∈ gw := in_gw (in_t1 (List.mem_of_getElem? (i := 136) rfl)) rfl
theorem k1_137 : (Jvm.Cond.methodLink "AlarmMatrix$Zones" (3 : Nat) ({ cls := "java/lang/Object", name := "<init>", desc := "()V" } : Jvm.MethodName)) ∈ gw := in_gw (in_t1 (List.mem_of_getElem? (i := 137) rfl)) rfl
theorem k1_138 : (Jvm.Cond.fieldLink "AlarmMatrix$Zones" (9 : Nat) "AlarmMatrix$Zones" "needs" "[I") ∈ gw := in_gw (in_t1 (List.mem_of_getElem? (i := 138) rfl)) rfl
theorem k1_139 : (Jvm.Cond.fieldLink "AlarmMatrix$Zones" (15 : Nat) "AlarmMatrix$Zones" "sizes" "[I") ∈ gw := in_gw (in_t1 (List.mem_of_getElem? (i := 139) rfl)) rfl
theorem k1_140 : (Jvm.Cond.fieldLink "AlarmMatrix$Zones" (18 : Nat) "AlarmMatrix$Zones" "members" "[I") ∈ gw := in_gw (in_t1 (List.mem_of_getElem? (i := 140) rfl)) rfl
theorem k1_141 : (Jvm.Cond.fieldLink "AlarmMatrix$Zones" (21 : Nat) "AlarmMatrix$Zones" "onCounts" "[I") ∈ gw := in_gw (in_t1 (List.mem_of_getElem? (i := 141) rfl)) rfl
theorem k1_142 : (Jvm.Cond.fieldLink "AlarmMatrix$Zones" (24 : Nat) "AlarmMatrix$Zones" "ableCounts" "[I") ∈ gw := in_gw (in_t1 (List.mem_of_getElem? (i := 142) rfl)) rfl
theorem k1_154 : (Jvm.Cond.classLink "AlarmMatrix$Plan" (18 : Nat) "AlarmMatrix$Acts") ∈ gw := in_gw (in_t1 (List.mem_of_getElem? (i := 154) rfl)) rfl
theorem k1_155 : (Jvm.Cond.instantiable "AlarmMatrix$Acts" (13 : Nat)) ∈ gw := in_gw (in_t1 (List.mem_of_getElem? (i := 155) rfl)) rfl
theorem k1_157 : (Jvm.Cond.instanceMethod ({ cls := "AlarmMatrix$Acts", name := "<init>", desc := "()V" } : Jvm.MethodName)) ∈ gw := in_gw (in_t1 (List.mem_of_getElem? (i := 157) rfl)) rfl
theorem k1_158 : (Jvm.Cond.code ({ cls := "AlarmMatrix$Acts", name := "<init>", desc := "()V" } : Jvm.MethodName) prog_2_method_1_code (1 : Nat) (Option.none : Option Jvm.ClassFile.FieldType)) ∈ gw := in_gw (in_t1 (List.mem_of_getElem? (i := 158) rfl)) rfl
theorem k1_159 : (Jvm.Cond.methodLink "AlarmMatrix$Acts" (3 : Nat) ({ cls := "java/lang/Object", name := "<init>", desc := "()V" } : Jvm.MethodName)) ∈ gw := in_gw (in_t1 (List.mem_of_getElem? (i := 159) rfl)) rfl
theorem k1_160 : (Jvm.Cond.fieldLink "AlarmMatrix$Acts" (9 : Nat) "AlarmMatrix$Acts" "kinds" "[I") ∈ gw := in_gw (in_t1 (List.mem_of_getElem? (i := 160) rfl)) rfl
theorem k1_161 : (Jvm.Cond.fieldLink "AlarmMatrix$Acts" (15 : Nat) "AlarmMatrix$Acts" "ranks" "[I") ∈ gw := in_gw (in_t1 (List.mem_of_getElem? (i := 161) rfl)) rfl
theorem k1_162 : (Jvm.Cond.fieldLink "AlarmMatrix$Acts" (18 : Nat) "AlarmMatrix$Acts" "delays" "[I") ∈ gw := in_gw (in_t1 (List.mem_of_getElem? (i := 162) rfl)) rfl
theorem k1_163 : (Jvm.Cond.fieldLink "AlarmMatrix$Acts" (21 : Nat) "AlarmMatrix$Acts" "told" "[Z") ∈ gw := in_gw (in_t1 (List.mem_of_getElem? (i := 163) rfl)) rfl
theorem k1_164 : (Jvm.Cond.fieldLink "AlarmMatrix$Acts" (25 : Nat) "AlarmMatrix$Acts" "held" "[Z") ∈ gw := in_gw (in_t1 (List.mem_of_getElem? (i := 164) rfl)) rfl
theorem k1_165 : (Jvm.Cond.fieldLink "AlarmMatrix$Acts" (28 : Nat) "AlarmMatrix$Acts" "order" "[I") ∈ gw := in_gw (in_t1 (List.mem_of_getElem? (i := 165) rfl)) rfl
theorem k1_166 : (Jvm.Cond.fieldLink "AlarmMatrix$Acts" (31 : Nat) "AlarmMatrix$Acts" "count" "I") ∈ gw := in_gw (in_t1 (List.mem_of_getElem? (i := 166) rfl)) rfl
theorem k1_167 : (Jvm.Cond.fieldLink "AlarmMatrix$Acts" (35 : Nat) "AlarmMatrix$Acts" "states" "[I") ∈ gw := in_gw (in_t1 (List.mem_of_getElem? (i := 167) rfl)) rfl
theorem k1_168 : (Jvm.Cond.fieldLink "AlarmMatrix$Acts" (38 : Nat) "AlarmMatrix$Acts" "since" "[I") ∈ gw := in_gw (in_t1 (List.mem_of_getElem? (i := 168) rfl)) rfl
theorem k1_169 : (Jvm.Cond.fieldLink "AlarmMatrix$Acts" (41 : Nat) "AlarmMatrix$Acts" "looked" "[Z") ∈ gw := in_gw (in_t1 (List.mem_of_getElem? (i := 169) rfl)) rfl
theorem k1_170 : (Jvm.Cond.fieldLink "AlarmMatrix$Acts" (44 : Nat) "AlarmMatrix$Acts" "confirmed" "[Z") ∈ gw := in_gw (in_t1 (List.mem_of_getElem? (i := 170) rfl)) rfl
theorem k1_171 : (Jvm.Cond.fieldLink "AlarmMatrix$Acts" (47 : Nat) "AlarmMatrix$Acts" "called" "[Z") ∈ gw := in_gw (in_t1 (List.mem_of_getElem? (i := 171) rfl)) rfl
theorem k1_172 : (Jvm.Cond.fieldLink "AlarmMatrix$Acts" (50 : Nat) "AlarmMatrix$Acts" "surelyCalled" "[Z") ∈ gw := in_gw (in_t1 (List.mem_of_getElem? (i := 172) rfl)) rfl
theorem k1_200 : (Jvm.Cond.fieldLink "AlarmMatrix$Plan" (12 : Nat) "AlarmMatrix$Plan" "zones" "LAlarmMatrix$Zones;") ∈ gw := in_gw (in_t1 (List.mem_of_getElem? (i := 200) rfl)) rfl
theorem k1_201 : (Jvm.Cond.fieldLink "AlarmMatrix$Plan" (21 : Nat) "AlarmMatrix$Plan" "acts" "LAlarmMatrix$Acts;") ∈ gw := in_gw (in_t1 (List.mem_of_getElem? (i := 201) rfl)) rfl
theorem k1_202 : (Jvm.Cond.fieldLink "AlarmMatrix$Plan" (25 : Nat) "AlarmMatrix$Plan" "firstZones" "[I") ∈ gw := in_gw (in_t1 (List.mem_of_getElem? (i := 202) rfl)) rfl
theorem k1_203 : (Jvm.Cond.fieldLink "AlarmMatrix$Plan" (29 : Nat) "AlarmMatrix$Plan" "otherZones" "[I") ∈ gw := in_gw (in_t1 (List.mem_of_getElem? (i := 203) rfl)) rfl
theorem k1_204 : (Jvm.Cond.fieldLink "AlarmMatrix$Plan" (32 : Nat) "AlarmMatrix$Plan" "rowActs" "[I") ∈ gw := in_gw (in_t1 (List.mem_of_getElem? (i := 204) rfl)) rfl
theorem k1_205 : (Jvm.Cond.fieldLink "AlarmMatrix$Plan" (35 : Nat) "AlarmMatrix$Plan" "rowCount" "I") ∈ gw := in_gw (in_t1 (List.mem_of_getElem? (i := 205) rfl)) rfl
theorem k1_219 : (Jvm.Cond.fieldLink "AlarmMatrix" (10 : Nat) "AlarmMatrix" "text" "LAlarmMatrix$Text;") ∈ gw := in_gw (in_t1 (List.mem_of_getElem? (i := 219) rfl)) rfl
theorem k1_220 : (Jvm.Cond.fieldLink "AlarmMatrix" (30 : Nat) "AlarmMatrix" "points" "LAlarmMatrix$Points;") ∈ gw := in_gw (in_t1 (List.mem_of_getElem? (i := 220) rfl)) rfl
theorem k1_221 : (Jvm.Cond.fieldLink "AlarmMatrix" (36 : Nat) "AlarmMatrix" "loops" "[LAlarmMatrix$Loop;") ∈ gw := in_gw (in_t1 (List.mem_of_getElem? (i := 221) rfl)) rfl
theorem k1_222 : (Jvm.Cond.fieldLink "AlarmMatrix" (44 : Nat) "AlarmMatrix" "events" "LAlarmMatrix$Events;") ∈ gw := in_gw (in_t1 (List.mem_of_getElem? (i := 222) rfl)) rfl
theorem k1_223 : (Jvm.Cond.fieldLink "AlarmMatrix" (51 : Nat) "AlarmMatrix" "plan" "LAlarmMatrix$Plan;") ∈ gw := in_gw (in_t1 (List.mem_of_getElem? (i := 223) rfl)) rfl
theorem k1_224 : (Jvm.Cond.fieldLink "AlarmMatrix" (55 : Nat) "AlarmMatrix" "spare" "LAlarmMatrix$Plan;") ∈ gw := in_gw (in_t1 (List.mem_of_getElem? (i := 224) rfl)) rfl
theorem k1_225 : (Jvm.Cond.fieldLink "AlarmMatrix" (58 : Nat) "AlarmMatrix" "now" "I") ∈ gw := in_gw (in_t1 (List.mem_of_getElem? (i := 225) rfl)) rfl
theorem k2_1 : (Jvm.Cond.methodLink "AlarmMatrixLaw" (96 : Nat) ({ cls := "AlarmMatrix", name := "read", desc := "()I" } : Jvm.MethodName)) ∈ gw := in_gw (in_t2 (List.mem_of_getElem? (i := 1) rfl)) rfl
theorem k2_2 : (Jvm.Cond.instanceMethod ({ cls := "AlarmMatrix", name := "read", desc := "()I" } : Jvm.MethodName)) ∈ gw := in_gw (in_t2 (List.mem_of_getElem? (i := 2) rfl)) rfl
theorem k2_3 : (Jvm.Cond.selects "AlarmMatrix" ({ cls := "AlarmMatrix", name := "read", desc := "()I" } : Jvm.MethodName) ({ cls := "AlarmMatrix", name := "read", desc := "()I" } : Jvm.MethodName)) ∈ gw := in_gw (in_t2 (List.mem_of_getElem? (i := 3) rfl)) rfl
theorem k2_4 : (Jvm.Cond.code ({ cls := "AlarmMatrix", name := "read", desc := "()I" } : Jvm.MethodName) prog_1_method_5_code (4 : Nat) (Option.some Jvm.ClassFile.FieldType.int)) ∈ gw := in_gw (in_t2 (List.mem_of_getElem? (i := 4) rfl)) rfl
theorem k2_5 : (Jvm.Cond.classLink "AlarmMatrix" (103 : Nat) "AlarmMatrix$Reader") ∈ gw := in_gw (in_t2 (List.mem_of_getElem? (i := 5) rfl)) rfl
theorem k2_6 : (Jvm.Cond.instantiable "AlarmMatrix$Reader" (3 : Nat)) ∈ gw := in_gw (in_t2 (List.mem_of_getElem? (i := 6) rfl)) rfl
theorem k2_7 : (Jvm.Cond.methodLink "AlarmMatrix" (105 : Nat) ({ cls := "AlarmMatrix$Points", name := "count", desc := "()I" } : Jvm.MethodName)) ∈ gw := in_gw (in_t2 (List.mem_of_getElem? (i := 7) rfl)) rfl
theorem k2_8 : (Jvm.Cond.instanceMethod ({ cls := "AlarmMatrix$Points", name := "count", desc := "()I" } : Jvm.MethodName)) ∈ gw := in_gw (in_t2 (List.mem_of_getElem? (i := 8) rfl)) rfl
theorem k2_9 : (Jvm.Cond.selects "AlarmMatrix$Points" ({ cls := "AlarmMatrix$Points", name := "count", desc := "()I" } : Jvm.MethodName) ({ cls := "AlarmMatrix$Points", name := "count", desc := "()I" } : Jvm.MethodName)) ∈ gw := in_gw (in_t2 (List.mem_of_getElem? (i := 9) rfl)) rfl
theorem k2_10 : (Jvm.Cond.code ({ cls := "AlarmMatrix$Points", name := "count", desc := "()I" } : Jvm.MethodName) prog_6_method_2_code (1 : Nat) (Option.some Jvm.ClassFile.FieldType.int)) ∈ gw := in_gw (in_t2 (List.mem_of_getElem? (i := 10) rfl)) rfl
theorem k2_11 : (Jvm.Cond.methodLink "AlarmMatrix" (108 : Nat) ({ cls := "AlarmMatrix$Reader", name := "<init>", desc := "(LAlarmMatrix$Text;LAlarmMatrix$Plan;I)V" } : Jvm.MethodName)) ∈ gw := in_gw (in_t2 (List.mem_of_getElem? (i := 11) rfl)) rfl
theorem k2_12 : (Jvm.Cond.instanceMethod ({ cls := "AlarmMatrix$Reader", name := "<init>", desc := "(LAlarmMatrix$Text;LAlarmMatrix$Plan;I)V" } : Jvm.MethodName)) ∈ gw := in_gw (in_t2 (List.mem_of_getElem? (i := 12) rfl)) rfl
theorem k2_13 : (Jvm.Cond.code ({ cls := "AlarmMatrix$Reader", name := "<init>", desc := "(LAlarmMatrix$Text;LAlarmMatrix$Plan;I)V" } : Jvm.MethodName) prog_7_method_1_code (4 : Nat) (Option.none : Option Jvm.ClassFile.FieldType)) ∈ gw := in_gw (in_t2 (List.mem_of_getElem? (i := 13) rfl)) rfl
theorem k2_14 : (Jvm.Cond.methodLink "AlarmMatrix$Reader" (3 : Nat) ({ cls := "java/lang/Object", name := "<init>", desc := "()V" } : Jvm.MethodName)) ∈ gw := in_gw (in_t2 (List.mem_of_getElem? (i := 14) rfl)) rfl
theorem k2_15 : (Jvm.Cond.classLink "AlarmMatrix$Reader" (9 : Nat) "AlarmMatrix$Words") ∈ gw := in_gw (in_t2 (List.mem_of_getElem? (i := 15) rfl)) rfl
theorem k2_16 : (Jvm.Cond.instantiable "AlarmMatrix$Words" (4 : Nat)) ∈ gw := in_gw (in_t2 (List.mem_of_getElem? (i := 16) rfl)) rfl
theorem k2_17 : (Jvm.Cond.methodLink "AlarmMatrix$Reader" (11 : Nat) ({ cls := "AlarmMatrix$Words", name := "<init>", desc := "(LAlarmMatrix$Text;)V" } : Jvm.MethodName)) ∈ gw := in_gw (in_t2 (List.mem_of_getElem? (i := 17) rfl)) rfl
theorem k2_18 : (Jvm.Cond.instanceMethod ({ cls := "AlarmMatrix$Words", name := "<init>", desc := "(LAlarmMatrix$Text;)V" } : Jvm.MethodName)) ∈ gw := in_gw (in_t2 (List.mem_of_getElem? (i := 18) rfl)) rfl
theorem k2_19 : (Jvm.Cond.code ({ cls := "AlarmMatrix$Words", name := "<init>", desc := "(LAlarmMatrix$Text;)V" } : Jvm.MethodName) prog_9_method_1_code (2 : Nat) (Option.none : Option Jvm.ClassFile.FieldType)) ∈ gw := in_gw (in_t2 (List.mem_of_getElem? (i := 19) rfl)) rfl
theorem k2_20 : (Jvm.Cond.methodLink "AlarmMatrix$Words" (3 : Nat) ({ cls := "java/lang/Object", name := "<init>", desc := "()V" } : Jvm.MethodName)) ∈ gw := in_gw (in_t2 (List.mem_of_getElem? (i := 20) rfl)) rfl
theorem k2_21 : (Jvm.Cond.fieldLink "AlarmMatrix$Words" (21 : Nat) "AlarmMatrix$Words" "text" "LAlarmMatrix$Text;") ∈ gw := in_gw (in_t2 (List.mem_of_getElem? (i := 21) rfl)) rfl
theorem k2_22 : (Jvm.Cond.fieldLink "AlarmMatrix$Words" (9 : Nat) "AlarmMatrix$Words" "begin" "I") ∈ gw := in_gw (in_t2 (List.mem_of_getElem? (i := 22) rfl)) rfl
theorem k2_23 : (Jvm.Cond.fieldLink "AlarmMatrix$Words" (15 : Nat) "AlarmMatrix$Words" "end" "I") ∈ gw := in_gw (in_t2 (List.mem_of_getElem? (i := 23) rfl)) rfl
theorem k2_24 : (Jvm.Cond.fieldLink "AlarmMatrix$Words" (18 : Nat) "AlarmMatrix$Words" "number" "I") ∈ gw := in_gw (in_t2 (List.mem_of_getElem? (i := 24) rfl)) rfl
theorem k2_34 : (Jvm.Cond.fieldLink "AlarmMatrix$Reader" (14 : Nat) "AlarmMatrix$Reader" "words" "LAlarmMatrix$Words;") ∈ gw := in_gw (in_t2 (List.mem_of_getElem? (i := 34) rfl)) rfl
theorem k2_35 : (Jvm.Cond.fieldLink "AlarmMatrix$Reader" (20 : Nat) "AlarmMatrix$Reader" "plan" "LAlarmMatrix$Plan;") ∈ gw := in_gw (in_t2 (List.mem_of_getElem? (i := 35) rfl)) rfl
theorem k2_36 : (Jvm.Cond.fieldLink "AlarmMatrix$Reader" (24 : Nat) "AlarmMatrix$Reader" "pointCount" "I") ∈ gw := in_gw (in_t2 (List.mem_of_getElem? (i := 36) rfl)) rfl
theorem k2_44 : (Jvm.Cond.methodLink "AlarmMatrix" (111 : Nat) ({ cls := "AlarmMatrix$Reader", name := "findWrongWord", desc := "()I" } : Jvm.MethodName)) ∈ gw := in_gw (in_t2 (List.mem_of_getElem? (i := 44) rfl)) rfl
theorem k2_45 : (Jvm.Cond.instanceMethod ({ cls := "AlarmMatrix$Reader", name := "findWrongWord", desc := "()I" } : Jvm.MethodName)) ∈ gw := in_gw (in_t2 (List.mem_of_getElem? (i := 45) rfl)) rfl
theorem k2_46 : (Jvm.Cond.selects "AlarmMatrix$Reader" ({ cls := "AlarmMatrix$Reader", name := "findWrongWord", desc := "()I" } : Jvm.MethodName) ({ cls := "AlarmMatrix$Reader", name := "findWrongWord", desc := "()I" } : Jvm.MethodName)) ∈ gw := in_gw (in_t2 (List.mem_of_getElem? (i := 46) rfl)) rfl
theorem k2_47 : (Jvm.Cond.code ({ cls := "AlarmMatrix$Reader", name := "findWrongWord", desc := "()I" } : Jvm.MethodName) prog_7_method_2_code (3 : Nat) (Option.some Jvm.ClassFile.FieldType.int)) ∈ gw := in_gw (in_t2 (List.mem_of_getElem? (i := 47) rfl)) rfl
theorem k2_48 : (Jvm.Cond.methodLink "AlarmMatrix$Reader" (28 : Nat) ({ cls := "AlarmMatrix$Plan", name := "clear", desc := "()V" } : Jvm.MethodName)) ∈ gw := in_gw (in_t2 (List.mem_of_getElem? (i := 48) rfl)) rfl
theorem k2_49 : (Jvm.Cond.instanceMethod ({ cls := "AlarmMatrix$Plan", name := "clear", desc := "()V" } : Jvm.MethodName)) ∈ gw := in_gw (in_t2 (List.mem_of_getElem? (i := 49) rfl)) rfl
theorem k2_50 : (Jvm.Cond.selects "AlarmMatrix$Plan" ({ cls := "AlarmMatrix$Plan", name := "clear", desc := "()V" } : Jvm.MethodName) ({ cls := "AlarmMatrix$Plan", name := "clear", desc := "()V" } : Jvm.MethodName)) ∈ gw := in_gw (in_t2 (List.mem_of_getElem? (i := 50) rfl)) rfl
theorem k2_51 : (Jvm.Cond.code ({ cls := "AlarmMatrix$Plan", name := "clear", desc := "()V" } : Jvm.MethodName) prog_5_method_5_code (1 : Nat) (Option.none : Option Jvm.ClassFile.FieldType)) ∈ gw := in_gw (in_t2 (List.mem_of_getElem? (i := 51) rfl)) rfl
theorem k2_52 : (Jvm.Cond.methodLink "AlarmMatrix$Plan" (39 : Nat) ({ cls := "AlarmMatrix$Zones", name := "clear", desc := "()V" } : Jvm.MethodName)) ∈ gw := in_gw (in_t2 (List.mem_of_getElem? (i := 52) rfl)) rfl
theorem k2_53 : (Jvm.Cond.instanceMethod ({ cls := "AlarmMatrix$Zones", name := "clear", desc := "()V" } : Jvm.MethodName)) ∈ gw := in_gw (in_t2 (List.mem_of_getElem? (i := 53) rfl)) rfl
theorem k2_54 : (Jvm.Cond.selects "AlarmMatrix$Zones" ({ cls := "AlarmMatrix$Zones", name := "clear", desc := "()V" } : Jvm.MethodName) ({ cls := "AlarmMatrix$Zones", name := "clear", desc := "()V" } : Jvm.MethodName)) ∈ gw := in_gw (in_t2 (List.mem_of_getElem? (i := 54) rfl)) rfl
theorem k2_55 : (Jvm.Cond.code ({ cls := "AlarmMatrix$Zones", name := "clear", desc := "()V" } : Jvm.MethodName) prog_10_method_2_code (1 : Nat) (Option.none : Option Jvm.ClassFile.FieldType)) ∈ gw := in_gw (in_t2 (List.mem_of_getElem? (i := 55) rfl)) rfl
theorem k2_56 : (Jvm.Cond.methodLink "AlarmMatrix$Zones" (27 : Nat) ({ cls := "java/util/Arrays", name := "fill", desc := "([II)V" } : Jvm.MethodName)) ∈ gw := in_gw (in_t2 (List.mem_of_getElem? (i := 56) rfl)) rfl
theorem k2_57 : (Jvm.Cond.static ({ cls := "java/util/Arrays", name := "fill", desc := "([II)V" } : Jvm.MethodName)) ∈ gw := in_gw (in_t2 (List.mem_of_getElem? (i := 57) rfl)) rfl
theorem k2_58 : (Jvm.Cond.code ({ cls := "java/util/Arrays", name := "fill", desc := "([II)V" } : Jvm.MethodName) prog_22_method_103_code (4 : Nat) (Option.none : Option Jvm.ClassFile.FieldType)) ∈ gw := in_gw (in_t2 (List.mem_of_getElem? (i := 58) rfl)) rfl
theorem k2_59 : (Jvm.Cond.methodLink "AlarmMatrix$Plan" (42 : Nat) ({ cls := "AlarmMatrix$Acts", name := "clear", desc := "()V" } : Jvm.MethodName)) ∈ gw := in_gw (in_t2 (List.mem_of_getElem? (i := 59) rfl)) rfl
theorem k2_60 : (Jvm.Cond.instanceMethod ({ cls := "AlarmMatrix$Acts", name := "clear", desc := "()V" } : Jvm.MethodName)) ∈ gw := in_gw (in_t2 (List.mem_of_getElem? (i := 60) rfl)) rfl
theorem k2_61 : (Jvm.Cond.selects "AlarmMatrix$Acts" ({ cls := "AlarmMatrix$Acts", name := "clear", desc := "()V" } : Jvm.MethodName) ({ cls := "AlarmMatrix$Acts", name := "clear", desc := "()V" } : Jvm.MethodName)) ∈ gw := in_gw (in_t2 (List.mem_of_getElem? (i := 61) rfl)) rfl
theorem k2_62 : (Jvm.Cond.code ({ cls := "AlarmMatrix$Acts", name := "clear", desc := "()V" } : Jvm.MethodName) prog_2_method_2_code (2 : Nat) (Option.none : Option Jvm.ClassFile.FieldType)) ∈ gw := in_gw (in_t2 (List.mem_of_getElem? (i := 62) rfl)) rfl
theorem k2_63 : (Jvm.Cond.methodLink "AlarmMatrix$Reader" (33 : Nat) ({ cls := "AlarmMatrix$Words", name := "step", desc := "()V" } : Jvm.MethodName)) ∈ gw := in_gw (in_t2 (List.mem_of_getElem? (i := 63) rfl)) rfl
theorem k2_64 : (Jvm.Cond.instanceMethod ({ cls := "AlarmMatrix$Words", name := "step", desc := "()V" } : Jvm.MethodName)) ∈ gw := in_gw (in_t2 (List.mem_of_getElem? (i := 64) rfl)) rfl
theorem k2_65 : (Jvm.Cond.selects "AlarmMatrix$Words" ({ cls := "AlarmMatrix$Words", name := "step", desc := "()V" } : Jvm.MethodName) ({ cls := "AlarmMatrix$Words", name := "step", desc := "()V" } : Jvm.MethodName)) ∈ gw := in_gw (in_t2 (List.mem_of_getElem? (i := 65) rfl)) rfl
theorem k2_66 : (Jvm.Cond.code ({ cls := "AlarmMatrix$Words", name := "step", desc := "()V" } : Jvm.MethodName) prog_9_method_4_code (4 : Nat) (Option.none : Option Jvm.ClassFile.FieldType)) ∈ gw := in_gw (in_t2 (List.mem_of_getElem? (i := 66) rfl)) rfl
theorem k2_67 : (Jvm.Cond.methodLink "AlarmMatrix$Words" (25 : Nat) ({ cls := "AlarmMatrix$Text", name := "size", desc := "()I" } : Jvm.MethodName)) ∈ gw := in_gw (in_t2 (List.mem_of_getElem? (i := 67) rfl)) rfl
theorem k2_68 : (Jvm.Cond.instanceMethod ({ cls := "AlarmMatrix$Text", name := "size", desc := "()I" } : Jvm.MethodName)) ∈ gw := in_gw (in_t2 (List.mem_of_getElem? (i := 68) rfl)) rfl
theorem k2_69 : (Jvm.Cond.selects "AlarmMatrix$Text" ({ cls := "AlarmMatrix$Text", name := "size", desc := "()I" } : Jvm.MethodName) ({ cls := "AlarmMatrix$Text", name := "size", desc := "()I" } : Jvm.MethodName)) ∈ gw := in_gw (in_t2 (List.mem_of_getElem? (i := 69) rfl)) rfl
theorem k2_70 : (Jvm.Cond.code ({ cls := "AlarmMatrix$Text", name := "size", desc := "()I" } : Jvm.MethodName) prog_8_method_2_code (1 : Nat) (Option.some Jvm.ClassFile.FieldType.int)) ∈ gw := in_gw (in_t2 (List.mem_of_getElem? (i := 70) rfl)) rfl
theorem k2_71 : (Jvm.Cond.methodLink "AlarmMatrix$Words" (31 : Nat) ({ cls := "AlarmMatrix$Text", name := "at", desc := "(I)C" } : Jvm.MethodName)) ∈ gw := in_gw (in_t2 (List.mem_of_getElem? (i := 71) rfl)) rfl
theorem k2_72 : (Jvm.Cond.instanceMethod ({ cls := "AlarmMatrix$Text", name := "at", desc := "(I)C" } : Jvm.MethodName)) ∈ gw := in_gw (in_t2 (List.mem_of_getElem? (i := 72) rfl)) rfl
theorem k2_73 : (Jvm.Cond.selects "AlarmMatrix$Text" ({ cls := "AlarmMatrix$Text", name := "at", desc := "(I)C" } : Jvm.MethodName) ({ cls := "AlarmMatrix$Text", name := "at", desc := "(I)C" } : Jvm.MethodName)) ∈ gw := in_gw (in_t2 (List.mem_of_getElem? (i := 73) rfl)) rfl
theorem k2_74 : (Jvm.Cond.code ({ cls := "AlarmMatrix$Text", name := "at", desc := "(I)C" } : Jvm.MethodName) prog_8_method_3_code (2 : Nat) (Option.some Jvm.ClassFile.FieldType.char)) ∈ gw := in_gw (in_t2 (List.mem_of_getElem? (i := 74) rfl)) rfl
theorem k2_75 : (Jvm.Cond.methodLink "AlarmMatrix$Words" (35 : Nat) ({ cls := "AlarmMatrix$Words", name := "kindOf", desc := "(C)I" } : Jvm.MethodName)) ∈ gw := in_gw (in_t2 (List.mem_of_getElem? (i := 75) rfl)) rfl
theorem k2_76 : (Jvm.Cond.static ({ cls := "AlarmMatrix$Words", name := "kindOf", desc := "(C)I" } : Jvm.MethodName)) ∈ gw := in_gw (in_t2 (List.mem_of_getElem? (i := 76) rfl)) rfl
theorem k2_77 : (Jvm.Cond.code ({ cls := "AlarmMatrix$Words", name := "kindOf", desc := "(C)I" } : Jvm.MethodName) prog_9_method_9_code (1 : Nat) (Option.some Jvm.ClassFile.FieldType.int)) ∈ gw := in_gw (in_t2 (List.mem_of_getElem? (i := 77) rfl)) rfl
theorem k2_78 : (Jvm.Cond.methodLink "AlarmMatrix$Reader" (36 : Nat) ({ cls := "AlarmMatrix$Words", name := "isBehindLast", desc := "()Z" } : Jvm.MethodName)) ∈ gw := in_gw (in_t2 (List.mem_of_getElem? (i := 78) rfl)) rfl
theorem k2_79 : (Jvm.Cond.instanceMethod ({ cls := "AlarmMatrix$Words", name := "isBehindLast", desc := "()Z" } : Jvm.MethodName)) ∈ gw := in_gw (in_t2 (List.mem_of_getElem? (i := 79) rfl)) rfl
theorem k2_80 : (Jvm.Cond.selects "AlarmMatrix$Words" ({ cls := "AlarmMatrix$Words", name := "isBehindLast", desc := "()Z" } : Jvm.MethodName) ({ cls := "AlarmMatrix$Words", name := "isBehindLast", desc := "()Z" } : Jvm.MethodName)) ∈ gw := in_gw (in_t2 (List.mem_of_getElem? (i := 80) rfl)) rfl
theorem k2_81 : (Jvm.Cond.code ({ cls := "AlarmMatrix$Words", name := "isBehindLast", desc := "()Z" } : Jvm.MethodName) prog_9_method_3_code (1 : Nat) (Option.some Jvm.ClassFile.FieldType.boolean)) ∈ gw := in_gw (in_t2 (List.mem_of_getElem? (i := 81) rfl)) rfl
theorem k2_82 : (Jvm.Cond.methodLink "AlarmMatrix$Reader" (40 : Nat) ({ cls := "AlarmMatrix$Reader", name := "readSentence", desc := "()I" } : Jvm.MethodName)) ∈ gw := in_gw (in_t2 (List.mem_of_getElem? (i := 82) rfl)) rfl
theorem k2_84 : (Jvm.Cond.instanceMethod ({ cls := "AlarmMatrix$Reader", name := "readSentence", desc := "()I" } : Jvm.MethodName)) ∈ gw := in_gw (in_t2 (List.mem_of_getElem? (i := 84) rfl)) rfl
theorem k2_85 : (Jvm.Cond.code ({ cls := "AlarmMatrix$Reader", name := "readSentence", desc := "()I" } : Jvm.MethodName) prog_7_method_3_code (1 : Nat) (Option.some Jvm.ClassFile.FieldType.int)) ∈ gw := in_gw (in_t2 (List.mem_of_getElem? (i := 85) rfl)) rfl
theorem k2_87 : (Jvm.Cond.methodLink "AlarmMatrix$Reader" (46 : Nat) ({ cls := "AlarmMatrix$Words", name := "is", desc := "(Ljava/lang/String;)Z" } : Jvm.MethodName)) ∈ gw := in_gw (in_t2 (List.mem_of_getElem? (i := 87) rfl)) rfl
theorem k2_88 : (Jvm.Cond.instanceMethod ({ cls := "AlarmMatrix$Words", name := "is", desc := "(Ljava/lang/String;)Z" } : Jvm.MethodName)) ∈ gw := in_gw (in_t2 (List.mem_of_getElem? (i := 88) rfl)) rfl
theorem k2_89 : (Jvm.Cond.selects "AlarmMatrix$Words" ({ cls := "AlarmMatrix$Words", name := "is", desc := "(Ljava/lang/String;)Z" } : Jvm.MethodName) ({ cls := "AlarmMatrix$Words", name := "is", desc := "(Ljava/lang/String;)Z" } : Jvm.MethodName)) ∈ gw := in_gw (in_t2 (List.mem_of_getElem? (i := 89) rfl)) rfl
theorem k2_90 : (Jvm.Cond.code ({ cls := "AlarmMatrix$Words", name := "is", desc := "(Ljava/lang/String;)Z" } : Jvm.MethodName) prog_9_method_5_code (3 : Nat) (Option.some Jvm.ClassFile.FieldType.boolean)) ∈ gw := in_gw (in_t2 (List.mem_of_getElem? (i := 90) rfl)) rfl
theorem k2_91 : (Jvm.Cond.methodLink "AlarmMatrix$Words" (39 : Nat) ({ cls := "java/lang/String", name := "length", desc := "()I" } : Jvm.MethodName)) ∈ gw := in_gw (in_t2 (List.mem_of_getElem? (i := 91) rfl)) rfl
theorem k2_92 : (Jvm.Cond.instanceMethod ({ cls := "java/lang/String", name := "length", desc := "()I" } : Jvm.MethodName)) ∈ gw := in_gw (in_t2 (List.mem_of_getElem? (i := 92) rfl)) rfl
theorem k2_93 : (Jvm.Cond.selects "java/lang/String" ({ cls := "java/lang/String", name := "length", desc := "()I" } : Jvm.MethodName) ({ cls := "java/lang/String", name := "length", desc := "()I" } : Jvm.MethodName)) ∈ gw := in_gw (in_t2 (List.mem_of_getElem? (i := 93) rfl)) rfl
theorem k2_94 : (Jvm.Cond.code ({ cls := "java/lang/String", name := "length", desc := "()I" } : Jvm.MethodName) prog_18_method_54_code (1 : Nat) (Option.some Jvm.ClassFile.FieldType.int)) ∈ gw := in_gw (in_t2 (List.mem_of_getElem? (i := 94) rfl)) rfl
theorem k2_95 : (Jvm.Cond.methodLink "java/lang/String" (335 : Nat) ({ cls := "java/lang/String", name := "coder", desc := "()B" } : Jvm.MethodName)) ∈ gw := in_gw (in_t2 (List.mem_of_getElem? (i := 95) rfl)) rfl
theorem k2_96 : (Jvm.Cond.instanceMethod ({ cls := "java/lang/String", name := "coder", desc := "()B" } : Jvm.MethodName)) ∈ gw := in_gw (in_t2 (List.mem_of_getElem? (i := 96) rfl)) rfl
theorem k2_97 : (Jvm.Cond.selects "java/lang/String" ({ cls := "java/lang/String", name := "coder", desc := "()B" } : Jvm.MethodName) ({ cls := "java/lang/String", name := "coder", desc := "()B" } : Jvm.MethodName)) ∈ gw := in_gw (in_t2 (List.mem_of_getElem? (i := 97) rfl)) rfl
theorem k2_98 : (Jvm.Cond.code ({ cls := "java/lang/String", name := "coder", desc := "()B" } : Jvm.MethodName) prog_18_method_152_code (1 : Nat) (Option.some Jvm.ClassFile.FieldType.byte)) ∈ gw := in_gw (in_t2 (List.mem_of_getElem? (i := 98) rfl)) rfl
theorem k2_99 : (Jvm.Cond.fieldLink "java/lang/String" (38 : Nat) "java/lang/String" "COMPACT_STRINGS" "Z") ∈ gw := in_gw (in_t2 (List.mem_of_getElem? (i := 99) rfl)) rfl
theorem k2_101 : (Jvm.Cond.methodLink "AlarmMatrix$Words" (44 : Nat) ({ cls := "java/lang/String", name := "charAt", desc := "(I)C" } : Jvm.MethodName)) ∈ gw := in_gw (in_t2 (List.mem_of_getElem? (i := 101) rfl)) rfl
theorem k2_102 : (Jvm.Cond.instanceMethod ({ cls := "java/lang/String", name := "charAt", desc := "(I)C" } : Jvm.MethodName)) ∈ gw := in_gw (in_t2 (List.mem_of_getElem? (i := 102) rfl)) rfl
theorem k2_103 : (Jvm.Cond.selects "java/lang/String" ({ cls := "java/lang/String", name := "charAt", desc := "(I)C" } : Jvm.MethodName) ({ cls := "java/lang/String", name := "charAt", desc := "(I)C" } : Jvm.MethodName)) ∈ gw := in_gw (in_t2 (List.mem_of_getElem? (i := 103) rfl)) rfl
theorem k2_104 : (Jvm.Cond.code ({ cls := "java/lang/String", name := "charAt", desc := "(I)C" } : Jvm.MethodName) prog_18_method_56_code (2 : Nat) (Option.some Jvm.ClassFile.FieldType.char)) ∈ gw := in_gw (in_t2 (List.mem_of_getElem? (i := 104) rfl)) rfl
theorem k2_105 : (Jvm.Cond.methodLink "java/lang/String" (492 : Nat) ({ cls := "java/lang/String", name := "isLatin1", desc := "()Z" } : Jvm.MethodName)) ∈ gw := in_gw (in_t2 (List.mem_of_getElem? (i := 105) rfl)) rfl
theorem k2_106 : (Jvm.Cond.instanceMethod ({ cls := "java/lang/String", name := "isLatin1", desc := "()Z" } : Jvm.MethodName)) ∈ gw := in_gw (in_t2 (List.mem_of_getElem? (i := 106) rfl)) rfl
theorem k2_107 : (Jvm.Cond.selects "java/lang/String" ({ cls := "java/lang/String", name := "isLatin1", desc := "()Z" } : Jvm.MethodName) ({ cls := "java/lang/String", name := "isLatin1", desc := "()Z" } : Jvm.MethodName)) ∈ gw := in_gw (in_t2 (List.mem_of_getElem? (i := 107) rfl)) rfl
theorem k2_108 : (Jvm.Cond.code ({ cls := "java/lang/String", name := "isLatin1", desc := "()Z" } : Jvm.MethodName) prog_18_method_154_code (1 : Nat) (Option.some Jvm.ClassFile.FieldType.boolean)) ∈ gw := in_gw (in_t2 (List.mem_of_getElem? (i := 108) rfl)) rfl
theorem k2_109 : (Jvm.Cond.methodLink "java/lang/String" (495 : Nat) ({ cls := "java/lang/StringLatin1", name := "charAt", desc := "([BI)C" } : Jvm.MethodName)) ∈ gw := in_gw (in_t2 (List.mem_of_getElem? (i := 109) rfl)) rfl
theorem k2_110 : (Jvm.Cond.static ({ cls := "java/lang/StringLatin1", name := "charAt", desc := "([BI)C" } : Jvm.MethodName)) ∈ gw := in_gw (in_t2 (List.mem_of_getElem? (i := 110) rfl)) rfl
theorem k2_111 : (Jvm.Cond.code ({ cls := "java/lang/StringLatin1", name := "charAt", desc := "([BI)C" } : Jvm.MethodName) prog_19_method_2_code (2 : Nat) (Option.some Jvm.ClassFile.FieldType.char)) ∈ gw := in_gw (in_t2 (List.mem_of_getElem? (i := 111) rfl)) rfl
theorem k2_112 : (Jvm.Cond.methodLink "java/lang/StringLatin1" (9 : Nat) ({ cls := "java/lang/String", name := "checkIndex", desc := "(II)V" } : Jvm.MethodName)) ∈ gw := in_gw (in_t2 (List.mem_of_getElem? (i := 112) rfl)) rfl
theorem k2_113 : (Jvm.Cond.static ({ cls := "java/lang/String", name := "checkIndex", desc := "(II)V" } : Jvm.MethodName)) ∈ gw := in_gw (in_t2 (List.mem_of_getElem? (i := 113) rfl)) rfl
theorem k2_114 : (Jvm.Cond.code ({ cls := "java/lang/String", name := "checkIndex", desc := "(II)V" } : Jvm.MethodName) prog_18_method_155_code (2 : Nat) (Option.none : Option Jvm.ClassFile.FieldType)) ∈ gw := in_gw (in_t2 (List.mem_of_getElem? (i := 114) rfl)) rfl
theorem k2_115 : (Jvm.Cond.fieldLink "java/lang/String" (1053 : Nat) "jdk/internal/util/Preconditions" "SIOOBE_FORMATTER" "Ljava/util/function/BiFunction;") ∈ gw := in_gw (in_t2 (List.mem_of_getElem? (i := 115) rfl)) rfl
theorem k2_117 : (Jvm.Cond.methodLink "java/lang/String" (1059 : Nat) ({ cls := "jdk/internal/util/Preconditions", name := "checkIndex", desc := "(IILjava/util/function/BiFunction;)I" } : Jvm.MethodName)) ∈ gw := in_gw (in_t2 (List.mem_of_getElem? (i := 117) rfl)) rfl
theorem k2_118 : (Jvm.Cond.static ({ cls := "jdk/internal/util/Preconditions", name := "checkIndex", desc := "(IILjava/util/function/BiFunction;)I" } : Jvm.MethodName)) ∈ gw := in_gw (in_t2 (List.mem_of_getElem? (i := 118) rfl)) rfl
theorem k2_119 : (Jvm.Cond.code ({ cls := "jdk/internal/util/Preconditions", name := "checkIndex", desc := "(IILjava/util/function/BiFunction;)I" } : Jvm.MethodName) prog_23_method_11_code (3 : Nat) (Option.some Jvm.ClassFile.FieldType.int)) ∈ gw := in_gw (in_t2 (List.mem_of_getElem? (i := 119) rfl)) rfl
theorem k2_120 : (Jvm.Cond.methodLink "java/lang/String" (498 : Nat) ({ cls := "java/lang/StringUTF16", name := "charAt", desc := "([BI)C" } : Jvm.MethodName)) ∈ gw := in_gw (in_t2 (List.mem_of_getElem? (i := 120) rfl)) rfl
theorem k2_121 : (Jvm.Cond.static ({ cls := "java/lang/StringUTF16", name := "charAt", desc := "([BI)C" } : Jvm.MethodName)) ∈ gw := in_gw (in_t2 (List.mem_of_getElem? (i := 121) rfl)) rfl
theorem k2_122 : (Jvm.Cond.code ({ cls := "java/lang/StringUTF16", name := "charAt", desc := "([BI)C" } : Jvm.MethodName) prog_20_method_83_code (2 : Nat) (Option.some Jvm.ClassFile.FieldType.char)) ∈ gw := in_gw (in_t2 (List.mem_of_getElem? (i := 122) rfl)) rfl
theorem k2_123 : (Jvm.Cond.methodLink "java/lang/StringUTF16" (67 : Nat) ({ cls := "java/lang/StringUTF16", name := "checkIndex", desc := "(I[B)V" } : Jvm.MethodName)) ∈ gw := in_gw (in_t2 (List.mem_of_getElem? (i := 123) rfl)) rfl
theorem k2_124 : (Jvm.Cond.static ({ cls := "java/lang/StringUTF16", name := "checkIndex", desc := "(I[B)V" } : Jvm.MethodName)) ∈ gw := in_gw (in_t2 (List.mem_of_getElem? (i := 124) rfl)) rfl
theorem k2_125 : (Jvm.Cond.code ({ cls := "java/lang/StringUTF16", name := "checkIndex", desc := "(I[B)V" } : Jvm.MethodName) prog_20_method_91_code (2 : Nat) (Option.none : Option Jvm.ClassFile.FieldType)) ∈ gw := in_gw (in_t2 (List.mem_of_getElem? (i := 125) rfl)) rfl
theorem k2_126 : (Jvm.Cond.methodLink "java/lang/StringUTF16" (48 : Nat) ({ cls := "java/lang/StringUTF16", name := "length", desc := "([B)I" } : Jvm.MethodName)) ∈ gw := in_gw (in_t2 (List.mem_of_getElem? (i := 126) rfl)) rfl
theorem k2_127 : (Jvm.Cond.static ({ cls := "java/lang/StringUTF16", name := "length", desc := "([B)I" } : Jvm.MethodName)) ∈ gw := in_gw (in_t2 (List.mem_of_getElem? (i := 127) rfl)) rfl
theorem k2_128 : (Jvm.Cond.code ({ cls := "java/lang/StringUTF16", name := "length", desc := "([B)I" } : Jvm.MethodName) prog_20_method_6_code (1 : Nat) (Option.some Jvm.ClassFile.FieldType.int)) ∈ gw := in_gw (in_t2 (List.mem_of_getElem? (i := 128) rfl)) rfl
theorem k2_129 : (Jvm.Cond.methodLink "java/lang/StringUTF16" (414 : Nat) ({ cls := "java/lang/String", name := "checkIndex", desc := "(II)V" } : Jvm.MethodName)) ∈ gw := in_gw (in_t2 (List.mem_of_getElem? (i := 129) rfl)) rfl
theorem k2_130 : (Jvm.Cond.methodLink "java/lang/StringUTF16" (71 : Nat) ({ cls := "java/lang/StringUTF16", name := "getChar", desc := "([BI)C" } : Jvm.MethodName)) ∈ gw := in_gw (in_t2 (List.mem_of_getElem? (i := 130) rfl)) rfl
theorem k2_131 : (Jvm.Cond.static ({ cls := "java/lang/StringUTF16", name := "getChar", desc := "([BI)C" } : Jvm.MethodName)) ∈ gw := in_gw (in_t2 (List.mem_of_getElem? (i := 131) rfl)) rfl
theorem k2_132 : (Jvm.Cond.code ({ cls := "java/lang/StringUTF16", name := "getChar", desc := "([BI)C" } : Jvm.MethodName) prog_20_method_5_code (2 : Nat) (Option.some Jvm.ClassFile.FieldType.char)) ∈ gw := in_gw (in_t2 (List.mem_of_getElem? (i := 132) rfl)) rfl
theorem k2_133 : (Jvm.Cond.fieldLink "java/lang/StringUTF16" (44 : Nat) "java/lang/StringUTF16" "$assertionsDisabled" "Z") ∈ gw := in_gw (in_t2 (List.mem_of_getElem? (i := 133) rfl)) rfl
theorem k2_135 : (Jvm.Cond.fieldLink "java/lang/StringUTF16" (59 : Nat) "java/lang/StringUTF16" "HI_BYTE_SHIFT" "I") ∈ gw := in_gw (in_t2 (List.mem_of_getElem? (i := 135) rfl)) rfl
theorem k2_137 : (Jvm.Cond.fieldLink "java/lang/StringUTF16" (63 : Nat) "java/lang/StringUTF16" "LO_BYTE_SHIFT" "I") ∈ gw := in_gw (in_t2 (List.mem_of_getElem? (i := 137) rfl)) rfl
theorem k2_139 : (Jvm.Cond.methodLink "AlarmMatrix$Reader" (50 : Nat) ({ cls := "AlarmMatrix$Reader", name := "readZone", desc := "()I" } : Jvm.MethodName)) ∈ gw := in_gw (in_t2 (List.mem_of_getElem? (i := 139) rfl)) rfl
theorem k2_141 : (Jvm.Cond.instanceMethod ({ cls := "AlarmMatrix$Reader", name := "readZone", desc := "()I" } : Jvm.MethodName)) ∈ gw := in_gw (in_t2 (List.mem_of_getElem? (i := 141) rfl)) rfl
theorem k2_142 : (Jvm.Cond.code ({ cls := "AlarmMatrix$Reader", name := "readZone", desc := "()I" } : Jvm.MethodName) prog_7_method_4_code (4 : Nat) (Option.some Jvm.ClassFile.FieldType.int)) ∈ gw := in_gw (in_t2 (List.mem_of_getElem? (i := 142) rfl)) rfl
theorem k2_143 : (Jvm.Cond.methodLink "AlarmMatrix$Reader" (71 : Nat) ({ cls := "AlarmMatrix$Words", name := "stepToValue", desc := "(II)I" } : Jvm.MethodName)) ∈ gw := in_gw (in_t2 (List.mem_of_getElem? (i := 143) rfl)) rfl
theorem k2_144 : (Jvm.Cond.instanceMethod ({ cls := "AlarmMatrix$Words", name := "stepToValue", desc := "(II)I" } : Jvm.MethodName)) ∈ gw := in_gw (in_t2 (List.mem_of_getElem? (i := 144) rfl)) rfl
theorem k2_145 : (Jvm.Cond.selects "AlarmMatrix$Words" ({ cls := "AlarmMatrix$Words", name := "stepToValue", desc := "(II)I" } : Jvm.MethodName) ({ cls := "AlarmMatrix$Words", name := "stepToValue", desc := "(II)I" } : Jvm.MethodName)) ∈ gw := in_gw (in_t2 (List.mem_of_getElem? (i := 145) rfl)) rfl
theorem k2_146 : (Jvm.Cond.code ({ cls := "AlarmMatrix$Words", name := "stepToValue", desc := "(II)I" } : Jvm.MethodName) prog_9_method_8_code (3 : Nat) (Option.some Jvm.ClassFile.FieldType.int)) ∈ gw := in_gw (in_t2 (List.mem_of_getElem? (i := 146) rfl)) rfl
theorem k2_147 : (Jvm.Cond.methodLink "AlarmMatrix$Words" (47 : Nat) ({ cls := "AlarmMatrix$Words", name := "step", desc := "()V" } : Jvm.MethodName)) ∈ gw := in_gw (in_t2 (List.mem_of_getElem? (i := 147) rfl)) rfl
theorem k2_148 : (Jvm.Cond.methodLink "AlarmMatrix$Words" (58 : Nat) ({ cls := "AlarmMatrix$Words", name := "valueWithin", desc := "(II)I" } : Jvm.MethodName)) ∈ gw := in_gw (in_t2 (List.mem_of_getElem? (i := 148) rfl)) rfl
theorem k2_149 : (Jvm.Cond.instanceMethod ({ cls := "AlarmMatrix$Words", name := "valueWithin", desc := "(II)I" } : Jvm.MethodName)) ∈ gw := in_gw (in_t2 (List.mem_of_getElem? (i := 149) rfl)) rfl
theorem k2_150 : (Jvm.Cond.selects "AlarmMatrix$Words" ({ cls := "AlarmMatrix$Words", name := "valueWithin", desc := "(II)I" } : Jvm.MethodName) ({ cls := "AlarmMatrix$Words", name := "valueWithin", desc := "(II)I" } : Jvm.MethodName)) ∈ gw := in_gw (in_t2 (List.mem_of_getElem? (i := 150) rfl)) rfl
theorem k2_151 : (Jvm.Cond.code ({ cls := "AlarmMatrix$Words", name := "valueWithin", desc := "(II)I" } : Jvm.MethodName) prog_9_method_7_code (6 : Nat) (Option.some Jvm.ClassFile.FieldType.int)) ∈ gw := in_gw (in_t2 (List.mem_of_getElem? (i := 151) rfl)) rfl
theorem k2_153 : (Jvm.Cond.static ({ cls := "AlarmMatrix", name := "isWithin", desc := "(III)Z" } : Jvm.MethodName)) ∈ gw := in_gw (in_t2 (List.mem_of_getElem? (i := 153) rfl)) rfl
theorem k2_154 : (Jvm.Cond.code ({ cls := "AlarmMatrix", name := "isWithin", desc := "(III)Z" } : Jvm.MethodName) prog_1_method_22_code (3 : Nat) (Option.some Jvm.ClassFile.FieldType.boolean)) ∈ gw := in_gw (in_t2 (List.mem_of_getElem? (i := 154) rfl)) rfl
theorem k2_155 : (Jvm.Cond.methodLink "AlarmMatrix$Reader" (75 : Nat) ({ cls := "AlarmMatrix$Plan", name := "zones", desc := "()LAlarmMatrix$Zones;" } : Jvm.MethodName)) ∈ gw := in_gw (in_t2 (List.mem_of_getElem? (i := 155) rfl)) rfl
theorem k2_156 : (Jvm.Cond.instanceMethod ({ cls := "AlarmMatrix$Plan", name := "zones", desc := "()LAlarmMatrix$Zones;" } : Jvm.MethodName)) ∈ gw := in_gw (in_t2 (List.mem_of_getElem? (i := 156) rfl)) rfl
theorem k2_157 : (Jvm.Cond.selects "AlarmMatrix$Plan" ({ cls := "AlarmMatrix$Plan", name := "zones", desc := "()LAlarmMatrix$Zones;" } : Jvm.MethodName) ({ cls := "AlarmMatrix$Plan", name := "zones", desc := "()LAlarmMatrix$Zones;" } : Jvm.MethodName)) ∈ gw := in_gw (in_t2 (List.mem_of_getElem? (i := 157) rfl)) rfl
theorem k2_158 : (Jvm.Cond.code ({ cls := "AlarmMatrix$Plan", name := "zones", desc := "()LAlarmMatrix$Zones;" } : Jvm.MethodName) prog_5_method_2_code (1 : Nat) (Option.some (Jvm.ClassFile.FieldType.object "AlarmMatrix$Zones"))) ∈ gw := in_gw (in_t2 (List.mem_of_getElem? (i := 158) rfl)) rfl
theorem k2_159 : (Jvm.Cond.methodLink "AlarmMatrix$Reader" (79 : Nat) ({ cls := "AlarmMatrix$Zones", name := "isTold", desc := "(I)Z" } : Jvm.MethodName)) ∈ gw := in_gw (in_t2 (List.mem_of_getElem? (i := 159) rfl)) rfl
theorem k2_160 : (Jvm.Cond.instanceMethod ({ cls := "AlarmMatrix$Zones", name := "isTold", desc := "(I)Z" } : Jvm.MethodName)) ∈ gw := in_gw (in_t2 (List.mem_of_getElem? (i := 160) rfl)) rfl
theorem k2_161 : (Jvm.Cond.selects "AlarmMatrix$Zones" ({ cls := "AlarmMatrix$Zones", name := "isTold", desc := "(I)Z" } : Jvm.MethodName) ({ cls := "AlarmMatrix$Zones", name := "isTold", desc := "(I)Z" } : Jvm.MethodName)) ∈ gw := in_gw (in_t2 (List.mem_of_getElem? (i := 161) rfl)) rfl
theorem k2_162 : (Jvm.Cond.code ({ cls := "AlarmMatrix$Zones", name := "isTold", desc := "(I)Z" } : Jvm.MethodName) prog_10_method_3_code (2 : Nat) (Option.some Jvm.ClassFile.FieldType.boolean)) ∈ gw := in_gw (in_t2 (List.mem_of_getElem? (i := 162) rfl)) rfl
theorem k2_165 : (Jvm.Cond.methodLink "AlarmMatrix$Reader" (87 : Nat) ({ cls := "AlarmMatrix$Words", name := "stepTo", desc := "(Ljava/lang/String;)Z" } : Jvm.MethodName)) ∈ gw := in_gw (in_t2 (List.mem_of_getElem? (i := 165) rfl)) rfl
theorem k2_166 : (Jvm.Cond.instanceMethod ({ cls := "AlarmMatrix$Words", name := "stepTo", desc := "(Ljava/lang/String;)Z" } : Jvm.MethodName)) ∈ gw := in_gw (in_t2 (List.mem_of_getElem? (i := 166) rfl)) rfl
theorem k2_167 : (Jvm.Cond.selects "AlarmMatrix$Words" ({ cls := "AlarmMatrix$Words", name := "stepTo", desc := "(Ljava/lang/String;)Z" } : Jvm.MethodName) ({ cls := "AlarmMatrix$Words", name := "stepTo", desc := "(Ljava/lang/String;)Z" } : Jvm.MethodName)) ∈ gw := in_gw (in_t2 (List.mem_of_getElem? (i := 167) rfl)) rfl
theorem k2_168 : (Jvm.Cond.code ({ cls := "AlarmMatrix$Words", name := "stepTo", desc := "(Ljava/lang/String;)Z" } : Jvm.MethodName) prog_9_method_6_code (2 : Nat) (Option.some Jvm.ClassFile.FieldType.boolean)) ∈ gw := in_gw (in_t2 (List.mem_of_getElem? (i := 168) rfl)) rfl
theorem k2_169 : (Jvm.Cond.methodLink "AlarmMatrix$Words" (50 : Nat) ({ cls := "AlarmMatrix$Words", name := "is", desc := "(Ljava/lang/String;)Z" } : Jvm.MethodName)) ∈ gw := in_gw (in_t2 (List.mem_of_getElem? (i := 169) rfl)) rfl
theorem k2_170 : (Jvm.Cond.methodLink "AlarmMatrix$Reader" (68 : Nat) ({ cls := "AlarmMatrix$Words", name := "number", desc := "()I" } : Jvm.MethodName)) ∈ gw := in_gw (in_t2 (List.mem_of_getElem? (i := 170) rfl)) rfl
theorem k2_171 : (Jvm.Cond.instanceMethod ({ cls := "AlarmMatrix$Words", name := "number", desc := "()I" } : Jvm.MethodName)) ∈ gw := in_gw (in_t2 (List.mem_of_getElem? (i := 171) rfl)) rfl
theorem k2_172 : (Jvm.Cond.selects "AlarmMatrix$Words" ({ cls := "AlarmMatrix$Words", name := "number", desc := "()I" } : Jvm.MethodName) ({ cls := "AlarmMatrix$Words", name := "number", desc := "()I" } : Jvm.MethodName)) ∈ gw := in_gw (in_t2 (List.mem_of_getElem? (i := 172) rfl)) rfl
theorem k2_173 : (Jvm.Cond.code ({ cls := "AlarmMatrix$Words", name := "number", desc := "()I" } : Jvm.MethodName) prog_9_method_2_code (1 : Nat) (Option.some Jvm.ClassFile.FieldType.int)) ∈ gw := in_gw (in_t2 (List.mem_of_getElem? (i := 173) rfl)) rfl
theorem k2_175 : (Jvm.Cond.methodLink "AlarmMatrix$Reader" (92 : Nat) ({ cls := "AlarmMatrix$Reader", name := "readPoints", desc := "(I)Z" } : Jvm.MethodName)) ∈ gw := in_gw (in_t2 (List.mem_of_getElem? (i := 175) rfl)) rfl
theorem k2_177 : (Jvm.Cond.instanceMethod ({ cls := "AlarmMatrix$Reader", name := "readPoints", desc := "(I)Z" } : Jvm.MethodName)) ∈ gw := in_gw (in_t2 (List.mem_of_getElem? (i := 177) rfl)) rfl
theorem k2_178 : (Jvm.Cond.code ({ cls := "AlarmMatrix$Reader", name := "readPoints", desc := "(I)Z" } : Jvm.MethodName) prog_7_method_5_code (5 : Nat) (Option.some Jvm.ClassFile.FieldType.boolean)) ∈ gw := in_gw (in_t2 (List.mem_of_getElem? (i := 178) rfl)) rfl
theorem k2_180 : (Jvm.Cond.methodLink "AlarmMatrix$Reader" (105 : Nat) ({ cls := "AlarmMatrix$Words", name := "valueWithin", desc := "(II)I" } : Jvm.MethodName)) ∈ gw := in_gw (in_t2 (List.mem_of_getElem? (i := 180) rfl)) rfl
theorem k2_181 : (Jvm.Cond.methodLink "AlarmMatrix$Reader" (108 : Nat) ({ cls := "AlarmMatrix$Zones", name := "hasPoint", desc := "(II)Z" } : Jvm.MethodName)) ∈ gw := in_gw (in_t2 (List.mem_of_getElem? (i := 181) rfl)) rfl
theorem k2_182 : (Jvm.Cond.instanceMethod ({ cls := "AlarmMatrix$Zones", name := "hasPoint", desc := "(II)Z" } : Jvm.MethodName)) ∈ gw := in_gw (in_t2 (List.mem_of_getElem? (i := 182) rfl)) rfl
theorem k2_183 : (Jvm.Cond.selects "AlarmMatrix$Zones" ({ cls := "AlarmMatrix$Zones", name := "hasPoint", desc := "(II)Z" } : Jvm.MethodName) ({ cls := "AlarmMatrix$Zones", name := "hasPoint", desc := "(II)Z" } : Jvm.MethodName)) ∈ gw := in_gw (in_t2 (List.mem_of_getElem? (i := 183) rfl)) rfl
theorem k2_184 : (Jvm.Cond.code ({ cls := "AlarmMatrix$Zones", name := "hasPoint", desc := "(II)Z" } : Jvm.MethodName) prog_10_method_6_code (5 : Nat) (Option.some Jvm.ClassFile.FieldType.boolean)) ∈ gw := in_gw (in_t2 (List.mem_of_getElem? (i := 184) rfl)) rfl
theorem k2_185 : (Jvm.Cond.methodLink "AlarmMatrix$Reader" (112 : Nat) ({ cls := "AlarmMatrix$Zones", name := "addPoint", desc := "(II)V" } : Jvm.MethodName)) ∈ gw := in_gw (in_t2 (List.mem_of_getElem? (i := 185) rfl)) rfl
theorem k2_186 : (Jvm.Cond.instanceMethod ({ cls := "AlarmMatrix$Zones", name := "addPoint", desc := "(II)V" } : Jvm.MethodName)) ∈ gw := in_gw (in_t2 (List.mem_of_getElem? (i := 186) rfl)) rfl
theorem k2_187 : (Jvm.Cond.selects "AlarmMatrix$Zones" ({ cls := "AlarmMatrix$Zones", name := "addPoint", desc := "(II)V" } : Jvm.MethodName) ({ cls := "AlarmMatrix$Zones", name := "addPoint", desc := "(II)V" } : Jvm.MethodName)) ∈ gw := in_gw (in_t2 (List.mem_of_getElem? (i := 187) rfl)) rfl
theorem k2_188 : (Jvm.Cond.code ({ cls := "AlarmMatrix$Zones", name := "addPoint", desc := "(II)V" } : Jvm.MethodName) prog_10_method_7_code (3 : Nat) (Option.none : Option Jvm.ClassFile.FieldType)) ∈ gw := in_gw (in_t2 (List.mem_of_getElem? (i := 188) rfl)) rfl
theorem k2_189 : (Jvm.Cond.methodLink "AlarmMatrix$Reader" (95 : Nat) ({ cls := "AlarmMatrix$Zones", name := "sizeOf", desc := "(I)I" } : Jvm.MethodName)) ∈ gw := in_gw (in_t2 (List.mem_of_getElem? (i := 189) rfl)) rfl
theorem k2_190 : (Jvm.Cond.instanceMethod ({ cls := "AlarmMatrix$Zones", name := "sizeOf", desc := "(I)I" } : Jvm.MethodName)) ∈ gw := in_gw (in_t2 (List.mem_of_getElem? (i := 190) rfl)) rfl
theorem k2_191 : (Jvm.Cond.selects "AlarmMatrix$Zones" ({ cls := "AlarmMatrix$Zones", name := "sizeOf", desc := "(I)I" } : Jvm.MethodName) ({ cls := "AlarmMatrix$Zones", name := "sizeOf", desc := "(I)I" } : Jvm.MethodName)) ∈ gw := in_gw (in_t2 (List.mem_of_getElem? (i := 191) rfl)) rfl
theorem k2_192 : (Jvm.Cond.code ({ cls := "AlarmMatrix$Zones", name := "sizeOf", desc := "(I)I" } : Jvm.MethodName) prog_10_method_5_code (2 : Nat) (Option.some Jvm.ClassFile.FieldType.int)) ∈ gw := in_gw (in_t2 (List.mem_of_getElem? (i := 192) rfl)) rfl
theorem k2_193 : (Jvm.Cond.methodLink "AlarmMatrix$Reader" (99 : Nat) ({ cls := "AlarmMatrix$Zones", name := "tell", desc := "(II)V" } : Jvm.MethodName)) ∈ gw := in_gw (in_t2 (List.mem_of_getElem? (i := 193) rfl)) rfl
theorem k2_194 : (Jvm.Cond.instanceMethod ({ cls := "AlarmMatrix$Zones", name := "tell", desc := "(II)V" } : Jvm.MethodName)) ∈ gw := in_gw (in_t2 (List.mem_of_getElem? (i := 194) rfl)) rfl
theorem k2_195 : (Jvm.Cond.selects "AlarmMatrix$Zones" ({ cls := "AlarmMatrix$Zones", name := "tell", desc := "(II)V" } : Jvm.MethodName) ({ cls := "AlarmMatrix$Zones", name := "tell", desc := "(II)V" } : Jvm.MethodName)) ∈ gw := in_gw (in_t2 (List.mem_of_getElem? (i := 195) rfl)) rfl
theorem k2_196 : (Jvm.Cond.code ({ cls := "AlarmMatrix$Zones", name := "tell", desc := "(II)V" } : Jvm.MethodName) prog_10_method_4_code (3 : Nat) (Option.none : Option Jvm.ClassFile.FieldType)) ∈ gw := in_gw (in_t2 (List.mem_of_getElem? (i := 196) rfl)) rfl
theorem k2_198 : (Jvm.Cond.methodLink "AlarmMatrix$Reader" (55 : Nat) ({ cls := "AlarmMatrix$Reader", name := "readAct", desc := "()I" } : Jvm.MethodName)) ∈ gw := in_gw (in_t2 (List.mem_of_getElem? (i := 198) rfl)) rfl
theorem k2_200 : (Jvm.Cond.instanceMethod ({ cls := "AlarmMatrix$Reader", name := "readAct", desc := "()I" } : Jvm.MethodName)) ∈ gw := in_gw (in_t2 (List.mem_of_getElem? (i := 200) rfl)) rfl
theorem k2_201 : (Jvm.Cond.code ({ cls := "AlarmMatrix$Reader", name := "readAct", desc := "()I" } : Jvm.MethodName) prog_7_method_6_code (5 : Nat) (Option.some Jvm.ClassFile.FieldType.int)) ∈ gw := in_gw (in_t2 (List.mem_of_getElem? (i := 201) rfl)) rfl
theorem k2_202 : (Jvm.Cond.methodLink "AlarmMatrix$Reader" (115 : Nat) ({ cls := "AlarmMatrix$Plan", name := "acts", desc := "()LAlarmMatrix$Acts;" } : Jvm.MethodName)) ∈ gw := in_gw (in_t2 (List.mem_of_getElem? (i := 202) rfl)) rfl
theorem k2_203 : (Jvm.Cond.instanceMethod ({ cls := "AlarmMatrix$Plan", name := "acts", desc := "()LAlarmMatrix$Acts;" } : Jvm.MethodName)) ∈ gw := in_gw (in_t2 (List.mem_of_getElem? (i := 203) rfl)) rfl
theorem k2_204 : (Jvm.Cond.selects "AlarmMatrix$Plan" ({ cls := "AlarmMatrix$Plan", name := "acts", desc := "()LAlarmMatrix$Acts;" } : Jvm.MethodName) ({ cls := "AlarmMatrix$Plan", name := "acts", desc := "()LAlarmMatrix$Acts;" } : Jvm.MethodName)) ∈ gw := in_gw (in_t2 (List.mem_of_getElem? (i := 204) rfl)) rfl
theorem k2_205 : (Jvm.Cond.code ({ cls := "AlarmMatrix$Plan", name := "acts", desc := "()LAlarmMatrix$Acts;" } : Jvm.MethodName) prog_5_method_3_code (1 : Nat) (Option.some (Jvm.ClassFile.FieldType.object "AlarmMatrix$Acts"))) ∈ gw := in_gw (in_t2 (List.mem_of_getElem? (i := 205) rfl)) rfl
theorem k2_206 : (Jvm.Cond.methodLink "AlarmMatrix$Reader" (119 : Nat) ({ cls := "AlarmMatrix$Acts", name := "isTold", desc := "(I)Z" } : Jvm.MethodName)) ∈ gw := in_gw (in_t2 (List.mem_of_getElem? (i := 206) rfl)) rfl
theorem k2_207 : (Jvm.Cond.instanceMethod ({ cls := "AlarmMatrix$Acts", name := "isTold", desc := "(I)Z" } : Jvm.MethodName)) ∈ gw := in_gw (in_t2 (List.mem_of_getElem? (i := 207) rfl)) rfl
theorem k2_208 : (Jvm.Cond.selects "AlarmMatrix$Acts" ({ cls := "AlarmMatrix$Acts", name := "isTold", desc := "(I)Z" } : Jvm.MethodName) ({ cls := "AlarmMatrix$Acts", name := "isTold", desc := "(I)Z" } : Jvm.MethodName)) ∈ gw := in_gw (in_t2 (List.mem_of_getElem? (i := 208) rfl)) rfl
theorem k2_209 : (Jvm.Cond.code ({ cls := "AlarmMatrix$Acts", name := "isTold", desc := "(I)Z" } : Jvm.MethodName) prog_2_method_3_code (2 : Nat) (Option.some Jvm.ClassFile.FieldType.boolean)) ∈ gw := in_gw (in_t2 (List.mem_of_getElem? (i := 209) rfl)) rfl
theorem k2_214 : (Jvm.Cond.methodLink "AlarmMatrix$Reader" (128 : Nat) ({ cls := "AlarmMatrix$Acts", name := "tell", desc := "(IIII)V" } : Jvm.MethodName)) ∈ gw := in_gw (in_t2 (List.mem_of_getElem? (i := 214) rfl)) rfl
theorem k2_215 : (Jvm.Cond.instanceMethod ({ cls := "AlarmMatrix$Acts", name := "tell", desc := "(IIII)V" } : Jvm.MethodName)) ∈ gw := in_gw (in_t2 (List.mem_of_getElem? (i := 215) rfl)) rfl
theorem k2_216 : (Jvm.Cond.selects "AlarmMatrix$Acts" ({ cls := "AlarmMatrix$Acts", name := "tell", desc := "(IIII)V" } : Jvm.MethodName) ({ cls := "AlarmMatrix$Acts", name := "tell", desc := "(IIII)V" } : Jvm.MethodName)) ∈ gw := in_gw (in_t2 (List.mem_of_getElem? (i := 216) rfl)) rfl
theorem k2_217 : (Jvm.Cond.code ({ cls := "AlarmMatrix$Acts", name := "tell", desc := "(IIII)V" } : Jvm.MethodName) prog_2_method_6_code (5 : Nat) (Option.none : Option Jvm.ClassFile.FieldType)) ∈ gw := in_gw (in_t2 (List.mem_of_getElem? (i := 217) rfl)) rfl
theorem k2_218 : (Jvm.Cond.methodLink "AlarmMatrix$Acts" (57 : Nat) ({ cls := "AlarmMatrix$Acts", name := "putInOrder", desc := "(I)V" } : Jvm.MethodName)) ∈ gw := in_gw (in_t2 (List.mem_of_getElem? (i := 218) rfl)) rfl
theorem k2_220 : (Jvm.Cond.instanceMethod ({ cls := "AlarmMatrix$Acts", name := "putInOrder", desc := "(I)V" } : Jvm.MethodName)) ∈ gw := in_gw (in_t2 (List.mem_of_getElem? (i := 220) rfl)) rfl
theorem k2_221 : (Jvm.Cond.code ({ cls := "AlarmMatrix$Acts", name := "putInOrder", desc := "(I)V" } : Jvm.MethodName) prog_2_method_7_code (3 : Nat) (Option.none : Option Jvm.ClassFile.FieldType)) ∈ gw := in_gw (in_t2 (List.mem_of_getElem? (i := 221) rfl)) rfl
theorem k2_222 : (Jvm.Cond.methodLink "AlarmMatrix$Acts" (61 : Nat) ({ cls := "AlarmMatrix$Acts", name := "goesBefore", desc := "(II)Z" } : Jvm.MethodName)) ∈ gw := in_gw (in_t2 (List.mem_of_getElem? (i := 222) rfl)) rfl
theorem k2_224 : (Jvm.Cond.instanceMethod ({ cls := "AlarmMatrix$Acts", name := "goesBefore", desc := "(II)Z" } : Jvm.MethodName)) ∈ gw := in_gw (in_t2 (List.mem_of_getElem? (i := 224) rfl)) rfl
theorem k2_225 : (Jvm.Cond.code ({ cls := "AlarmMatrix$Acts", name := "goesBefore", desc := "(II)Z" } : Jvm.MethodName) prog_2_method_8_code (3 : Nat) (Option.some Jvm.ClassFile.FieldType.boolean)) ∈ gw := in_gw (in_t2 (List.mem_of_getElem? (i := 225) rfl)) rfl
theorem k2_227 : (Jvm.Cond.methodLink "AlarmMatrix$Reader" (60 : Nat) ({ cls := "AlarmMatrix$Reader", name := "readRow", desc := "()I" } : Jvm.MethodName)) ∈ gw := in_gw (in_t2 (List.mem_of_getElem? (i := 227) rfl)) rfl
theorem k2_229 : (Jvm.Cond.instanceMethod ({ cls := "AlarmMatrix$Reader", name := "readRow", desc := "()I" } : Jvm.MethodName)) ∈ gw := in_gw (in_t2 (List.mem_of_getElem? (i := 229) rfl)) rfl
theorem k2_230 : (Jvm.Cond.code ({ cls := "AlarmMatrix$Reader", name := "readRow", desc := "()I" } : Jvm.MethodName) prog_7_method_7_code (4 : Nat) (Option.some Jvm.ClassFile.FieldType.int)) ∈ gw := in_gw (in_t2 (List.mem_of_getElem? (i := 230) rfl)) rfl
theorem k2_231 : (Jvm.Cond.methodLink "AlarmMatrix$Reader" (131 : Nat) ({ cls := "AlarmMatrix$Plan", name := "rowCount", desc := "()I" } : Jvm.MethodName)) ∈ gw := in_gw (in_t2 (List.mem_of_getElem? (i := 231) rfl)) rfl
theorem k2_232 : (Jvm.Cond.instanceMethod ({ cls := "AlarmMatrix$Plan", name := "rowCount", desc := "()I" } : Jvm.MethodName)) ∈ gw := in_gw (in_t2 (List.mem_of_getElem? (i := 232) rfl)) rfl
theorem k2_233 : (Jvm.Cond.selects "AlarmMatrix$Plan" ({ cls := "AlarmMatrix$Plan", name := "rowCount", desc := "()I" } : Jvm.MethodName) ({ cls := "AlarmMatrix$Plan", name := "rowCount", desc := "()I" } : Jvm.MethodName)) ∈ gw := in_gw (in_t2 (List.mem_of_getElem? (i := 233) rfl)) rfl
theorem k2_234 : (Jvm.Cond.code ({ cls := "AlarmMatrix$Plan", name := "rowCount", desc := "()I" } : Jvm.MethodName) prog_5_method_4_code (1 : Nat) (Option.some Jvm.ClassFile.FieldType.int)) ∈ gw := in_gw (in_t2 (List.mem_of_getElem? (i := 234) rfl)) rfl
theorem k2_235 : (Jvm.Cond.methodLink "AlarmMatrix$Reader" (134 : Nat) ({ cls := "AlarmMatrix$Reader", name := "stepToToldZone", desc := "()I" } : Jvm.MethodName)) ∈ gw := in_gw (in_t2 (List.mem_of_getElem? (i := 235) rfl)) rfl
theorem k2_237 : (Jvm.Cond.instanceMethod ({ cls := "AlarmMatrix$Reader", name := "stepToToldZone", desc := "()I" } : Jvm.MethodName)) ∈ gw := in_gw (in_t2 (List.mem_of_getElem? (i := 237) rfl)) rfl
theorem k2_238 : (Jvm.Cond.code ({ cls := "AlarmMatrix$Reader", name := "stepToToldZone", desc := "()I" } : Jvm.MethodName) prog_7_method_9_code (2 : Nat) (Option.some Jvm.ClassFile.FieldType.int)) ∈ gw := in_gw (in_t2 (List.mem_of_getElem? (i := 238) rfl)) rfl
theorem k3_1 : (Jvm.Cond.methodLink "AlarmMatrix$Reader" (141 : Nat) ({ cls := "AlarmMatrix$Reader", name := "stepToToldAct", desc := "()I" } : Jvm.MethodName)) ∈ gw := in_gw (in_t3 (List.mem_of_getElem? (i := 1) rfl)) rfl
theorem k3_3 : (Jvm.Cond.instanceMethod ({ cls := "AlarmMatrix$Reader", name := "stepToToldAct", desc := "()I" } : Jvm.MethodName)) ∈ gw := in_gw (in_t3 (List.mem_of_getElem? (i := 3) rfl)) rfl
theorem k3_4 : (Jvm.Cond.code ({ cls := "AlarmMatrix$Reader", name := "stepToToldAct", desc := "()I" } : Jvm.MethodName) prog_7_method_10_code (2 : Nat) (Option.some Jvm.ClassFile.FieldType.int)) ∈ gw := in_gw (in_t3 (List.mem_of_getElem? (i := 4) rfl)) rfl
theorem k3_5 : (Jvm.Cond.methodLink "AlarmMatrix$Reader" (144 : Nat) ({ cls := "AlarmMatrix$Plan", name := "addRow", desc := "(III)V" } : Jvm.MethodName)) ∈ gw := in_gw (in_t3 (List.mem_of_getElem? (i := 5) rfl)) rfl
theorem k3_6 : (Jvm.Cond.instanceMethod ({ cls := "AlarmMatrix$Plan", name := "addRow", desc := "(III)V" } : Jvm.MethodName)) ∈ gw := in_gw (in_t3 (List.mem_of_getElem? (i := 6) rfl)) rfl
theorem k3_7 : (Jvm.Cond.selects "AlarmMatrix$Plan" ({ cls := "AlarmMatrix$Plan", name := "addRow", desc := "(III)V" } : Jvm.MethodName) ({ cls := "AlarmMatrix$Plan", name := "addRow", desc := "(III)V" } : Jvm.MethodName)) ∈ gw := in_gw (in_t3 (List.mem_of_getElem? (i := 7) rfl)) rfl
theorem k3_8 : (Jvm.Cond.code ({ cls := "AlarmMatrix$Plan", name := "addRow", desc := "(III)V" } : Jvm.MethodName) prog_5_method_6_code (4 : Nat) (Option.none : Option Jvm.ClassFile.FieldType)) ∈ gw := in_gw (in_t3 (List.mem_of_getElem? (i := 8) rfl)) rfl
theorem k3_10 : (Jvm.Cond.methodLink "AlarmMatrix$Reader" (65 : Nat) ({ cls := "AlarmMatrix$Reader", name := "readHold", desc := "()I" } : Jvm.MethodName)) ∈ gw := in_gw (in_t3 (List.mem_of_getElem? (i := 10) rfl)) rfl
theorem k3_12 : (Jvm.Cond.instanceMethod ({ cls := "AlarmMatrix$Reader", name := "readHold", desc := "()I" } : Jvm.MethodName)) ∈ gw := in_gw (in_t3 (List.mem_of_getElem? (i := 12) rfl)) rfl
theorem k3_13 : (Jvm.Cond.code ({ cls := "AlarmMatrix$Reader", name := "readHold", desc := "()I" } : Jvm.MethodName) prog_7_method_8_code (2 : Nat) (Option.some Jvm.ClassFile.FieldType.int)) ∈ gw := in_gw (in_t3 (List.mem_of_getElem? (i := 13) rfl)) rfl
theorem k3_14 : (Jvm.Cond.methodLink "AlarmMatrix$Reader" (148 : Nat) ({ cls := "AlarmMatrix$Acts", name := "isHeld", desc := "(I)Z" } : Jvm.MethodName)) ∈ gw := in_gw (in_t3 (List.mem_of_getElem? (i := 14) rfl)) rfl
theorem k3_15 : (Jvm.Cond.instanceMethod ({ cls := "AlarmMatrix$Acts", name := "isHeld", desc := "(I)Z" } : Jvm.MethodName)) ∈ gw := in_gw (in_t3 (List.mem_of_getElem? (i := 15) rfl)) rfl
theorem k3_16 : (Jvm.Cond.selects "AlarmMatrix$Acts" ({ cls := "AlarmMatrix$Acts", name := "isHeld", desc := "(I)Z" } : Jvm.MethodName) ({ cls := "AlarmMatrix$Acts", name := "isHeld", desc := "(I)Z" } : Jvm.MethodName)) ∈ gw := in_gw (in_t3 (List.mem_of_getElem? (i := 16) rfl)) rfl
theorem k3_17 : (Jvm.Cond.code ({ cls := "AlarmMatrix$Acts", name := "isHeld", desc := "(I)Z" } : Jvm.MethodName) prog_2_method_4_code (2 : Nat) (Option.some Jvm.ClassFile.FieldType.boolean)) ∈ gw := in_gw (in_t3 (List.mem_of_getElem? (i := 17) rfl)) rfl
theorem k3_18 : (Jvm.Cond.methodLink "AlarmMatrix$Reader" (151 : Nat) ({ cls := "AlarmMatrix$Acts", name := "hold", desc := "(I)V" } : Jvm.MethodName)) ∈ gw := in_gw (in_t3 (List.mem_of_getElem? (i := 18) rfl)) rfl
theorem k3_19 : (Jvm.Cond.instanceMethod ({ cls := "AlarmMatrix$Acts", name := "hold", desc := "(I)V" } : Jvm.MethodName)) ∈ gw := in_gw (in_t3 (List.mem_of_getElem? (i := 19) rfl)) rfl
theorem k3_20 : (Jvm.Cond.selects "AlarmMatrix$Acts" ({ cls := "AlarmMatrix$Acts", name := "hold", desc := "(I)V" } : Jvm.MethodName) ({ cls := "AlarmMatrix$Acts", name := "hold", desc := "(I)V" } : Jvm.MethodName)) ∈ gw := in_gw (in_t3 (List.mem_of_getElem? (i := 20) rfl)) rfl
theorem k3_21 : (Jvm.Cond.code ({ cls := "AlarmMatrix$Acts", name := "hold", desc := "(I)V" } : Jvm.MethodName) prog_2_method_5_code (2 : Nat) (Option.none : Option Jvm.ClassFile.FieldType)) ∈ gw := in_gw (in_t3 (List.mem_of_getElem? (i := 21) rfl)) rfl
theorem k3_22 : (Jvm.Cond.methodLink "AlarmMatrix" (114 : Nat) ({ cls := "AlarmMatrix$Plan", name := "rowCount", desc := "()I" } : Jvm.MethodName)) ∈ gw := in_gw (in_t3 (List.mem_of_getElem? (i := 22) rfl)) rfl
theorem k3_23 : (Jvm.Cond.arrayClass Jvm.ClassFile.FieldType.byte) ∈ gw := in_gw (in_t3 (List.mem_of_getElem? (i := 23) rfl)) rfl
theorem k3_24 : (Jvm.Cond.methodLink "AlarmMatrixLaw" (130 : Nat) ({ cls := "AlarmMatrix", name := "reset", desc := "()I" } : Jvm.MethodName)) ∈ gw := in_gw (in_t3 (List.mem_of_getElem? (i := 24) rfl)) rfl
theorem k3_25 : (Jvm.Cond.instanceMethod ({ cls := "AlarmMatrix", name := "reset", desc := "()I" } : Jvm.MethodName)) ∈ gw := in_gw (in_t3 (List.mem_of_getElem? (i := 25) rfl)) rfl
theorem k3_26 : (Jvm.Cond.selects "AlarmMatrix" ({ cls := "AlarmMatrix", name := "reset", desc := "()I" } : Jvm.MethodName) ({ cls := "AlarmMatrix", name := "reset", desc := "()I" } : Jvm.MethodName)) ∈ gw := in_gw (in_t3 (List.mem_of_getElem? (i := 26) rfl)) rfl
theorem k3_27 : (Jvm.Cond.code ({ cls := "AlarmMatrix", name := "reset", desc := "()I" } : Jvm.MethodName) prog_1_method_15_code (1 : Nat) (Option.some Jvm.ClassFile.FieldType.int)) ∈ gw := in_gw (in_t3 (List.mem_of_getElem? (i := 27) rfl)) rfl
theorem k3_28 : (Jvm.Cond.methodLink "AlarmMatrix" (183 : Nat) ({ cls := "AlarmMatrix$Plan", name := "look", desc := "(LAlarmMatrix$Points;I)V" } : Jvm.MethodName)) ∈ gw := in_gw (in_t3 (List.mem_of_getElem? (i := 28) rfl)) rfl
theorem k3_29 : (Jvm.Cond.instanceMethod ({ cls := "AlarmMatrix$Plan", name := "look", desc := "(LAlarmMatrix$Points;I)V" } : Jvm.MethodName)) ∈ gw := in_gw (in_t3 (List.mem_of_getElem? (i := 29) rfl)) rfl
theorem k3_30 : (Jvm.Cond.selects "AlarmMatrix$Plan" ({ cls := "AlarmMatrix$Plan", name := "look", desc := "(LAlarmMatrix$Points;I)V" } : Jvm.MethodName) ({ cls := "AlarmMatrix$Plan", name := "look", desc := "(LAlarmMatrix$Points;I)V" } : Jvm.MethodName)) ∈ gw := in_gw (in_t3 (List.mem_of_getElem? (i := 30) rfl)) rfl
theorem k3_31 : (Jvm.Cond.code ({ cls := "AlarmMatrix$Plan", name := "look", desc := "(LAlarmMatrix$Points;I)V" } : Jvm.MethodName) prog_5_method_7_code (4 : Nat) (Option.none : Option Jvm.ClassFile.FieldType)) ∈ gw := in_gw (in_t3 (List.mem_of_getElem? (i := 31) rfl)) rfl
theorem k3_32 : (Jvm.Cond.methodLink "AlarmMatrix$Plan" (43 : Nat) ({ cls := "AlarmMatrix$Zones", name := "look", desc := "(LAlarmMatrix$Points;I)V" } : Jvm.MethodName)) ∈ gw := in_gw (in_t3 (List.mem_of_getElem? (i := 32) rfl)) rfl
theorem k3_33 : (Jvm.Cond.instanceMethod ({ cls := "AlarmMatrix$Zones", name := "look", desc := "(LAlarmMatrix$Points;I)V" } : Jvm.MethodName)) ∈ gw := in_gw (in_t3 (List.mem_of_getElem? (i := 33) rfl)) rfl
theorem k3_34 : (Jvm.Cond.selects "AlarmMatrix$Zones" ({ cls := "AlarmMatrix$Zones", name := "look", desc := "(LAlarmMatrix$Points;I)V" } : Jvm.MethodName) ({ cls := "AlarmMatrix$Zones", name := "look", desc := "(LAlarmMatrix$Points;I)V" } : Jvm.MethodName)) ∈ gw := in_gw (in_t3 (List.mem_of_getElem? (i := 34) rfl)) rfl
theorem k3_35 : (Jvm.Cond.code ({ cls := "AlarmMatrix$Zones", name := "look", desc := "(LAlarmMatrix$Points;I)V" } : Jvm.MethodName) prog_10_method_8_code (4 : Nat) (Option.none : Option Jvm.ClassFile.FieldType)) ∈ gw := in_gw (in_t3 (List.mem_of_getElem? (i := 35) rfl)) rfl
theorem k3_36 : (Jvm.Cond.methodLink "AlarmMatrix$Zones" (37 : Nat) ({ cls := "AlarmMatrix$Zones", name := "lookAt", desc := "(ILAlarmMatrix$Points;I)V" } : Jvm.MethodName)) ∈ gw := in_gw (in_t3 (List.mem_of_getElem? (i := 36) rfl)) rfl
theorem k3_38 : (Jvm.Cond.instanceMethod ({ cls := "AlarmMatrix$Zones", name := "lookAt", desc := "(ILAlarmMatrix$Points;I)V" } : Jvm.MethodName)) ∈ gw := in_gw (in_t3 (List.mem_of_getElem? (i := 38) rfl)) rfl
theorem k3_39 : (Jvm.Cond.code ({ cls := "AlarmMatrix$Zones", name := "lookAt", desc := "(ILAlarmMatrix$Points;I)V" } : Jvm.MethodName) prog_10_method_9_code (9 : Nat) (Option.none : Option Jvm.ClassFile.FieldType)) ∈ gw := in_gw (in_t3 (List.mem_of_getElem? (i := 39) rfl)) rfl
theorem k3_40 : (Jvm.Cond.methodLink "AlarmMatrix$Zones" (41 : Nat) ({ cls := "AlarmMatrix$Points", name := "isAble", desc := "(II)Z" } : Jvm.MethodName)) ∈ gw := in_gw (in_t3 (List.mem_of_getElem? (i := 40) rfl)) rfl
theorem k3_41 : (Jvm.Cond.instanceMethod ({ cls := "AlarmMatrix$Points", name := "isAble", desc := "(II)Z" } : Jvm.MethodName)) ∈ gw := in_gw (in_t3 (List.mem_of_getElem? (i := 41) rfl)) rfl
theorem k3_42 : (Jvm.Cond.selects "AlarmMatrix$Points" ({ cls := "AlarmMatrix$Points", name := "isAble", desc := "(II)Z" } : Jvm.MethodName) ({ cls := "AlarmMatrix$Points", name := "isAble", desc := "(II)Z" } : Jvm.MethodName)) ∈ gw := in_gw (in_t3 (List.mem_of_getElem? (i := 42) rfl)) rfl
theorem k3_43 : (Jvm.Cond.code ({ cls := "AlarmMatrix$Points", name := "isAble", desc := "(II)Z" } : Jvm.MethodName) prog_6_method_11_code (3 : Nat) (Option.some Jvm.ClassFile.FieldType.boolean)) ∈ gw := in_gw (in_t3 (List.mem_of_getElem? (i := 43) rfl)) rfl
theorem k3_44 : (Jvm.Cond.methodLink "AlarmMatrix$Zones" (47 : Nat) ({ cls := "AlarmMatrix$Points", name := "isHigh", desc := "(I)Z" } : Jvm.MethodName)) ∈ gw := in_gw (in_t3 (List.mem_of_getElem? (i := 44) rfl)) rfl
theorem k3_45 : (Jvm.Cond.instanceMethod ({ cls := "AlarmMatrix$Points", name := "isHigh", desc := "(I)Z" } : Jvm.MethodName)) ∈ gw := in_gw (in_t3 (List.mem_of_getElem? (i := 45) rfl)) rfl
theorem k3_46 : (Jvm.Cond.selects "AlarmMatrix$Points" ({ cls := "AlarmMatrix$Points", name := "isHigh", desc := "(I)Z" } : Jvm.MethodName) ({ cls := "AlarmMatrix$Points", name := "isHigh", desc := "(I)Z" } : Jvm.MethodName)) ∈ gw := in_gw (in_t3 (List.mem_of_getElem? (i := 46) rfl)) rfl
theorem k3_47 : (Jvm.Cond.code ({ cls := "AlarmMatrix$Points", name := "isHigh", desc := "(I)Z" } : Jvm.MethodName) prog_6_method_12_code (2 : Nat) (Option.some Jvm.ClassFile.FieldType.boolean)) ∈ gw := in_gw (in_t3 (List.mem_of_getElem? (i := 47) rfl)) rfl
theorem k3_49 : (Jvm.Cond.static ({ cls := "AlarmMatrix", name := "oneIf", desc := "(Z)I" } : Jvm.MethodName)) ∈ gw := in_gw (in_t3 (List.mem_of_getElem? (i := 49) rfl)) rfl
theorem k3_50 : (Jvm.Cond.code ({ cls := "AlarmMatrix", name := "oneIf", desc := "(Z)I" } : Jvm.MethodName) prog_1_method_23_code (1 : Nat) (Option.some Jvm.ClassFile.FieldType.int)) ∈ gw := in_gw (in_t3 (List.mem_of_getElem? (i := 50) rfl)) rfl
theorem k3_51 : (Jvm.Cond.methodLink "AlarmMatrix$Plan" (47 : Nat) ({ cls := "AlarmMatrix$Acts", name := "forgetCalls", desc := "()V" } : Jvm.MethodName)) ∈ gw := in_gw (in_t3 (List.mem_of_getElem? (i := 51) rfl)) rfl
theorem k3_52 : (Jvm.Cond.instanceMethod ({ cls := "AlarmMatrix$Acts", name := "forgetCalls", desc := "()V" } : Jvm.MethodName)) ∈ gw := in_gw (in_t3 (List.mem_of_getElem? (i := 52) rfl)) rfl
theorem k3_53 : (Jvm.Cond.selects "AlarmMatrix$Acts" ({ cls := "AlarmMatrix$Acts", name := "forgetCalls", desc := "()V" } : Jvm.MethodName) ({ cls := "AlarmMatrix$Acts", name := "forgetCalls", desc := "()V" } : Jvm.MethodName)) ∈ gw := in_gw (in_t3 (List.mem_of_getElem? (i := 53) rfl)) rfl
theorem k3_54 : (Jvm.Cond.code ({ cls := "AlarmMatrix$Acts", name := "forgetCalls", desc := "()V" } : Jvm.MethodName) prog_2_method_10_code (2 : Nat) (Option.none : Option Jvm.ClassFile.FieldType)) ∈ gw := in_gw (in_t3 (List.mem_of_getElem? (i := 54) rfl)) rfl
theorem k3_55 : (Jvm.Cond.methodLink "AlarmMatrix$Plan" (50 : Nat) ({ cls := "AlarmMatrix$Plan", name := "isMet", desc := "(I)Z" } : Jvm.MethodName)) ∈ gw := in_gw (in_t3 (List.mem_of_getElem? (i := 55) rfl)) rfl
theorem k3_57 : (Jvm.Cond.instanceMethod ({ cls := "AlarmMatrix$Plan", name := "isMet", desc := "(I)Z" } : Jvm.MethodName)) ∈ gw := in_gw (in_t3 (List.mem_of_getElem? (i := 57) rfl)) rfl
theorem k3_58 : (Jvm.Cond.code ({ cls := "AlarmMatrix$Plan", name := "isMet", desc := "(I)Z" } : Jvm.MethodName) prog_5_method_9_code (3 : Nat) (Option.some Jvm.ClassFile.FieldType.boolean)) ∈ gw := in_gw (in_t3 (List.mem_of_getElem? (i := 58) rfl)) rfl
theorem k3_59 : (Jvm.Cond.methodLink "AlarmMatrix$Plan" (65 : Nat) ({ cls := "AlarmMatrix$Zones", name := "isOn", desc := "(I)Z" } : Jvm.MethodName)) ∈ gw := in_gw (in_t3 (List.mem_of_getElem? (i := 59) rfl)) rfl
theorem k3_60 : (Jvm.Cond.instanceMethod ({ cls := "AlarmMatrix$Zones", name := "isOn", desc := "(I)Z" } : Jvm.MethodName)) ∈ gw := in_gw (in_t3 (List.mem_of_getElem? (i := 60) rfl)) rfl
theorem k3_61 : (Jvm.Cond.selects "AlarmMatrix$Zones" ({ cls := "AlarmMatrix$Zones", name := "isOn", desc := "(I)Z" } : Jvm.MethodName) ({ cls := "AlarmMatrix$Zones", name := "isOn", desc := "(I)Z" } : Jvm.MethodName)) ∈ gw := in_gw (in_t3 (List.mem_of_getElem? (i := 61) rfl)) rfl
theorem k3_62 : (Jvm.Cond.code ({ cls := "AlarmMatrix$Zones", name := "isOn", desc := "(I)Z" } : Jvm.MethodName) prog_10_method_10_code (2 : Nat) (Option.some Jvm.ClassFile.FieldType.boolean)) ∈ gw := in_gw (in_t3 (List.mem_of_getElem? (i := 62) rfl)) rfl
theorem k3_63 : (Jvm.Cond.methodLink "AlarmMatrix$Plan" (54 : Nat) ({ cls := "AlarmMatrix$Plan", name := "hasSureZone", desc := "(I)Z" } : Jvm.MethodName)) ∈ gw := in_gw (in_t3 (List.mem_of_getElem? (i := 63) rfl)) rfl
theorem k3_65 : (Jvm.Cond.instanceMethod ({ cls := "AlarmMatrix$Plan", name := "hasSureZone", desc := "(I)Z" } : Jvm.MethodName)) ∈ gw := in_gw (in_t3 (List.mem_of_getElem? (i := 65) rfl)) rfl
theorem k3_66 : (Jvm.Cond.code ({ cls := "AlarmMatrix$Plan", name := "hasSureZone", desc := "(I)Z" } : Jvm.MethodName) prog_5_method_10_code (3 : Nat) (Option.some Jvm.ClassFile.FieldType.boolean)) ∈ gw := in_gw (in_t3 (List.mem_of_getElem? (i := 66) rfl)) rfl
theorem k3_67 : (Jvm.Cond.methodLink "AlarmMatrix$Plan" (68 : Nat) ({ cls := "AlarmMatrix$Zones", name := "isSure", desc := "(I)Z" } : Jvm.MethodName)) ∈ gw := in_gw (in_t3 (List.mem_of_getElem? (i := 67) rfl)) rfl
theorem k3_68 : (Jvm.Cond.instanceMethod ({ cls := "AlarmMatrix$Zones", name := "isSure", desc := "(I)Z" } : Jvm.MethodName)) ∈ gw := in_gw (in_t3 (List.mem_of_getElem? (i := 68) rfl)) rfl
theorem k3_69 : (Jvm.Cond.selects "AlarmMatrix$Zones" ({ cls := "AlarmMatrix$Zones", name := "isSure", desc := "(I)Z" } : Jvm.MethodName) ({ cls := "AlarmMatrix$Zones", name := "isSure", desc := "(I)Z" } : Jvm.MethodName)) ∈ gw := in_gw (in_t3 (List.mem_of_getElem? (i := 69) rfl)) rfl
theorem k3_70 : (Jvm.Cond.code ({ cls := "AlarmMatrix$Zones", name := "isSure", desc := "(I)Z" } : Jvm.MethodName) prog_10_method_11_code (2 : Nat) (Option.some Jvm.ClassFile.FieldType.boolean)) ∈ gw := in_gw (in_t3 (List.mem_of_getElem? (i := 70) rfl)) rfl
theorem k3_71 : (Jvm.Cond.methodLink "AlarmMatrix$Plan" (57 : Nat) ({ cls := "AlarmMatrix$Acts", name := "call", desc := "(IZ)V" } : Jvm.MethodName)) ∈ gw := in_gw (in_t3 (List.mem_of_getElem? (i := 71) rfl)) rfl
theorem k3_72 : (Jvm.Cond.instanceMethod ({ cls := "AlarmMatrix$Acts", name := "call", desc := "(IZ)V" } : Jvm.MethodName)) ∈ gw := in_gw (in_t3 (List.mem_of_getElem? (i := 72) rfl)) rfl
theorem k3_73 : (Jvm.Cond.selects "AlarmMatrix$Acts" ({ cls := "AlarmMatrix$Acts", name := "call", desc := "(IZ)V" } : Jvm.MethodName) ({ cls := "AlarmMatrix$Acts", name := "call", desc := "(IZ)V" } : Jvm.MethodName)) ∈ gw := in_gw (in_t3 (List.mem_of_getElem? (i := 73) rfl)) rfl
theorem k3_74 : (Jvm.Cond.code ({ cls := "AlarmMatrix$Acts", name := "call", desc := "(IZ)V" } : Jvm.MethodName) prog_2_method_11_code (3 : Nat) (Option.none : Option Jvm.ClassFile.FieldType)) ∈ gw := in_gw (in_t3 (List.mem_of_getElem? (i := 74) rfl)) rfl
theorem k3_75 : (Jvm.Cond.methodLink "AlarmMatrix" (187 : Nat) ({ cls := "AlarmMatrix$Plan", name := "acts", desc := "()LAlarmMatrix$Acts;" } : Jvm.MethodName)) ∈ gw := in_gw (in_t3 (List.mem_of_getElem? (i := 75) rfl)) rfl
theorem k3_76 : (Jvm.Cond.methodLink "AlarmMatrix" (205 : Nat) ({ cls := "AlarmMatrix$Acts", name := "release", desc := "(ILAlarmMatrix$Events;)I" } : Jvm.MethodName)) ∈ gw := in_gw (in_t3 (List.mem_of_getElem? (i := 76) rfl)) rfl
theorem k3_77 : (Jvm.Cond.instanceMethod ({ cls := "AlarmMatrix$Acts", name := "release", desc := "(ILAlarmMatrix$Events;)I" } : Jvm.MethodName)) ∈ gw := in_gw (in_t3 (List.mem_of_getElem? (i := 77) rfl)) rfl
theorem k3_78 : (Jvm.Cond.selects "AlarmMatrix$Acts" ({ cls := "AlarmMatrix$Acts", name := "release", desc := "(ILAlarmMatrix$Events;)I" } : Jvm.MethodName) ({ cls := "AlarmMatrix$Acts", name := "release", desc := "(ILAlarmMatrix$Events;)I" } : Jvm.MethodName)) ∈ gw := in_gw (in_t3 (List.mem_of_getElem? (i := 78) rfl)) rfl
theorem k3_79 : (Jvm.Cond.code ({ cls := "AlarmMatrix$Acts", name := "release", desc := "(ILAlarmMatrix$Events;)I" } : Jvm.MethodName) prog_2_method_19_code (6 : Nat) (Option.some Jvm.ClassFile.FieldType.int)) ∈ gw := in_gw (in_t3 (List.mem_of_getElem? (i := 79) rfl)) rfl
theorem k3_80 : (Jvm.Cond.methodLink "AlarmMatrix$Acts" (73 : Nat) ({ cls := "AlarmMatrix$Events", name := "add", desc := "(III)V" } : Jvm.MethodName)) ∈ gw := in_gw (in_t3 (List.mem_of_getElem? (i := 80) rfl)) rfl
theorem k3_81 : (Jvm.Cond.instanceMethod ({ cls := "AlarmMatrix$Events", name := "add", desc := "(III)V" } : Jvm.MethodName)) ∈ gw := in_gw (in_t3 (List.mem_of_getElem? (i := 81) rfl)) rfl
theorem k3_82 : (Jvm.Cond.selects "AlarmMatrix$Events" ({ cls := "AlarmMatrix$Events", name := "add", desc := "(III)V" } : Jvm.MethodName) ({ cls := "AlarmMatrix$Events", name := "add", desc := "(III)V" } : Jvm.MethodName)) ∈ gw := in_gw (in_t3 (List.mem_of_getElem? (i := 82) rfl)) rfl
theorem k3_83 : (Jvm.Cond.code ({ cls := "AlarmMatrix$Events", name := "add", desc := "(III)V" } : Jvm.MethodName) prog_3_method_3_code (4 : Nat) (Option.none : Option Jvm.ClassFile.FieldType)) ∈ gw := in_gw (in_t3 (List.mem_of_getElem? (i := 83) rfl)) rfl
theorem k3_84 : (Jvm.Cond.methodLink "AlarmMatrix$Events" (28 : Nat) ({ cls := "java/lang/Math", name := "min", desc := "(II)I" } : Jvm.MethodName)) ∈ gw := in_gw (in_t3 (List.mem_of_getElem? (i := 84) rfl)) rfl
theorem k3_85 : (Jvm.Cond.methodLink "AlarmMatrixLaw" (149 : Nat) ({ cls := "AlarmMatrix", name := "time", desc := "()I" } : Jvm.MethodName)) ∈ gw := in_gw (in_t3 (List.mem_of_getElem? (i := 85) rfl)) rfl
theorem k3_86 : (Jvm.Cond.instanceMethod ({ cls := "AlarmMatrix", name := "time", desc := "()I" } : Jvm.MethodName)) ∈ gw := in_gw (in_t3 (List.mem_of_getElem? (i := 86) rfl)) rfl
theorem k3_87 : (Jvm.Cond.selects "AlarmMatrix" ({ cls := "AlarmMatrix", name := "time", desc := "()I" } : Jvm.MethodName) ({ cls := "AlarmMatrix", name := "time", desc := "()I" } : Jvm.MethodName)) ∈ gw := in_gw (in_t3 (List.mem_of_getElem? (i := 87) rfl)) rfl
theorem k3_88 : (Jvm.Cond.code ({ cls := "AlarmMatrix", name := "time", desc := "()I" } : Jvm.MethodName) prog_1_method_21_code (1 : Nat) (Option.some Jvm.ClassFile.FieldType.int)) ∈ gw := in_gw (in_t3 (List.mem_of_getElem? (i := 88) rfl)) rfl
theorem k3_89 : (Jvm.Cond.methodLink "AlarmMatrixLaw" (69 : Nat) ({ cls := "AlarmMatrixLaw", name := "cell", desc := "([II)I" } : Jvm.MethodName)) ∈ gw := in_gw (in_t3 (List.mem_of_getElem? (i := 89) rfl)) rfl
theorem k3_90 : (Jvm.Cond.static ({ cls := "AlarmMatrixLaw", name := "cell", desc := "([II)I" } : Jvm.MethodName)) ∈ gw := in_gw (in_t3 (List.mem_of_getElem? (i := 90) rfl)) rfl
theorem k3_91 : (Jvm.Cond.code ({ cls := "AlarmMatrixLaw", name := "cell", desc := "([II)I" } : Jvm.MethodName) method_2_code (2 : Nat) (Option.some Jvm.ClassFile.FieldType.int)) ∈ gw := in_gw (in_t3 (List.mem_of_getElem? (i := 91) rfl)) rfl
theorem k3_92 : (Jvm.Cond.methodLink "AlarmMatrixLaw" (81 : Nat) ({ cls := "AlarmMatrixLaw", name := "unit", desc := "(LAlarmMatrix;I[J)I" } : Jvm.MethodName)) ∈ gw := in_gw (in_t3 (List.mem_of_getElem? (i := 92) rfl)) rfl
theorem k3_93 : (Jvm.Cond.static ({ cls := "AlarmMatrixLaw", name := "unit", desc := "(LAlarmMatrix;I[J)I" } : Jvm.MethodName)) ∈ gw := in_gw (in_t3 (List.mem_of_getElem? (i := 93) rfl)) rfl
theorem k3_94 : (Jvm.Cond.codeWith ({ cls := "AlarmMatrixLaw", name := "unit", desc := "(LAlarmMatrix;I[J)I" } : Jvm.MethodName) method_3_code (4 : Nat) (Option.some Jvm.ClassFile.FieldType.int) [((0 : Nat), (9 : Nat), (12 : Nat), (13 : Nat)), ((0 : Nat), (9 : Nat), (15 : Nat), (15 : Nat))]) ∈ gw := in_gw (in_t3 (List.mem_of_getElem? (i := 94) rfl)) rfl
theorem k3_95 : (Jvm.Cond.classLink "AlarmMatrixLaw" (13 : Nat) "java/lang/IllegalArgumentException") ∈ gw := in_gw (in_t3 (List.mem_of_getElem? (i := 95) rfl)) rfl
theorem k3_96 : (Jvm.Cond.classLink "AlarmMatrixLaw" (15 : Nat) "java/lang/IllegalStateException") ∈ gw := in_gw (in_t3 (List.mem_of_getElem? (i := 96) rfl)) rfl
theorem k3_97 : (Jvm.Cond.methodLink "AlarmMatrixLaw" (7 : Nat) ({ cls := "AlarmMatrix", name := "unit", desc := "(I)I" } : Jvm.MethodName)) ∈ gw := in_gw (in_t3 (List.mem_of_getElem? (i := 97) rfl)) rfl
theorem k3_98 : (Jvm.Cond.instanceMethod ({ cls := "AlarmMatrix", name := "unit", desc := "(I)I" } : Jvm.MethodName)) ∈ gw := in_gw (in_t3 (List.mem_of_getElem? (i := 98) rfl)) rfl
theorem k3_99 : (Jvm.Cond.selects "AlarmMatrix" ({ cls := "AlarmMatrix", name := "unit", desc := "(I)I" } : Jvm.MethodName) ({ cls := "AlarmMatrix", name := "unit", desc := "(I)I" } : Jvm.MethodName)) ∈ gw := in_gw (in_t3 (List.mem_of_getElem? (i := 99) rfl)) rfl
theorem k3_100 : (Jvm.Cond.code ({ cls := "AlarmMatrix", name := "unit", desc := "(I)I" } : Jvm.MethodName) prog_1_method_2_code (2 : Nat) (Option.some Jvm.ClassFile.FieldType.int)) ∈ gw := in_gw (in_t3 (List.mem_of_getElem? (i := 100) rfl)) rfl
theorem k3_101 : (Jvm.Cond.methodLink "AlarmMatrix" (62 : Nat) ({ cls := "AlarmMatrix", name := "isWithin", desc := "(III)Z" } : Jvm.MethodName)) ∈ gw := in_gw (in_t3 (List.mem_of_getElem? (i := 101) rfl)) rfl
theorem k3_102 : (Jvm.Cond.classLink "AlarmMatrix" (66 : Nat) "java/lang/IllegalArgumentException") ∈ gw := in_gw (in_t3 (List.mem_of_getElem? (i := 102) rfl)) rfl
theorem k3_103 : (Jvm.Cond.instantiable "java/lang/IllegalArgumentException" (6 : Nat)) ∈ gw := in_gw (in_t3 (List.mem_of_getElem? (i := 103) rfl)) rfl
theorem k3_111 : (Jvm.Cond.selects "java/lang/IllegalArgumentException" ({ cls := "java/lang/Throwable", name := "fillInStackTrace", desc := "(I)Ljava/lang/Throwable;" } : Jvm.MethodName) ({ cls := "java/lang/Throwable", name := "fillInStackTrace", desc := "(I)Ljava/lang/Throwable;" } : Jvm.MethodName)) ∈ gw := in_gw (in_t3 (List.mem_of_getElem? (i := 111) rfl)) rfl
theorem k3_112 : (Jvm.Cond.selects "java/lang/IllegalArgumentException" ({ cls := "java/lang/Throwable", name := "fillInStackTrace", desc := "()Ljava/lang/Throwable;" } : Jvm.MethodName) ({ cls := "java/lang/Throwable", name := "fillInStackTrace", desc := "()Ljava/lang/Throwable;" } : Jvm.MethodName)) ∈ gw := in_gw (in_t3 (List.mem_of_getElem? (i := 112) rfl)) rfl
theorem k3_123 : (Jvm.Cond.fieldLink "java/lang/Throwable" (198 : Nat) "java/lang/Throwable" "backtrace" "Ljava/lang/Object;") ∈ gw := in_gw (in_t3 (List.mem_of_getElem? (i := 123) rfl)) rfl
theorem k3_125 : (Jvm.Cond.instanceMethod ({ cls := "java/lang/Throwable", name := "<init>", desc := "()V" } : Jvm.MethodName)) ∈ gw := in_gw (in_t3 (List.mem_of_getElem? (i := 125) rfl)) rfl
theorem k3_126 : (Jvm.Cond.code ({ cls := "java/lang/Throwable", name := "<init>", desc := "()V" } : Jvm.MethodName) prog_21_method_1_code (1 : Nat) (Option.none : Option Jvm.ClassFile.FieldType)) ∈ gw := in_gw (in_t3 (List.mem_of_getElem? (i := 126) rfl)) rfl
theorem k3_127 : (Jvm.Cond.methodLink "java/lang/Throwable" (1 : Nat) ({ cls := "java/lang/Object", name := "<init>", desc := "()V" } : Jvm.MethodName)) ∈ gw := in_gw (in_t3 (List.mem_of_getElem? (i := 127) rfl)) rfl
theorem k3_128 : (Jvm.Cond.fieldLink "java/lang/Throwable" (13 : Nat) "java/lang/Throwable" "UNASSIGNED_STACK" "[Ljava/lang/StackTraceElement;") ∈ gw := in_gw (in_t3 (List.mem_of_getElem? (i := 128) rfl)) rfl
theorem k3_130 : (Jvm.Cond.fieldLink "java/lang/Throwable" (20 : Nat) "java/lang/Throwable" "SUPPRESSED_SENTINEL" "Ljava/util/List;") ∈ gw := in_gw (in_t3 (List.mem_of_getElem? (i := 130) rfl)) rfl
theorem k3_132 : (Jvm.Cond.methodLink "java/lang/Throwable" (27 : Nat) ({ cls := "java/lang/Throwable", name := "fillInStackTrace", desc := "()Ljava/lang/Throwable;" } : Jvm.MethodName)) ∈ gw := in_gw (in_t3 (List.mem_of_getElem? (i := 132) rfl)) rfl
theorem k3_133 : (Jvm.Cond.instanceMethod ({ cls := "java/lang/Throwable", name := "fillInStackTrace", desc := "()Ljava/lang/Throwable;" } : Jvm.MethodName)) ∈ gw := in_gw (in_t3 (List.mem_of_getElem? (i := 133) rfl)) rfl
theorem k3_135 : (Jvm.Cond.selects "java/lang/IllegalStateException" ({ cls := "java/lang/Throwable", name := "fillInStackTrace", desc := "()Ljava/lang/Throwable;" } : Jvm.MethodName) ({ cls := "java/lang/Throwable", name := "fillInStackTrace", desc := "()Ljava/lang/Throwable;" } : Jvm.MethodName)) ∈ gw := in_gw (in_t3 (List.mem_of_getElem? (i := 135) rfl)) rfl
theorem k3_137 : (Jvm.Cond.methodLink "java/lang/Throwable" (202 : Nat) ({ cls := "java/lang/Throwable", name := "fillInStackTrace", desc := "(I)Ljava/lang/Throwable;" } : Jvm.MethodName)) ∈ gw := in_gw (in_t3 (List.mem_of_getElem? (i := 137) rfl)) rfl
theorem k3_139 : (Jvm.Cond.instanceMethod ({ cls := "java/lang/Throwable", name := "fillInStackTrace", desc := "(I)Ljava/lang/Throwable;" } : Jvm.MethodName)) ∈ gw := in_gw (in_t3 (List.mem_of_getElem? (i := 139) rfl)) rfl
theorem k3_140 : (Jvm.Cond.instantiable "java/lang/Throwable" (6 : Nat)) ∈ gw := in_gw (in_t3 (List.mem_of_getElem? (i := 140) rfl)) rfl
theorem k3_143 : (Jvm.Cond.methodLink "AlarmMatrix" (70 : Nat) ({ cls := "java/lang/IllegalArgumentException", name := "<init>", desc := "(Ljava/lang/String;)V" } : Jvm.MethodName)) ∈ gw := in_gw (in_t3 (List.mem_of_getElem? (i := 143) rfl)) rfl
theorem k3_144 : (Jvm.Cond.instanceMethod ({ cls := "java/lang/IllegalArgumentException", name := "<init>", desc := "(Ljava/lang/String;)V" } : Jvm.MethodName)) ∈ gw := in_gw (in_t3 (List.mem_of_getElem? (i := 144) rfl)) rfl
theorem k3_145 : (Jvm.Cond.code ({ cls := "java/lang/IllegalArgumentException", name := "<init>", desc := "(Ljava/lang/String;)V" } : Jvm.MethodName) prog_14_method_2_code (2 : Nat) (Option.none : Option Jvm.ClassFile.FieldType)) ∈ gw := in_gw (in_t3 (List.mem_of_getElem? (i := 145) rfl)) rfl
theorem k3_146 : (Jvm.Cond.methodLink "java/lang/IllegalArgumentException" (7 : Nat) ({ cls := "java/lang/RuntimeException", name := "<init>", desc := "(Ljava/lang/String;)V" } : Jvm.MethodName)) ∈ gw := in_gw (in_t3 (List.mem_of_getElem? (i := 146) rfl)) rfl
theorem k3_147 : (Jvm.Cond.instanceMethod ({ cls := "java/lang/RuntimeException", name := "<init>", desc := "(Ljava/lang/String;)V" } : Jvm.MethodName)) ∈ gw := in_gw (in_t3 (List.mem_of_getElem? (i := 147) rfl)) rfl
theorem k3_148 : (Jvm.Cond.code ({ cls := "java/lang/RuntimeException", name := "<init>", desc := "(Ljava/lang/String;)V" } : Jvm.MethodName) prog_17_method_2_code (2 : Nat) (Option.none : Option Jvm.ClassFile.FieldType)) ∈ gw := in_gw (in_t3 (List.mem_of_getElem? (i := 148) rfl)) rfl
theorem k3_149 : (Jvm.Cond.methodLink "java/lang/RuntimeException" (7 : Nat) ({ cls := "java/lang/Exception", name := "<init>", desc := "(Ljava/lang/String;)V" } : Jvm.MethodName)) ∈ gw := in_gw (in_t3 (List.mem_of_getElem? (i := 149) rfl)) rfl
theorem k3_150 : (Jvm.Cond.instanceMethod ({ cls := "java/lang/Exception", name := "<init>", desc := "(Ljava/lang/String;)V" } : Jvm.MethodName)) ∈ gw := in_gw (in_t3 (List.mem_of_getElem? (i := 150) rfl)) rfl
theorem k3_151 : (Jvm.Cond.code ({ cls := "java/lang/Exception", name := "<init>", desc := "(Ljava/lang/String;)V" } : Jvm.MethodName) prog_13_method_2_code (2 : Nat) (Option.none : Option Jvm.ClassFile.FieldType)) ∈ gw := in_gw (in_t3 (List.mem_of_getElem? (i := 151) rfl)) rfl
theorem k3_152 : (Jvm.Cond.methodLink "java/lang/Exception" (7 : Nat) ({ cls := "java/lang/Throwable", name := "<init>", desc := "(Ljava/lang/String;)V" } : Jvm.MethodName)) ∈ gw := in_gw (in_t3 (List.mem_of_getElem? (i := 152) rfl)) rfl
theorem k3_153 : (Jvm.Cond.instanceMethod ({ cls := "java/lang/Throwable", name := "<init>", desc := "(Ljava/lang/String;)V" } : Jvm.MethodName)) ∈ gw := in_gw (in_t3 (List.mem_of_getElem? (i := 153) rfl)) rfl
theorem k3_154 : (Jvm.Cond.code ({ cls := "java/lang/Throwable", name := "<init>", desc := "(Ljava/lang/String;)V" } : Jvm.MethodName) prog_21_method_2_code (2 : Nat) (Option.none : Option Jvm.ClassFile.FieldType)) ∈ gw := in_gw (in_t3 (List.mem_of_getElem? (i := 154) rfl)) rfl
theorem k3_155 : (Jvm.Cond.fieldLink "java/lang/Throwable" (198 : Nat) "java/lang/Throwable" "backtrace" "Ljava/lang/Object;") ∈ gw := in_gw (in_t3 (List.mem_of_getElem? (i := 155) rfl)) rfl
theorem k3_156 : (Jvm.Cond.fieldLink "java/lang/Throwable" (31 : Nat) "java/lang/Throwable" "detailMessage" "Ljava/lang/String;") ∈ gw := in_gw (in_t3 (List.mem_of_getElem? (i := 156) rfl)) rfl
theorem k3_157 : (Jvm.Cond.fieldLink "java/lang/Throwable" (7 : Nat) "java/lang/Throwable" "cause" "Ljava/lang/Throwable;") ∈ gw := in_gw (in_t3 (List.mem_of_getElem? (i := 157) rfl)) rfl
theorem k3_158 : (Jvm.Cond.fieldLink "java/lang/Throwable" (17 : Nat) "java/lang/Throwable" "stackTrace" "[Ljava/lang/StackTraceElement;") ∈ gw := in_gw (in_t3 (List.mem_of_getElem? (i := 158) rfl)) rfl
theorem k3_159 : (Jvm.Cond.fieldLink "java/lang/Throwable" (24 : Nat) "java/lang/Throwable" "suppressedExceptions" "Ljava/util/List;") ∈ gw := in_gw (in_t3 (List.mem_of_getElem? (i := 159) rfl)) rfl
theorem k3_168 : (Jvm.Cond.methodLink "AlarmMatrix" (73 : Nat) ({ cls := "AlarmMatrix$Text", name := "size", desc := "()I" } : Jvm.MethodName)) ∈ gw := in_gw (in_t3 (List.mem_of_getElem? (i := 168) rfl)) rfl
theorem k3_169 : (Jvm.Cond.classLink "AlarmMatrix" (77 : Nat) "java/lang/IllegalStateException") ∈ gw := in_gw (in_t3 (List.mem_of_getElem? (i := 169) rfl)) rfl
theorem k3_170 : (Jvm.Cond.instantiable "java/lang/IllegalStateException" (6 : Nat)) ∈ gw := in_gw (in_t3 (List.mem_of_getElem? (i := 170) rfl)) rfl
theorem k3_172 : (Jvm.Cond.selects "java/lang/IllegalStateException" ({ cls := "java/lang/Throwable", name := "fillInStackTrace", desc := "(I)Ljava/lang/Throwable;" } : Jvm.MethodName) ({ cls := "java/lang/Throwable", name := "fillInStackTrace", desc := "(I)Ljava/lang/Throwable;" } : Jvm.MethodName)) ∈ gw := in_gw (in_t3 (List.mem_of_getElem? (i := 172) rfl)) rfl
theorem k3_179 : (Jvm.Cond.methodLink "AlarmMatrix" (81 : Nat) ({ cls := "java/lang/IllegalStateException", name := "<init>", desc := "(Ljava/lang/String;)V" } : Jvm.MethodName)) ∈ gw := in_gw (in_t3 (List.mem_of_getElem? (i := 179) rfl)) rfl
theorem k3_180 : (Jvm.Cond.instanceMethod ({ cls := "java/lang/IllegalStateException", name := "<init>", desc := "(Ljava/lang/String;)V" } : Jvm.MethodName)) ∈ gw := in_gw (in_t3 (List.mem_of_getElem? (i := 180) rfl)) rfl
theorem k3_181 : (Jvm.Cond.code ({ cls := "java/lang/IllegalStateException", name := "<init>", desc := "(Ljava/lang/String;)V" } : Jvm.MethodName) prog_15_method_2_code (2 : Nat) (Option.none : Option Jvm.ClassFile.FieldType)) ∈ gw := in_gw (in_t3 (List.mem_of_getElem? (i := 181) rfl)) rfl
theorem k3_182 : (Jvm.Cond.methodLink "java/lang/IllegalStateException" (7 : Nat) ({ cls := "java/lang/RuntimeException", name := "<init>", desc := "(Ljava/lang/String;)V" } : Jvm.MethodName)) ∈ gw := in_gw (in_t3 (List.mem_of_getElem? (i := 182) rfl)) rfl
theorem k3_185 : (Jvm.Cond.methodLink "AlarmMatrix" (82 : Nat) ({ cls := "AlarmMatrix$Text", name := "put", desc := "(C)V" } : Jvm.MethodName)) ∈ gw := in_gw (in_t3 (List.mem_of_getElem? (i := 185) rfl)) rfl
theorem k3_186 : (Jvm.Cond.instanceMethod ({ cls := "AlarmMatrix$Text", name := "put", desc := "(C)V" } : Jvm.MethodName)) ∈ gw := in_gw (in_t3 (List.mem_of_getElem? (i := 186) rfl)) rfl
theorem k3_187 : (Jvm.Cond.selects "AlarmMatrix$Text" ({ cls := "AlarmMatrix$Text", name := "put", desc := "(C)V" } : Jvm.MethodName) ({ cls := "AlarmMatrix$Text", name := "put", desc := "(C)V" } : Jvm.MethodName)) ∈ gw := in_gw (in_t3 (List.mem_of_getElem? (i := 187) rfl)) rfl
theorem k3_188 : (Jvm.Cond.code ({ cls := "AlarmMatrix$Text", name := "put", desc := "(C)V" } : Jvm.MethodName) prog_8_method_5_code (2 : Nat) (Option.none : Option Jvm.ClassFile.FieldType)) ∈ gw := in_gw (in_t3 (List.mem_of_getElem? (i := 188) rfl)) rfl
theorem k3_189 : (Jvm.Cond.methodLink "AlarmMatrixLaw" (89 : Nat) ({ cls := "AlarmMatrixLaw", name := "say", desc := "(LAlarmMatrix;IIIII[J)I" } : Jvm.MethodName)) ∈ gw := in_gw (in_t3 (List.mem_of_getElem? (i := 189) rfl)) rfl
theorem k3_190 : (Jvm.Cond.static ({ cls := "AlarmMatrixLaw", name := "say", desc := "(LAlarmMatrix;IIIII[J)I" } : Jvm.MethodName)) ∈ gw := in_gw (in_t3 (List.mem_of_getElem? (i := 190) rfl)) rfl
theorem k3_191 : (Jvm.Cond.codeWith ({ cls := "AlarmMatrixLaw", name := "say", desc := "(LAlarmMatrix;IIIII[J)I" } : Jvm.MethodName) method_4_code (8 : Nat) (Option.some Jvm.ClassFile.FieldType.int) [((0 : Nat), (16 : Nat), (19 : Nat), (13 : Nat)), ((0 : Nat), (16 : Nat), (23 : Nat), (15 : Nat))]) ∈ gw := in_gw (in_t3 (List.mem_of_getElem? (i := 191) rfl)) rfl
theorem k3_192 : (Jvm.Cond.methodLink "AlarmMatrixLaw" (17 : Nat) ({ cls := "AlarmMatrix", name := "say", desc := "(IIIII)I" } : Jvm.MethodName)) ∈ gw := in_gw (in_t3 (List.mem_of_getElem? (i := 192) rfl)) rfl
theorem k3_193 : (Jvm.Cond.instanceMethod ({ cls := "AlarmMatrix", name := "say", desc := "(IIIII)I" } : Jvm.MethodName)) ∈ gw := in_gw (in_t3 (List.mem_of_getElem? (i := 193) rfl)) rfl
theorem k3_194 : (Jvm.Cond.selects "AlarmMatrix" ({ cls := "AlarmMatrix", name := "say", desc := "(IIIII)I" } : Jvm.MethodName) ({ cls := "AlarmMatrix", name := "say", desc := "(IIIII)I" } : Jvm.MethodName)) ∈ gw := in_gw (in_t3 (List.mem_of_getElem? (i := 194) rfl)) rfl
theorem k3_195 : (Jvm.Cond.code ({ cls := "AlarmMatrix", name := "say", desc := "(IIIII)I" } : Jvm.MethodName) prog_1_method_3_code (7 : Nat) (Option.some Jvm.ClassFile.FieldType.int)) ∈ gw := in_gw (in_t3 (List.mem_of_getElem? (i := 195) rfl)) rfl
theorem k3_196 : (Jvm.Cond.methodLink "AlarmMatrix" (86 : Nat) ({ cls := "AlarmMatrix", name := "canBeSaid", desc := "(IIIII)Z" } : Jvm.MethodName)) ∈ gw := in_gw (in_t3 (List.mem_of_getElem? (i := 196) rfl)) rfl
theorem k3_197 : (Jvm.Cond.static ({ cls := "AlarmMatrix", name := "canBeSaid", desc := "(IIIII)Z" } : Jvm.MethodName)) ∈ gw := in_gw (in_t3 (List.mem_of_getElem? (i := 197) rfl)) rfl
theorem k3_198 : (Jvm.Cond.code ({ cls := "AlarmMatrix", name := "canBeSaid", desc := "(IIIII)Z" } : Jvm.MethodName) prog_1_method_26_code (5 : Nat) (Option.some Jvm.ClassFile.FieldType.boolean)) ∈ gw := in_gw (in_t3 (List.mem_of_getElem? (i := 198) rfl)) rfl
theorem k3_199 : (Jvm.Cond.methodLink "AlarmMatrix" (238 : Nat) ({ cls := "AlarmMatrix", name := "isSayable", desc := "(I)Z" } : Jvm.MethodName)) ∈ gw := in_gw (in_t3 (List.mem_of_getElem? (i := 199) rfl)) rfl
theorem k3_200 : (Jvm.Cond.static ({ cls := "AlarmMatrix", name := "isSayable", desc := "(I)Z" } : Jvm.MethodName)) ∈ gw := in_gw (in_t3 (List.mem_of_getElem? (i := 200) rfl)) rfl
theorem k3_201 : (Jvm.Cond.code ({ cls := "AlarmMatrix", name := "isSayable", desc := "(I)Z" } : Jvm.MethodName) prog_1_method_25_code (1 : Nat) (Option.some Jvm.ClassFile.FieldType.boolean)) ∈ gw := in_gw (in_t3 (List.mem_of_getElem? (i := 201) rfl)) rfl
theorem k3_203 : (Jvm.Cond.methodLink "AlarmMatrix" (92 : Nat) ({ cls := "AlarmMatrix", name := "putSentence", desc := "(IIIII)V" } : Jvm.MethodName)) ∈ gw := in_gw (in_t3 (List.mem_of_getElem? (i := 203) rfl)) rfl
theorem k3_205 : (Jvm.Cond.instanceMethod ({ cls := "AlarmMatrix", name := "putSentence", desc := "(IIIII)V" } : Jvm.MethodName)) ∈ gw := in_gw (in_t3 (List.mem_of_getElem? (i := 205) rfl)) rfl
theorem k3_206 : (Jvm.Cond.code ({ cls := "AlarmMatrix", name := "putSentence", desc := "(IIIII)V" } : Jvm.MethodName) prog_1_method_27_code (7 : Nat) (Option.none : Option Jvm.ClassFile.FieldType)) ∈ gw := in_gw (in_t3 (List.mem_of_getElem? (i := 206) rfl)) rfl
theorem k3_208 : (Jvm.Cond.methodLink "AlarmMatrix" (243 : Nat) ({ cls := "AlarmMatrix$Text", name := "putPair", desc := "(Ljava/lang/String;I)V" } : Jvm.MethodName)) ∈ gw := in_gw (in_t3 (List.mem_of_getElem? (i := 208) rfl)) rfl
theorem k3_209 : (Jvm.Cond.instanceMethod ({ cls := "AlarmMatrix$Text", name := "putPair", desc := "(Ljava/lang/String;I)V" } : Jvm.MethodName)) ∈ gw := in_gw (in_t3 (List.mem_of_getElem? (i := 209) rfl)) rfl
theorem k3_210 : (Jvm.Cond.selects "AlarmMatrix$Text" ({ cls := "AlarmMatrix$Text", name := "putPair", desc := "(Ljava/lang/String;I)V" } : Jvm.MethodName) ({ cls := "AlarmMatrix$Text", name := "putPair", desc := "(Ljava/lang/String;I)V" } : Jvm.MethodName)) ∈ gw := in_gw (in_t3 (List.mem_of_getElem? (i := 210) rfl)) rfl
theorem k3_211 : (Jvm.Cond.code ({ cls := "AlarmMatrix$Text", name := "putPair", desc := "(Ljava/lang/String;I)V" } : Jvm.MethodName) prog_8_method_6_code (3 : Nat) (Option.none : Option Jvm.ClassFile.FieldType)) ∈ gw := in_gw (in_t3 (List.mem_of_getElem? (i := 211) rfl)) rfl
theorem k3_212 : (Jvm.Cond.methodLink "AlarmMatrix$Text" (22 : Nat) ({ cls := "AlarmMatrix$Text", name := "putWord", desc := "(Ljava/lang/String;)V" } : Jvm.MethodName)) ∈ gw := in_gw (in_t3 (List.mem_of_getElem? (i := 212) rfl)) rfl
theorem k3_213 : (Jvm.Cond.instanceMethod ({ cls := "AlarmMatrix$Text", name := "putWord", desc := "(Ljava/lang/String;)V" } : Jvm.MethodName)) ∈ gw := in_gw (in_t3 (List.mem_of_getElem? (i := 213) rfl)) rfl
theorem k3_214 : (Jvm.Cond.selects "AlarmMatrix$Text" ({ cls := "AlarmMatrix$Text", name := "putWord", desc := "(Ljava/lang/String;)V" } : Jvm.MethodName) ({ cls := "AlarmMatrix$Text", name := "putWord", desc := "(Ljava/lang/String;)V" } : Jvm.MethodName)) ∈ gw := in_gw (in_t3 (List.mem_of_getElem? (i := 214) rfl)) rfl
theorem k3_215 : (Jvm.Cond.code ({ cls := "AlarmMatrix$Text", name := "putWord", desc := "(Ljava/lang/String;)V" } : Jvm.MethodName) prog_8_method_7_code (3 : Nat) (Option.none : Option Jvm.ClassFile.FieldType)) ∈ gw := in_gw (in_t3 (List.mem_of_getElem? (i := 215) rfl)) rfl
theorem k3_216 : (Jvm.Cond.methodLink "AlarmMatrix$Text" (30 : Nat) ({ cls := "java/lang/String", name := "length", desc := "()I" } : Jvm.MethodName)) ∈ gw := in_gw (in_t3 (List.mem_of_getElem? (i := 216) rfl)) rfl
theorem k3_217 : (Jvm.Cond.methodLink "AlarmMatrix$Text" (35 : Nat) ({ cls := "java/lang/String", name := "charAt", desc := "(I)C" } : Jvm.MethodName)) ∈ gw := in_gw (in_t3 (List.mem_of_getElem? (i := 217) rfl)) rfl
theorem k3_218 : (Jvm.Cond.methodLink "AlarmMatrix$Text" (39 : Nat) ({ cls := "AlarmMatrix$Text", name := "put", desc := "(C)V" } : Jvm.MethodName)) ∈ gw := in_gw (in_t3 (List.mem_of_getElem? (i := 218) rfl)) rfl
theorem k3_219 : (Jvm.Cond.methodLink "AlarmMatrix$Text" (26 : Nat) ({ cls := "AlarmMatrix$Text", name := "putNumber", desc := "(I)V" } : Jvm.MethodName)) ∈ gw := in_gw (in_t3 (List.mem_of_getElem? (i := 219) rfl)) rfl
theorem k3_220 : (Jvm.Cond.instanceMethod ({ cls := "AlarmMatrix$Text", name := "putNumber", desc := "(I)V" } : Jvm.MethodName)) ∈ gw := in_gw (in_t3 (List.mem_of_getElem? (i := 220) rfl)) rfl
theorem k3_221 : (Jvm.Cond.selects "AlarmMatrix$Text" ({ cls := "AlarmMatrix$Text", name := "putNumber", desc := "(I)V" } : Jvm.MethodName) ({ cls := "AlarmMatrix$Text", name := "putNumber", desc := "(I)V" } : Jvm.MethodName)) ∈ gw := in_gw (in_t3 (List.mem_of_getElem? (i := 221) rfl)) rfl
theorem k3_222 : (Jvm.Cond.code ({ cls := "AlarmMatrix$Text", name := "putNumber", desc := "(I)V" } : Jvm.MethodName) prog_8_method_8_code (5 : Nat) (Option.none : Option Jvm.ClassFile.FieldType)) ∈ gw := in_gw (in_t3 (List.mem_of_getElem? (i := 222) rfl)) rfl
theorem k3_225 : (Jvm.Cond.methodLink "AlarmMatrix" (251 : Nat) ({ cls := "AlarmMatrix$Text", name := "putWord", desc := "(Ljava/lang/String;)V" } : Jvm.MethodName)) ∈ gw := in_gw (in_t3 (List.mem_of_getElem? (i := 225) rfl)) rfl
theorem k3_226 : (Jvm.Cond.methodLink "AlarmMatrix" (254 : Nat) ({ cls := "AlarmMatrix$Text", name := "putNumber", desc := "(I)V" } : Jvm.MethodName)) ∈ gw := in_gw (in_t3 (List.mem_of_getElem? (i := 226) rfl)) rfl
theorem k3_236 : (Jvm.Cond.methodLink "AlarmMatrix" (96 : Nat) ({ cls := "AlarmMatrix$Text", name := "shrinkTo", desc := "(I)V" } : Jvm.MethodName)) ∈ gw := in_gw (in_t3 (List.mem_of_getElem? (i := 236) rfl)) rfl
theorem k3_237 : (Jvm.Cond.instanceMethod ({ cls := "AlarmMatrix$Text", name := "shrinkTo", desc := "(I)V" } : Jvm.MethodName)) ∈ gw := in_gw (in_t3 (List.mem_of_getElem? (i := 237) rfl)) rfl
theorem k3_238 : (Jvm.Cond.selects "AlarmMatrix$Text" ({ cls := "AlarmMatrix$Text", name := "shrinkTo", desc := "(I)V" } : Jvm.MethodName) ({ cls := "AlarmMatrix$Text", name := "shrinkTo", desc := "(I)V" } : Jvm.MethodName)) ∈ gw := in_gw (in_t3 (List.mem_of_getElem? (i := 238) rfl)) rfl
theorem k3_239 : (Jvm.Cond.code ({ cls := "AlarmMatrix$Text", name := "shrinkTo", desc := "(I)V" } : Jvm.MethodName) prog_8_method_4_code (2 : Nat) (Option.none : Option Jvm.ClassFile.FieldType)) ∈ gw := in_gw (in_t3 (List.mem_of_getElem? (i := 239) rfl)) rfl
theorem k4_1 : (Jvm.Cond.methodLink "AlarmMatrixLaw" (93 : Nat) ({ cls := "AlarmMatrixLaw", name := "cutText", desc := "(LAlarmMatrix;I[J)I" } : Jvm.MethodName)) ∈ gw := in_gw (in_t4 (List.mem_of_getElem? (i := 1) rfl)) rfl
theorem k4_2 : (Jvm.Cond.static ({ cls := "AlarmMatrixLaw", name := "cutText", desc := "(LAlarmMatrix;I[J)I" } : Jvm.MethodName)) ∈ gw := in_gw (in_t4 (List.mem_of_getElem? (i := 2) rfl)) rfl
theorem k4_3 : (Jvm.Cond.codeWith ({ cls := "AlarmMatrixLaw", name := "cutText", desc := "(LAlarmMatrix;I[J)I" } : Jvm.MethodName) method_5_code (4 : Nat) (Option.some Jvm.ClassFile.FieldType.int) [((0 : Nat), (9 : Nat), (12 : Nat), (13 : Nat))]) ∈ gw := in_gw (in_t4 (List.mem_of_getElem? (i := 3) rfl)) rfl
theorem k4_4 : (Jvm.Cond.methodLink "AlarmMatrixLaw" (21 : Nat) ({ cls := "AlarmMatrix", name := "cutText", desc := "(I)I" } : Jvm.MethodName)) ∈ gw := in_gw (in_t4 (List.mem_of_getElem? (i := 4) rfl)) rfl
theorem k4_5 : (Jvm.Cond.instanceMethod ({ cls := "AlarmMatrix", name := "cutText", desc := "(I)I" } : Jvm.MethodName)) ∈ gw := in_gw (in_t4 (List.mem_of_getElem? (i := 5) rfl)) rfl
theorem k4_6 : (Jvm.Cond.selects "AlarmMatrix" ({ cls := "AlarmMatrix", name := "cutText", desc := "(I)I" } : Jvm.MethodName) ({ cls := "AlarmMatrix", name := "cutText", desc := "(I)I" } : Jvm.MethodName)) ∈ gw := in_gw (in_t4 (List.mem_of_getElem? (i := 6) rfl)) rfl
theorem k4_7 : (Jvm.Cond.code ({ cls := "AlarmMatrix", name := "cutText", desc := "(I)I" } : Jvm.MethodName) prog_1_method_4_code (2 : Nat) (Option.some Jvm.ClassFile.FieldType.int)) ∈ gw := in_gw (in_t4 (List.mem_of_getElem? (i := 7) rfl)) rfl
theorem k4_9 : (Jvm.Cond.methodLink "AlarmMatrixLaw" (100 : Nat) ({ cls := "AlarmMatrixLaw", name := "signal", desc := "(LAlarmMatrix;II[J)I" } : Jvm.MethodName)) ∈ gw := in_gw (in_t4 (List.mem_of_getElem? (i := 9) rfl)) rfl
theorem k4_10 : (Jvm.Cond.static ({ cls := "AlarmMatrixLaw", name := "signal", desc := "(LAlarmMatrix;II[J)I" } : Jvm.MethodName)) ∈ gw := in_gw (in_t4 (List.mem_of_getElem? (i := 10) rfl)) rfl
theorem k4_11 : (Jvm.Cond.codeWith ({ cls := "AlarmMatrixLaw", name := "signal", desc := "(LAlarmMatrix;II[J)I" } : Jvm.MethodName) method_6_code (5 : Nat) (Option.some Jvm.ClassFile.FieldType.int) [((0 : Nat), (10 : Nat), (13 : Nat), (13 : Nat))]) ∈ gw := in_gw (in_t4 (List.mem_of_getElem? (i := 11) rfl)) rfl
theorem k4_12 : (Jvm.Cond.methodLink "AlarmMatrixLaw" (24 : Nat) ({ cls := "AlarmMatrix", name := "signal", desc := "(II)I" } : Jvm.MethodName)) ∈ gw := in_gw (in_t4 (List.mem_of_getElem? (i := 12) rfl)) rfl
theorem k4_13 : (Jvm.Cond.instanceMethod ({ cls := "AlarmMatrix", name := "signal", desc := "(II)I" } : Jvm.MethodName)) ∈ gw := in_gw (in_t4 (List.mem_of_getElem? (i := 13) rfl)) rfl
theorem k4_14 : (Jvm.Cond.selects "AlarmMatrix" ({ cls := "AlarmMatrix", name := "signal", desc := "(II)I" } : Jvm.MethodName) ({ cls := "AlarmMatrix", name := "signal", desc := "(II)I" } : Jvm.MethodName)) ∈ gw := in_gw (in_t4 (List.mem_of_getElem? (i := 14) rfl)) rfl
theorem k4_15 : (Jvm.Cond.code ({ cls := "AlarmMatrix", name := "signal", desc := "(II)I" } : Jvm.MethodName) prog_1_method_6_code (3 : Nat) (Option.some Jvm.ClassFile.FieldType.int)) ∈ gw := in_gw (in_t4 (List.mem_of_getElem? (i := 15) rfl)) rfl
theorem k4_16 : (Jvm.Cond.methodLink "AlarmMatrix" (117 : Nat) ({ cls := "AlarmMatrix$Points", name := "isPoint", desc := "(I)Z" } : Jvm.MethodName)) ∈ gw := in_gw (in_t4 (List.mem_of_getElem? (i := 16) rfl)) rfl
theorem k4_17 : (Jvm.Cond.instanceMethod ({ cls := "AlarmMatrix$Points", name := "isPoint", desc := "(I)Z" } : Jvm.MethodName)) ∈ gw := in_gw (in_t4 (List.mem_of_getElem? (i := 17) rfl)) rfl
theorem k4_18 : (Jvm.Cond.selects "AlarmMatrix$Points" ({ cls := "AlarmMatrix$Points", name := "isPoint", desc := "(I)Z" } : Jvm.MethodName) ({ cls := "AlarmMatrix$Points", name := "isPoint", desc := "(I)Z" } : Jvm.MethodName)) ∈ gw := in_gw (in_t4 (List.mem_of_getElem? (i := 18) rfl)) rfl
theorem k4_19 : (Jvm.Cond.code ({ cls := "AlarmMatrix$Points", name := "isPoint", desc := "(I)Z" } : Jvm.MethodName) prog_6_method_3_code (2 : Nat) (Option.some Jvm.ClassFile.FieldType.boolean)) ∈ gw := in_gw (in_t4 (List.mem_of_getElem? (i := 19) rfl)) rfl
theorem k4_22 : (Jvm.Cond.methodLink "AlarmMatrix" (123 : Nat) ({ cls := "AlarmMatrix$Points", name := "swapValue", desc := "(II)I" } : Jvm.MethodName)) ∈ gw := in_gw (in_t4 (List.mem_of_getElem? (i := 22) rfl)) rfl
theorem k4_23 : (Jvm.Cond.instanceMethod ({ cls := "AlarmMatrix$Points", name := "swapValue", desc := "(II)I" } : Jvm.MethodName)) ∈ gw := in_gw (in_t4 (List.mem_of_getElem? (i := 23) rfl)) rfl
theorem k4_24 : (Jvm.Cond.selects "AlarmMatrix$Points" ({ cls := "AlarmMatrix$Points", name := "swapValue", desc := "(II)I" } : Jvm.MethodName) ({ cls := "AlarmMatrix$Points", name := "swapValue", desc := "(II)I" } : Jvm.MethodName)) ∈ gw := in_gw (in_t4 (List.mem_of_getElem? (i := 24) rfl)) rfl
theorem k4_25 : (Jvm.Cond.code ({ cls := "AlarmMatrix$Points", name := "swapValue", desc := "(II)I" } : Jvm.MethodName) prog_6_method_4_code (4 : Nat) (Option.some Jvm.ClassFile.FieldType.int)) ∈ gw := in_gw (in_t4 (List.mem_of_getElem? (i := 25) rfl)) rfl
theorem k4_26 : (Jvm.Cond.methodLink "AlarmMatrixLaw" (104 : Nat) ({ cls := "AlarmMatrixLaw", name := "fault", desc := "(LAlarmMatrix;IZ[J)I" } : Jvm.MethodName)) ∈ gw := in_gw (in_t4 (List.mem_of_getElem? (i := 26) rfl)) rfl
theorem k4_27 : (Jvm.Cond.static ({ cls := "AlarmMatrixLaw", name := "fault", desc := "(LAlarmMatrix;IZ[J)I" } : Jvm.MethodName)) ∈ gw := in_gw (in_t4 (List.mem_of_getElem? (i := 27) rfl)) rfl
theorem k4_28 : (Jvm.Cond.codeWith ({ cls := "AlarmMatrixLaw", name := "fault", desc := "(LAlarmMatrix;IZ[J)I" } : Jvm.MethodName) method_7_code (5 : Nat) (Option.some Jvm.ClassFile.FieldType.int) [((0 : Nat), (17 : Nat), (20 : Nat), (13 : Nat))]) ∈ gw := in_gw (in_t4 (List.mem_of_getElem? (i := 28) rfl)) rfl
theorem k4_29 : (Jvm.Cond.methodLink "AlarmMatrixLaw" (28 : Nat) ({ cls := "AlarmMatrix", name := "fault", desc := "(IZ)Z" } : Jvm.MethodName)) ∈ gw := in_gw (in_t4 (List.mem_of_getElem? (i := 29) rfl)) rfl
theorem k4_30 : (Jvm.Cond.instanceMethod ({ cls := "AlarmMatrix", name := "fault", desc := "(IZ)Z" } : Jvm.MethodName)) ∈ gw := in_gw (in_t4 (List.mem_of_getElem? (i := 30) rfl)) rfl
theorem k4_31 : (Jvm.Cond.selects "AlarmMatrix" ({ cls := "AlarmMatrix", name := "fault", desc := "(IZ)Z" } : Jvm.MethodName) ({ cls := "AlarmMatrix", name := "fault", desc := "(IZ)Z" } : Jvm.MethodName)) ∈ gw := in_gw (in_t4 (List.mem_of_getElem? (i := 31) rfl)) rfl
theorem k4_32 : (Jvm.Cond.code ({ cls := "AlarmMatrix", name := "fault", desc := "(IZ)Z" } : Jvm.MethodName) prog_1_method_7_code (3 : Nat) (Option.some Jvm.ClassFile.FieldType.boolean)) ∈ gw := in_gw (in_t4 (List.mem_of_getElem? (i := 32) rfl)) rfl
theorem k4_34 : (Jvm.Cond.methodLink "AlarmMatrix" (128 : Nat) ({ cls := "AlarmMatrix$Points", name := "swapFaulty", desc := "(IZ)Z" } : Jvm.MethodName)) ∈ gw := in_gw (in_t4 (List.mem_of_getElem? (i := 34) rfl)) rfl
theorem k4_35 : (Jvm.Cond.instanceMethod ({ cls := "AlarmMatrix$Points", name := "swapFaulty", desc := "(IZ)Z" } : Jvm.MethodName)) ∈ gw := in_gw (in_t4 (List.mem_of_getElem? (i := 35) rfl)) rfl
theorem k4_36 : (Jvm.Cond.selects "AlarmMatrix$Points" ({ cls := "AlarmMatrix$Points", name := "swapFaulty", desc := "(IZ)Z" } : Jvm.MethodName) ({ cls := "AlarmMatrix$Points", name := "swapFaulty", desc := "(IZ)Z" } : Jvm.MethodName)) ∈ gw := in_gw (in_t4 (List.mem_of_getElem? (i := 36) rfl)) rfl
theorem k4_37 : (Jvm.Cond.code ({ cls := "AlarmMatrix$Points", name := "swapFaulty", desc := "(IZ)Z" } : Jvm.MethodName) prog_6_method_5_code (4 : Nat) (Option.some Jvm.ClassFile.FieldType.boolean)) ∈ gw := in_gw (in_t4 (List.mem_of_getElem? (i := 37) rfl)) rfl
theorem k4_38 : (Jvm.Cond.methodLink "AlarmMatrixLaw" (108 : Nat) ({ cls := "AlarmMatrixLaw", name := "disable", desc := "(LAlarmMatrix;II[J)I" } : Jvm.MethodName)) ∈ gw := in_gw (in_t4 (List.mem_of_getElem? (i := 38) rfl)) rfl
theorem k4_39 : (Jvm.Cond.static ({ cls := "AlarmMatrixLaw", name := "disable", desc := "(LAlarmMatrix;II[J)I" } : Jvm.MethodName)) ∈ gw := in_gw (in_t4 (List.mem_of_getElem? (i := 39) rfl)) rfl
theorem k4_40 : (Jvm.Cond.codeWith ({ cls := "AlarmMatrixLaw", name := "disable", desc := "(LAlarmMatrix;II[J)I" } : Jvm.MethodName) method_8_code (5 : Nat) (Option.some Jvm.ClassFile.FieldType.int) [((0 : Nat), (10 : Nat), (13 : Nat), (13 : Nat))]) ∈ gw := in_gw (in_t4 (List.mem_of_getElem? (i := 40) rfl)) rfl
theorem k4_41 : (Jvm.Cond.methodLink "AlarmMatrixLaw" (32 : Nat) ({ cls := "AlarmMatrix", name := "disable", desc := "(II)I" } : Jvm.MethodName)) ∈ gw := in_gw (in_t4 (List.mem_of_getElem? (i := 41) rfl)) rfl
theorem k4_42 : (Jvm.Cond.instanceMethod ({ cls := "AlarmMatrix", name := "disable", desc := "(II)I" } : Jvm.MethodName)) ∈ gw := in_gw (in_t4 (List.mem_of_getElem? (i := 42) rfl)) rfl
theorem k4_43 : (Jvm.Cond.selects "AlarmMatrix" ({ cls := "AlarmMatrix", name := "disable", desc := "(II)I" } : Jvm.MethodName) ({ cls := "AlarmMatrix", name := "disable", desc := "(II)I" } : Jvm.MethodName)) ∈ gw := in_gw (in_t4 (List.mem_of_getElem? (i := 43) rfl)) rfl
theorem k4_44 : (Jvm.Cond.code ({ cls := "AlarmMatrix", name := "disable", desc := "(II)I" } : Jvm.MethodName) prog_1_method_8_code (3 : Nat) (Option.some Jvm.ClassFile.FieldType.int)) ∈ gw := in_gw (in_t4 (List.mem_of_getElem? (i := 44) rfl)) rfl
theorem k4_45 : (Jvm.Cond.constant "AlarmMatrix" (132 : Nat) (1000000 : Int32)) ∈ gw := in_gw (in_t4 (List.mem_of_getElem? (i := 45) rfl)) rfl
theorem k4_47 : (Jvm.Cond.methodLink "AlarmMatrix" (135 : Nat) ({ cls := "AlarmMatrix$Points", name := "swapUntil", desc := "(II)I" } : Jvm.MethodName)) ∈ gw := in_gw (in_t4 (List.mem_of_getElem? (i := 47) rfl)) rfl
theorem k4_48 : (Jvm.Cond.instanceMethod ({ cls := "AlarmMatrix$Points", name := "swapUntil", desc := "(II)I" } : Jvm.MethodName)) ∈ gw := in_gw (in_t4 (List.mem_of_getElem? (i := 48) rfl)) rfl
theorem k4_49 : (Jvm.Cond.selects "AlarmMatrix$Points" ({ cls := "AlarmMatrix$Points", name := "swapUntil", desc := "(II)I" } : Jvm.MethodName) ({ cls := "AlarmMatrix$Points", name := "swapUntil", desc := "(II)I" } : Jvm.MethodName)) ∈ gw := in_gw (in_t4 (List.mem_of_getElem? (i := 49) rfl)) rfl
theorem k4_50 : (Jvm.Cond.code ({ cls := "AlarmMatrix$Points", name := "swapUntil", desc := "(II)I" } : Jvm.MethodName) prog_6_method_6_code (4 : Nat) (Option.some Jvm.ClassFile.FieldType.int)) ∈ gw := in_gw (in_t4 (List.mem_of_getElem? (i := 50) rfl)) rfl
theorem k4_51 : (Jvm.Cond.methodLink "AlarmMatrixLaw" (111 : Nat) ({ cls := "AlarmMatrixLaw", name := "loop", desc := "(LAlarmMatrix;II[J)I" } : Jvm.MethodName)) ∈ gw := in_gw (in_t4 (List.mem_of_getElem? (i := 51) rfl)) rfl
theorem k4_52 : (Jvm.Cond.static ({ cls := "AlarmMatrixLaw", name := "loop", desc := "(LAlarmMatrix;II[J)I" } : Jvm.MethodName)) ∈ gw := in_gw (in_t4 (List.mem_of_getElem? (i := 52) rfl)) rfl
theorem k4_53 : (Jvm.Cond.codeWith ({ cls := "AlarmMatrixLaw", name := "loop", desc := "(LAlarmMatrix;II[J)I" } : Jvm.MethodName) method_9_code (5 : Nat) (Option.some Jvm.ClassFile.FieldType.int) [((0 : Nat), (10 : Nat), (13 : Nat), (13 : Nat)), ((0 : Nat), (10 : Nat), (17 : Nat), (15 : Nat))]) ∈ gw := in_gw (in_t4 (List.mem_of_getElem? (i := 53) rfl)) rfl
theorem k4_54 : (Jvm.Cond.methodLink "AlarmMatrixLaw" (35 : Nat) ({ cls := "AlarmMatrix", name := "loop", desc := "(II)I" } : Jvm.MethodName)) ∈ gw := in_gw (in_t4 (List.mem_of_getElem? (i := 54) rfl)) rfl
theorem k4_55 : (Jvm.Cond.instanceMethod ({ cls := "AlarmMatrix", name := "loop", desc := "(II)I" } : Jvm.MethodName)) ∈ gw := in_gw (in_t4 (List.mem_of_getElem? (i := 55) rfl)) rfl
theorem k4_56 : (Jvm.Cond.selects "AlarmMatrix" ({ cls := "AlarmMatrix", name := "loop", desc := "(II)I" } : Jvm.MethodName) ({ cls := "AlarmMatrix", name := "loop", desc := "(II)I" } : Jvm.MethodName)) ∈ gw := in_gw (in_t4 (List.mem_of_getElem? (i := 56) rfl)) rfl
theorem k4_57 : (Jvm.Cond.code ({ cls := "AlarmMatrix", name := "loop", desc := "(II)I" } : Jvm.MethodName) prog_1_method_9_code (3 : Nat) (Option.some Jvm.ClassFile.FieldType.int)) ∈ gw := in_gw (in_t4 (List.mem_of_getElem? (i := 57) rfl)) rfl
theorem k4_58 : (Jvm.Cond.methodLink "AlarmMatrix" (138 : Nat) ({ cls := "AlarmMatrix", name := "isLoop", desc := "(I)Z" } : Jvm.MethodName)) ∈ gw := in_gw (in_t4 (List.mem_of_getElem? (i := 58) rfl)) rfl
theorem k4_59 : (Jvm.Cond.static ({ cls := "AlarmMatrix", name := "isLoop", desc := "(I)Z" } : Jvm.MethodName)) ∈ gw := in_gw (in_t4 (List.mem_of_getElem? (i := 59) rfl)) rfl
theorem k4_60 : (Jvm.Cond.code ({ cls := "AlarmMatrix", name := "isLoop", desc := "(I)Z" } : Jvm.MethodName) prog_1_method_24_code (1 : Nat) (Option.some Jvm.ClassFile.FieldType.boolean)) ∈ gw := in_gw (in_t4 (List.mem_of_getElem? (i := 60) rfl)) rfl
theorem k4_62 : (Jvm.Cond.methodLink "AlarmMatrix" (143 : Nat) ({ cls := "AlarmMatrix$Points", name := "isInLoop", desc := "(I)Z" } : Jvm.MethodName)) ∈ gw := in_gw (in_t4 (List.mem_of_getElem? (i := 62) rfl)) rfl
theorem k4_63 : (Jvm.Cond.instanceMethod ({ cls := "AlarmMatrix$Points", name := "isInLoop", desc := "(I)Z" } : Jvm.MethodName)) ∈ gw := in_gw (in_t4 (List.mem_of_getElem? (i := 63) rfl)) rfl
theorem k4_64 : (Jvm.Cond.selects "AlarmMatrix$Points" ({ cls := "AlarmMatrix$Points", name := "isInLoop", desc := "(I)Z" } : Jvm.MethodName) ({ cls := "AlarmMatrix$Points", name := "isInLoop", desc := "(I)Z" } : Jvm.MethodName)) ∈ gw := in_gw (in_t4 (List.mem_of_getElem? (i := 64) rfl)) rfl
theorem k4_65 : (Jvm.Cond.code ({ cls := "AlarmMatrix$Points", name := "isInLoop", desc := "(I)Z" } : Jvm.MethodName) prog_6_method_7_code (2 : Nat) (Option.some Jvm.ClassFile.FieldType.boolean)) ∈ gw := in_gw (in_t4 (List.mem_of_getElem? (i := 65) rfl)) rfl
theorem k4_66 : (Jvm.Cond.methodLink "AlarmMatrix" (146 : Nat) ({ cls := "AlarmMatrix$Loop", name := "isFull", desc := "()Z" } : Jvm.MethodName)) ∈ gw := in_gw (in_t4 (List.mem_of_getElem? (i := 66) rfl)) rfl
theorem k4_67 : (Jvm.Cond.instanceMethod ({ cls := "AlarmMatrix$Loop", name := "isFull", desc := "()Z" } : Jvm.MethodName)) ∈ gw := in_gw (in_t4 (List.mem_of_getElem? (i := 67) rfl)) rfl
theorem k4_68 : (Jvm.Cond.selects "AlarmMatrix$Loop" ({ cls := "AlarmMatrix$Loop", name := "isFull", desc := "()Z" } : Jvm.MethodName) ({ cls := "AlarmMatrix$Loop", name := "isFull", desc := "()Z" } : Jvm.MethodName)) ∈ gw := in_gw (in_t4 (List.mem_of_getElem? (i := 68) rfl)) rfl
theorem k4_69 : (Jvm.Cond.code ({ cls := "AlarmMatrix$Loop", name := "isFull", desc := "()Z" } : Jvm.MethodName) prog_4_method_3_code (1 : Nat) (Option.some Jvm.ClassFile.FieldType.boolean)) ∈ gw := in_gw (in_t4 (List.mem_of_getElem? (i := 69) rfl)) rfl
theorem k4_71 : (Jvm.Cond.methodLink "AlarmMatrix" (152 : Nat) ({ cls := "AlarmMatrix$Loop", name := "add", desc := "(I)V" } : Jvm.MethodName)) ∈ gw := in_gw (in_t4 (List.mem_of_getElem? (i := 71) rfl)) rfl
theorem k4_72 : (Jvm.Cond.instanceMethod ({ cls := "AlarmMatrix$Loop", name := "add", desc := "(I)V" } : Jvm.MethodName)) ∈ gw := in_gw (in_t4 (List.mem_of_getElem? (i := 72) rfl)) rfl
theorem k4_73 : (Jvm.Cond.selects "AlarmMatrix$Loop" ({ cls := "AlarmMatrix$Loop", name := "add", desc := "(I)V" } : Jvm.MethodName) ({ cls := "AlarmMatrix$Loop", name := "add", desc := "(I)V" } : Jvm.MethodName)) ∈ gw := in_gw (in_t4 (List.mem_of_getElem? (i := 73) rfl)) rfl
theorem k4_74 : (Jvm.Cond.code ({ cls := "AlarmMatrix$Loop", name := "add", desc := "(I)V" } : Jvm.MethodName) prog_4_method_4_code (2 : Nat) (Option.none : Option Jvm.ClassFile.FieldType)) ∈ gw := in_gw (in_t4 (List.mem_of_getElem? (i := 74) rfl)) rfl
theorem k4_75 : (Jvm.Cond.methodLink "AlarmMatrix" (155 : Nat) ({ cls := "AlarmMatrix$Points", name := "putInLoop", desc := "(I)V" } : Jvm.MethodName)) ∈ gw := in_gw (in_t4 (List.mem_of_getElem? (i := 75) rfl)) rfl
theorem k4_76 : (Jvm.Cond.instanceMethod ({ cls := "AlarmMatrix$Points", name := "putInLoop", desc := "(I)V" } : Jvm.MethodName)) ∈ gw := in_gw (in_t4 (List.mem_of_getElem? (i := 76) rfl)) rfl
theorem k4_77 : (Jvm.Cond.selects "AlarmMatrix$Points" ({ cls := "AlarmMatrix$Points", name := "putInLoop", desc := "(I)V" } : Jvm.MethodName) ({ cls := "AlarmMatrix$Points", name := "putInLoop", desc := "(I)V" } : Jvm.MethodName)) ∈ gw := in_gw (in_t4 (List.mem_of_getElem? (i := 77) rfl)) rfl
theorem k4_78 : (Jvm.Cond.code ({ cls := "AlarmMatrix$Points", name := "putInLoop", desc := "(I)V" } : Jvm.MethodName) prog_6_method_8_code (2 : Nat) (Option.none : Option Jvm.ClassFile.FieldType)) ∈ gw := in_gw (in_t4 (List.mem_of_getElem? (i := 78) rfl)) rfl
theorem k4_79 : (Jvm.Cond.methodLink "AlarmMatrix" (158 : Nat) ({ cls := "AlarmMatrix$Loop", name := "size", desc := "()I" } : Jvm.MethodName)) ∈ gw := in_gw (in_t4 (List.mem_of_getElem? (i := 79) rfl)) rfl
theorem k4_80 : (Jvm.Cond.instanceMethod ({ cls := "AlarmMatrix$Loop", name := "size", desc := "()I" } : Jvm.MethodName)) ∈ gw := in_gw (in_t4 (List.mem_of_getElem? (i := 80) rfl)) rfl
theorem k4_81 : (Jvm.Cond.selects "AlarmMatrix$Loop" ({ cls := "AlarmMatrix$Loop", name := "size", desc := "()I" } : Jvm.MethodName) ({ cls := "AlarmMatrix$Loop", name := "size", desc := "()I" } : Jvm.MethodName)) ∈ gw := in_gw (in_t4 (List.mem_of_getElem? (i := 81) rfl)) rfl
theorem k4_82 : (Jvm.Cond.code ({ cls := "AlarmMatrix$Loop", name := "size", desc := "()I" } : Jvm.MethodName) prog_4_method_2_code (1 : Nat) (Option.some Jvm.ClassFile.FieldType.int)) ∈ gw := in_gw (in_t4 (List.mem_of_getElem? (i := 82) rfl)) rfl
theorem k4_83 : (Jvm.Cond.methodLink "AlarmMatrixLaw" (114 : Nat) ({ cls := "AlarmMatrixLaw", name := "cut", desc := "(LAlarmMatrix;IIZ[J)I" } : Jvm.MethodName)) ∈ gw := in_gw (in_t4 (List.mem_of_getElem? (i := 83) rfl)) rfl
theorem k4_84 : (Jvm.Cond.static ({ cls := "AlarmMatrixLaw", name := "cut", desc := "(LAlarmMatrix;IIZ[J)I" } : Jvm.MethodName)) ∈ gw := in_gw (in_t4 (List.mem_of_getElem? (i := 84) rfl)) rfl
theorem k4_85 : (Jvm.Cond.codeWith ({ cls := "AlarmMatrixLaw", name := "cut", desc := "(LAlarmMatrix;IIZ[J)I" } : Jvm.MethodName) method_10_code (6 : Nat) (Option.some Jvm.ClassFile.FieldType.int) [((0 : Nat), (19 : Nat), (22 : Nat), (13 : Nat))]) ∈ gw := in_gw (in_t4 (List.mem_of_getElem? (i := 85) rfl)) rfl
theorem k4_86 : (Jvm.Cond.methodLink "AlarmMatrixLaw" (38 : Nat) ({ cls := "AlarmMatrix", name := "cut", desc := "(IIZ)Z" } : Jvm.MethodName)) ∈ gw := in_gw (in_t4 (List.mem_of_getElem? (i := 86) rfl)) rfl
theorem k4_87 : (Jvm.Cond.instanceMethod ({ cls := "AlarmMatrix", name := "cut", desc := "(IIZ)Z" } : Jvm.MethodName)) ∈ gw := in_gw (in_t4 (List.mem_of_getElem? (i := 87) rfl)) rfl
theorem k4_88 : (Jvm.Cond.selects "AlarmMatrix" ({ cls := "AlarmMatrix", name := "cut", desc := "(IIZ)Z" } : Jvm.MethodName) ({ cls := "AlarmMatrix", name := "cut", desc := "(IIZ)Z" } : Jvm.MethodName)) ∈ gw := in_gw (in_t4 (List.mem_of_getElem? (i := 88) rfl)) rfl
theorem k4_89 : (Jvm.Cond.code ({ cls := "AlarmMatrix", name := "cut", desc := "(IIZ)Z" } : Jvm.MethodName) prog_1_method_10_code (5 : Nat) (Option.some Jvm.ClassFile.FieldType.boolean)) ∈ gw := in_gw (in_t4 (List.mem_of_getElem? (i := 89) rfl)) rfl
theorem k4_91 : (Jvm.Cond.methodLink "AlarmMatrix" (161 : Nat) ({ cls := "AlarmMatrix$Loop", name := "swapCut", desc := "(IZ)Z" } : Jvm.MethodName)) ∈ gw := in_gw (in_t4 (List.mem_of_getElem? (i := 91) rfl)) rfl
theorem k4_92 : (Jvm.Cond.instanceMethod ({ cls := "AlarmMatrix$Loop", name := "swapCut", desc := "(IZ)Z" } : Jvm.MethodName)) ∈ gw := in_gw (in_t4 (List.mem_of_getElem? (i := 92) rfl)) rfl
theorem k4_93 : (Jvm.Cond.selects "AlarmMatrix$Loop" ({ cls := "AlarmMatrix$Loop", name := "swapCut", desc := "(IZ)Z" } : Jvm.MethodName) ({ cls := "AlarmMatrix$Loop", name := "swapCut", desc := "(IZ)Z" } : Jvm.MethodName)) ∈ gw := in_gw (in_t4 (List.mem_of_getElem? (i := 93) rfl)) rfl
theorem k4_94 : (Jvm.Cond.code ({ cls := "AlarmMatrix$Loop", name := "swapCut", desc := "(IZ)Z" } : Jvm.MethodName) prog_4_method_6_code (4 : Nat) (Option.some Jvm.ClassFile.FieldType.boolean)) ∈ gw := in_gw (in_t4 (List.mem_of_getElem? (i := 94) rfl)) rfl
theorem k4_95 : (Jvm.Cond.methodLink "AlarmMatrix$Loop" (29 : Nat) ({ cls := "AlarmMatrix$Loop", name := "findEnds", desc := "()V" } : Jvm.MethodName)) ∈ gw := in_gw (in_t4 (List.mem_of_getElem? (i := 95) rfl)) rfl
theorem k4_97 : (Jvm.Cond.instanceMethod ({ cls := "AlarmMatrix$Loop", name := "findEnds", desc := "()V" } : Jvm.MethodName)) ∈ gw := in_gw (in_t4 (List.mem_of_getElem? (i := 97) rfl)) rfl
theorem k4_98 : (Jvm.Cond.code ({ cls := "AlarmMatrix$Loop", name := "findEnds", desc := "()V" } : Jvm.MethodName) prog_4_method_7_code (2 : Nat) (Option.none : Option Jvm.ClassFile.FieldType)) ∈ gw := in_gw (in_t4 (List.mem_of_getElem? (i := 98) rfl)) rfl
theorem k4_99 : (Jvm.Cond.methodLink "AlarmMatrix$Loop" (32 : Nat) ({ cls := "java/lang/Math", name := "min", desc := "(II)I" } : Jvm.MethodName)) ∈ gw := in_gw (in_t4 (List.mem_of_getElem? (i := 99) rfl)) rfl
theorem k4_100 : (Jvm.Cond.methodLink "AlarmMatrix" (164 : Nat) ({ cls := "AlarmMatrix$Points", name := "hearThrough", desc := "(LAlarmMatrix$Loop;)V" } : Jvm.MethodName)) ∈ gw := in_gw (in_t4 (List.mem_of_getElem? (i := 100) rfl)) rfl
theorem k4_101 : (Jvm.Cond.instanceMethod ({ cls := "AlarmMatrix$Points", name := "hearThrough", desc := "(LAlarmMatrix$Loop;)V" } : Jvm.MethodName)) ∈ gw := in_gw (in_t4 (List.mem_of_getElem? (i := 101) rfl)) rfl
theorem k4_102 : (Jvm.Cond.selects "AlarmMatrix$Points" ({ cls := "AlarmMatrix$Points", name := "hearThrough", desc := "(LAlarmMatrix$Loop;)V" } : Jvm.MethodName) ({ cls := "AlarmMatrix$Points", name := "hearThrough", desc := "(LAlarmMatrix$Loop;)V" } : Jvm.MethodName)) ∈ gw := in_gw (in_t4 (List.mem_of_getElem? (i := 102) rfl)) rfl
theorem k4_103 : (Jvm.Cond.code ({ cls := "AlarmMatrix$Points", name := "hearThrough", desc := "(LAlarmMatrix$Loop;)V" } : Jvm.MethodName) prog_6_method_9_code (3 : Nat) (Option.none : Option Jvm.ClassFile.FieldType)) ∈ gw := in_gw (in_t4 (List.mem_of_getElem? (i := 103) rfl)) rfl
theorem k4_104 : (Jvm.Cond.methodLink "AlarmMatrix$Points" (36 : Nat) ({ cls := "AlarmMatrix$Loop", name := "size", desc := "()I" } : Jvm.MethodName)) ∈ gw := in_gw (in_t4 (List.mem_of_getElem? (i := 104) rfl)) rfl
theorem k4_105 : (Jvm.Cond.methodLink "AlarmMatrix$Points" (42 : Nat) ({ cls := "AlarmMatrix$Loop", name := "pointAt", desc := "(I)I" } : Jvm.MethodName)) ∈ gw := in_gw (in_t4 (List.mem_of_getElem? (i := 105) rfl)) rfl
theorem k4_106 : (Jvm.Cond.instanceMethod ({ cls := "AlarmMatrix$Loop", name := "pointAt", desc := "(I)I" } : Jvm.MethodName)) ∈ gw := in_gw (in_t4 (List.mem_of_getElem? (i := 106) rfl)) rfl
theorem k4_107 : (Jvm.Cond.selects "AlarmMatrix$Loop" ({ cls := "AlarmMatrix$Loop", name := "pointAt", desc := "(I)I" } : Jvm.MethodName) ({ cls := "AlarmMatrix$Loop", name := "pointAt", desc := "(I)I" } : Jvm.MethodName)) ∈ gw := in_gw (in_t4 (List.mem_of_getElem? (i := 107) rfl)) rfl
theorem k4_108 : (Jvm.Cond.code ({ cls := "AlarmMatrix$Loop", name := "pointAt", desc := "(I)I" } : Jvm.MethodName) prog_4_method_5_code (2 : Nat) (Option.some Jvm.ClassFile.FieldType.int)) ∈ gw := in_gw (in_t4 (List.mem_of_getElem? (i := 108) rfl)) rfl
theorem k4_109 : (Jvm.Cond.methodLink "AlarmMatrix$Points" (46 : Nat) ({ cls := "AlarmMatrix$Loop", name := "hears", desc := "(I)Z" } : Jvm.MethodName)) ∈ gw := in_gw (in_t4 (List.mem_of_getElem? (i := 109) rfl)) rfl
theorem k4_110 : (Jvm.Cond.instanceMethod ({ cls := "AlarmMatrix$Loop", name := "hears", desc := "(I)Z" } : Jvm.MethodName)) ∈ gw := in_gw (in_t4 (List.mem_of_getElem? (i := 110) rfl)) rfl
theorem k4_111 : (Jvm.Cond.selects "AlarmMatrix$Loop" ({ cls := "AlarmMatrix$Loop", name := "hears", desc := "(I)Z" } : Jvm.MethodName) ({ cls := "AlarmMatrix$Loop", name := "hears", desc := "(I)Z" } : Jvm.MethodName)) ∈ gw := in_gw (in_t4 (List.mem_of_getElem? (i := 111) rfl)) rfl
theorem k4_112 : (Jvm.Cond.code ({ cls := "AlarmMatrix$Loop", name := "hears", desc := "(I)Z" } : Jvm.MethodName) prog_4_method_8_code (2 : Nat) (Option.some Jvm.ClassFile.FieldType.boolean)) ∈ gw := in_gw (in_t4 (List.mem_of_getElem? (i := 112) rfl)) rfl
theorem k4_113 : (Jvm.Cond.methodLink "AlarmMatrixLaw" (118 : Nat) ({ cls := "AlarmMatrixLaw", name := "heard", desc := "(LAlarmMatrix;I[J)I" } : Jvm.MethodName)) ∈ gw := in_gw (in_t4 (List.mem_of_getElem? (i := 113) rfl)) rfl
theorem k4_114 : (Jvm.Cond.static ({ cls := "AlarmMatrixLaw", name := "heard", desc := "(LAlarmMatrix;I[J)I" } : Jvm.MethodName)) ∈ gw := in_gw (in_t4 (List.mem_of_getElem? (i := 114) rfl)) rfl
theorem k4_115 : (Jvm.Cond.codeWith ({ cls := "AlarmMatrixLaw", name := "heard", desc := "(LAlarmMatrix;I[J)I" } : Jvm.MethodName) method_11_code (4 : Nat) (Option.some Jvm.ClassFile.FieldType.int) [((0 : Nat), (9 : Nat), (12 : Nat), (13 : Nat))]) ∈ gw := in_gw (in_t4 (List.mem_of_getElem? (i := 115) rfl)) rfl
theorem k4_116 : (Jvm.Cond.methodLink "AlarmMatrixLaw" (42 : Nat) ({ cls := "AlarmMatrix", name := "heard", desc := "(I)I" } : Jvm.MethodName)) ∈ gw := in_gw (in_t4 (List.mem_of_getElem? (i := 116) rfl)) rfl
theorem k4_117 : (Jvm.Cond.instanceMethod ({ cls := "AlarmMatrix", name := "heard", desc := "(I)I" } : Jvm.MethodName)) ∈ gw := in_gw (in_t4 (List.mem_of_getElem? (i := 117) rfl)) rfl
theorem k4_118 : (Jvm.Cond.selects "AlarmMatrix" ({ cls := "AlarmMatrix", name := "heard", desc := "(I)I" } : Jvm.MethodName) ({ cls := "AlarmMatrix", name := "heard", desc := "(I)I" } : Jvm.MethodName)) ∈ gw := in_gw (in_t4 (List.mem_of_getElem? (i := 118) rfl)) rfl
theorem k4_119 : (Jvm.Cond.code ({ cls := "AlarmMatrix", name := "heard", desc := "(I)I" } : Jvm.MethodName) prog_1_method_11_code (2 : Nat) (Option.some Jvm.ClassFile.FieldType.int)) ∈ gw := in_gw (in_t4 (List.mem_of_getElem? (i := 119) rfl)) rfl
theorem k4_121 : (Jvm.Cond.methodLink "AlarmMatrix" (170 : Nat) ({ cls := "AlarmMatrix$Loop", name := "countHeard", desc := "()I" } : Jvm.MethodName)) ∈ gw := in_gw (in_t4 (List.mem_of_getElem? (i := 121) rfl)) rfl
theorem k4_122 : (Jvm.Cond.instanceMethod ({ cls := "AlarmMatrix$Loop", name := "countHeard", desc := "()I" } : Jvm.MethodName)) ∈ gw := in_gw (in_t4 (List.mem_of_getElem? (i := 122) rfl)) rfl
theorem k4_123 : (Jvm.Cond.selects "AlarmMatrix$Loop" ({ cls := "AlarmMatrix$Loop", name := "countHeard", desc := "()I" } : Jvm.MethodName) ({ cls := "AlarmMatrix$Loop", name := "countHeard", desc := "()I" } : Jvm.MethodName)) ∈ gw := in_gw (in_t4 (List.mem_of_getElem? (i := 123) rfl)) rfl
theorem k4_124 : (Jvm.Cond.code ({ cls := "AlarmMatrix$Loop", name := "countHeard", desc := "()I" } : Jvm.MethodName) prog_4_method_9_code (3 : Nat) (Option.some Jvm.ClassFile.FieldType.int)) ∈ gw := in_gw (in_t4 (List.mem_of_getElem? (i := 124) rfl)) rfl
theorem k4_125 : (Jvm.Cond.methodLink "AlarmMatrix$Loop" (38 : Nat) ({ cls := "AlarmMatrix$Loop", name := "hears", desc := "(I)Z" } : Jvm.MethodName)) ∈ gw := in_gw (in_t4 (List.mem_of_getElem? (i := 125) rfl)) rfl
theorem k4_127 : (Jvm.Cond.methodLink "AlarmMatrixLaw" (121 : Nat) ({ cls := "AlarmMatrixLaw", name := "unreachable", desc := "(LAlarmMatrix;I[J)I" } : Jvm.MethodName)) ∈ gw := in_gw (in_t4 (List.mem_of_getElem? (i := 127) rfl)) rfl
theorem k4_128 : (Jvm.Cond.static ({ cls := "AlarmMatrixLaw", name := "unreachable", desc := "(LAlarmMatrix;I[J)I" } : Jvm.MethodName)) ∈ gw := in_gw (in_t4 (List.mem_of_getElem? (i := 128) rfl)) rfl
theorem k4_129 : (Jvm.Cond.codeWith ({ cls := "AlarmMatrixLaw", name := "unreachable", desc := "(LAlarmMatrix;I[J)I" } : Jvm.MethodName) method_12_code (4 : Nat) (Option.some Jvm.ClassFile.FieldType.int) [((0 : Nat), (9 : Nat), (12 : Nat), (13 : Nat))]) ∈ gw := in_gw (in_t4 (List.mem_of_getElem? (i := 129) rfl)) rfl
theorem k4_130 : (Jvm.Cond.methodLink "AlarmMatrixLaw" (45 : Nat) ({ cls := "AlarmMatrix", name := "unreachable", desc := "(I)I" } : Jvm.MethodName)) ∈ gw := in_gw (in_t4 (List.mem_of_getElem? (i := 130) rfl)) rfl
theorem k4_131 : (Jvm.Cond.instanceMethod ({ cls := "AlarmMatrix", name := "unreachable", desc := "(I)I" } : Jvm.MethodName)) ∈ gw := in_gw (in_t4 (List.mem_of_getElem? (i := 131) rfl)) rfl
theorem k4_132 : (Jvm.Cond.selects "AlarmMatrix" ({ cls := "AlarmMatrix", name := "unreachable", desc := "(I)I" } : Jvm.MethodName) ({ cls := "AlarmMatrix", name := "unreachable", desc := "(I)I" } : Jvm.MethodName)) ∈ gw := in_gw (in_t4 (List.mem_of_getElem? (i := 132) rfl)) rfl
theorem k4_133 : (Jvm.Cond.code ({ cls := "AlarmMatrix", name := "unreachable", desc := "(I)I" } : Jvm.MethodName) prog_1_method_12_code (2 : Nat) (Option.some Jvm.ClassFile.FieldType.int)) ∈ gw := in_gw (in_t4 (List.mem_of_getElem? (i := 133) rfl)) rfl
theorem k4_135 : (Jvm.Cond.methodLink "AlarmMatrix" (175 : Nat) ({ cls := "AlarmMatrix$Points", name := "findUnheard", desc := "(I)I" } : Jvm.MethodName)) ∈ gw := in_gw (in_t4 (List.mem_of_getElem? (i := 135) rfl)) rfl
theorem k4_136 : (Jvm.Cond.instanceMethod ({ cls := "AlarmMatrix$Points", name := "findUnheard", desc := "(I)I" } : Jvm.MethodName)) ∈ gw := in_gw (in_t4 (List.mem_of_getElem? (i := 136) rfl)) rfl
theorem k4_137 : (Jvm.Cond.selects "AlarmMatrix$Points" ({ cls := "AlarmMatrix$Points", name := "findUnheard", desc := "(I)I" } : Jvm.MethodName) ({ cls := "AlarmMatrix$Points", name := "findUnheard", desc := "(I)I" } : Jvm.MethodName)) ∈ gw := in_gw (in_t4 (List.mem_of_getElem? (i := 137) rfl)) rfl
theorem k4_138 : (Jvm.Cond.code ({ cls := "AlarmMatrix$Points", name := "findUnheard", desc := "(I)I" } : Jvm.MethodName) prog_6_method_10_code (4 : Nat) (Option.some Jvm.ClassFile.FieldType.int)) ∈ gw := in_gw (in_t4 (List.mem_of_getElem? (i := 138) rfl)) rfl
theorem k4_139 : (Jvm.Cond.methodLink "AlarmMatrixLaw" (124 : Nat) ({ cls := "AlarmMatrixLaw", name := "ticks", desc := "(LAlarmMatrix;I[J)I" } : Jvm.MethodName)) ∈ gw := in_gw (in_t4 (List.mem_of_getElem? (i := 139) rfl)) rfl
theorem k4_140 : (Jvm.Cond.static ({ cls := "AlarmMatrixLaw", name := "ticks", desc := "(LAlarmMatrix;I[J)I" } : Jvm.MethodName)) ∈ gw := in_gw (in_t4 (List.mem_of_getElem? (i := 140) rfl)) rfl
theorem k4_141 : (Jvm.Cond.codeWith ({ cls := "AlarmMatrixLaw", name := "ticks", desc := "(LAlarmMatrix;I[J)I" } : Jvm.MethodName) method_13_code (4 : Nat) (Option.some Jvm.ClassFile.FieldType.int) [((0 : Nat), (9 : Nat), (12 : Nat), (13 : Nat)), ((0 : Nat), (9 : Nat), (15 : Nat), (15 : Nat))]) ∈ gw := in_gw (in_t4 (List.mem_of_getElem? (i := 141) rfl)) rfl
theorem k4_142 : (Jvm.Cond.methodLink "AlarmMatrixLaw" (48 : Nat) ({ cls := "AlarmMatrix", name := "ticks", desc := "(I)I" } : Jvm.MethodName)) ∈ gw := in_gw (in_t4 (List.mem_of_getElem? (i := 142) rfl)) rfl
theorem k4_143 : (Jvm.Cond.instanceMethod ({ cls := "AlarmMatrix", name := "ticks", desc := "(I)I" } : Jvm.MethodName)) ∈ gw := in_gw (in_t4 (List.mem_of_getElem? (i := 143) rfl)) rfl
theorem k4_144 : (Jvm.Cond.selects "AlarmMatrix" ({ cls := "AlarmMatrix", name := "ticks", desc := "(I)I" } : Jvm.MethodName) ({ cls := "AlarmMatrix", name := "ticks", desc := "(I)I" } : Jvm.MethodName)) ∈ gw := in_gw (in_t4 (List.mem_of_getElem? (i := 144) rfl)) rfl
theorem k4_145 : (Jvm.Cond.code ({ cls := "AlarmMatrix", name := "ticks", desc := "(I)I" } : Jvm.MethodName) prog_1_method_13_code (4 : Nat) (Option.some Jvm.ClassFile.FieldType.int)) ∈ gw := in_gw (in_t4 (List.mem_of_getElem? (i := 145) rfl)) rfl
theorem k4_148 : (Jvm.Cond.methodLink "AlarmMatrix" (191 : Nat) ({ cls := "AlarmMatrix$Acts", name := "goOn", desc := "(ILAlarmMatrix$Events;)I" } : Jvm.MethodName)) ∈ gw := in_gw (in_t4 (List.mem_of_getElem? (i := 148) rfl)) rfl
theorem k4_149 : (Jvm.Cond.instanceMethod ({ cls := "AlarmMatrix$Acts", name := "goOn", desc := "(ILAlarmMatrix$Events;)I" } : Jvm.MethodName)) ∈ gw := in_gw (in_t4 (List.mem_of_getElem? (i := 149) rfl)) rfl
theorem k4_150 : (Jvm.Cond.selects "AlarmMatrix$Acts" ({ cls := "AlarmMatrix$Acts", name := "goOn", desc := "(ILAlarmMatrix$Events;)I" } : Jvm.MethodName) ({ cls := "AlarmMatrix$Acts", name := "goOn", desc := "(ILAlarmMatrix$Events;)I" } : Jvm.MethodName)) ∈ gw := in_gw (in_t4 (List.mem_of_getElem? (i := 150) rfl)) rfl
theorem k4_151 : (Jvm.Cond.code ({ cls := "AlarmMatrix$Acts", name := "goOn", desc := "(ILAlarmMatrix$Events;)I" } : Jvm.MethodName) prog_2_method_12_code (7 : Nat) (Option.some Jvm.ClassFile.FieldType.int)) ∈ gw := in_gw (in_t4 (List.mem_of_getElem? (i := 151) rfl)) rfl
theorem k4_152 : (Jvm.Cond.methodLink "AlarmMatrix$Acts" (65 : Nat) ({ cls := "AlarmMatrix$Acts", name := "heed", desc := "(II)I" } : Jvm.MethodName)) ∈ gw := in_gw (in_t4 (List.mem_of_getElem? (i := 152) rfl)) rfl
theorem k4_154 : (Jvm.Cond.instanceMethod ({ cls := "AlarmMatrix$Acts", name := "heed", desc := "(II)I" } : Jvm.MethodName)) ∈ gw := in_gw (in_t4 (List.mem_of_getElem? (i := 154) rfl)) rfl
theorem k4_155 : (Jvm.Cond.code ({ cls := "AlarmMatrix$Acts", name := "heed", desc := "(II)I" } : Jvm.MethodName) prog_2_method_13_code (3 : Nat) (Option.some Jvm.ClassFile.FieldType.int)) ∈ gw := in_gw (in_t4 (List.mem_of_getElem? (i := 155) rfl)) rfl
theorem k4_156 : (Jvm.Cond.methodLink "AlarmMatrix$Acts" (79 : Nat) ({ cls := "AlarmMatrix$Acts", name := "beginToWait", desc := "(II)V" } : Jvm.MethodName)) ∈ gw := in_gw (in_t4 (List.mem_of_getElem? (i := 156) rfl)) rfl
theorem k4_158 : (Jvm.Cond.instanceMethod ({ cls := "AlarmMatrix$Acts", name := "beginToWait", desc := "(II)V" } : Jvm.MethodName)) ∈ gw := in_gw (in_t4 (List.mem_of_getElem? (i := 158) rfl)) rfl
theorem k4_159 : (Jvm.Cond.code ({ cls := "AlarmMatrix$Acts", name := "beginToWait", desc := "(II)V" } : Jvm.MethodName) prog_2_method_14_code (3 : Nat) (Option.none : Option Jvm.ClassFile.FieldType)) ∈ gw := in_gw (in_t4 (List.mem_of_getElem? (i := 159) rfl)) rfl
theorem k4_160 : (Jvm.Cond.methodLink "AlarmMatrix$Acts" (83 : Nat) ({ cls := "AlarmMatrix$Acts", name := "isDue", desc := "(II)Z" } : Jvm.MethodName)) ∈ gw := in_gw (in_t4 (List.mem_of_getElem? (i := 160) rfl)) rfl
theorem k4_162 : (Jvm.Cond.instanceMethod ({ cls := "AlarmMatrix$Acts", name := "isDue", desc := "(II)Z" } : Jvm.MethodName)) ∈ gw := in_gw (in_t4 (List.mem_of_getElem? (i := 162) rfl)) rfl
theorem k4_163 : (Jvm.Cond.code ({ cls := "AlarmMatrix$Acts", name := "isDue", desc := "(II)Z" } : Jvm.MethodName) prog_2_method_15_code (3 : Nat) (Option.some Jvm.ClassFile.FieldType.boolean)) ∈ gw := in_gw (in_t4 (List.mem_of_getElem? (i := 163) rfl)) rfl
theorem k4_164 : (Jvm.Cond.methodLink "AlarmMatrix$Acts" (69 : Nat) ({ cls := "AlarmMatrix$Acts", name := "letGo", desc := "(I)I" } : Jvm.MethodName)) ∈ gw := in_gw (in_t4 (List.mem_of_getElem? (i := 164) rfl)) rfl
theorem k4_166 : (Jvm.Cond.instanceMethod ({ cls := "AlarmMatrix$Acts", name := "letGo", desc := "(I)I" } : Jvm.MethodName)) ∈ gw := in_gw (in_t4 (List.mem_of_getElem? (i := 166) rfl)) rfl
theorem k4_167 : (Jvm.Cond.code ({ cls := "AlarmMatrix$Acts", name := "letGo", desc := "(I)I" } : Jvm.MethodName) prog_2_method_16_code (3 : Nat) (Option.some Jvm.ClassFile.FieldType.int)) ∈ gw := in_gw (in_t4 (List.mem_of_getElem? (i := 167) rfl)) rfl
theorem k4_168 : (Jvm.Cond.methodLink "AlarmMatrixLaw" (127 : Nat) ({ cls := "AlarmMatrixLaw", name := "person", desc := "(LAlarmMatrix;I[J)I" } : Jvm.MethodName)) ∈ gw := in_gw (in_t4 (List.mem_of_getElem? (i := 168) rfl)) rfl
theorem k4_169 : (Jvm.Cond.static ({ cls := "AlarmMatrixLaw", name := "person", desc := "(LAlarmMatrix;I[J)I" } : Jvm.MethodName)) ∈ gw := in_gw (in_t4 (List.mem_of_getElem? (i := 169) rfl)) rfl
theorem k4_170 : (Jvm.Cond.codeWith ({ cls := "AlarmMatrixLaw", name := "person", desc := "(LAlarmMatrix;I[J)I" } : Jvm.MethodName) method_14_code (4 : Nat) (Option.some Jvm.ClassFile.FieldType.int) [((0 : Nat), (9 : Nat), (12 : Nat), (13 : Nat))]) ∈ gw := in_gw (in_t4 (List.mem_of_getElem? (i := 170) rfl)) rfl
theorem k4_171 : (Jvm.Cond.methodLink "AlarmMatrixLaw" (51 : Nat) ({ cls := "AlarmMatrix", name := "person", desc := "(I)I" } : Jvm.MethodName)) ∈ gw := in_gw (in_t4 (List.mem_of_getElem? (i := 171) rfl)) rfl
theorem k4_172 : (Jvm.Cond.instanceMethod ({ cls := "AlarmMatrix", name := "person", desc := "(I)I" } : Jvm.MethodName)) ∈ gw := in_gw (in_t4 (List.mem_of_getElem? (i := 172) rfl)) rfl
theorem k4_173 : (Jvm.Cond.selects "AlarmMatrix" ({ cls := "AlarmMatrix", name := "person", desc := "(I)I" } : Jvm.MethodName) ({ cls := "AlarmMatrix", name := "person", desc := "(I)I" } : Jvm.MethodName)) ∈ gw := in_gw (in_t4 (List.mem_of_getElem? (i := 173) rfl)) rfl
theorem k4_174 : (Jvm.Cond.code ({ cls := "AlarmMatrix", name := "person", desc := "(I)I" } : Jvm.MethodName) prog_1_method_14_code (2 : Nat) (Option.some Jvm.ClassFile.FieldType.int)) ∈ gw := in_gw (in_t4 (List.mem_of_getElem? (i := 174) rfl)) rfl
theorem k4_176 : (Jvm.Cond.methodLink "AlarmMatrix" (199 : Nat) ({ cls := "AlarmMatrix$Acts", name := "waitAnew", desc := "(I)I" } : Jvm.MethodName)) ∈ gw := in_gw (in_t4 (List.mem_of_getElem? (i := 176) rfl)) rfl
theorem k4_177 : (Jvm.Cond.instanceMethod ({ cls := "AlarmMatrix$Acts", name := "waitAnew", desc := "(I)I" } : Jvm.MethodName)) ∈ gw := in_gw (in_t4 (List.mem_of_getElem? (i := 177) rfl)) rfl
theorem k4_178 : (Jvm.Cond.selects "AlarmMatrix$Acts" ({ cls := "AlarmMatrix$Acts", name := "waitAnew", desc := "(I)I" } : Jvm.MethodName) ({ cls := "AlarmMatrix$Acts", name := "waitAnew", desc := "(I)I" } : Jvm.MethodName)) ∈ gw := in_gw (in_t4 (List.mem_of_getElem? (i := 178) rfl)) rfl
theorem k4_179 : (Jvm.Cond.code ({ cls := "AlarmMatrix$Acts", name := "waitAnew", desc := "(I)I" } : Jvm.MethodName) prog_2_method_17_code (4 : Nat) (Option.some Jvm.ClassFile.FieldType.int)) ∈ gw := in_gw (in_t4 (List.mem_of_getElem? (i := 179) rfl)) rfl
theorem k4_180 : (Jvm.Cond.methodLink "AlarmMatrix" (202 : Nat) ({ cls := "AlarmMatrix$Acts", name := "confirm", desc := "()I" } : Jvm.MethodName)) ∈ gw := in_gw (in_t4 (List.mem_of_getElem? (i := 180) rfl)) rfl
theorem k4_181 : (Jvm.Cond.instanceMethod ({ cls := "AlarmMatrix$Acts", name := "confirm", desc := "()I" } : Jvm.MethodName)) ∈ gw := in_gw (in_t4 (List.mem_of_getElem? (i := 181) rfl)) rfl
theorem k4_182 : (Jvm.Cond.selects "AlarmMatrix$Acts" ({ cls := "AlarmMatrix$Acts", name := "confirm", desc := "()I" } : Jvm.MethodName) ({ cls := "AlarmMatrix$Acts", name := "confirm", desc := "()I" } : Jvm.MethodName)) ∈ gw := in_gw (in_t4 (List.mem_of_getElem? (i := 182) rfl)) rfl
theorem k4_183 : (Jvm.Cond.code ({ cls := "AlarmMatrix$Acts", name := "confirm", desc := "()I" } : Jvm.MethodName) prog_2_method_18_code (3 : Nat) (Option.some Jvm.ClassFile.FieldType.int)) ∈ gw := in_gw (in_t4 (List.mem_of_getElem? (i := 183) rfl)) rfl
theorem k4_184 : (Jvm.Cond.methodLink "AlarmMatrixLaw" (134 : Nat) ({ cls := "AlarmMatrixLaw", name := "act", desc := "(LAlarmMatrix;II[J)I" } : Jvm.MethodName)) ∈ gw := in_gw (in_t4 (List.mem_of_getElem? (i := 184) rfl)) rfl
theorem k4_185 : (Jvm.Cond.static ({ cls := "AlarmMatrixLaw", name := "act", desc := "(LAlarmMatrix;II[J)I" } : Jvm.MethodName)) ∈ gw := in_gw (in_t4 (List.mem_of_getElem? (i := 185) rfl)) rfl
theorem k4_186 : (Jvm.Cond.codeWith ({ cls := "AlarmMatrixLaw", name := "act", desc := "(LAlarmMatrix;II[J)I" } : Jvm.MethodName) method_15_code (5 : Nat) (Option.some Jvm.ClassFile.FieldType.int) [((0 : Nat), (10 : Nat), (13 : Nat), (13 : Nat))]) ∈ gw := in_gw (in_t4 (List.mem_of_getElem? (i := 186) rfl)) rfl
theorem k4_187 : (Jvm.Cond.methodLink "AlarmMatrixLaw" (54 : Nat) ({ cls := "AlarmMatrix", name := "act", desc := "(II)I" } : Jvm.MethodName)) ∈ gw := in_gw (in_t4 (List.mem_of_getElem? (i := 187) rfl)) rfl
theorem k4_188 : (Jvm.Cond.instanceMethod ({ cls := "AlarmMatrix", name := "act", desc := "(II)I" } : Jvm.MethodName)) ∈ gw := in_gw (in_t4 (List.mem_of_getElem? (i := 188) rfl)) rfl
theorem k4_189 : (Jvm.Cond.selects "AlarmMatrix" ({ cls := "AlarmMatrix", name := "act", desc := "(II)I" } : Jvm.MethodName) ({ cls := "AlarmMatrix", name := "act", desc := "(II)I" } : Jvm.MethodName)) ∈ gw := in_gw (in_t4 (List.mem_of_getElem? (i := 189) rfl)) rfl
theorem k4_190 : (Jvm.Cond.code ({ cls := "AlarmMatrix", name := "act", desc := "(II)I" } : Jvm.MethodName) prog_1_method_16_code (3 : Nat) (Option.some Jvm.ClassFile.FieldType.int)) ∈ gw := in_gw (in_t4 (List.mem_of_getElem? (i := 190) rfl)) rfl
theorem k4_191 : (Jvm.Cond.methodLink "AlarmMatrix" (208 : Nat) ({ cls := "AlarmMatrix$Acts", name := "isTold", desc := "(I)Z" } : Jvm.MethodName)) ∈ gw := in_gw (in_t4 (List.mem_of_getElem? (i := 191) rfl)) rfl
theorem k4_193 : (Jvm.Cond.methodLink "AlarmMatrix" (213 : Nat) ({ cls := "AlarmMatrix$Acts", name := "tellOf", desc := "(II)I" } : Jvm.MethodName)) ∈ gw := in_gw (in_t4 (List.mem_of_getElem? (i := 193) rfl)) rfl
theorem k4_194 : (Jvm.Cond.instanceMethod ({ cls := "AlarmMatrix$Acts", name := "tellOf", desc := "(II)I" } : Jvm.MethodName)) ∈ gw := in_gw (in_t4 (List.mem_of_getElem? (i := 194) rfl)) rfl
theorem k4_195 : (Jvm.Cond.selects "AlarmMatrix$Acts" ({ cls := "AlarmMatrix$Acts", name := "tellOf", desc := "(II)I" } : Jvm.MethodName) ({ cls := "AlarmMatrix$Acts", name := "tellOf", desc := "(II)I" } : Jvm.MethodName)) ∈ gw := in_gw (in_t4 (List.mem_of_getElem? (i := 195) rfl)) rfl
theorem k4_196 : (Jvm.Cond.code ({ cls := "AlarmMatrix$Acts", name := "tellOf", desc := "(II)I" } : Jvm.MethodName) prog_2_method_20_code (3 : Nat) (Option.some Jvm.ClassFile.FieldType.int)) ∈ gw := in_gw (in_t4 (List.mem_of_getElem? (i := 196) rfl)) rfl
theorem k4_198 : (Jvm.Cond.methodLink "AlarmMatrixLaw" (137 : Nat) ({ cls := "AlarmMatrixLaw", name := "zone", desc := "(LAlarmMatrix;II[J)I" } : Jvm.MethodName)) ∈ gw := in_gw (in_t4 (List.mem_of_getElem? (i := 198) rfl)) rfl
theorem k4_199 : (Jvm.Cond.static ({ cls := "AlarmMatrixLaw", name := "zone", desc := "(LAlarmMatrix;II[J)I" } : Jvm.MethodName)) ∈ gw := in_gw (in_t4 (List.mem_of_getElem? (i := 199) rfl)) rfl
theorem k4_200 : (Jvm.Cond.codeWith ({ cls := "AlarmMatrixLaw", name := "zone", desc := "(LAlarmMatrix;II[J)I" } : Jvm.MethodName) method_16_code (5 : Nat) (Option.some Jvm.ClassFile.FieldType.int) [((0 : Nat), (10 : Nat), (13 : Nat), (13 : Nat))]) ∈ gw := in_gw (in_t4 (List.mem_of_getElem? (i := 200) rfl)) rfl
theorem k4_201 : (Jvm.Cond.methodLink "AlarmMatrixLaw" (57 : Nat) ({ cls := "AlarmMatrix", name := "zone", desc := "(II)I" } : Jvm.MethodName)) ∈ gw := in_gw (in_t4 (List.mem_of_getElem? (i := 201) rfl)) rfl
theorem k4_202 : (Jvm.Cond.instanceMethod ({ cls := "AlarmMatrix", name := "zone", desc := "(II)I" } : Jvm.MethodName)) ∈ gw := in_gw (in_t4 (List.mem_of_getElem? (i := 202) rfl)) rfl
theorem k4_203 : (Jvm.Cond.selects "AlarmMatrix" ({ cls := "AlarmMatrix", name := "zone", desc := "(II)I" } : Jvm.MethodName) ({ cls := "AlarmMatrix", name := "zone", desc := "(II)I" } : Jvm.MethodName)) ∈ gw := in_gw (in_t4 (List.mem_of_getElem? (i := 203) rfl)) rfl
theorem k4_204 : (Jvm.Cond.code ({ cls := "AlarmMatrix", name := "zone", desc := "(II)I" } : Jvm.MethodName) prog_1_method_17_code (3 : Nat) (Option.some Jvm.ClassFile.FieldType.int)) ∈ gw := in_gw (in_t4 (List.mem_of_getElem? (i := 204) rfl)) rfl
theorem k4_205 : (Jvm.Cond.methodLink "AlarmMatrix" (216 : Nat) ({ cls := "AlarmMatrix$Plan", name := "zones", desc := "()LAlarmMatrix$Zones;" } : Jvm.MethodName)) ∈ gw := in_gw (in_t4 (List.mem_of_getElem? (i := 205) rfl)) rfl
theorem k4_206 : (Jvm.Cond.methodLink "AlarmMatrix" (220 : Nat) ({ cls := "AlarmMatrix$Zones", name := "isTold", desc := "(I)Z" } : Jvm.MethodName)) ∈ gw := in_gw (in_t4 (List.mem_of_getElem? (i := 206) rfl)) rfl
theorem k4_208 : (Jvm.Cond.methodLink "AlarmMatrix" (225 : Nat) ({ cls := "AlarmMatrix$Zones", name := "tellOf", desc := "(II)I" } : Jvm.MethodName)) ∈ gw := in_gw (in_t4 (List.mem_of_getElem? (i := 208) rfl)) rfl
theorem k4_209 : (Jvm.Cond.instanceMethod ({ cls := "AlarmMatrix$Zones", name := "tellOf", desc := "(II)I" } : Jvm.MethodName)) ∈ gw := in_gw (in_t4 (List.mem_of_getElem? (i := 209) rfl)) rfl
theorem k4_210 : (Jvm.Cond.selects "AlarmMatrix$Zones" ({ cls := "AlarmMatrix$Zones", name := "tellOf", desc := "(II)I" } : Jvm.MethodName) ({ cls := "AlarmMatrix$Zones", name := "tellOf", desc := "(II)I" } : Jvm.MethodName)) ∈ gw := in_gw (in_t4 (List.mem_of_getElem? (i := 210) rfl)) rfl
theorem k4_211 : (Jvm.Cond.code ({ cls := "AlarmMatrix$Zones", name := "tellOf", desc := "(II)I" } : Jvm.MethodName) prog_10_method_12_code (3 : Nat) (Option.some Jvm.ClassFile.FieldType.int)) ∈ gw := in_gw (in_t4 (List.mem_of_getElem? (i := 211) rfl)) rfl
theorem k4_212 : (Jvm.Cond.methodLink "AlarmMatrix$Zones" (55 : Nat) ({ cls := "AlarmMatrix$Zones", name := "isOn", desc := "(I)Z" } : Jvm.MethodName)) ∈ gw := in_gw (in_t4 (List.mem_of_getElem? (i := 212) rfl)) rfl
theorem k4_213 : (Jvm.Cond.methodLink "AlarmMatrix$Zones" (58 : Nat) ({ cls := "AlarmMatrix$Zones", name := "isSure", desc := "(I)Z" } : Jvm.MethodName)) ∈ gw := in_gw (in_t4 (List.mem_of_getElem? (i := 213) rfl)) rfl
theorem k4_214 : (Jvm.Cond.methodLink "AlarmMatrixLaw" (140 : Nat) ({ cls := "AlarmMatrixLaw", name := "row", desc := "(LAlarmMatrix;II[J)I" } : Jvm.MethodName)) ∈ gw := in_gw (in_t4 (List.mem_of_getElem? (i := 214) rfl)) rfl
theorem k4_215 : (Jvm.Cond.static ({ cls := "AlarmMatrixLaw", name := "row", desc := "(LAlarmMatrix;II[J)I" } : Jvm.MethodName)) ∈ gw := in_gw (in_t4 (List.mem_of_getElem? (i := 215) rfl)) rfl
theorem k4_216 : (Jvm.Cond.codeWith ({ cls := "AlarmMatrixLaw", name := "row", desc := "(LAlarmMatrix;II[J)I" } : Jvm.MethodName) method_17_code (5 : Nat) (Option.some Jvm.ClassFile.FieldType.int) [((0 : Nat), (10 : Nat), (13 : Nat), (13 : Nat))]) ∈ gw := in_gw (in_t4 (List.mem_of_getElem? (i := 216) rfl)) rfl
theorem k4_217 : (Jvm.Cond.methodLink "AlarmMatrixLaw" (60 : Nat) ({ cls := "AlarmMatrix", name := "row", desc := "(II)I" } : Jvm.MethodName)) ∈ gw := in_gw (in_t4 (List.mem_of_getElem? (i := 217) rfl)) rfl
theorem k4_218 : (Jvm.Cond.instanceMethod ({ cls := "AlarmMatrix", name := "row", desc := "(II)I" } : Jvm.MethodName)) ∈ gw := in_gw (in_t4 (List.mem_of_getElem? (i := 218) rfl)) rfl
theorem k4_219 : (Jvm.Cond.selects "AlarmMatrix" ({ cls := "AlarmMatrix", name := "row", desc := "(II)I" } : Jvm.MethodName) ({ cls := "AlarmMatrix", name := "row", desc := "(II)I" } : Jvm.MethodName)) ∈ gw := in_gw (in_t4 (List.mem_of_getElem? (i := 219) rfl)) rfl
theorem k4_220 : (Jvm.Cond.code ({ cls := "AlarmMatrix", name := "row", desc := "(II)I" } : Jvm.MethodName) prog_1_method_18_code (3 : Nat) (Option.some Jvm.ClassFile.FieldType.int)) ∈ gw := in_gw (in_t4 (List.mem_of_getElem? (i := 220) rfl)) rfl
theorem k4_222 : (Jvm.Cond.methodLink "AlarmMatrix" (228 : Nat) ({ cls := "AlarmMatrix$Plan", name := "tellOfRow", desc := "(II)I" } : Jvm.MethodName)) ∈ gw := in_gw (in_t4 (List.mem_of_getElem? (i := 222) rfl)) rfl
theorem k4_223 : (Jvm.Cond.instanceMethod ({ cls := "AlarmMatrix$Plan", name := "tellOfRow", desc := "(II)I" } : Jvm.MethodName)) ∈ gw := in_gw (in_t4 (List.mem_of_getElem? (i := 223) rfl)) rfl
theorem k4_224 : (Jvm.Cond.selects "AlarmMatrix$Plan" ({ cls := "AlarmMatrix$Plan", name := "tellOfRow", desc := "(II)I" } : Jvm.MethodName) ({ cls := "AlarmMatrix$Plan", name := "tellOfRow", desc := "(II)I" } : Jvm.MethodName)) ∈ gw := in_gw (in_t4 (List.mem_of_getElem? (i := 224) rfl)) rfl
theorem k4_225 : (Jvm.Cond.code ({ cls := "AlarmMatrix$Plan", name := "tellOfRow", desc := "(II)I" } : Jvm.MethodName) prog_5_method_8_code (3 : Nat) (Option.some Jvm.ClassFile.FieldType.int)) ∈ gw := in_gw (in_t4 (List.mem_of_getElem? (i := 225) rfl)) rfl
theorem k4_227 : (Jvm.Cond.methodLink "AlarmMatrixLaw" (143 : Nat) ({ cls := "AlarmMatrixLaw", name := "event", desc := "(LAlarmMatrix;II[J)I" } : Jvm.MethodName)) ∈ gw := in_gw (in_t4 (List.mem_of_getElem? (i := 227) rfl)) rfl
theorem k4_228 : (Jvm.Cond.static ({ cls := "AlarmMatrixLaw", name := "event", desc := "(LAlarmMatrix;II[J)I" } : Jvm.MethodName)) ∈ gw := in_gw (in_t4 (List.mem_of_getElem? (i := 228) rfl)) rfl
theorem k4_229 : (Jvm.Cond.codeWith ({ cls := "AlarmMatrixLaw", name := "event", desc := "(LAlarmMatrix;II[J)I" } : Jvm.MethodName) method_18_code (5 : Nat) (Option.some Jvm.ClassFile.FieldType.int) [((0 : Nat), (10 : Nat), (13 : Nat), (13 : Nat))]) ∈ gw := in_gw (in_t4 (List.mem_of_getElem? (i := 229) rfl)) rfl
theorem k4_230 : (Jvm.Cond.methodLink "AlarmMatrixLaw" (63 : Nat) ({ cls := "AlarmMatrix", name := "event", desc := "(II)I" } : Jvm.MethodName)) ∈ gw := in_gw (in_t4 (List.mem_of_getElem? (i := 230) rfl)) rfl
theorem k4_231 : (Jvm.Cond.instanceMethod ({ cls := "AlarmMatrix", name := "event", desc := "(II)I" } : Jvm.MethodName)) ∈ gw := in_gw (in_t4 (List.mem_of_getElem? (i := 231) rfl)) rfl
theorem k4_232 : (Jvm.Cond.selects "AlarmMatrix" ({ cls := "AlarmMatrix", name := "event", desc := "(II)I" } : Jvm.MethodName) ({ cls := "AlarmMatrix", name := "event", desc := "(II)I" } : Jvm.MethodName)) ∈ gw := in_gw (in_t4 (List.mem_of_getElem? (i := 232) rfl)) rfl
theorem k4_233 : (Jvm.Cond.code ({ cls := "AlarmMatrix", name := "event", desc := "(II)I" } : Jvm.MethodName) prog_1_method_19_code (3 : Nat) (Option.some Jvm.ClassFile.FieldType.int)) ∈ gw := in_gw (in_t4 (List.mem_of_getElem? (i := 233) rfl)) rfl
theorem k4_234 : (Jvm.Cond.methodLink "AlarmMatrix" (231 : Nat) ({ cls := "AlarmMatrix$Events", name := "count", desc := "()I" } : Jvm.MethodName)) ∈ gw := in_gw (in_t4 (List.mem_of_getElem? (i := 234) rfl)) rfl
theorem k4_235 : (Jvm.Cond.instanceMethod ({ cls := "AlarmMatrix$Events", name := "count", desc := "()I" } : Jvm.MethodName)) ∈ gw := in_gw (in_t4 (List.mem_of_getElem? (i := 235) rfl)) rfl
theorem k4_236 : (Jvm.Cond.selects "AlarmMatrix$Events" ({ cls := "AlarmMatrix$Events", name := "count", desc := "()I" } : Jvm.MethodName) ({ cls := "AlarmMatrix$Events", name := "count", desc := "()I" } : Jvm.MethodName)) ∈ gw := in_gw (in_t4 (List.mem_of_getElem? (i := 236) rfl)) rfl
theorem k4_237 : (Jvm.Cond.code ({ cls := "AlarmMatrix$Events", name := "count", desc := "()I" } : Jvm.MethodName) prog_3_method_2_code (1 : Nat) (Option.some Jvm.ClassFile.FieldType.int)) ∈ gw := in_gw (in_t4 (List.mem_of_getElem? (i := 237) rfl)) rfl
theorem k4_239 : (Jvm.Cond.methodLink "AlarmMatrix" (234 : Nat) ({ cls := "AlarmMatrix$Events", name := "tellOf", desc := "(II)I" } : Jvm.MethodName)) ∈ gw := in_gw (in_t4 (List.mem_of_getElem? (i := 239) rfl)) rfl
theorem k5_0 : (Jvm.Cond.instanceMethod ({ cls := "AlarmMatrix$Events", name := "tellOf", desc := "(II)I" } : Jvm.MethodName)) ∈ gw := in_gw (in_t5 (List.mem_of_getElem? (i := 0) rfl)) rfl
theorem k5_1 : (Jvm.Cond.selects "AlarmMatrix$Events" ({ cls := "AlarmMatrix$Events", name := "tellOf", desc := "(II)I" } : Jvm.MethodName) ({ cls := "AlarmMatrix$Events", name := "tellOf", desc := "(II)I" } : Jvm.MethodName)) ∈ gw := in_gw (in_t5 (List.mem_of_getElem? (i := 1) rfl)) rfl
theorem k5_2 : (Jvm.Cond.code ({ cls := "AlarmMatrix$Events", name := "tellOf", desc := "(II)I" } : Jvm.MethodName) prog_3_method_4_code (4 : Nat) (Option.some Jvm.ClassFile.FieldType.int)) ∈ gw := in_gw (in_t5 (List.mem_of_getElem? (i := 2) rfl)) rfl
theorem k5_3 : (Jvm.Cond.methodLink "AlarmMatrixLaw" (146 : Nat) ({ cls := "AlarmMatrixLaw", name := "ranked", desc := "(LAlarmMatrix;I[J)I" } : Jvm.MethodName)) ∈ gw := in_gw (in_t5 (List.mem_of_getElem? (i := 3) rfl)) rfl
theorem k5_4 : (Jvm.Cond.static ({ cls := "AlarmMatrixLaw", name := "ranked", desc := "(LAlarmMatrix;I[J)I" } : Jvm.MethodName)) ∈ gw := in_gw (in_t5 (List.mem_of_getElem? (i := 4) rfl)) rfl
theorem k5_5 : (Jvm.Cond.codeWith ({ cls := "AlarmMatrixLaw", name := "ranked", desc := "(LAlarmMatrix;I[J)I" } : Jvm.MethodName) method_19_code (4 : Nat) (Option.some Jvm.ClassFile.FieldType.int) [((0 : Nat), (9 : Nat), (12 : Nat), (13 : Nat))]) ∈ gw := in_gw (in_t5 (List.mem_of_getElem? (i := 5) rfl)) rfl
theorem k5_6 : (Jvm.Cond.methodLink "AlarmMatrixLaw" (66 : Nat) ({ cls := "AlarmMatrix", name := "ranked", desc := "(I)I" } : Jvm.MethodName)) ∈ gw := in_gw (in_t5 (List.mem_of_getElem? (i := 6) rfl)) rfl
theorem k5_7 : (Jvm.Cond.instanceMethod ({ cls := "AlarmMatrix", name := "ranked", desc := "(I)I" } : Jvm.MethodName)) ∈ gw := in_gw (in_t5 (List.mem_of_getElem? (i := 7) rfl)) rfl
theorem k5_8 : (Jvm.Cond.selects "AlarmMatrix" ({ cls := "AlarmMatrix", name := "ranked", desc := "(I)I" } : Jvm.MethodName) ({ cls := "AlarmMatrix", name := "ranked", desc := "(I)I" } : Jvm.MethodName)) ∈ gw := in_gw (in_t5 (List.mem_of_getElem? (i := 8) rfl)) rfl
theorem k5_9 : (Jvm.Cond.code ({ cls := "AlarmMatrix", name := "ranked", desc := "(I)I" } : Jvm.MethodName) prog_1_method_20_code (2 : Nat) (Option.some Jvm.ClassFile.FieldType.int)) ∈ gw := in_gw (in_t5 (List.mem_of_getElem? (i := 9) rfl)) rfl
theorem k5_10 : (Jvm.Cond.methodLink "AlarmMatrix" (235 : Nat) ({ cls := "AlarmMatrix$Acts", name := "findRanked", desc := "(I)I" } : Jvm.MethodName)) ∈ gw := in_gw (in_t5 (List.mem_of_getElem? (i := 10) rfl)) rfl
theorem k5_11 : (Jvm.Cond.instanceMethod ({ cls := "AlarmMatrix$Acts", name := "findRanked", desc := "(I)I" } : Jvm.MethodName)) ∈ gw := in_gw (in_t5 (List.mem_of_getElem? (i := 11) rfl)) rfl
theorem k5_12 : (Jvm.Cond.selects "AlarmMatrix$Acts" ({ cls := "AlarmMatrix$Acts", name := "findRanked", desc := "(I)I" } : Jvm.MethodName) ({ cls := "AlarmMatrix$Acts", name := "findRanked", desc := "(I)I" } : Jvm.MethodName)) ∈ gw := in_gw (in_t5 (List.mem_of_getElem? (i := 12) rfl)) rfl
theorem k5_13 : (Jvm.Cond.code ({ cls := "AlarmMatrix$Acts", name := "findRanked", desc := "(I)I" } : Jvm.MethodName) prog_2_method_9_code (2 : Nat) (Option.some Jvm.ClassFile.FieldType.int)) ∈ gw := in_gw (in_t5 (List.mem_of_getElem? (i := 13) rfl)) rfl
theorem k5_14 : (Jvm.Cond.classLink "AlarmMatrixLaw" (78 : Nat) "AlarmMatrixModel") ∈ gw := in_gw (in_t5 (List.mem_of_getElem? (i := 14) rfl)) rfl
theorem k5_15 : (Jvm.Cond.instantiable "AlarmMatrixModel" (42 : Nat)) ∈ gw := in_gw (in_t5 (List.mem_of_getElem? (i := 15) rfl)) rfl
theorem k5_16 : (Jvm.Cond.methodLink "AlarmMatrixLaw" (80 : Nat) ({ cls := "AlarmMatrixModel", name := "<init>", desc := "(I)V" } : Jvm.MethodName)) ∈ gw := in_gw (in_t5 (List.mem_of_getElem? (i := 16) rfl)) rfl
theorem k5_17 : (Jvm.Cond.instanceMethod ({ cls := "AlarmMatrixModel", name := "<init>", desc := "(I)V" } : Jvm.MethodName)) ∈ gw := in_gw (in_t5 (List.mem_of_getElem? (i := 17) rfl)) rfl
theorem k5_18 : (Jvm.Cond.code ({ cls := "AlarmMatrixModel", name := "<init>", desc := "(I)V" } : Jvm.MethodName) prog_12_method_1_code (3 : Nat) (Option.none : Option Jvm.ClassFile.FieldType)) ∈ gw := in_gw (in_t5 (List.mem_of_getElem? (i := 18) rfl)) rfl
theorem k5_19 : (Jvm.Cond.methodLink "AlarmMatrixModel" (1 : Nat) ({ cls := "java/lang/Object", name := "<init>", desc := "()V" } : Jvm.MethodName)) ∈ gw := in_gw (in_t5 (List.mem_of_getElem? (i := 19) rfl)) rfl
theorem k5_20 : (Jvm.Cond.fieldLink "AlarmMatrixModel" (108 : Nat) "AlarmMatrixModel" "code" "I") ∈ gw := in_gw (in_t5 (List.mem_of_getElem? (i := 20) rfl)) rfl
theorem k5_21 : (Jvm.Cond.fieldLink "AlarmMatrixModel" (104 : Nat) "AlarmMatrixModel" "points" "I") ∈ gw := in_gw (in_t5 (List.mem_of_getElem? (i := 21) rfl)) rfl
theorem k5_22 : (Jvm.Cond.fieldLink "AlarmMatrixModel" (236 : Nat) "AlarmMatrixModel" "now" "I") ∈ gw := in_gw (in_t5 (List.mem_of_getElem? (i := 22) rfl)) rfl
theorem k5_23 : (Jvm.Cond.fieldLink "AlarmMatrixModel" (7 : Nat) "AlarmMatrixModel" "value" "[I") ∈ gw := in_gw (in_t5 (List.mem_of_getElem? (i := 23) rfl)) rfl
theorem k5_24 : (Jvm.Cond.fieldLink "AlarmMatrixModel" (13 : Nat) "AlarmMatrixModel" "faulty" "[Z") ∈ gw := in_gw (in_t5 (List.mem_of_getElem? (i := 24) rfl)) rfl
theorem k5_25 : (Jvm.Cond.fieldLink "AlarmMatrixModel" (17 : Nat) "AlarmMatrixModel" "until" "[I") ∈ gw := in_gw (in_t5 (List.mem_of_getElem? (i := 25) rfl)) rfl
theorem k5_26 : (Jvm.Cond.fieldLink "AlarmMatrixModel" (20 : Nat) "AlarmMatrixModel" "loopOf" "[I") ∈ gw := in_gw (in_t5 (List.mem_of_getElem? (i := 26) rfl)) rfl
theorem k5_27 : (Jvm.Cond.fieldLink "AlarmMatrixModel" (23 : Nat) "AlarmMatrixModel" "placeOf" "[I") ∈ gw := in_gw (in_t5 (List.mem_of_getElem? (i := 27) rfl)) rfl
theorem k5_28 : (Jvm.Cond.fieldLink "AlarmMatrixModel" (26 : Nat) "AlarmMatrixModel" "members" "[I") ∈ gw := in_gw (in_t5 (List.mem_of_getElem? (i := 28) rfl)) rfl
theorem k5_29 : (Jvm.Cond.fieldLink "AlarmMatrixModel" (29 : Nat) "AlarmMatrixModel" "member" "[I") ∈ gw := in_gw (in_t5 (List.mem_of_getElem? (i := 29) rfl)) rfl
theorem k5_30 : (Jvm.Cond.fieldLink "AlarmMatrixModel" (32 : Nat) "AlarmMatrixModel" "cuts" "[Z") ∈ gw := in_gw (in_t5 (List.mem_of_getElem? (i := 30) rfl)) rfl
theorem k5_31 : (Jvm.Cond.fieldLink "AlarmMatrixModel" (35 : Nat) "AlarmMatrixModel" "text" "[I") ∈ gw := in_gw (in_t5 (List.mem_of_getElem? (i := 31) rfl)) rfl
theorem k5_32 : (Jvm.Cond.fieldLink "AlarmMatrixModel" (111 : Nat) "AlarmMatrixModel" "size" "I") ∈ gw := in_gw (in_t5 (List.mem_of_getElem? (i := 32) rfl)) rfl
theorem k5_33 : (Jvm.Cond.fieldLink "AlarmMatrixModel" (153 : Nat) "AlarmMatrixModel" "words" "I") ∈ gw := in_gw (in_t5 (List.mem_of_getElem? (i := 33) rfl)) rfl
theorem k5_34 : (Jvm.Cond.fieldLink "AlarmMatrixModel" (38 : Nat) "AlarmMatrixModel" "begin" "[I") ∈ gw := in_gw (in_t5 (List.mem_of_getElem? (i := 34) rfl)) rfl
theorem k5_35 : (Jvm.Cond.fieldLink "AlarmMatrixModel" (41 : Nat) "AlarmMatrixModel" "end" "[I") ∈ gw := in_gw (in_t5 (List.mem_of_getElem? (i := 35) rfl)) rfl
theorem k5_36 : (Jvm.Cond.fieldLink "AlarmMatrixModel" (160 : Nat) "AlarmMatrixModel" "at" "I") ∈ gw := in_gw (in_t5 (List.mem_of_getElem? (i := 36) rfl)) rfl
theorem k5_37 : (Jvm.Cond.fieldLink "AlarmMatrixModel" (163 : Nat) "AlarmMatrixModel" "wrong" "I") ∈ gw := in_gw (in_t5 (List.mem_of_getElem? (i := 37) rfl)) rfl
theorem k5_38 : (Jvm.Cond.fieldLink "AlarmMatrixModel" (44 : Nat) "AlarmMatrixModel" "zoneTold" "[Z") ∈ gw := in_gw (in_t5 (List.mem_of_getElem? (i := 38) rfl)) rfl
theorem k5_39 : (Jvm.Cond.fieldLink "AlarmMatrixModel" (47 : Nat) "AlarmMatrixModel" "needs" "[I") ∈ gw := in_gw (in_t5 (List.mem_of_getElem? (i := 39) rfl)) rfl
theorem k5_40 : (Jvm.Cond.fieldLink "AlarmMatrixModel" (50 : Nat) "AlarmMatrixModel" "zoneSize" "[I") ∈ gw := in_gw (in_t5 (List.mem_of_getElem? (i := 40) rfl)) rfl
theorem k5_41 : (Jvm.Cond.fieldLink "AlarmMatrixModel" (53 : Nat) "AlarmMatrixModel" "zonePoint" "[I") ∈ gw := in_gw (in_t5 (List.mem_of_getElem? (i := 41) rfl)) rfl
theorem k5_42 : (Jvm.Cond.fieldLink "AlarmMatrixModel" (56 : Nat) "AlarmMatrixModel" "actTold" "[Z") ∈ gw := in_gw (in_t5 (List.mem_of_getElem? (i := 42) rfl)) rfl
theorem k5_43 : (Jvm.Cond.fieldLink "AlarmMatrixModel" (59 : Nat) "AlarmMatrixModel" "kind" "[I") ∈ gw := in_gw (in_t5 (List.mem_of_getElem? (i := 43) rfl)) rfl
theorem k5_44 : (Jvm.Cond.fieldLink "AlarmMatrixModel" (62 : Nat) "AlarmMatrixModel" "rank" "[I") ∈ gw := in_gw (in_t5 (List.mem_of_getElem? (i := 44) rfl)) rfl
theorem k5_45 : (Jvm.Cond.fieldLink "AlarmMatrixModel" (65 : Nat) "AlarmMatrixModel" "delay" "[I") ∈ gw := in_gw (in_t5 (List.mem_of_getElem? (i := 45) rfl)) rfl
theorem k5_46 : (Jvm.Cond.fieldLink "AlarmMatrixModel" (68 : Nat) "AlarmMatrixModel" "latches" "[Z") ∈ gw := in_gw (in_t5 (List.mem_of_getElem? (i := 46) rfl)) rfl
theorem k5_47 : (Jvm.Cond.fieldLink "AlarmMatrixModel" (220 : Nat) "AlarmMatrixModel" "rows" "I") ∈ gw := in_gw (in_t5 (List.mem_of_getElem? (i := 47) rfl)) rfl
theorem k5_48 : (Jvm.Cond.fieldLink "AlarmMatrixModel" (197 : Nat) "AlarmMatrixModel" "readRows" "I") ∈ gw := in_gw (in_t5 (List.mem_of_getElem? (i := 48) rfl)) rfl
theorem k5_49 : (Jvm.Cond.fieldLink "AlarmMatrixModel" (71 : Nat) "AlarmMatrixModel" "rowFirst" "[I") ∈ gw := in_gw (in_t5 (List.mem_of_getElem? (i := 49) rfl)) rfl
theorem k5_50 : (Jvm.Cond.fieldLink "AlarmMatrixModel" (74 : Nat) "AlarmMatrixModel" "rowSecond" "[I") ∈ gw := in_gw (in_t5 (List.mem_of_getElem? (i := 50) rfl)) rfl
theorem k5_51 : (Jvm.Cond.fieldLink "AlarmMatrixModel" (77 : Nat) "AlarmMatrixModel" "rowAct" "[I") ∈ gw := in_gw (in_t5 (List.mem_of_getElem? (i := 51) rfl)) rfl
theorem k5_52 : (Jvm.Cond.fieldLink "AlarmMatrixModel" (80 : Nat) "AlarmMatrixModel" "state" "[I") ∈ gw := in_gw (in_t5 (List.mem_of_getElem? (i := 52) rfl)) rfl
theorem k5_53 : (Jvm.Cond.fieldLink "AlarmMatrixModel" (83 : Nat) "AlarmMatrixModel" "since" "[I") ∈ gw := in_gw (in_t5 (List.mem_of_getElem? (i := 53) rfl)) rfl
theorem k5_54 : (Jvm.Cond.fieldLink "AlarmMatrixModel" (86 : Nat) "AlarmMatrixModel" "looked" "[Z") ∈ gw := in_gw (in_t5 (List.mem_of_getElem? (i := 54) rfl)) rfl
theorem k5_55 : (Jvm.Cond.fieldLink "AlarmMatrixModel" (89 : Nat) "AlarmMatrixModel" "confirmed" "[Z") ∈ gw := in_gw (in_t5 (List.mem_of_getElem? (i := 55) rfl)) rfl
theorem k5_56 : (Jvm.Cond.fieldLink "AlarmMatrixModel" (255 : Nat) "AlarmMatrixModel" "events" "I") ∈ gw := in_gw (in_t5 (List.mem_of_getElem? (i := 56) rfl)) rfl
theorem k5_57 : (Jvm.Cond.fieldLink "AlarmMatrixModel" (92 : Nat) "AlarmMatrixModel" "eventTime" "[I") ∈ gw := in_gw (in_t5 (List.mem_of_getElem? (i := 57) rfl)) rfl
theorem k5_58 : (Jvm.Cond.fieldLink "AlarmMatrixModel" (95 : Nat) "AlarmMatrixModel" "eventAct" "[I") ∈ gw := in_gw (in_t5 (List.mem_of_getElem? (i := 58) rfl)) rfl
theorem k5_59 : (Jvm.Cond.fieldLink "AlarmMatrixModel" (98 : Nat) "AlarmMatrixModel" "eventDone" "[I") ∈ gw := in_gw (in_t5 (List.mem_of_getElem? (i := 59) rfl)) rfl
theorem k5_60 : (Jvm.Cond.fieldLink "AlarmMatrixModel" (101 : Nat) "AlarmMatrixModel" "said" "[I") ∈ gw := in_gw (in_t5 (List.mem_of_getElem? (i := 60) rfl)) rfl
theorem k5_61 : (Jvm.Cond.fieldLink "AlarmMatrixModel" (122 : Nat) "AlarmMatrixModel" "saidSize" "I") ∈ gw := in_gw (in_t5 (List.mem_of_getElem? (i := 61) rfl)) rfl
theorem k5_147 : (Jvm.Cond.methodLink "AlarmMatrixLaw" (85 : Nat) ({ cls := "AlarmMatrixModel", name := "thrown", desc := "()I" } : Jvm.MethodName)) ∈ gw := in_gw (in_t5 (List.mem_of_getElem? (i := 147) rfl)) rfl
theorem k5_148 : (Jvm.Cond.instanceMethod ({ cls := "AlarmMatrixModel", name := "thrown", desc := "()I" } : Jvm.MethodName)) ∈ gw := in_gw (in_t5 (List.mem_of_getElem? (i := 148) rfl)) rfl
theorem k5_149 : (Jvm.Cond.selects "AlarmMatrixModel" ({ cls := "AlarmMatrixModel", name := "thrown", desc := "()I" } : Jvm.MethodName) ({ cls := "AlarmMatrixModel", name := "thrown", desc := "()I" } : Jvm.MethodName)) ∈ gw := in_gw (in_t5 (List.mem_of_getElem? (i := 149) rfl)) rfl
theorem k5_150 : (Jvm.Cond.code ({ cls := "AlarmMatrixModel", name := "thrown", desc := "()I" } : Jvm.MethodName) prog_12_method_2_code (1 : Nat) (Option.some Jvm.ClassFile.FieldType.int)) ∈ gw := in_gw (in_t5 (List.mem_of_getElem? (i := 150) rfl)) rfl
theorem k5_151 : (Jvm.Cond.methodLink "AlarmMatrixLaw" (84 : Nat) ({ cls := "AlarmMatrixModel", name := "unit", desc := "(I)I" } : Jvm.MethodName)) ∈ gw := in_gw (in_t5 (List.mem_of_getElem? (i := 151) rfl)) rfl
theorem k5_152 : (Jvm.Cond.instanceMethod ({ cls := "AlarmMatrixModel", name := "unit", desc := "(I)I" } : Jvm.MethodName)) ∈ gw := in_gw (in_t5 (List.mem_of_getElem? (i := 152) rfl)) rfl
theorem k5_153 : (Jvm.Cond.selects "AlarmMatrixModel" ({ cls := "AlarmMatrixModel", name := "unit", desc := "(I)I" } : Jvm.MethodName) ({ cls := "AlarmMatrixModel", name := "unit", desc := "(I)I" } : Jvm.MethodName)) ∈ gw := in_gw (in_t5 (List.mem_of_getElem? (i := 153) rfl)) rfl
theorem k5_154 : (Jvm.Cond.code ({ cls := "AlarmMatrixModel", name := "unit", desc := "(I)I" } : Jvm.MethodName) prog_12_method_5_code (2 : Nat) (Option.some Jvm.ClassFile.FieldType.int)) ∈ gw := in_gw (in_t5 (List.mem_of_getElem? (i := 154) rfl)) rfl
theorem k5_155 : (Jvm.Cond.methodLink "AlarmMatrixModel" (114 : Nat) ({ cls := "AlarmMatrixModel", name := "goes", desc := "(ZZ)Z" } : Jvm.MethodName)) ∈ gw := in_gw (in_t5 (List.mem_of_getElem? (i := 155) rfl)) rfl
theorem k5_157 : (Jvm.Cond.instanceMethod ({ cls := "AlarmMatrixModel", name := "goes", desc := "(ZZ)Z" } : Jvm.MethodName)) ∈ gw := in_gw (in_t5 (List.mem_of_getElem? (i := 157) rfl)) rfl
theorem k5_158 : (Jvm.Cond.code ({ cls := "AlarmMatrixModel", name := "goes", desc := "(ZZ)Z" } : Jvm.MethodName) prog_12_method_3_code (3 : Nat) (Option.some Jvm.ClassFile.FieldType.boolean)) ∈ gw := in_gw (in_t5 (List.mem_of_getElem? (i := 158) rfl)) rfl
theorem k5_159 : (Jvm.Cond.methodLink "AlarmMatrixModel" (118 : Nat) ({ cls := "AlarmMatrixModel", name := "write", desc := "(I)V" } : Jvm.MethodName)) ∈ gw := in_gw (in_t5 (List.mem_of_getElem? (i := 159) rfl)) rfl
theorem k5_161 : (Jvm.Cond.instanceMethod ({ cls := "AlarmMatrixModel", name := "write", desc := "(I)V" } : Jvm.MethodName)) ∈ gw := in_gw (in_t5 (List.mem_of_getElem? (i := 161) rfl)) rfl
theorem k5_162 : (Jvm.Cond.code ({ cls := "AlarmMatrixModel", name := "write", desc := "(I)V" } : Jvm.MethodName) prog_12_method_4_code (2 : Nat) (Option.none : Option Jvm.ClassFile.FieldType)) ∈ gw := in_gw (in_t5 (List.mem_of_getElem? (i := 162) rfl)) rfl
theorem k5_163 : (Jvm.Cond.methodLink "AlarmMatrixLaw" (92 : Nat) ({ cls := "AlarmMatrixModel", name := "say", desc := "(IIIII)I" } : Jvm.MethodName)) ∈ gw := in_gw (in_t5 (List.mem_of_getElem? (i := 163) rfl)) rfl
theorem k5_164 : (Jvm.Cond.instanceMethod ({ cls := "AlarmMatrixModel", name := "say", desc := "(IIIII)I" } : Jvm.MethodName)) ∈ gw := in_gw (in_t5 (List.mem_of_getElem? (i := 164) rfl)) rfl
theorem k5_165 : (Jvm.Cond.selects "AlarmMatrixModel" ({ cls := "AlarmMatrixModel", name := "say", desc := "(IIIII)I" } : Jvm.MethodName) ({ cls := "AlarmMatrixModel", name := "say", desc := "(IIIII)I" } : Jvm.MethodName)) ∈ gw := in_gw (in_t5 (List.mem_of_getElem? (i := 165) rfl)) rfl
theorem k5_166 : (Jvm.Cond.code ({ cls := "AlarmMatrixModel", name := "say", desc := "(IIIII)I" } : Jvm.MethodName) prog_12_method_11_code (8 : Nat) (Option.some Jvm.ClassFile.FieldType.int)) ∈ gw := in_gw (in_t5 (List.mem_of_getElem? (i := 166) rfl)) rfl
theorem k5_167 : (Jvm.Cond.methodLink "AlarmMatrixModel" (128 : Nat) ({ cls := "AlarmMatrixModel", name := "isSaid", desc := "(I)Z" } : Jvm.MethodName)) ∈ gw := in_gw (in_t5 (List.mem_of_getElem? (i := 167) rfl)) rfl
theorem k5_168 : (Jvm.Cond.static ({ cls := "AlarmMatrixModel", name := "isSaid", desc := "(I)Z" } : Jvm.MethodName)) ∈ gw := in_gw (in_t5 (List.mem_of_getElem? (i := 168) rfl)) rfl
theorem k5_169 : (Jvm.Cond.code ({ cls := "AlarmMatrixModel", name := "isSaid", desc := "(I)Z" } : Jvm.MethodName) prog_12_method_6_code (1 : Nat) (Option.some Jvm.ClassFile.FieldType.boolean)) ∈ gw := in_gw (in_t5 (List.mem_of_getElem? (i := 169) rfl)) rfl
theorem k5_170 : (Jvm.Cond.methodLink "AlarmMatrixModel" (132 : Nat) ({ cls := "AlarmMatrixModel", name := "sentence", desc := "(IIIII)V" } : Jvm.MethodName)) ∈ gw := in_gw (in_t5 (List.mem_of_getElem? (i := 170) rfl)) rfl
theorem k5_172 : (Jvm.Cond.instanceMethod ({ cls := "AlarmMatrixModel", name := "sentence", desc := "(IIIII)V" } : Jvm.MethodName)) ∈ gw := in_gw (in_t5 (List.mem_of_getElem? (i := 172) rfl)) rfl
theorem k5_173 : (Jvm.Cond.code ({ cls := "AlarmMatrixModel", name := "sentence", desc := "(IIIII)V" } : Jvm.MethodName) prog_12_method_12_code (7 : Nat) (Option.none : Option Jvm.ClassFile.FieldType)) ∈ gw := in_gw (in_t5 (List.mem_of_getElem? (i := 173) rfl)) rfl
theorem k5_174 : (Jvm.Cond.constant "AlarmMatrixModel" (136 : Nat) (178682 : Int32)) ∈ gw := in_gw (in_t5 (List.mem_of_getElem? (i := 174) rfl)) rfl
theorem k5_175 : (Jvm.Cond.constant "AlarmMatrixModel" (137 : Nat) (143848 : Int32)) ∈ gw := in_gw (in_t5 (List.mem_of_getElem? (i := 175) rfl)) rfl
theorem k5_176 : (Jvm.Cond.constant "AlarmMatrixModel" (138 : Nat) (464151 : Int32)) ∈ gw := in_gw (in_t5 (List.mem_of_getElem? (i := 176) rfl)) rfl
theorem k5_177 : (Jvm.Cond.methodLink "AlarmMatrixModel" (139 : Nat) ({ cls := "AlarmMatrixModel", name := "word", desc := "(I)V" } : Jvm.MethodName)) ∈ gw := in_gw (in_t5 (List.mem_of_getElem? (i := 177) rfl)) rfl
theorem k5_179 : (Jvm.Cond.instanceMethod ({ cls := "AlarmMatrixModel", name := "word", desc := "(I)V" } : Jvm.MethodName)) ∈ gw := in_gw (in_t5 (List.mem_of_getElem? (i := 179) rfl)) rfl
theorem k5_180 : (Jvm.Cond.code ({ cls := "AlarmMatrixModel", name := "word", desc := "(I)V" } : Jvm.MethodName) prog_12_method_9_code (3 : Nat) (Option.none : Option Jvm.ClassFile.FieldType)) ∈ gw := in_gw (in_t5 (List.mem_of_getElem? (i := 180) rfl)) rfl
theorem k5_181 : (Jvm.Cond.methodLink "AlarmMatrixModel" (125 : Nat) ({ cls := "AlarmMatrixModel", name := "letter", desc := "(I)V" } : Jvm.MethodName)) ∈ gw := in_gw (in_t5 (List.mem_of_getElem? (i := 181) rfl)) rfl
theorem k5_183 : (Jvm.Cond.instanceMethod ({ cls := "AlarmMatrixModel", name := "letter", desc := "(I)V" } : Jvm.MethodName)) ∈ gw := in_gw (in_t5 (List.mem_of_getElem? (i := 183) rfl)) rfl
theorem k5_184 : (Jvm.Cond.code ({ cls := "AlarmMatrixModel", name := "letter", desc := "(I)V" } : Jvm.MethodName) prog_12_method_7_code (2 : Nat) (Option.none : Option Jvm.ClassFile.FieldType)) ∈ gw := in_gw (in_t5 (List.mem_of_getElem? (i := 184) rfl)) rfl
theorem k5_185 : (Jvm.Cond.methodLink "AlarmMatrixModel" (142 : Nat) ({ cls := "AlarmMatrixModel", name := "number", desc := "(I)V" } : Jvm.MethodName)) ∈ gw := in_gw (in_t5 (List.mem_of_getElem? (i := 185) rfl)) rfl
theorem k5_187 : (Jvm.Cond.instanceMethod ({ cls := "AlarmMatrixModel", name := "number", desc := "(I)V" } : Jvm.MethodName)) ∈ gw := in_gw (in_t5 (List.mem_of_getElem? (i := 187) rfl)) rfl
theorem k5_188 : (Jvm.Cond.code ({ cls := "AlarmMatrixModel", name := "number", desc := "(I)V" } : Jvm.MethodName) prog_12_method_8_code (2 : Nat) (Option.none : Option Jvm.ClassFile.FieldType)) ∈ gw := in_gw (in_t5 (List.mem_of_getElem? (i := 188) rfl)) rfl
theorem k5_189 : (Jvm.Cond.constant "AlarmMatrixModel" (145 : Nat) (20059310 : Int32)) ∈ gw := in_gw (in_t5 (List.mem_of_getElem? (i := 189) rfl)) rfl
theorem k5_190 : (Jvm.Cond.constant "AlarmMatrixModel" (146 : Nat) (145707 : Int32)) ∈ gw := in_gw (in_t5 (List.mem_of_getElem? (i := 190) rfl)) rfl
theorem k5_191 : (Jvm.Cond.constant "AlarmMatrixModel" (147 : Nat) (374834 : Int32)) ∈ gw := in_gw (in_t5 (List.mem_of_getElem? (i := 191) rfl)) rfl
theorem k5_192 : (Jvm.Cond.constant "AlarmMatrixModel" (148 : Nat) (26259620 : Int32)) ∈ gw := in_gw (in_t5 (List.mem_of_getElem? (i := 192) rfl)) rfl
theorem k5_193 : (Jvm.Cond.constant "AlarmMatrixModel" (149 : Nat) (628196 : Int32)) ∈ gw := in_gw (in_t5 (List.mem_of_getElem? (i := 193) rfl)) rfl
theorem k5_194 : (Jvm.Cond.methodLink "AlarmMatrixModel" (150 : Nat) ({ cls := "AlarmMatrixModel", name := "stop", desc := "()V" } : Jvm.MethodName)) ∈ gw := in_gw (in_t5 (List.mem_of_getElem? (i := 194) rfl)) rfl
theorem k5_196 : (Jvm.Cond.instanceMethod ({ cls := "AlarmMatrixModel", name := "stop", desc := "()V" } : Jvm.MethodName)) ∈ gw := in_gw (in_t5 (List.mem_of_getElem? (i := 196) rfl)) rfl
theorem k5_197 : (Jvm.Cond.code ({ cls := "AlarmMatrixModel", name := "stop", desc := "()V" } : Jvm.MethodName) prog_12_method_10_code (1 : Nat) (Option.none : Option Jvm.ClassFile.FieldType)) ∈ gw := in_gw (in_t5 (List.mem_of_getElem? (i := 197) rfl)) rfl
theorem k5_198 : (Jvm.Cond.methodLink "AlarmMatrixLaw" (95 : Nat) ({ cls := "AlarmMatrixModel", name := "cutText", desc := "(I)I" } : Jvm.MethodName)) ∈ gw := in_gw (in_t5 (List.mem_of_getElem? (i := 198) rfl)) rfl
theorem k5_199 : (Jvm.Cond.instanceMethod ({ cls := "AlarmMatrixModel", name := "cutText", desc := "(I)I" } : Jvm.MethodName)) ∈ gw := in_gw (in_t5 (List.mem_of_getElem? (i := 199) rfl)) rfl
theorem k5_200 : (Jvm.Cond.selects "AlarmMatrixModel" ({ cls := "AlarmMatrixModel", name := "cutText", desc := "(I)I" } : Jvm.MethodName) ({ cls := "AlarmMatrixModel", name := "cutText", desc := "(I)I" } : Jvm.MethodName)) ∈ gw := in_gw (in_t5 (List.mem_of_getElem? (i := 200) rfl)) rfl
theorem k5_201 : (Jvm.Cond.code ({ cls := "AlarmMatrixModel", name := "cutText", desc := "(I)I" } : Jvm.MethodName) prog_12_method_13_code (2 : Nat) (Option.some Jvm.ClassFile.FieldType.int)) ∈ gw := in_gw (in_t5 (List.mem_of_getElem? (i := 201) rfl)) rfl
theorem k5_202 : (Jvm.Cond.methodLink "AlarmMatrixLaw" (99 : Nat) ({ cls := "AlarmMatrixModel", name := "read", desc := "()I" } : Jvm.MethodName)) ∈ gw := in_gw (in_t5 (List.mem_of_getElem? (i := 202) rfl)) rfl
theorem k5_203 : (Jvm.Cond.instanceMethod ({ cls := "AlarmMatrixModel", name := "read", desc := "()I" } : Jvm.MethodName)) ∈ gw := in_gw (in_t5 (List.mem_of_getElem? (i := 203) rfl)) rfl
theorem k5_204 : (Jvm.Cond.selects "AlarmMatrixModel" ({ cls := "AlarmMatrixModel", name := "read", desc := "()I" } : Jvm.MethodName) ({ cls := "AlarmMatrixModel", name := "read", desc := "()I" } : Jvm.MethodName)) ∈ gw := in_gw (in_t5 (List.mem_of_getElem? (i := 204) rfl)) rfl
theorem k5_205 : (Jvm.Cond.code ({ cls := "AlarmMatrixModel", name := "read", desc := "()I" } : Jvm.MethodName) prog_12_method_30_code (2 : Nat) (Option.some Jvm.ClassFile.FieldType.int)) ∈ gw := in_gw (in_t5 (List.mem_of_getElem? (i := 205) rfl)) rfl
theorem k5_206 : (Jvm.Cond.methodLink "AlarmMatrixModel" (212 : Nat) ({ cls := "AlarmMatrixModel", name := "list", desc := "()V" } : Jvm.MethodName)) ∈ gw := in_gw (in_t5 (List.mem_of_getElem? (i := 206) rfl)) rfl
theorem k5_208 : (Jvm.Cond.instanceMethod ({ cls := "AlarmMatrixModel", name := "list", desc := "()V" } : Jvm.MethodName)) ∈ gw := in_gw (in_t5 (List.mem_of_getElem? (i := 208) rfl)) rfl
theorem k5_209 : (Jvm.Cond.code ({ cls := "AlarmMatrixModel", name := "list", desc := "()V" } : Jvm.MethodName) prog_12_method_15_code (4 : Nat) (Option.none : Option Jvm.ClassFile.FieldType)) ∈ gw := in_gw (in_t5 (List.mem_of_getElem? (i := 209) rfl)) rfl
theorem k5_210 : (Jvm.Cond.methodLink "AlarmMatrixModel" (156 : Nat) ({ cls := "AlarmMatrixModel", name := "sort", desc := "(I)I" } : Jvm.MethodName)) ∈ gw := in_gw (in_t5 (List.mem_of_getElem? (i := 210) rfl)) rfl
theorem k5_211 : (Jvm.Cond.static ({ cls := "AlarmMatrixModel", name := "sort", desc := "(I)I" } : Jvm.MethodName)) ∈ gw := in_gw (in_t5 (List.mem_of_getElem? (i := 211) rfl)) rfl
theorem k5_212 : (Jvm.Cond.code ({ cls := "AlarmMatrixModel", name := "sort", desc := "(I)I" } : Jvm.MethodName) prog_12_method_14_code (1 : Nat) (Option.some Jvm.ClassFile.FieldType.int)) ∈ gw := in_gw (in_t5 (List.mem_of_getElem? (i := 212) rfl)) rfl
theorem k5_213 : (Jvm.Cond.methodLink "AlarmMatrixModel" (215 : Nat) ({ cls := "AlarmMatrixModel", name := "readSentence", desc := "()V" } : Jvm.MethodName)) ∈ gw := in_gw (in_t5 (List.mem_of_getElem? (i := 213) rfl)) rfl
theorem k5_215 : (Jvm.Cond.instanceMethod ({ cls := "AlarmMatrixModel", name := "readSentence", desc := "()V" } : Jvm.MethodName)) ∈ gw := in_gw (in_t5 (List.mem_of_getElem? (i := 215) rfl)) rfl
theorem k5_216 : (Jvm.Cond.code ({ cls := "AlarmMatrixModel", name := "readSentence", desc := "()V" } : Jvm.MethodName) prog_12_method_29_code (2 : Nat) (Option.none : Option Jvm.ClassFile.FieldType)) ∈ gw := in_gw (in_t5 (List.mem_of_getElem? (i := 216) rfl)) rfl
theorem k5_217 : (Jvm.Cond.methodLink "AlarmMatrixModel" (166 : Nat) ({ cls := "AlarmMatrixModel", name := "letters", desc := "()I" } : Jvm.MethodName)) ∈ gw := in_gw (in_t5 (List.mem_of_getElem? (i := 217) rfl)) rfl
theorem k5_219 : (Jvm.Cond.instanceMethod ({ cls := "AlarmMatrixModel", name := "letters", desc := "()I" } : Jvm.MethodName)) ∈ gw := in_gw (in_t5 (List.mem_of_getElem? (i := 219) rfl)) rfl
theorem k5_220 : (Jvm.Cond.code ({ cls := "AlarmMatrixModel", name := "letters", desc := "()I" } : Jvm.MethodName) prog_12_method_16_code (3 : Nat) (Option.some Jvm.ClassFile.FieldType.int)) ∈ gw := in_gw (in_t5 (List.mem_of_getElem? (i := 220) rfl)) rfl
theorem k5_221 : (Jvm.Cond.methodLink "AlarmMatrixModel" (200 : Nat) ({ cls := "AlarmMatrixModel", name := "readZone", desc := "()V" } : Jvm.MethodName)) ∈ gw := in_gw (in_t5 (List.mem_of_getElem? (i := 221) rfl)) rfl
theorem k5_223 : (Jvm.Cond.instanceMethod ({ cls := "AlarmMatrixModel", name := "readZone", desc := "()V" } : Jvm.MethodName)) ∈ gw := in_gw (in_t5 (List.mem_of_getElem? (i := 223) rfl)) rfl
theorem k5_224 : (Jvm.Cond.code ({ cls := "AlarmMatrixModel", name := "readZone", desc := "()V" } : Jvm.MethodName) prog_12_method_24_code (6 : Nat) (Option.none : Option Jvm.ClassFile.FieldType)) ∈ gw := in_gw (in_t5 (List.mem_of_getElem? (i := 224) rfl)) rfl
theorem k5_225 : (Jvm.Cond.methodLink "AlarmMatrixModel" (177 : Nat) ({ cls := "AlarmMatrixModel", name := "look", desc := "(II)I" } : Jvm.MethodName)) ∈ gw := in_gw (in_t5 (List.mem_of_getElem? (i := 225) rfl)) rfl
theorem k5_227 : (Jvm.Cond.instanceMethod ({ cls := "AlarmMatrixModel", name := "look", desc := "(II)I" } : Jvm.MethodName)) ∈ gw := in_gw (in_t5 (List.mem_of_getElem? (i := 227) rfl)) rfl
theorem k5_228 : (Jvm.Cond.code ({ cls := "AlarmMatrixModel", name := "look", desc := "(II)I" } : Jvm.MethodName) prog_12_method_21_code (6 : Nat) (Option.some Jvm.ClassFile.FieldType.int)) ∈ gw := in_gw (in_t5 (List.mem_of_getElem? (i := 228) rfl)) rfl
theorem k5_229 : (Jvm.Cond.methodLink "AlarmMatrixModel" (170 : Nat) ({ cls := "AlarmMatrixModel", name := "want", desc := "(Z)Z" } : Jvm.MethodName)) ∈ gw := in_gw (in_t5 (List.mem_of_getElem? (i := 229) rfl)) rfl
theorem k5_231 : (Jvm.Cond.instanceMethod ({ cls := "AlarmMatrixModel", name := "want", desc := "(Z)Z" } : Jvm.MethodName)) ∈ gw := in_gw (in_t5 (List.mem_of_getElem? (i := 231) rfl)) rfl
theorem k5_232 : (Jvm.Cond.code ({ cls := "AlarmMatrixModel", name := "want", desc := "(Z)Z" } : Jvm.MethodName) prog_12_method_18_code (2 : Nat) (Option.some Jvm.ClassFile.FieldType.boolean)) ∈ gw := in_gw (in_t5 (List.mem_of_getElem? (i := 232) rfl)) rfl
theorem k5_233 : (Jvm.Cond.methodLink "AlarmMatrixModel" (181 : Nat) ({ cls := "AlarmMatrixModel", name := "take", desc := "(I)V" } : Jvm.MethodName)) ∈ gw := in_gw (in_t5 (List.mem_of_getElem? (i := 233) rfl)) rfl
theorem k5_235 : (Jvm.Cond.instanceMethod ({ cls := "AlarmMatrixModel", name := "take", desc := "(I)V" } : Jvm.MethodName)) ∈ gw := in_gw (in_t5 (List.mem_of_getElem? (i := 235) rfl)) rfl
theorem k5_236 : (Jvm.Cond.code ({ cls := "AlarmMatrixModel", name := "take", desc := "(I)V" } : Jvm.MethodName) prog_12_method_19_code (2 : Nat) (Option.none : Option Jvm.ClassFile.FieldType)) ∈ gw := in_gw (in_t5 (List.mem_of_getElem? (i := 236) rfl)) rfl
theorem k5_237 : (Jvm.Cond.methodLink "AlarmMatrixModel" (184 : Nat) ({ cls := "AlarmMatrixModel", name := "takeNumber", desc := "(II)I" } : Jvm.MethodName)) ∈ gw := in_gw (in_t5 (List.mem_of_getElem? (i := 237) rfl)) rfl
theorem k5_239 : (Jvm.Cond.instanceMethod ({ cls := "AlarmMatrixModel", name := "takeNumber", desc := "(II)I" } : Jvm.MethodName)) ∈ gw := in_gw (in_t5 (List.mem_of_getElem? (i := 239) rfl)) rfl
theorem k6_0 : (Jvm.Cond.code ({ cls := "AlarmMatrixModel", name := "takeNumber", desc := "(II)I" } : Jvm.MethodName) prog_12_method_22_code (4 : Nat) (Option.some Jvm.ClassFile.FieldType.int)) ∈ gw := in_gw (in_t6 (List.mem_of_getElem? (i := 0) rfl)) rfl
theorem k6_1 : (Jvm.Cond.methodLink "AlarmMatrixModel" (187 : Nat) ({ cls := "AlarmMatrixModel", name := "has", desc := "(II)Z" } : Jvm.MethodName)) ∈ gw := in_gw (in_t6 (List.mem_of_getElem? (i := 1) rfl)) rfl
theorem k6_3 : (Jvm.Cond.instanceMethod ({ cls := "AlarmMatrixModel", name := "has", desc := "(II)Z" } : Jvm.MethodName)) ∈ gw := in_gw (in_t6 (List.mem_of_getElem? (i := 3) rfl)) rfl
theorem k6_4 : (Jvm.Cond.code ({ cls := "AlarmMatrixModel", name := "has", desc := "(II)Z" } : Jvm.MethodName) prog_12_method_23_code (5 : Nat) (Option.some Jvm.ClassFile.FieldType.boolean)) ∈ gw := in_gw (in_t6 (List.mem_of_getElem? (i := 4) rfl)) rfl
theorem k6_5 : (Jvm.Cond.methodLink "AlarmMatrixModel" (174 : Nat) ({ cls := "AlarmMatrixModel", name := "isSign", desc := "(I)Z" } : Jvm.MethodName)) ∈ gw := in_gw (in_t6 (List.mem_of_getElem? (i := 5) rfl)) rfl
theorem k6_7 : (Jvm.Cond.instanceMethod ({ cls := "AlarmMatrixModel", name := "isSign", desc := "(I)Z" } : Jvm.MethodName)) ∈ gw := in_gw (in_t6 (List.mem_of_getElem? (i := 7) rfl)) rfl
theorem k6_8 : (Jvm.Cond.code ({ cls := "AlarmMatrixModel", name := "isSign", desc := "(I)Z" } : Jvm.MethodName) prog_12_method_17_code (2 : Nat) (Option.some Jvm.ClassFile.FieldType.boolean)) ∈ gw := in_gw (in_t6 (List.mem_of_getElem? (i := 8) rfl)) rfl
theorem k6_9 : (Jvm.Cond.methodLink "AlarmMatrixModel" (203 : Nat) ({ cls := "AlarmMatrixModel", name := "readAct", desc := "()V" } : Jvm.MethodName)) ∈ gw := in_gw (in_t6 (List.mem_of_getElem? (i := 9) rfl)) rfl
theorem k6_11 : (Jvm.Cond.instanceMethod ({ cls := "AlarmMatrixModel", name := "readAct", desc := "()V" } : Jvm.MethodName)) ∈ gw := in_gw (in_t6 (List.mem_of_getElem? (i := 11) rfl)) rfl
theorem k6_12 : (Jvm.Cond.code ({ cls := "AlarmMatrixModel", name := "readAct", desc := "()V" } : Jvm.MethodName) prog_12_method_25_code (2 : Nat) (Option.none : Option Jvm.ClassFile.FieldType)) ∈ gw := in_gw (in_t6 (List.mem_of_getElem? (i := 12) rfl)) rfl
theorem k6_13 : (Jvm.Cond.methodLink "AlarmMatrixModel" (191 : Nat) ({ cls := "AlarmMatrixModel", name := "takeStop", desc := "()V" } : Jvm.MethodName)) ∈ gw := in_gw (in_t6 (List.mem_of_getElem? (i := 13) rfl)) rfl
theorem k6_15 : (Jvm.Cond.instanceMethod ({ cls := "AlarmMatrixModel", name := "takeStop", desc := "()V" } : Jvm.MethodName)) ∈ gw := in_gw (in_t6 (List.mem_of_getElem? (i := 15) rfl)) rfl
theorem k6_16 : (Jvm.Cond.code ({ cls := "AlarmMatrixModel", name := "takeStop", desc := "()V" } : Jvm.MethodName) prog_12_method_20_code (1 : Nat) (Option.none : Option Jvm.ClassFile.FieldType)) ∈ gw := in_gw (in_t6 (List.mem_of_getElem? (i := 16) rfl)) rfl
theorem k6_17 : (Jvm.Cond.methodLink "AlarmMatrixModel" (206 : Nat) ({ cls := "AlarmMatrixModel", name := "readRow", desc := "()V" } : Jvm.MethodName)) ∈ gw := in_gw (in_t6 (List.mem_of_getElem? (i := 17) rfl)) rfl
theorem k6_19 : (Jvm.Cond.instanceMethod ({ cls := "AlarmMatrixModel", name := "readRow", desc := "()V" } : Jvm.MethodName)) ∈ gw := in_gw (in_t6 (List.mem_of_getElem? (i := 19) rfl)) rfl
theorem k6_20 : (Jvm.Cond.code ({ cls := "AlarmMatrixModel", name := "readRow", desc := "()V" } : Jvm.MethodName) prog_12_method_27_code (4 : Nat) (Option.none : Option Jvm.ClassFile.FieldType)) ∈ gw := in_gw (in_t6 (List.mem_of_getElem? (i := 20) rfl)) rfl
theorem k6_21 : (Jvm.Cond.methodLink "AlarmMatrixModel" (194 : Nat) ({ cls := "AlarmMatrixModel", name := "takeZone", desc := "(I)I" } : Jvm.MethodName)) ∈ gw := in_gw (in_t6 (List.mem_of_getElem? (i := 21) rfl)) rfl
theorem k6_23 : (Jvm.Cond.instanceMethod ({ cls := "AlarmMatrixModel", name := "takeZone", desc := "(I)I" } : Jvm.MethodName)) ∈ gw := in_gw (in_t6 (List.mem_of_getElem? (i := 23) rfl)) rfl
theorem k6_24 : (Jvm.Cond.code ({ cls := "AlarmMatrixModel", name := "takeZone", desc := "(I)I" } : Jvm.MethodName) prog_12_method_26_code (3 : Nat) (Option.some Jvm.ClassFile.FieldType.int)) ∈ gw := in_gw (in_t6 (List.mem_of_getElem? (i := 24) rfl)) rfl
theorem k6_25 : (Jvm.Cond.methodLink "AlarmMatrixModel" (209 : Nat) ({ cls := "AlarmMatrixModel", name := "readHold", desc := "()V" } : Jvm.MethodName)) ∈ gw := in_gw (in_t6 (List.mem_of_getElem? (i := 25) rfl)) rfl
theorem k6_27 : (Jvm.Cond.instanceMethod ({ cls := "AlarmMatrixModel", name := "readHold", desc := "()V" } : Jvm.MethodName)) ∈ gw := in_gw (in_t6 (List.mem_of_getElem? (i := 27) rfl)) rfl
theorem k6_28 : (Jvm.Cond.code ({ cls := "AlarmMatrixModel", name := "readHold", desc := "()V" } : Jvm.MethodName) prog_12_method_28_code (2 : Nat) (Option.none : Option Jvm.ClassFile.FieldType)) ∈ gw := in_gw (in_t6 (List.mem_of_getElem? (i := 28) rfl)) rfl
theorem k6_29 : (Jvm.Cond.methodLink "AlarmMatrixModel" (218 : Nat) ({ cls := "AlarmMatrixModel", name := "take", desc := "()V" } : Jvm.MethodName)) ∈ gw := in_gw (in_t6 (List.mem_of_getElem? (i := 29) rfl)) rfl
theorem k6_31 : (Jvm.Cond.instanceMethod ({ cls := "AlarmMatrixModel", name := "take", desc := "()V" } : Jvm.MethodName)) ∈ gw := in_gw (in_t6 (List.mem_of_getElem? (i := 31) rfl)) rfl
theorem k6_32 : (Jvm.Cond.code ({ cls := "AlarmMatrixModel", name := "take", desc := "()V" } : Jvm.MethodName) prog_12_method_31_code (3 : Nat) (Option.none : Option Jvm.ClassFile.FieldType)) ∈ gw := in_gw (in_t6 (List.mem_of_getElem? (i := 32) rfl)) rfl
theorem k6_33 : (Jvm.Cond.methodLink "AlarmMatrixModel" (223 : Nat) ({ cls := "AlarmMatrixModel", name := "rests", desc := "(I)V" } : Jvm.MethodName)) ∈ gw := in_gw (in_t6 (List.mem_of_getElem? (i := 33) rfl)) rfl
theorem k6_35 : (Jvm.Cond.instanceMethod ({ cls := "AlarmMatrixModel", name := "rests", desc := "(I)V" } : Jvm.MethodName)) ∈ gw := in_gw (in_t6 (List.mem_of_getElem? (i := 35) rfl)) rfl
theorem k6_36 : (Jvm.Cond.code ({ cls := "AlarmMatrixModel", name := "rests", desc := "(I)V" } : Jvm.MethodName) prog_12_method_48_code (2 : Nat) (Option.none : Option Jvm.ClassFile.FieldType)) ∈ gw := in_gw (in_t6 (List.mem_of_getElem? (i := 36) rfl)) rfl
theorem k6_37 : (Jvm.Cond.methodLink "AlarmMatrixLaw" (103 : Nat) ({ cls := "AlarmMatrixModel", name := "signal", desc := "(II)I" } : Jvm.MethodName)) ∈ gw := in_gw (in_t6 (List.mem_of_getElem? (i := 37) rfl)) rfl
theorem k6_38 : (Jvm.Cond.instanceMethod ({ cls := "AlarmMatrixModel", name := "signal", desc := "(II)I" } : Jvm.MethodName)) ∈ gw := in_gw (in_t6 (List.mem_of_getElem? (i := 38) rfl)) rfl
theorem k6_39 : (Jvm.Cond.selects "AlarmMatrixModel" ({ cls := "AlarmMatrixModel", name := "signal", desc := "(II)I" } : Jvm.MethodName) ({ cls := "AlarmMatrixModel", name := "signal", desc := "(II)I" } : Jvm.MethodName)) ∈ gw := in_gw (in_t6 (List.mem_of_getElem? (i := 39) rfl)) rfl
theorem k6_40 : (Jvm.Cond.code ({ cls := "AlarmMatrixModel", name := "signal", desc := "(II)I" } : Jvm.MethodName) prog_12_method_34_code (4 : Nat) (Option.some Jvm.ClassFile.FieldType.int)) ∈ gw := in_gw (in_t6 (List.mem_of_getElem? (i := 40) rfl)) rfl
theorem k6_41 : (Jvm.Cond.methodLink "AlarmMatrixModel" (226 : Nat) ({ cls := "AlarmMatrixModel", name := "isPoint", desc := "(I)Z" } : Jvm.MethodName)) ∈ gw := in_gw (in_t6 (List.mem_of_getElem? (i := 41) rfl)) rfl
theorem k6_43 : (Jvm.Cond.instanceMethod ({ cls := "AlarmMatrixModel", name := "isPoint", desc := "(I)Z" } : Jvm.MethodName)) ∈ gw := in_gw (in_t6 (List.mem_of_getElem? (i := 43) rfl)) rfl
theorem k6_44 : (Jvm.Cond.code ({ cls := "AlarmMatrixModel", name := "isPoint", desc := "(I)Z" } : Jvm.MethodName) prog_12_method_32_code (2 : Nat) (Option.some Jvm.ClassFile.FieldType.boolean)) ∈ gw := in_gw (in_t6 (List.mem_of_getElem? (i := 44) rfl)) rfl
theorem k6_45 : (Jvm.Cond.methodLink "AlarmMatrixLaw" (107 : Nat) ({ cls := "AlarmMatrixModel", name := "fault", desc := "(IZ)Z" } : Jvm.MethodName)) ∈ gw := in_gw (in_t6 (List.mem_of_getElem? (i := 45) rfl)) rfl
theorem k6_46 : (Jvm.Cond.instanceMethod ({ cls := "AlarmMatrixModel", name := "fault", desc := "(IZ)Z" } : Jvm.MethodName)) ∈ gw := in_gw (in_t6 (List.mem_of_getElem? (i := 46) rfl)) rfl
theorem k6_47 : (Jvm.Cond.selects "AlarmMatrixModel" ({ cls := "AlarmMatrixModel", name := "fault", desc := "(IZ)Z" } : Jvm.MethodName) ({ cls := "AlarmMatrixModel", name := "fault", desc := "(IZ)Z" } : Jvm.MethodName)) ∈ gw := in_gw (in_t6 (List.mem_of_getElem? (i := 47) rfl)) rfl
theorem k6_48 : (Jvm.Cond.code ({ cls := "AlarmMatrixModel", name := "fault", desc := "(IZ)Z" } : Jvm.MethodName) prog_12_method_35_code (4 : Nat) (Option.some Jvm.ClassFile.FieldType.boolean)) ∈ gw := in_gw (in_t6 (List.mem_of_getElem? (i := 48) rfl)) rfl
theorem k6_49 : (Jvm.Cond.methodLink "AlarmMatrixLaw" (110 : Nat) ({ cls := "AlarmMatrixModel", name := "disable", desc := "(II)I" } : Jvm.MethodName)) ∈ gw := in_gw (in_t6 (List.mem_of_getElem? (i := 49) rfl)) rfl
theorem k6_50 : (Jvm.Cond.instanceMethod ({ cls := "AlarmMatrixModel", name := "disable", desc := "(II)I" } : Jvm.MethodName)) ∈ gw := in_gw (in_t6 (List.mem_of_getElem? (i := 50) rfl)) rfl
theorem k6_51 : (Jvm.Cond.selects "AlarmMatrixModel" ({ cls := "AlarmMatrixModel", name := "disable", desc := "(II)I" } : Jvm.MethodName) ({ cls := "AlarmMatrixModel", name := "disable", desc := "(II)I" } : Jvm.MethodName)) ∈ gw := in_gw (in_t6 (List.mem_of_getElem? (i := 51) rfl)) rfl
theorem k6_52 : (Jvm.Cond.code ({ cls := "AlarmMatrixModel", name := "disable", desc := "(II)I" } : Jvm.MethodName) prog_12_method_36_code (4 : Nat) (Option.some Jvm.ClassFile.FieldType.int)) ∈ gw := in_gw (in_t6 (List.mem_of_getElem? (i := 52) rfl)) rfl
theorem k6_53 : (Jvm.Cond.constant "AlarmMatrixModel" (229 : Nat) (1000000 : Int32)) ∈ gw := in_gw (in_t6 (List.mem_of_getElem? (i := 53) rfl)) rfl
theorem k6_54 : (Jvm.Cond.methodLink "AlarmMatrixLaw" (113 : Nat) ({ cls := "AlarmMatrixModel", name := "loop", desc := "(II)I" } : Jvm.MethodName)) ∈ gw := in_gw (in_t6 (List.mem_of_getElem? (i := 54) rfl)) rfl
theorem k6_55 : (Jvm.Cond.instanceMethod ({ cls := "AlarmMatrixModel", name := "loop", desc := "(II)I" } : Jvm.MethodName)) ∈ gw := in_gw (in_t6 (List.mem_of_getElem? (i := 55) rfl)) rfl
theorem k6_56 : (Jvm.Cond.selects "AlarmMatrixModel" ({ cls := "AlarmMatrixModel", name := "loop", desc := "(II)I" } : Jvm.MethodName) ({ cls := "AlarmMatrixModel", name := "loop", desc := "(II)I" } : Jvm.MethodName)) ∈ gw := in_gw (in_t6 (List.mem_of_getElem? (i := 56) rfl)) rfl
theorem k6_57 : (Jvm.Cond.code ({ cls := "AlarmMatrixModel", name := "loop", desc := "(II)I" } : Jvm.MethodName) prog_12_method_37_code (4 : Nat) (Option.some Jvm.ClassFile.FieldType.int)) ∈ gw := in_gw (in_t6 (List.mem_of_getElem? (i := 57) rfl)) rfl
theorem k6_58 : (Jvm.Cond.methodLink "AlarmMatrixModel" (230 : Nat) ({ cls := "AlarmMatrixModel", name := "isLoop", desc := "(I)Z" } : Jvm.MethodName)) ∈ gw := in_gw (in_t6 (List.mem_of_getElem? (i := 58) rfl)) rfl
theorem k6_59 : (Jvm.Cond.static ({ cls := "AlarmMatrixModel", name := "isLoop", desc := "(I)Z" } : Jvm.MethodName)) ∈ gw := in_gw (in_t6 (List.mem_of_getElem? (i := 59) rfl)) rfl
theorem k6_60 : (Jvm.Cond.code ({ cls := "AlarmMatrixModel", name := "isLoop", desc := "(I)Z" } : Jvm.MethodName) prog_12_method_33_code (1 : Nat) (Option.some Jvm.ClassFile.FieldType.boolean)) ∈ gw := in_gw (in_t6 (List.mem_of_getElem? (i := 60) rfl)) rfl
theorem k6_61 : (Jvm.Cond.methodLink "AlarmMatrixLaw" (117 : Nat) ({ cls := "AlarmMatrixModel", name := "cut", desc := "(IIZ)Z" } : Jvm.MethodName)) ∈ gw := in_gw (in_t6 (List.mem_of_getElem? (i := 61) rfl)) rfl
theorem k6_62 : (Jvm.Cond.instanceMethod ({ cls := "AlarmMatrixModel", name := "cut", desc := "(IIZ)Z" } : Jvm.MethodName)) ∈ gw := in_gw (in_t6 (List.mem_of_getElem? (i := 62) rfl)) rfl
theorem k6_63 : (Jvm.Cond.selects "AlarmMatrixModel" ({ cls := "AlarmMatrixModel", name := "cut", desc := "(IIZ)Z" } : Jvm.MethodName) ({ cls := "AlarmMatrixModel", name := "cut", desc := "(IIZ)Z" } : Jvm.MethodName)) ∈ gw := in_gw (in_t6 (List.mem_of_getElem? (i := 63) rfl)) rfl
theorem k6_64 : (Jvm.Cond.code ({ cls := "AlarmMatrixModel", name := "cut", desc := "(IIZ)Z" } : Jvm.MethodName) prog_12_method_38_code (5 : Nat) (Option.some Jvm.ClassFile.FieldType.boolean)) ∈ gw := in_gw (in_t6 (List.mem_of_getElem? (i := 64) rfl)) rfl
theorem k6_65 : (Jvm.Cond.methodLink "AlarmMatrixLaw" (120 : Nat) ({ cls := "AlarmMatrixModel", name := "heard", desc := "(I)I" } : Jvm.MethodName)) ∈ gw := in_gw (in_t6 (List.mem_of_getElem? (i := 65) rfl)) rfl
theorem k6_66 : (Jvm.Cond.instanceMethod ({ cls := "AlarmMatrixModel", name := "heard", desc := "(I)I" } : Jvm.MethodName)) ∈ gw := in_gw (in_t6 (List.mem_of_getElem? (i := 66) rfl)) rfl
theorem k6_67 : (Jvm.Cond.selects "AlarmMatrixModel" ({ cls := "AlarmMatrixModel", name := "heard", desc := "(I)I" } : Jvm.MethodName) ({ cls := "AlarmMatrixModel", name := "heard", desc := "(I)I" } : Jvm.MethodName)) ∈ gw := in_gw (in_t6 (List.mem_of_getElem? (i := 67) rfl)) rfl
theorem k6_68 : (Jvm.Cond.code ({ cls := "AlarmMatrixModel", name := "heard", desc := "(I)I" } : Jvm.MethodName) prog_12_method_40_code (4 : Nat) (Option.some Jvm.ClassFile.FieldType.int)) ∈ gw := in_gw (in_t6 (List.mem_of_getElem? (i := 68) rfl)) rfl
theorem k6_69 : (Jvm.Cond.methodLink "AlarmMatrixModel" (233 : Nat) ({ cls := "AlarmMatrixModel", name := "isHeard", desc := "(I)Z" } : Jvm.MethodName)) ∈ gw := in_gw (in_t6 (List.mem_of_getElem? (i := 69) rfl)) rfl
theorem k6_71 : (Jvm.Cond.instanceMethod ({ cls := "AlarmMatrixModel", name := "isHeard", desc := "(I)Z" } : Jvm.MethodName)) ∈ gw := in_gw (in_t6 (List.mem_of_getElem? (i := 71) rfl)) rfl
theorem k6_72 : (Jvm.Cond.code ({ cls := "AlarmMatrixModel", name := "isHeard", desc := "(I)Z" } : Jvm.MethodName) prog_12_method_39_code (6 : Nat) (Option.some Jvm.ClassFile.FieldType.boolean)) ∈ gw := in_gw (in_t6 (List.mem_of_getElem? (i := 72) rfl)) rfl
theorem k6_73 : (Jvm.Cond.methodLink "AlarmMatrixLaw" (123 : Nat) ({ cls := "AlarmMatrixModel", name := "unreachable", desc := "(I)I" } : Jvm.MethodName)) ∈ gw := in_gw (in_t6 (List.mem_of_getElem? (i := 73) rfl)) rfl
theorem k6_74 : (Jvm.Cond.instanceMethod ({ cls := "AlarmMatrixModel", name := "unreachable", desc := "(I)I" } : Jvm.MethodName)) ∈ gw := in_gw (in_t6 (List.mem_of_getElem? (i := 74) rfl)) rfl
theorem k6_75 : (Jvm.Cond.selects "AlarmMatrixModel" ({ cls := "AlarmMatrixModel", name := "unreachable", desc := "(I)I" } : Jvm.MethodName) ({ cls := "AlarmMatrixModel", name := "unreachable", desc := "(I)I" } : Jvm.MethodName)) ∈ gw := in_gw (in_t6 (List.mem_of_getElem? (i := 75) rfl)) rfl
theorem k6_76 : (Jvm.Cond.code ({ cls := "AlarmMatrixModel", name := "unreachable", desc := "(I)I" } : Jvm.MethodName) prog_12_method_41_code (4 : Nat) (Option.some Jvm.ClassFile.FieldType.int)) ∈ gw := in_gw (in_t6 (List.mem_of_getElem? (i := 76) rfl)) rfl
theorem k6_77 : (Jvm.Cond.methodLink "AlarmMatrixLaw" (126 : Nat) ({ cls := "AlarmMatrixModel", name := "ticks", desc := "(I)I" } : Jvm.MethodName)) ∈ gw := in_gw (in_t6 (List.mem_of_getElem? (i := 77) rfl)) rfl
theorem k6_78 : (Jvm.Cond.instanceMethod ({ cls := "AlarmMatrixModel", name := "ticks", desc := "(I)I" } : Jvm.MethodName)) ∈ gw := in_gw (in_t6 (List.mem_of_getElem? (i := 78) rfl)) rfl
theorem k6_79 : (Jvm.Cond.selects "AlarmMatrixModel" ({ cls := "AlarmMatrixModel", name := "ticks", desc := "(I)I" } : Jvm.MethodName) ({ cls := "AlarmMatrixModel", name := "ticks", desc := "(I)I" } : Jvm.MethodName)) ∈ gw := in_gw (in_t6 (List.mem_of_getElem? (i := 79) rfl)) rfl
theorem k6_80 : (Jvm.Cond.code ({ cls := "AlarmMatrixModel", name := "ticks", desc := "(I)I" } : Jvm.MethodName) prog_12_method_52_code (6 : Nat) (Option.some Jvm.ClassFile.FieldType.int)) ∈ gw := in_gw (in_t6 (List.mem_of_getElem? (i := 80) rfl)) rfl
theorem k6_81 : (Jvm.Cond.methodLink "AlarmMatrixModel" (266 : Nat) ({ cls := "AlarmMatrixModel", name := "rankedOne", desc := "(I)I" } : Jvm.MethodName)) ∈ gw := in_gw (in_t6 (List.mem_of_getElem? (i := 81) rfl)) rfl
theorem k6_83 : (Jvm.Cond.instanceMethod ({ cls := "AlarmMatrixModel", name := "rankedOne", desc := "(I)I" } : Jvm.MethodName)) ∈ gw := in_gw (in_t6 (List.mem_of_getElem? (i := 83) rfl)) rfl
theorem k6_84 : (Jvm.Cond.code ({ cls := "AlarmMatrixModel", name := "rankedOne", desc := "(I)I" } : Jvm.MethodName) prog_12_method_50_code (6 : Nat) (Option.some Jvm.ClassFile.FieldType.int)) ∈ gw := in_gw (in_t6 (List.mem_of_getElem? (i := 84) rfl)) rfl
theorem k6_85 : (Jvm.Cond.methodLink "AlarmMatrixModel" (269 : Nat) ({ cls := "AlarmMatrixModel", name := "go", desc := "(I)I" } : Jvm.MethodName)) ∈ gw := in_gw (in_t6 (List.mem_of_getElem? (i := 85) rfl)) rfl
theorem k6_87 : (Jvm.Cond.instanceMethod ({ cls := "AlarmMatrixModel", name := "go", desc := "(I)I" } : Jvm.MethodName)) ∈ gw := in_gw (in_t6 (List.mem_of_getElem? (i := 87) rfl)) rfl
theorem k6_88 : (Jvm.Cond.code ({ cls := "AlarmMatrixModel", name := "go", desc := "(I)I" } : Jvm.MethodName) prog_12_method_51_code (3 : Nat) (Option.some Jvm.ClassFile.FieldType.int)) ∈ gw := in_gw (in_t6 (List.mem_of_getElem? (i := 88) rfl)) rfl
theorem k6_89 : (Jvm.Cond.methodLink "AlarmMatrixModel" (258 : Nat) ({ cls := "AlarmMatrixModel", name := "isCalled", desc := "(IZ)Z" } : Jvm.MethodName)) ∈ gw := in_gw (in_t6 (List.mem_of_getElem? (i := 89) rfl)) rfl
theorem k6_91 : (Jvm.Cond.instanceMethod ({ cls := "AlarmMatrixModel", name := "isCalled", desc := "(IZ)Z" } : Jvm.MethodName)) ∈ gw := in_gw (in_t6 (List.mem_of_getElem? (i := 91) rfl)) rfl
theorem k6_92 : (Jvm.Cond.code ({ cls := "AlarmMatrixModel", name := "isCalled", desc := "(IZ)Z" } : Jvm.MethodName) prog_12_method_47_code (7 : Nat) (Option.some Jvm.ClassFile.FieldType.boolean)) ∈ gw := in_gw (in_t6 (List.mem_of_getElem? (i := 92) rfl)) rfl
theorem k6_93 : (Jvm.Cond.methodLink "AlarmMatrixModel" (249 : Nat) ({ cls := "AlarmMatrixModel", name := "isMet", desc := "(I)Z" } : Jvm.MethodName)) ∈ gw := in_gw (in_t6 (List.mem_of_getElem? (i := 93) rfl)) rfl
theorem k6_95 : (Jvm.Cond.instanceMethod ({ cls := "AlarmMatrixModel", name := "isMet", desc := "(I)Z" } : Jvm.MethodName)) ∈ gw := in_gw (in_t6 (List.mem_of_getElem? (i := 95) rfl)) rfl
theorem k6_96 : (Jvm.Cond.code ({ cls := "AlarmMatrixModel", name := "isMet", desc := "(I)Z" } : Jvm.MethodName) prog_12_method_46_code (2 : Nat) (Option.some Jvm.ClassFile.FieldType.boolean)) ∈ gw := in_gw (in_t6 (List.mem_of_getElem? (i := 96) rfl)) rfl
theorem k6_97 : (Jvm.Cond.methodLink "AlarmMatrixModel" (246 : Nat) ({ cls := "AlarmMatrixModel", name := "isOn", desc := "(I)Z" } : Jvm.MethodName)) ∈ gw := in_gw (in_t6 (List.mem_of_getElem? (i := 97) rfl)) rfl
theorem k6_99 : (Jvm.Cond.instanceMethod ({ cls := "AlarmMatrixModel", name := "isOn", desc := "(I)Z" } : Jvm.MethodName)) ∈ gw := in_gw (in_t6 (List.mem_of_getElem? (i := 99) rfl)) rfl
theorem k6_100 : (Jvm.Cond.code ({ cls := "AlarmMatrixModel", name := "isOn", desc := "(I)Z" } : Jvm.MethodName) prog_12_method_44_code (2 : Nat) (Option.some Jvm.ClassFile.FieldType.boolean)) ∈ gw := in_gw (in_t6 (List.mem_of_getElem? (i := 100) rfl)) rfl
theorem k6_101 : (Jvm.Cond.methodLink "AlarmMatrixModel" (242 : Nat) ({ cls := "AlarmMatrixModel", name := "ofZone", desc := "(IZ)I" } : Jvm.MethodName)) ∈ gw := in_gw (in_t6 (List.mem_of_getElem? (i := 101) rfl)) rfl
theorem k6_103 : (Jvm.Cond.instanceMethod ({ cls := "AlarmMatrixModel", name := "ofZone", desc := "(IZ)I" } : Jvm.MethodName)) ∈ gw := in_gw (in_t6 (List.mem_of_getElem? (i := 103) rfl)) rfl
theorem k6_104 : (Jvm.Cond.code ({ cls := "AlarmMatrixModel", name := "ofZone", desc := "(IZ)I" } : Jvm.MethodName) prog_12_method_43_code (6 : Nat) (Option.some Jvm.ClassFile.FieldType.int)) ∈ gw := in_gw (in_t6 (List.mem_of_getElem? (i := 104) rfl)) rfl
theorem k6_105 : (Jvm.Cond.methodLink "AlarmMatrixModel" (239 : Nat) ({ cls := "AlarmMatrixModel", name := "counts", desc := "(I)Z" } : Jvm.MethodName)) ∈ gw := in_gw (in_t6 (List.mem_of_getElem? (i := 105) rfl)) rfl
theorem k6_107 : (Jvm.Cond.instanceMethod ({ cls := "AlarmMatrixModel", name := "counts", desc := "(I)Z" } : Jvm.MethodName)) ∈ gw := in_gw (in_t6 (List.mem_of_getElem? (i := 107) rfl)) rfl
theorem k6_108 : (Jvm.Cond.code ({ cls := "AlarmMatrixModel", name := "counts", desc := "(I)Z" } : Jvm.MethodName) prog_12_method_42_code (2 : Nat) (Option.some Jvm.ClassFile.FieldType.boolean)) ∈ gw := in_gw (in_t6 (List.mem_of_getElem? (i := 108) rfl)) rfl
theorem k6_109 : (Jvm.Cond.methodLink "AlarmMatrixModel" (252 : Nat) ({ cls := "AlarmMatrixModel", name := "isSure", desc := "(I)Z" } : Jvm.MethodName)) ∈ gw := in_gw (in_t6 (List.mem_of_getElem? (i := 109) rfl)) rfl
theorem k6_111 : (Jvm.Cond.instanceMethod ({ cls := "AlarmMatrixModel", name := "isSure", desc := "(I)Z" } : Jvm.MethodName)) ∈ gw := in_gw (in_t6 (List.mem_of_getElem? (i := 111) rfl)) rfl
theorem k6_112 : (Jvm.Cond.code ({ cls := "AlarmMatrixModel", name := "isSure", desc := "(I)Z" } : Jvm.MethodName) prog_12_method_45_code (3 : Nat) (Option.some Jvm.ClassFile.FieldType.boolean)) ∈ gw := in_gw (in_t6 (List.mem_of_getElem? (i := 112) rfl)) rfl
theorem k6_113 : (Jvm.Cond.methodLink "AlarmMatrixModel" (262 : Nat) ({ cls := "AlarmMatrixModel", name := "tell", desc := "(II)V" } : Jvm.MethodName)) ∈ gw := in_gw (in_t6 (List.mem_of_getElem? (i := 113) rfl)) rfl
theorem k6_115 : (Jvm.Cond.instanceMethod ({ cls := "AlarmMatrixModel", name := "tell", desc := "(II)V" } : Jvm.MethodName)) ∈ gw := in_gw (in_t6 (List.mem_of_getElem? (i := 115) rfl)) rfl
theorem k6_116 : (Jvm.Cond.code ({ cls := "AlarmMatrixModel", name := "tell", desc := "(II)V" } : Jvm.MethodName) prog_12_method_49_code (4 : Nat) (Option.none : Option Jvm.ClassFile.FieldType)) ∈ gw := in_gw (in_t6 (List.mem_of_getElem? (i := 116) rfl)) rfl
theorem k6_117 : (Jvm.Cond.methodLink "AlarmMatrixLaw" (129 : Nat) ({ cls := "AlarmMatrixModel", name := "person", desc := "(I)I" } : Jvm.MethodName)) ∈ gw := in_gw (in_t6 (List.mem_of_getElem? (i := 117) rfl)) rfl
theorem k6_118 : (Jvm.Cond.instanceMethod ({ cls := "AlarmMatrixModel", name := "person", desc := "(I)I" } : Jvm.MethodName)) ∈ gw := in_gw (in_t6 (List.mem_of_getElem? (i := 118) rfl)) rfl
theorem k6_119 : (Jvm.Cond.selects "AlarmMatrixModel" ({ cls := "AlarmMatrixModel", name := "person", desc := "(I)I" } : Jvm.MethodName) ({ cls := "AlarmMatrixModel", name := "person", desc := "(I)I" } : Jvm.MethodName)) ∈ gw := in_gw (in_t6 (List.mem_of_getElem? (i := 119) rfl)) rfl
theorem k6_120 : (Jvm.Cond.code ({ cls := "AlarmMatrixModel", name := "person", desc := "(I)I" } : Jvm.MethodName) prog_12_method_53_code (5 : Nat) (Option.some Jvm.ClassFile.FieldType.int)) ∈ gw := in_gw (in_t6 (List.mem_of_getElem? (i := 120) rfl)) rfl
theorem k6_121 : (Jvm.Cond.methodLink "AlarmMatrixLaw" (133 : Nat) ({ cls := "AlarmMatrixModel", name := "reset", desc := "()I" } : Jvm.MethodName)) ∈ gw := in_gw (in_t6 (List.mem_of_getElem? (i := 121) rfl)) rfl
theorem k6_122 : (Jvm.Cond.instanceMethod ({ cls := "AlarmMatrixModel", name := "reset", desc := "()I" } : Jvm.MethodName)) ∈ gw := in_gw (in_t6 (List.mem_of_getElem? (i := 122) rfl)) rfl
theorem k6_123 : (Jvm.Cond.selects "AlarmMatrixModel" ({ cls := "AlarmMatrixModel", name := "reset", desc := "()I" } : Jvm.MethodName) ({ cls := "AlarmMatrixModel", name := "reset", desc := "()I" } : Jvm.MethodName)) ∈ gw := in_gw (in_t6 (List.mem_of_getElem? (i := 123) rfl)) rfl
theorem k6_124 : (Jvm.Cond.code ({ cls := "AlarmMatrixModel", name := "reset", desc := "()I" } : Jvm.MethodName) prog_12_method_54_code (4 : Nat) (Option.some Jvm.ClassFile.FieldType.int)) ∈ gw := in_gw (in_t6 (List.mem_of_getElem? (i := 124) rfl)) rfl
theorem k6_125 : (Jvm.Cond.methodLink "AlarmMatrixLaw" (136 : Nat) ({ cls := "AlarmMatrixModel", name := "act", desc := "(II)I" } : Jvm.MethodName)) ∈ gw := in_gw (in_t6 (List.mem_of_getElem? (i := 125) rfl)) rfl
theorem k6_126 : (Jvm.Cond.instanceMethod ({ cls := "AlarmMatrixModel", name := "act", desc := "(II)I" } : Jvm.MethodName)) ∈ gw := in_gw (in_t6 (List.mem_of_getElem? (i := 126) rfl)) rfl
theorem k6_127 : (Jvm.Cond.selects "AlarmMatrixModel" ({ cls := "AlarmMatrixModel", name := "act", desc := "(II)I" } : Jvm.MethodName) ({ cls := "AlarmMatrixModel", name := "act", desc := "(II)I" } : Jvm.MethodName)) ∈ gw := in_gw (in_t6 (List.mem_of_getElem? (i := 127) rfl)) rfl
theorem k6_128 : (Jvm.Cond.code ({ cls := "AlarmMatrixModel", name := "act", desc := "(II)I" } : Jvm.MethodName) prog_12_method_55_code (3 : Nat) (Option.some Jvm.ClassFile.FieldType.int)) ∈ gw := in_gw (in_t6 (List.mem_of_getElem? (i := 128) rfl)) rfl
theorem k6_129 : (Jvm.Cond.methodLink "AlarmMatrixLaw" (139 : Nat) ({ cls := "AlarmMatrixModel", name := "zone", desc := "(II)I" } : Jvm.MethodName)) ∈ gw := in_gw (in_t6 (List.mem_of_getElem? (i := 129) rfl)) rfl
theorem k6_130 : (Jvm.Cond.instanceMethod ({ cls := "AlarmMatrixModel", name := "zone", desc := "(II)I" } : Jvm.MethodName)) ∈ gw := in_gw (in_t6 (List.mem_of_getElem? (i := 130) rfl)) rfl
theorem k6_131 : (Jvm.Cond.selects "AlarmMatrixModel" ({ cls := "AlarmMatrixModel", name := "zone", desc := "(II)I" } : Jvm.MethodName) ({ cls := "AlarmMatrixModel", name := "zone", desc := "(II)I" } : Jvm.MethodName)) ∈ gw := in_gw (in_t6 (List.mem_of_getElem? (i := 131) rfl)) rfl
theorem k6_132 : (Jvm.Cond.code ({ cls := "AlarmMatrixModel", name := "zone", desc := "(II)I" } : Jvm.MethodName) prog_12_method_56_code (3 : Nat) (Option.some Jvm.ClassFile.FieldType.int)) ∈ gw := in_gw (in_t6 (List.mem_of_getElem? (i := 132) rfl)) rfl
theorem k6_133 : (Jvm.Cond.methodLink "AlarmMatrixLaw" (142 : Nat) ({ cls := "AlarmMatrixModel", name := "row", desc := "(II)I" } : Jvm.MethodName)) ∈ gw := in_gw (in_t6 (List.mem_of_getElem? (i := 133) rfl)) rfl
theorem k6_134 : (Jvm.Cond.instanceMethod ({ cls := "AlarmMatrixModel", name := "row", desc := "(II)I" } : Jvm.MethodName)) ∈ gw := in_gw (in_t6 (List.mem_of_getElem? (i := 134) rfl)) rfl
theorem k6_135 : (Jvm.Cond.selects "AlarmMatrixModel" ({ cls := "AlarmMatrixModel", name := "row", desc := "(II)I" } : Jvm.MethodName) ({ cls := "AlarmMatrixModel", name := "row", desc := "(II)I" } : Jvm.MethodName)) ∈ gw := in_gw (in_t6 (List.mem_of_getElem? (i := 135) rfl)) rfl
theorem k6_136 : (Jvm.Cond.code ({ cls := "AlarmMatrixModel", name := "row", desc := "(II)I" } : Jvm.MethodName) prog_12_method_57_code (3 : Nat) (Option.some Jvm.ClassFile.FieldType.int)) ∈ gw := in_gw (in_t6 (List.mem_of_getElem? (i := 136) rfl)) rfl
theorem k6_137 : (Jvm.Cond.methodLink "AlarmMatrixLaw" (145 : Nat) ({ cls := "AlarmMatrixModel", name := "event", desc := "(II)I" } : Jvm.MethodName)) ∈ gw := in_gw (in_t6 (List.mem_of_getElem? (i := 137) rfl)) rfl
theorem k6_138 : (Jvm.Cond.instanceMethod ({ cls := "AlarmMatrixModel", name := "event", desc := "(II)I" } : Jvm.MethodName)) ∈ gw := in_gw (in_t6 (List.mem_of_getElem? (i := 138) rfl)) rfl
theorem k6_139 : (Jvm.Cond.selects "AlarmMatrixModel" ({ cls := "AlarmMatrixModel", name := "event", desc := "(II)I" } : Jvm.MethodName) ({ cls := "AlarmMatrixModel", name := "event", desc := "(II)I" } : Jvm.MethodName)) ∈ gw := in_gw (in_t6 (List.mem_of_getElem? (i := 139) rfl)) rfl
theorem k6_140 : (Jvm.Cond.code ({ cls := "AlarmMatrixModel", name := "event", desc := "(II)I" } : Jvm.MethodName) prog_12_method_58_code (4 : Nat) (Option.some Jvm.ClassFile.FieldType.int)) ∈ gw := in_gw (in_t6 (List.mem_of_getElem? (i := 140) rfl)) rfl
theorem k6_141 : (Jvm.Cond.methodLink "AlarmMatrixLaw" (148 : Nat) ({ cls := "AlarmMatrixModel", name := "ranked", desc := "(I)I" } : Jvm.MethodName)) ∈ gw := in_gw (in_t6 (List.mem_of_getElem? (i := 141) rfl)) rfl
theorem k6_142 : (Jvm.Cond.instanceMethod ({ cls := "AlarmMatrixModel", name := "ranked", desc := "(I)I" } : Jvm.MethodName)) ∈ gw := in_gw (in_t6 (List.mem_of_getElem? (i := 142) rfl)) rfl
theorem k6_143 : (Jvm.Cond.selects "AlarmMatrixModel" ({ cls := "AlarmMatrixModel", name := "ranked", desc := "(I)I" } : Jvm.MethodName) ({ cls := "AlarmMatrixModel", name := "ranked", desc := "(I)I" } : Jvm.MethodName)) ∈ gw := in_gw (in_t6 (List.mem_of_getElem? (i := 143) rfl)) rfl
theorem k6_144 : (Jvm.Cond.code ({ cls := "AlarmMatrixModel", name := "ranked", desc := "(I)I" } : Jvm.MethodName) prog_12_method_59_code (2 : Nat) (Option.some Jvm.ClassFile.FieldType.int)) ∈ gw := in_gw (in_t6 (List.mem_of_getElem? (i := 144) rfl)) rfl
theorem k6_145 : (Jvm.Cond.methodLink "AlarmMatrixLaw" (152 : Nat) ({ cls := "AlarmMatrixModel", name := "time", desc := "()I" } : Jvm.MethodName)) ∈ gw := in_gw (in_t6 (List.mem_of_getElem? (i := 145) rfl)) rfl
theorem k6_146 : (Jvm.Cond.instanceMethod ({ cls := "AlarmMatrixModel", name := "time", desc := "()I" } : Jvm.MethodName)) ∈ gw := in_gw (in_t6 (List.mem_of_getElem? (i := 146) rfl)) rfl
theorem k6_147 : (Jvm.Cond.selects "AlarmMatrixModel" ({ cls := "AlarmMatrixModel", name := "time", desc := "()I" } : Jvm.MethodName) ({ cls := "AlarmMatrixModel", name := "time", desc := "()I" } : Jvm.MethodName)) ∈ gw := in_gw (in_t6 (List.mem_of_getElem? (i := 147) rfl)) rfl
theorem k6_148 : (Jvm.Cond.code ({ cls := "AlarmMatrixModel", name := "time", desc := "()I" } : Jvm.MethodName) prog_12_method_60_code (1 : Nat) (Option.some Jvm.ClassFile.FieldType.int)) ∈ gw := in_gw (in_t6 (List.mem_of_getElem? (i := 148) rfl)) rfl
theorem k6_149 : (Jvm.Cond.arrayClass Jvm.ClassFile.FieldType.long) ∈ gw := in_gw (in_t6 (List.mem_of_getElem? (i := 149) rfl)) rfl
theorem k6_151 : (Jvm.Cond.fieldLink "java/lang/String" (9 : Nat) "java/lang/String" "value" "[B") ∈ gw := in_gw (in_t6 (List.mem_of_getElem? (i := 151) rfl)) rfl
theorem k6_152 : (Jvm.Cond.fieldLink "java/lang/String" (15 : Nat) "java/lang/String" "coder" "B") ∈ gw := in_gw (in_t6 (List.mem_of_getElem? (i := 152) rfl)) rfl
theorem i_AM : ∀ w ∈ u_ws "AlarmMatrix" T_AM 7, w ∈ gw := by decide +kernel
theorem i_Text : ∀ w ∈ u_ws "AlarmMatrix$Text" T_Text 3, w ∈ gw := by decide +kernel
theorem i_Words : ∀ w ∈ u_ws "AlarmMatrix$Words" T_Words 4, w ∈ gw := by decide +kernel
theorem i_Reader : ∀ w ∈ u_ws "AlarmMatrix$Reader" T_Reader 3, w ∈ gw := by decide +kernel
theorem i_Plan : ∀ w ∈ u_ws "AlarmMatrix$Plan" T_Plan 6, w ∈ gw := by decide +kernel
theorem i_Zones : ∀ w ∈ u_ws "AlarmMatrix$Zones" T_Zones 5, w ∈ gw := by decide +kernel
theorem i_Acts : ∀ w ∈ u_ws "AlarmMatrix$Acts" T_Acts 13, w ∈ gw := by decide +kernel
theorem i_Points : ∀ w ∈ u_ws "AlarmMatrix$Points" T_Points 6, w ∈ gw := by decide +kernel
theorem i_Loop : ∀ w ∈ u_ws "AlarmMatrix$Loop" T_Loop 5, w ∈ gw := by decide +kernel
theorem i_Events : ∀ w ∈ u_ws "AlarmMatrix$Events" T_Events 5, w ∈ gw := by decide +kernel
theorem i_MD : ∀ w ∈ u_ws "AlarmMatrixModel" T_MD 42, w ∈ gw := by decide +kernel
