section
-- ===== PART A: goes FIRST, ahead of the names: the tables' words, and 'selects' of the private methods out of them =====
/-- a private method of a class that the tables say can be made, by its rows of tables_1 -/
def lw_okq (q : MethodName × Nat) : Prop := (q.1.cls ≠ "java/lang/invoke/MethodHandle" ∧ q.1.cls ≠ "java/lang/invoke/VarHandle") ∧ Cond.instantiable q.1.cls q.2 ∈ tables_1 ∧ Cond.privateMethod q.1 ∈ tables_1 ∧ Cond.instanceMethod q.1 ∈ tables_1
theorem lw_p0 : lw_okq (⟨"EchoGauge", "save", "()V"⟩, 6) := ⟨⟨by decide +kernel, by decide +kernel⟩, List.mem_of_getElem? (i := 25) (by decide +kernel), List.mem_of_getElem? (i := 315) (by decide +kernel), List.mem_of_getElem? (i := 316) (by decide +kernel)⟩
theorem lw_p1 : lw_okq (⟨"EchoGauge", "savedAt", "(I)LEchoGauge$State;"⟩, 6) := ⟨⟨by decide +kernel, by decide +kernel⟩, List.mem_of_getElem? (i := 25) (by decide +kernel), List.mem_of_getElem? (i := 319) (by decide +kernel), List.mem_of_getElem? (i := 320) (by decide +kernel)⟩
theorem lw_p2 : lw_okq (⟨"EchoGauge$CommandText", "skipSpaces", "()V"⟩, 5) := ⟨⟨by decide +kernel, by decide +kernel⟩, List.mem_of_getElem? (i := 267) (by decide +kernel), List.mem_of_getElem? (i := 401) (by decide +kernel), List.mem_of_getElem? (i := 402) (by decide +kernel)⟩
theorem lw_p3 : lw_okq (⟨"EchoGauge$CommandText", "byteAt", "(I)I"⟩, 5) := ⟨⟨by decide +kernel, by decide +kernel⟩, List.mem_of_getElem? (i := 267) (by decide +kernel), List.mem_of_getElem? (i := 405) (by decide +kernel), List.mem_of_getElem? (i := 406) (by decide +kernel)⟩
theorem lw_p4 : lw_okq (⟨"EchoGauge$CommandText", "readWord", "()Z"⟩, 5) := ⟨⟨by decide +kernel, by decide +kernel⟩, List.mem_of_getElem? (i := 267) (by decide +kernel), List.mem_of_getElem? (i := 413) (by decide +kernel), List.mem_of_getElem? (i := 414) (by decide +kernel)⟩
theorem lw_p5 : lw_okq (⟨"EchoGauge$CommandText", "wordBetween", "(II)LEchoGauge$Word;"⟩, 5) := ⟨⟨by decide +kernel, by decide +kernel⟩, List.mem_of_getElem? (i := 267) (by decide +kernel), List.mem_of_getElem? (i := 420) (by decide +kernel), List.mem_of_getElem? (i := 421) (by decide +kernel)⟩
theorem lw_p6 : lw_okq (⟨"EchoGauge$CommandText", "standsAt", "(Ljava/lang/String;II)Z"⟩, 5) := ⟨⟨by decide +kernel, by decide +kernel⟩, List.mem_of_getElem? (i := 267) (by decide +kernel), List.mem_of_getElem? (i := 426) (by decide +kernel), List.mem_of_getElem? (i := 427) (by decide +kernel)⟩
theorem lw_p7 : lw_okq (⟨"EchoGauge$CommandText", "readNumber", "(I)Z"⟩, 5) := ⟨⟨by decide +kernel, by decide +kernel⟩, List.mem_of_getElem? (i := 267) (by decide +kernel), List.mem_of_getElem? (i := 478) (by decide +kernel), List.mem_of_getElem? (i := 479) (by decide +kernel)⟩
theorem lw_p8 : lw_okq (⟨"EchoGauge", "carryOut", "()Z"⟩, 6) := ⟨⟨by decide +kernel, by decide +kernel⟩, List.mem_of_getElem? (i := 25) (by decide +kernel), List.mem_of_getElem? (i := 488) (by decide +kernel), List.mem_of_getElem? (i := 489) (by decide +kernel)⟩
theorem lw_p9 : lw_okq (⟨"EchoGauge", "mayCarryOut", "(LEchoGauge$Word;II)Z"⟩, 6) := ⟨⟨by decide +kernel, by decide +kernel⟩, List.mem_of_getElem? (i := 25) (by decide +kernel), List.mem_of_getElem? (i := 496) (by decide +kernel), List.mem_of_getElem? (i := 497) (by decide +kernel)⟩
theorem lw_p10 : lw_okq (⟨"EchoGauge$State", "send", "()V"⟩, 7) := ⟨⟨by decide +kernel, by decide +kernel⟩, List.mem_of_getElem? (i := 33) (by decide +kernel), List.mem_of_getElem? (i := 596) (by decide +kernel), List.mem_of_getElem? (i := 597) (by decide +kernel)⟩
theorem lw_p11 : lw_okq (⟨"EchoGauge$Echoes", "put", "(IIII)V"⟩, 5) := ⟨⟨by decide +kernel, by decide +kernel⟩, List.mem_of_getElem? (i := 153) (by decide +kernel), List.mem_of_getElem? (i := 624) (by decide +kernel), List.mem_of_getElem? (i := 625) (by decide +kernel)⟩
theorem lw_p12 : lw_okq (⟨"EchoGauge$State", "sendBlades", "(I)Z"⟩, 7) := ⟨⟨by decide +kernel, by decide +kernel⟩, List.mem_of_getElem? (i := 33) (by decide +kernel), List.mem_of_getElem? (i := 628) (by decide +kernel), List.mem_of_getElem? (i := 629) (by decide +kernel)⟩
theorem lw_p13 : lw_okq (⟨"EchoGauge$Echoes", "insert", "(III)V"⟩, 5) := ⟨⟨by decide +kernel, by decide +kernel⟩, List.mem_of_getElem? (i := 153) (by decide +kernel), List.mem_of_getElem? (i := 656) (by decide +kernel), List.mem_of_getElem? (i := 657) (by decide +kernel)⟩
theorem lw_p14 : lw_okq (⟨"EchoGauge$Echoes", "comesBefore", "(IIII)Z"⟩, 5) := ⟨⟨by decide +kernel, by decide +kernel⟩, List.mem_of_getElem? (i := 153) (by decide +kernel), List.mem_of_getElem? (i := 660) (by decide +kernel), List.mem_of_getElem? (i := 661) (by decide +kernel)⟩
theorem lw_p15 : lw_okq (⟨"EchoGauge$Masks", "hasBin", "(I)Z"⟩, 2) := ⟨⟨by decide +kernel, by decide +kernel⟩, List.mem_of_getElem? (i := 138) (by decide +kernel), List.mem_of_getElem? (i := 680) (by decide +kernel), List.mem_of_getElem? (i := 681) (by decide +kernel)⟩
def lw_privs_1 : List (MethodName × Nat) := [(⟨"EchoGauge", "save", "()V"⟩, 6), (⟨"EchoGauge", "savedAt", "(I)LEchoGauge$State;"⟩, 6), (⟨"EchoGauge$CommandText", "skipSpaces", "()V"⟩, 5), (⟨"EchoGauge$CommandText", "byteAt", "(I)I"⟩, 5), (⟨"EchoGauge$CommandText", "readWord", "()Z"⟩, 5), (⟨"EchoGauge$CommandText", "wordBetween", "(II)LEchoGauge$Word;"⟩, 5), (⟨"EchoGauge$CommandText", "standsAt", "(Ljava/lang/String;II)Z"⟩, 5), (⟨"EchoGauge$CommandText", "readNumber", "(I)Z"⟩, 5), (⟨"EchoGauge", "carryOut", "()Z"⟩, 6), (⟨"EchoGauge", "mayCarryOut", "(LEchoGauge$Word;II)Z"⟩, 6), (⟨"EchoGauge$State", "send", "()V"⟩, 7), (⟨"EchoGauge$Echoes", "put", "(IIII)V"⟩, 5), (⟨"EchoGauge$State", "sendBlades", "(I)Z"⟩, 7), (⟨"EchoGauge$Echoes", "insert", "(III)V"⟩, 5), (⟨"EchoGauge$Echoes", "comesBefore", "(IIII)Z"⟩, 5), (⟨"EchoGauge$Masks", "hasBin", "(I)Z"⟩, 2)]
theorem lw_r1 : ∀ q ∈ lw_privs_1, lw_okq q := List.forall_mem_cons.mpr ⟨lw_p0, List.forall_mem_cons.mpr ⟨lw_p1, List.forall_mem_cons.mpr ⟨lw_p2, List.forall_mem_cons.mpr ⟨lw_p3, List.forall_mem_cons.mpr ⟨lw_p4, List.forall_mem_cons.mpr ⟨lw_p5, List.forall_mem_cons.mpr ⟨lw_p6, List.forall_mem_cons.mpr ⟨lw_p7, List.forall_mem_cons.mpr ⟨lw_p8, List.forall_mem_cons.mpr ⟨lw_p9, List.forall_mem_cons.mpr ⟨lw_p10, List.forall_mem_cons.mpr ⟨lw_p11, List.forall_mem_cons.mpr ⟨lw_p12, List.forall_mem_cons.mpr ⟨lw_p13, List.forall_mem_cons.mpr ⟨lw_p14, List.forall_mem_cons.mpr ⟨lw_p15, fun _ h => absurd h List.not_mem_nil⟩⟩⟩⟩⟩⟩⟩⟩⟩⟩⟩⟩⟩⟩⟩⟩
theorem lw_p16 : lw_okq (⟨"EchoGauge$State", "findCandidates", "()V"⟩, 7) := ⟨⟨by decide +kernel, by decide +kernel⟩, List.mem_of_getElem? (i := 33) (by decide +kernel), List.mem_of_getElem? (i := 691) (by decide +kernel), List.mem_of_getElem? (i := 692) (by decide +kernel)⟩
theorem lw_p17 : lw_okq (⟨"EchoGauge$State", "dropBlades", "()V"⟩, 7) := ⟨⟨by decide +kernel, by decide +kernel⟩, List.mem_of_getElem? (i := 33) (by decide +kernel), List.mem_of_getElem? (i := 712) (by decide +kernel), List.mem_of_getElem? (i := 713) (by decide +kernel)⟩
theorem lw_p18 : lw_okq (⟨"EchoGauge$Echoes", "isBetter", "(IIII)Z"⟩, 5) := ⟨⟨by decide +kernel, by decide +kernel⟩, List.mem_of_getElem? (i := 153) (by decide +kernel), List.mem_of_getElem? (i := 732) (by decide +kernel), List.mem_of_getElem? (i := 733) (by decide +kernel)⟩
theorem lw_p19 : lw_okq (⟨"EchoGauge$History", "push", "(II)V"⟩, 9) := ⟨⟨by decide +kernel, by decide +kernel⟩, List.mem_of_getElem? (i := 178) (by decide +kernel), List.mem_of_getElem? (i := 750) (by decide +kernel), List.mem_of_getElem? (i := 751) (by decide +kernel)⟩
theorem lw_p20 : lw_okq (⟨"EchoGauge$History", "pickOfRank", "(I)I"⟩, 9) := ⟨⟨by decide +kernel, by decide +kernel⟩, List.mem_of_getElem? (i := 178) (by decide +kernel), List.mem_of_getElem? (i := 759) (by decide +kernel), List.mem_of_getElem? (i := 760) (by decide +kernel)⟩
theorem lw_p21 : lw_okq (⟨"EchoGauge$History", "picksBelow", "(I)I"⟩, 9) := ⟨⟨by decide +kernel, by decide +kernel⟩, List.mem_of_getElem? (i := 178) (by decide +kernel), List.mem_of_getElem? (i := 763) (by decide +kernel), List.mem_of_getElem? (i := 764) (by decide +kernel)⟩
theorem lw_p22 : lw_okq (⟨"EchoGauge$History", "follow", "(II)V"⟩, 9) := ⟨⟨by decide +kernel, by decide +kernel⟩, List.mem_of_getElem? (i := 178) (by decide +kernel), List.mem_of_getElem? (i := 767) (by decide +kernel), List.mem_of_getElem? (i := 768) (by decide +kernel)⟩
theorem lw_p23 : lw_okq (⟨"EchoGauge$History", "miss", "(I)V"⟩, 9) := ⟨⟨by decide +kernel, by decide +kernel⟩, List.mem_of_getElem? (i := 178) (by decide +kernel), List.mem_of_getElem? (i := 771) (by decide +kernel), List.mem_of_getElem? (i := 772) (by decide +kernel)⟩
theorem lw_p24 : lw_okq (⟨"EchoGauge$History", "judgeAlarm", "(ILEchoGauge$Settings;)V"⟩, 9) := ⟨⟨by decide +kernel, by decide +kernel⟩, List.mem_of_getElem? (i := 178) (by decide +kernel), List.mem_of_getElem? (i := 779) (by decide +kernel), List.mem_of_getElem? (i := 780) (by decide +kernel)⟩
theorem lw_p25 : lw_okq (⟨"java/lang/Throwable", "fillInStackTrace", "(I)Ljava/lang/Throwable;"⟩, 6) := ⟨⟨by decide +kernel, by decide +kernel⟩, List.mem_of_getElem? (i := 831) (by decide +kernel), List.mem_of_getElem? (i := 829) (by decide +kernel), List.mem_of_getElem? (i := 830) (by decide +kernel)⟩
theorem lw_p26 : lw_okq (⟨"EchoGauge", "worstErrorByMode", "(II)I"⟩, 6) := ⟨⟨by decide +kernel, by decide +kernel⟩, List.mem_of_getElem? (i := 25) (by decide +kernel), List.mem_of_getElem? (i := 1113) (by decide +kernel), List.mem_of_getElem? (i := 1114) (by decide +kernel)⟩
theorem lw_p27 : lw_okq (⟨"EchoGaugeModel", "begins", "(I)V"⟩, 11) := ⟨⟨by decide +kernel, by decide +kernel⟩, List.mem_of_getElem? (i := 1151) (by decide +kernel), List.mem_of_getElem? (i := 1157) (by decide +kernel), List.mem_of_getElem? (i := 1158) (by decide +kernel)⟩
theorem lw_p28 : lw_okq (⟨"EchoGaugeModel", "holds", "(ZI)Z"⟩, 11) := ⟨⟨by decide +kernel, by decide +kernel⟩, List.mem_of_getElem? (i := 1151) (by decide +kernel), List.mem_of_getElem? (i := 1203) (by decide +kernel), List.mem_of_getElem? (i := 1204) (by decide +kernel)⟩
theorem lw_p29 : lw_okq (⟨"EchoGaugeModel", "canBegin", "(I)Z"⟩, 11) := ⟨⟨by decide +kernel, by decide +kernel⟩, List.mem_of_getElem? (i := 1151) (by decide +kernel), List.mem_of_getElem? (i := 1211) (by decide +kernel), List.mem_of_getElem? (i := 1212) (by decide +kernel)⟩
theorem lw_p30 : lw_okq (⟨"EchoGaugeModel", "save", "()V"⟩, 11) := ⟨⟨by decide +kernel, by decide +kernel⟩, List.mem_of_getElem? (i := 1151) (by decide +kernel), List.mem_of_getElem? (i := 1218) (by decide +kernel), List.mem_of_getElem? (i := 1219) (by decide +kernel)⟩
theorem lw_p31 : lw_okq (⟨"EchoGaugeModel", "canLevel", "(I)Z"⟩, 11) := ⟨⟨by decide +kernel, by decide +kernel⟩, List.mem_of_getElem? (i := 1151) (by decide +kernel), List.mem_of_getElem? (i := 1226) (by decide +kernel), List.mem_of_getElem? (i := 1227) (by decide +kernel)⟩
def lw_privs_2 : List (MethodName × Nat) := [(⟨"EchoGauge$State", "findCandidates", "()V"⟩, 7), (⟨"EchoGauge$State", "dropBlades", "()V"⟩, 7), (⟨"EchoGauge$Echoes", "isBetter", "(IIII)Z"⟩, 5), (⟨"EchoGauge$History", "push", "(II)V"⟩, 9), (⟨"EchoGauge$History", "pickOfRank", "(I)I"⟩, 9), (⟨"EchoGauge$History", "picksBelow", "(I)I"⟩, 9), (⟨"EchoGauge$History", "follow", "(II)V"⟩, 9), (⟨"EchoGauge$History", "miss", "(I)V"⟩, 9), (⟨"EchoGauge$History", "judgeAlarm", "(ILEchoGauge$Settings;)V"⟩, 9), (⟨"java/lang/Throwable", "fillInStackTrace", "(I)Ljava/lang/Throwable;"⟩, 6), (⟨"EchoGauge", "worstErrorByMode", "(II)I"⟩, 6), (⟨"EchoGaugeModel", "begins", "(I)V"⟩, 11), (⟨"EchoGaugeModel", "holds", "(ZI)Z"⟩, 11), (⟨"EchoGaugeModel", "canBegin", "(I)Z"⟩, 11), (⟨"EchoGaugeModel", "save", "()V"⟩, 11), (⟨"EchoGaugeModel", "canLevel", "(I)Z"⟩, 11)]
theorem lw_r2 : ∀ q ∈ lw_privs_2, lw_okq q := List.forall_mem_cons.mpr ⟨lw_p16, List.forall_mem_cons.mpr ⟨lw_p17, List.forall_mem_cons.mpr ⟨lw_p18, List.forall_mem_cons.mpr ⟨lw_p19, List.forall_mem_cons.mpr ⟨lw_p20, List.forall_mem_cons.mpr ⟨lw_p21, List.forall_mem_cons.mpr ⟨lw_p22, List.forall_mem_cons.mpr ⟨lw_p23, List.forall_mem_cons.mpr ⟨lw_p24, List.forall_mem_cons.mpr ⟨lw_p25, List.forall_mem_cons.mpr ⟨lw_p26, List.forall_mem_cons.mpr ⟨lw_p27, List.forall_mem_cons.mpr ⟨lw_p28, List.forall_mem_cons.mpr ⟨lw_p29, List.forall_mem_cons.mpr ⟨lw_p30, List.forall_mem_cons.mpr ⟨lw_p31, fun _ h => absurd h List.not_mem_nil⟩⟩⟩⟩⟩⟩⟩⟩⟩⟩⟩⟩⟩⟩⟩⟩
theorem lw_p32 : lw_okq (⟨"EchoGaugeModel", "put", "(II)I"⟩, 11) := ⟨⟨by decide +kernel, by decide +kernel⟩, List.mem_of_getElem? (i := 1151) (by decide +kernel), List.mem_of_getElem? (i := 1230) (by decide +kernel), List.mem_of_getElem? (i := 1231) (by decide +kernel)⟩
theorem lw_p33 : lw_okq (⟨"EchoGaugeModel", "canFlow", "(I)Z"⟩, 11) := ⟨⟨by decide +kernel, by decide +kernel⟩, List.mem_of_getElem? (i := 1151) (by decide +kernel), List.mem_of_getElem? (i := 1238) (by decide +kernel), List.mem_of_getElem? (i := 1239) (by decide +kernel)⟩
theorem lw_p34 : lw_okq (⟨"EchoGaugeModel", "canFoam", "(I)Z"⟩, 11) := ⟨⟨by decide +kernel, by decide +kernel⟩, List.mem_of_getElem? (i := 1151) (by decide +kernel), List.mem_of_getElem? (i := 1246) (by decide +kernel), List.mem_of_getElem? (i := 1247) (by decide +kernel)⟩
theorem lw_p35 : lw_okq (⟨"EchoGaugeModel", "canThing", "(II)Z"⟩, 11) := ⟨⟨by decide +kernel, by decide +kernel⟩, List.mem_of_getElem? (i := 1151) (by decide +kernel), List.mem_of_getElem? (i := 1254) (by decide +kernel), List.mem_of_getElem? (i := 1255) (by decide +kernel)⟩
theorem lw_p36 : lw_okq (⟨"EchoGaugeModel", "adds", "(II)V"⟩, 11) := ⟨⟨by decide +kernel, by decide +kernel⟩, List.mem_of_getElem? (i := 1151) (by decide +kernel), List.mem_of_getElem? (i := 1258) (by decide +kernel), List.mem_of_getElem? (i := 1259) (by decide +kernel)⟩
theorem lw_p37 : lw_okq (⟨"EchoGaugeModel", "isThing", "(I)Z"⟩, 11) := ⟨⟨by decide +kernel, by decide +kernel⟩, List.mem_of_getElem? (i := 1151) (by decide +kernel), List.mem_of_getElem? (i := 1266) (by decide +kernel), List.mem_of_getElem? (i := 1267) (by decide +kernel)⟩
theorem lw_p38 : lw_okq (⟨"EchoGaugeModel", "canStir", "(IIIII)Z"⟩, 11) := ⟨⟨by decide +kernel, by decide +kernel⟩, List.mem_of_getElem? (i := 1151) (by decide +kernel), List.mem_of_getElem? (i := 1274) (by decide +kernel), List.mem_of_getElem? (i := 1275) (by decide +kernel)⟩
theorem lw_p39 : lw_okq (⟨"EchoGaugeModel", "stirs", "(IIIII)V"⟩, 11) := ⟨⟨by decide +kernel, by decide +kernel⟩, List.mem_of_getElem? (i := 1151) (by decide +kernel), List.mem_of_getElem? (i := 1278) (by decide +kernel), List.mem_of_getElem? (i := 1279) (by decide +kernel)⟩
theorem lw_p40 : lw_okq (⟨"EchoGaugeModel", "canSet", "(II)Z"⟩, 11) := ⟨⟨by decide +kernel, by decide +kernel⟩, List.mem_of_getElem? (i := 1151) (by decide +kernel), List.mem_of_getElem? (i := 1286) (by decide +kernel), List.mem_of_getElem? (i := 1287) (by decide +kernel)⟩
theorem lw_p41 : lw_okq (⟨"EchoGaugeModel", "sets", "(II)V"⟩, 11) := ⟨⟨by decide +kernel, by decide +kernel⟩, List.mem_of_getElem? (i := 1151) (by decide +kernel), List.mem_of_getElem? (i := 1296) (by decide +kernel), List.mem_of_getElem? (i := 1297) (by decide +kernel)⟩
theorem lw_p42 : lw_okq (⟨"EchoGaugeModel", "learns", "(I)V"⟩, 11) := ⟨⟨by decide +kernel, by decide +kernel⟩, List.mem_of_getElem? (i := 1151) (by decide +kernel), List.mem_of_getElem? (i := 1315) (by decide +kernel), List.mem_of_getElem? (i := 1316) (by decide +kernel)⟩
theorem lw_p43 : lw_okq (⟨"EchoGaugeModel", "fires", "()V"⟩, 11) := ⟨⟨by decide +kernel, by decide +kernel⟩, List.mem_of_getElem? (i := 1151) (by decide +kernel), List.mem_of_getElem? (i := 1319) (by decide +kernel), List.mem_of_getElem? (i := 1320) (by decide +kernel)⟩
theorem lw_p44 : lw_okq (⟨"EchoGaugeModel", "echoes", "()V"⟩, 11) := ⟨⟨by decide +kernel, by decide +kernel⟩, List.mem_of_getElem? (i := 1151) (by decide +kernel), List.mem_of_getElem? (i := 1323) (by decide +kernel), List.mem_of_getElem? (i := 1324) (by decide +kernel)⟩
theorem lw_p45 : lw_okq (⟨"EchoGaugeModel", "surface", "()I"⟩, 11) := ⟨⟨by decide +kernel, by decide +kernel⟩, List.mem_of_getElem? (i := 1151) (by decide +kernel), List.mem_of_getElem? (i := 1327) (by decide +kernel), List.mem_of_getElem? (i := 1328) (by decide +kernel)⟩
theorem lw_p46 : lw_okq (⟨"EchoGaugeModel", "makes", "(III)V"⟩, 11) := ⟨⟨by decide +kernel, by decide +kernel⟩, List.mem_of_getElem? (i := 1151) (by decide +kernel), List.mem_of_getElem? (i := 1331) (by decide +kernel), List.mem_of_getElem? (i := 1332) (by decide +kernel)⟩
theorem lw_p47 : lw_okq (⟨"EchoGaugeModel", "angleOf", "(I)I"⟩, 11) := ⟨⟨by decide +kernel, by decide +kernel⟩, List.mem_of_getElem? (i := 1151) (by decide +kernel), List.mem_of_getElem? (i := 1335) (by decide +kernel), List.mem_of_getElem? (i := 1336) (by decide +kernel)⟩
def lw_privs_3 : List (MethodName × Nat) := [(⟨"EchoGaugeModel", "put", "(II)I"⟩, 11), (⟨"EchoGaugeModel", "canFlow", "(I)Z"⟩, 11), (⟨"EchoGaugeModel", "canFoam", "(I)Z"⟩, 11), (⟨"EchoGaugeModel", "canThing", "(II)Z"⟩, 11), (⟨"EchoGaugeModel", "adds", "(II)V"⟩, 11), (⟨"EchoGaugeModel", "isThing", "(I)Z"⟩, 11), (⟨"EchoGaugeModel", "canStir", "(IIIII)Z"⟩, 11), (⟨"EchoGaugeModel", "stirs", "(IIIII)V"⟩, 11), (⟨"EchoGaugeModel", "canSet", "(II)Z"⟩, 11), (⟨"EchoGaugeModel", "sets", "(II)V"⟩, 11), (⟨"EchoGaugeModel", "learns", "(I)V"⟩, 11), (⟨"EchoGaugeModel", "fires", "()V"⟩, 11), (⟨"EchoGaugeModel", "echoes", "()V"⟩, 11), (⟨"EchoGaugeModel", "surface", "()I"⟩, 11), (⟨"EchoGaugeModel", "makes", "(III)V"⟩, 11), (⟨"EchoGaugeModel", "angleOf", "(I)I"⟩, 11)]
theorem lw_r3 : ∀ q ∈ lw_privs_3, lw_okq q := List.forall_mem_cons.mpr ⟨lw_p32, List.forall_mem_cons.mpr ⟨lw_p33, List.forall_mem_cons.mpr ⟨lw_p34, List.forall_mem_cons.mpr ⟨lw_p35, List.forall_mem_cons.mpr ⟨lw_p36, List.forall_mem_cons.mpr ⟨lw_p37, List.forall_mem_cons.mpr ⟨lw_p38, List.forall_mem_cons.mpr ⟨lw_p39, List.forall_mem_cons.mpr ⟨lw_p40, List.forall_mem_cons.mpr ⟨lw_p41, List.forall_mem_cons.mpr ⟨lw_p42, List.forall_mem_cons.mpr ⟨lw_p43, List.forall_mem_cons.mpr ⟨lw_p44, List.forall_mem_cons.mpr ⟨lw_p45, List.forall_mem_cons.mpr ⟨lw_p46, List.forall_mem_cons.mpr ⟨lw_p47, fun _ h => absurd h List.not_mem_nil⟩⟩⟩⟩⟩⟩⟩⟩⟩⟩⟩⟩⟩⟩⟩⟩
theorem lw_p48 : lw_okq (⟨"EchoGaugeModel", "chance", "()V"⟩, 11) := ⟨⟨by decide +kernel, by decide +kernel⟩, List.mem_of_getElem? (i := 1151) (by decide +kernel), List.mem_of_getElem? (i := 1342) (by decide +kernel), List.mem_of_getElem? (i := 1343) (by decide +kernel)⟩
theorem lw_p49 : lw_okq (⟨"EchoGaugeModel", "draw", "(I)I"⟩, 11) := ⟨⟨by decide +kernel, by decide +kernel⟩, List.mem_of_getElem? (i := 1151) (by decide +kernel), List.mem_of_getElem? (i := 1346) (by decide +kernel), List.mem_of_getElem? (i := 1347) (by decide +kernel)⟩
theorem lw_p50 : lw_okq (⟨"EchoGaugeModel", "orders", "()V"⟩, 11) := ⟨⟨by decide +kernel, by decide +kernel⟩, List.mem_of_getElem? (i := 1151) (by decide +kernel), List.mem_of_getElem? (i := 1354) (by decide +kernel), List.mem_of_getElem? (i := 1355) (by decide +kernel)⟩
theorem lw_p51 : lw_okq (⟨"EchoGaugeModel", "isAhead", "(I)Z"⟩, 11) := ⟨⟨by decide +kernel, by decide +kernel⟩, List.mem_of_getElem? (i := 1151) (by decide +kernel), List.mem_of_getElem? (i := 1358) (by decide +kernel), List.mem_of_getElem? (i := 1359) (by decide +kernel)⟩
theorem lw_p52 : lw_okq (⟨"EchoGaugeModel", "masked", "()I"⟩, 11) := ⟨⟨by decide +kernel, by decide +kernel⟩, List.mem_of_getElem? (i := 1151) (by decide +kernel), List.mem_of_getElem? (i := 1362) (by decide +kernel), List.mem_of_getElem? (i := 1363) (by decide +kernel)⟩
theorem lw_p53 : lw_okq (⟨"EchoGaugeModel", "shoots", "(I)I"⟩, 11) := ⟨⟨by decide +kernel, by decide +kernel⟩, List.mem_of_getElem? (i := 1151) (by decide +kernel), List.mem_of_getElem? (i := 1377) (by decide +kernel), List.mem_of_getElem? (i := 1378) (by decide +kernel)⟩
theorem lw_p54 : lw_okq (⟨"EchoGaugeModel", "shot", "()Z"⟩, 11) := ⟨⟨by decide +kernel, by decide +kernel⟩, List.mem_of_getElem? (i := 1151) (by decide +kernel), List.mem_of_getElem? (i := 1381) (by decide +kernel), List.mem_of_getElem? (i := 1382) (by decide +kernel)⟩
theorem lw_p55 : lw_okq (⟨"EchoGaugeModel", "looks", "()V"⟩, 11) := ⟨⟨by decide +kernel, by decide +kernel⟩, List.mem_of_getElem? (i := 1151) (by decide +kernel), List.mem_of_getElem? (i := 1385) (by decide +kernel), List.mem_of_getElem? (i := 1386) (by decide +kernel)⟩
theorem lw_p56 : lw_okq (⟨"EchoGaugeModel", "isCandidate", "(I)Z"⟩, 11) := ⟨⟨by decide +kernel, by decide +kernel⟩, List.mem_of_getElem? (i := 1151) (by decide +kernel), List.mem_of_getElem? (i := 1389) (by decide +kernel), List.mem_of_getElem? (i := 1390) (by decide +kernel)⟩
theorem lw_p57 : lw_okq (⟨"EchoGaugeModel", "needOf", "(I)I"⟩, 11) := ⟨⟨by decide +kernel, by decide +kernel⟩, List.mem_of_getElem? (i := 1151) (by decide +kernel), List.mem_of_getElem? (i := 1393) (by decide +kernel), List.mem_of_getElem? (i := 1394) (by decide +kernel)⟩
theorem lw_p58 : lw_okq (⟨"EchoGaugeModel", "hadNear", "(II)Z"⟩, 11) := ⟨⟨by decide +kernel, by decide +kernel⟩, List.mem_of_getElem? (i := 1151) (by decide +kernel), List.mem_of_getElem? (i := 1397) (by decide +kernel), List.mem_of_getElem? (i := 1398) (by decide +kernel)⟩
theorem lw_p59 : lw_okq (⟨"EchoGaugeModel", "remembers", "()V"⟩, 11) := ⟨⟨by decide +kernel, by decide +kernel⟩, List.mem_of_getElem? (i := 1151) (by decide +kernel), List.mem_of_getElem? (i := 1404) (by decide +kernel), List.mem_of_getElem? (i := 1405) (by decide +kernel)⟩
theorem lw_p60 : lw_okq (⟨"EchoGaugeModel", "picks", "()I"⟩, 11) := ⟨⟨by decide +kernel, by decide +kernel⟩, List.mem_of_getElem? (i := 1151) (by decide +kernel), List.mem_of_getElem? (i := 1408) (by decide +kernel), List.mem_of_getElem? (i := 1409) (by decide +kernel)⟩
theorem lw_p61 : lw_okq (⟨"EchoGaugeModel", "isBetter", "(II)Z"⟩, 11) := ⟨⟨by decide +kernel, by decide +kernel⟩, List.mem_of_getElem? (i := 1151) (by decide +kernel), List.mem_of_getElem? (i := 1412) (by decide +kernel), List.mem_of_getElem? (i := 1413) (by decide +kernel)⟩
theorem lw_p62 : lw_okq (⟨"EchoGaugeModel", "keeps", "(I)V"⟩, 11) := ⟨⟨by decide +kernel, by decide +kernel⟩, List.mem_of_getElem? (i := 1151) (by decide +kernel), List.mem_of_getElem? (i := 1416) (by decide +kernel), List.mem_of_getElem? (i := 1417) (by decide +kernel)⟩
theorem lw_p63 : lw_okq (⟨"EchoGaugeModel", "tells", "()V"⟩, 11) := ⟨⟨by decide +kernel, by decide +kernel⟩, List.mem_of_getElem? (i := 1151) (by decide +kernel), List.mem_of_getElem? (i := 1420) (by decide +kernel), List.mem_of_getElem? (i := 1421) (by decide +kernel)⟩
def lw_privs_4 : List (MethodName × Nat) := [(⟨"EchoGaugeModel", "chance", "()V"⟩, 11), (⟨"EchoGaugeModel", "draw", "(I)I"⟩, 11), (⟨"EchoGaugeModel", "orders", "()V"⟩, 11), (⟨"EchoGaugeModel", "isAhead", "(I)Z"⟩, 11), (⟨"EchoGaugeModel", "masked", "()I"⟩, 11), (⟨"EchoGaugeModel", "shoots", "(I)I"⟩, 11), (⟨"EchoGaugeModel", "shot", "()Z"⟩, 11), (⟨"EchoGaugeModel", "looks", "()V"⟩, 11), (⟨"EchoGaugeModel", "isCandidate", "(I)Z"⟩, 11), (⟨"EchoGaugeModel", "needOf", "(I)I"⟩, 11), (⟨"EchoGaugeModel", "hadNear", "(II)Z"⟩, 11), (⟨"EchoGaugeModel", "remembers", "()V"⟩, 11), (⟨"EchoGaugeModel", "picks", "()I"⟩, 11), (⟨"EchoGaugeModel", "isBetter", "(II)Z"⟩, 11), (⟨"EchoGaugeModel", "keeps", "(I)V"⟩, 11), (⟨"EchoGaugeModel", "tells", "()V"⟩, 11)]
theorem lw_r4 : ∀ q ∈ lw_privs_4, lw_okq q := List.forall_mem_cons.mpr ⟨lw_p48, List.forall_mem_cons.mpr ⟨lw_p49, List.forall_mem_cons.mpr ⟨lw_p50, List.forall_mem_cons.mpr ⟨lw_p51, List.forall_mem_cons.mpr ⟨lw_p52, List.forall_mem_cons.mpr ⟨lw_p53, List.forall_mem_cons.mpr ⟨lw_p54, List.forall_mem_cons.mpr ⟨lw_p55, List.forall_mem_cons.mpr ⟨lw_p56, List.forall_mem_cons.mpr ⟨lw_p57, List.forall_mem_cons.mpr ⟨lw_p58, List.forall_mem_cons.mpr ⟨lw_p59, List.forall_mem_cons.mpr ⟨lw_p60, List.forall_mem_cons.mpr ⟨lw_p61, List.forall_mem_cons.mpr ⟨lw_p62, List.forall_mem_cons.mpr ⟨lw_p63, fun _ h => absurd h List.not_mem_nil⟩⟩⟩⟩⟩⟩⟩⟩⟩⟩⟩⟩⟩⟩⟩⟩
theorem lw_p64 : lw_okq (⟨"EchoGaugeModel", "median", "()I"⟩, 11) := ⟨⟨by decide +kernel, by decide +kernel⟩, List.mem_of_getElem? (i := 1151) (by decide +kernel), List.mem_of_getElem? (i := 1424) (by decide +kernel), List.mem_of_getElem? (i := 1425) (by decide +kernel)⟩
theorem lw_p65 : lw_okq (⟨"EchoGaugeModel", "kept", "()I"⟩, 11) := ⟨⟨by decide +kernel, by decide +kernel⟩, List.mem_of_getElem? (i := 1151) (by decide +kernel), List.mem_of_getElem? (i := 1428) (by decide +kernel), List.mem_of_getElem? (i := 1429) (by decide +kernel)⟩
theorem lw_p66 : lw_okq (⟨"EchoGaugeModel", "alarms", "()V"⟩, 11) := ⟨⟨by decide +kernel, by decide +kernel⟩, List.mem_of_getElem? (i := 1151) (by decide +kernel), List.mem_of_getElem? (i := 1432) (by decide +kernel), List.mem_of_getElem? (i := 1433) (by decide +kernel)⟩
theorem lw_p67 : lw_okq (⟨"EchoGaugeModel", "echoOf", "(II)I"⟩, 11) := ⟨⟨by decide +kernel, by decide +kernel⟩, List.mem_of_getElem? (i := 1151) (by decide +kernel), List.mem_of_getElem? (i := 1440) (by decide +kernel), List.mem_of_getElem? (i := 1441) (by decide +kernel)⟩
theorem lw_p68 : lw_okq (⟨"EchoGaugeModel", "gaugeOf", "(I)I"⟩, 11) := ⟨⟨by decide +kernel, by decide +kernel⟩, List.mem_of_getElem? (i := 1151) (by decide +kernel), List.mem_of_getElem? (i := 1476) (by decide +kernel), List.mem_of_getElem? (i := 1477) (by decide +kernel)⟩
theorem lw_p69 : lw_okq (⟨"EchoGaugeModel", "putAside", "()V"⟩, 11) := ⟨⟨by decide +kernel, by decide +kernel⟩, List.mem_of_getElem? (i := 1151) (by decide +kernel), List.mem_of_getElem? (i := 1489) (by decide +kernel), List.mem_of_getElem? (i := 1490) (by decide +kernel)⟩
theorem lw_p70 : lw_okq (⟨"EchoGaugeModel", "putBack", "()V"⟩, 11) := ⟨⟨by decide +kernel, by decide +kernel⟩, List.mem_of_getElem? (i := 1151) (by decide +kernel), List.mem_of_getElem? (i := 1493) (by decide +kernel), List.mem_of_getElem? (i := 1494) (by decide +kernel)⟩
theorem lw_p71 : lw_okq (⟨"EchoGaugeModel", "worst", "(II)I"⟩, 11) := ⟨⟨by decide +kernel, by decide +kernel⟩, List.mem_of_getElem? (i := 1151) (by decide +kernel), List.mem_of_getElem? (i := 1501) (by decide +kernel), List.mem_of_getElem? (i := 1502) (by decide +kernel)⟩
theorem lw_p72 : lw_okq (⟨"EchoGaugeModel", "spaces", "()V"⟩, 11) := ⟨⟨by decide +kernel, by decide +kernel⟩, List.mem_of_getElem? (i := 1151) (by decide +kernel), List.mem_of_getElem? (i := 1521) (by decide +kernel), List.mem_of_getElem? (i := 1522) (by decide +kernel)⟩
theorem lw_p73 : lw_okq (⟨"EchoGaugeModel", "isAt", "(II)Z"⟩, 11) := ⟨⟨by decide +kernel, by decide +kernel⟩, List.mem_of_getElem? (i := 1151) (by decide +kernel), List.mem_of_getElem? (i := 1525) (by decide +kernel), List.mem_of_getElem? (i := 1526) (by decide +kernel)⟩
theorem lw_p74 : lw_okq (⟨"EchoGaugeModel", "readsCommand", "()Z"⟩, 11) := ⟨⟨by decide +kernel, by decide +kernel⟩, List.mem_of_getElem? (i := 1151) (by decide +kernel), List.mem_of_getElem? (i := 1529) (by decide +kernel), List.mem_of_getElem? (i := 1530) (by decide +kernel)⟩
theorem lw_p75 : lw_okq (⟨"EchoGaugeModel", "readsWord", "()Z"⟩, 11) := ⟨⟨by decide +kernel, by decide +kernel⟩, List.mem_of_getElem? (i := 1151) (by decide +kernel), List.mem_of_getElem? (i := 1533) (by decide +kernel), List.mem_of_getElem? (i := 1534) (by decide +kernel)⟩
theorem lw_p76 : lw_okq (⟨"EchoGaugeModel", "readsNumber", "(I)Z"⟩, 11) := ⟨⟨by decide +kernel, by decide +kernel⟩, List.mem_of_getElem? (i := 1151) (by decide +kernel), List.mem_of_getElem? (i := 1551) (by decide +kernel), List.mem_of_getElem? (i := 1552) (by decide +kernel)⟩
theorem lw_p77 : lw_okq (⟨"EchoGaugeModel", "does", "()Z"⟩, 11) := ⟨⟨by decide +kernel, by decide +kernel⟩, List.mem_of_getElem? (i := 1151) (by decide +kernel), List.mem_of_getElem? (i := 1555) (by decide +kernel), List.mem_of_getElem? (i := 1556) (by decide +kernel)⟩
theorem lw_p78 : lw_okq (⟨"EchoGaugeModel", "mixes", "(I)V"⟩, 11) := ⟨⟨by decide +kernel, by decide +kernel⟩, List.mem_of_getElem? (i := 1151) (by decide +kernel), List.mem_of_getElem? (i := 1564) (by decide +kernel), List.mem_of_getElem? (i := 1565) (by decide +kernel)⟩
def lw_privs_5 : List (MethodName × Nat) := [(⟨"EchoGaugeModel", "median", "()I"⟩, 11), (⟨"EchoGaugeModel", "kept", "()I"⟩, 11), (⟨"EchoGaugeModel", "alarms", "()V"⟩, 11), (⟨"EchoGaugeModel", "echoOf", "(II)I"⟩, 11), (⟨"EchoGaugeModel", "gaugeOf", "(I)I"⟩, 11), (⟨"EchoGaugeModel", "putAside", "()V"⟩, 11), (⟨"EchoGaugeModel", "putBack", "()V"⟩, 11), (⟨"EchoGaugeModel", "worst", "(II)I"⟩, 11), (⟨"EchoGaugeModel", "spaces", "()V"⟩, 11), (⟨"EchoGaugeModel", "isAt", "(II)Z"⟩, 11), (⟨"EchoGaugeModel", "readsCommand", "()Z"⟩, 11), (⟨"EchoGaugeModel", "readsWord", "()Z"⟩, 11), (⟨"EchoGaugeModel", "readsNumber", "(I)Z"⟩, 11), (⟨"EchoGaugeModel", "does", "()Z"⟩, 11), (⟨"EchoGaugeModel", "mixes", "(I)V"⟩, 11)]
theorem lw_r5 : ∀ q ∈ lw_privs_5, lw_okq q := List.forall_mem_cons.mpr ⟨lw_p64, List.forall_mem_cons.mpr ⟨lw_p65, List.forall_mem_cons.mpr ⟨lw_p66, List.forall_mem_cons.mpr ⟨lw_p67, List.forall_mem_cons.mpr ⟨lw_p68, List.forall_mem_cons.mpr ⟨lw_p69, List.forall_mem_cons.mpr ⟨lw_p70, List.forall_mem_cons.mpr ⟨lw_p71, List.forall_mem_cons.mpr ⟨lw_p72, List.forall_mem_cons.mpr ⟨lw_p73, List.forall_mem_cons.mpr ⟨lw_p74, List.forall_mem_cons.mpr ⟨lw_p75, List.forall_mem_cons.mpr ⟨lw_p76, List.forall_mem_cons.mpr ⟨lw_p77, List.forall_mem_cons.mpr ⟨lw_p78, fun _ h => absurd h List.not_mem_nil⟩⟩⟩⟩⟩⟩⟩⟩⟩⟩⟩⟩⟩⟩⟩
def lw_privs : List (MethodName × Nat) := lw_privs_1 ++ (lw_privs_2 ++ (lw_privs_3 ++ (lw_privs_4 ++ (lw_privs_5))))
def lw_tbl : List Cond := k2_sels lw_privs ++ tables_1
theorem lw_privs_ok : ∀ q ∈ lw_privs, lw_okq q := by
  show ∀ q ∈ lw_privs_1 ++ (lw_privs_2 ++ (lw_privs_3 ++ (lw_privs_4 ++ (lw_privs_5)))), lw_okq q
  exact List.forall_mem_append.mpr ⟨lw_r1, List.forall_mem_append.mpr ⟨lw_r2, List.forall_mem_append.mpr ⟨lw_r3, List.forall_mem_append.mpr ⟨lw_r4, lw_r5⟩⟩⟩⟩
/-- the streams that the claim lets the run draw from -/
abbrev lw_cs : List Choice := [Jvm.Choice.named "NaN.bits"]
theorem lw_bits : nanBits ∈ lw_cs := by first | decide | exact List.mem_cons_self | simp [lw_cs, nanBits]
-- ===== end of PART A; then your names; then what follows =====
end
section
/-! ===== BEGIN words of one list among another's, by their places ===== -/
theorem goodIn_r {big : List Cond} (ws : List Cond) (ps : List Nat) (hp : ws = ps.filterMap (fun i => big[i]?)) (h : ws.all goodWord = true) : GoodIn big ws := by
  intro w hw
  have h1 := List.all_eq_true.mp h w hw
  rw [hp] at hw
  obtain ⟨i, -, hi⟩ := List.mem_filterMap.mp hw
  have hm : w ∈ big := by first | exact List.mem_of_getElem? hi | exact List.getElem?_mem hi
  exact ⟨hm, good_of_word h1⟩
theorem goodIn_app {big a b : List Cond} (ha : GoodIn big a) (hb : GoodIn big b) : GoodIn big (a ++ b) := fun w h => (List.mem_append.mp h).elim (ha w) (hb w)
theorem goodIn_ca {big a b : List Cond} {c : Cond} (ha : GoodIn big (c :: a)) (hb : GoodIn big b) : GoodIn big (c :: (a ++ b)) := fun w h => (List.mem_cons.mp h).elim (fun e => ha w (List.mem_cons.mpr (Or.inl e))) (fun h => (List.mem_append.mp h).elim (fun h => ha w (List.mem_cons.mpr (Or.inr h))) (hb w))
theorem goodIn_sub {big ws : List Cond} (hm : ∀ w ∈ ws, w ∈ big) (h : ws.all goodWord = true) : GoodIn big ws := fun w hw => ⟨hm w hw, good_of_word (List.all_eq_true.mp h w hw)⟩
/-! ===== END ===== -/

/-! ===== BEGIN exceptions that leave a method, and their catching by the caller (launches without stack traces) ===== -/
section VXA
/-! The laws vx_back, vx_callV, vx_callS, vx_callSW, vx_throw0, vx_throwS follow proofs of the library, with one case more: JvmDerived/Free/Laws.lean (Back.of_free), Shelf42/LK1.lean (callV, callS), Shelf/KitTraced.lean (throwNew0V, throwNewS). -/
/-- where a method has thrown q: the class by its name, the cell, what was written, the world -/
def vx_T (XC : String → State → State → Prop) (st : State) (q : Addr) (t : State) (mc ms : Nat) (free : Addr → Prop) : Prop :=
  ∃ (E : String) (ce : Cell) (L : List Loc), XC E st t ∧ t.heap[q]? = some ce ∧ ce.vm = .none ∧ st.vm.findClass E = some ce.cls ∧ st.WarmedH t.vm ∧ st.sameButNew ({ t with vm := st.vm } : State) L mc ms ∧ ∀ z ∈ L, free z.base
def vx_Q (Qc : Array Value → State → Outcome → State → Prop) (XC : String → State → State → Prop) (mc ms : Nat) (free : Addr → Prop) : Array Value → State → Outcome → State → Prop := fun a st o t =>
  (Qc a st o t ∧ ∃ L, FrameEnd st o t L mc ms ∧ ∀ q ∈ L, free q.base) ∨ ∃ q, o = .threw q ∧ vx_T XC st q t mc ms free
/-- a callee that returns or throws -/
def vx_Met (l : Launch) (y : MethodName) (ws : List Cond) (rm : Room) (Pc : Array Value → State → Prop) (Qc : Array Value → State → Outcome → State → Prop) (XC : String → State → State → Prop) (mc ms : Nat) (free : Addr → Prop) : Prop :=
  MetFree l y (headSpec ws rm) Pc (fun _ _ _ _ _ => True) (vx_Q Qc XC mc ms free)
def vx_Post (XC : String → State → State → Prop) (mc ms : Nat) (free : Addr → Prop) : Pt → Array Value → Addr → Pt → Prop := fun A a q B =>
  ∃ (g : JFrame) (mk : MethodId) (t : State) (L : List Loc) (E : String) (ce : Cell), B.U.heap = t.heap ∧ B.U.vm = t.vm ∧ XC E (A.U.calling g mk a) t ∧ t.heap[q]? = some ce ∧ ce.vm = .none ∧ A.U.vm.findClass E = some ce.cls ∧ B.locs = A.locs ++ L ∧ (∀ z ∈ L, free z.base) ∧ B.cells = A.cells + mc ∧ B.slots = A.slots + ms
def vx_Back (l : Launch) (R : Room) (p : Program) (e : Env) (below : List Frame) (s : State) (sargs : Array Value) (y : MethodName) (len W9 : Nat)
    (Pre : Pt → Array Value → Prop) (Post : Pt → Array Value → Option Value → Pt → Prop) (PostX : Pt → Array Value → Addr → Pt → Prop) : Prop :=
  ∀ (m : MethodId) (meth : Method) (c : Code) (A : Pt) (g : JFrame) (ig : Instr) (mk : MethodId) (a : Array Value),
    Stand p l e R s m sargs below meth c A.U A.locs A.cells A.slots → g.method = m → g.locals.size = c.maxLocals → decode c.code g.pc = .ok (ig, len) →
    2 * g.monitorRoom + (g.stack.map fun v => v.category).sum ≤ W9 → A.U.methodNamed? y = some mk → Pre A a →
    (∃ (v : Option Value) (B : Pt), Stand p l e R s m sargs below meth c B.U B.locs B.cells B.slots ∧ Post A a v B ∧
      Steps p.tables e below (doInvoke e (A.U.setTop g) [] mk a).1 (B.U.setTop { g with pc := g.pc + len, stack := v.toList ++ g.stack })) ∨
    (∃ (q : Addr) (B : Pt), Stand p l e R s m sargs below meth c B.U B.locs B.cells B.slots ∧ PostX A a q B ∧
      Steps p.tables e below (doInvoke e (A.U.setTop g) [] mk a).1 ((B.U.setTop g).pushFrame (.throwing q)))
section Payer
variable {l : Launch} {R : Room} {p : Program} {e : Env} {below : List Frame} {s : State} {sargs : Array Value} {y : MethodName} {len W9 : Nat}
theorem vx_back {ws : List Cond} {rm : Room} {Pc : Array Value → State → Prop} {Qc : Array Value → State → Outcome → State → Prop} {XC : String → State → State → Prop} {mc ms : Nat} {free : Addr → Prop} {bytes : ByteArray} {maxL : Nat} {ret : Option FieldType}
    (hM : vx_Met l y ws rm Pc Qc XC mc ms free) (hblind : FrameBlind Pc) (hrc : rm.cells = mc) (hrs : rm.slots = ms)
    (hframes : rm.frames + 1 ≤ R.frames) (hlocals : W9 + (maxL + 11) + rm.locals ≤ R.locals)
    (hws : ∀ w ∈ ws, ∀ a' U, s.WarmedH U.vm → w.before a' U = true) (hcode : Cond.code y bytes maxL ret ∈ ws) (hinit : ∀ a' U, s.WarmedH U.vm → (Cond.initialized y.cls).before a' U = true) :
    vx_Back l R p e below s sargs y len W9 (PreOf R mc ms Pc) (PostOf Qc mc ms free) (vx_Post XC mc ms free) := by
  intro m meth c A g ig mk a X hg hsize hdg hW hn hp
  have h1 : (headSpec ws rm).pre.before a A.U = true := atoms_intro fun w hw => hws w hw _ _ X.warmed
  have h2 : (Cond.code y bytes maxL ret).before a A.U = true := hws _ hcode _ _ X.warmed
  have h3 : (Cond.initialized y.cls).before a A.U = true := hinit _ _ X.warmed
  have h4 : A.cells + (headSpec ws rm).room.cells ≤ R.cells := by rw [show (headSpec ws rm).room.cells = mc from hrc]; exact hp.1
  have h5 : A.slots + (headSpec ws rm).room.slots ≤ R.slots := by rw [show (headSpec ws rm).room.slots = ms from hrs]; exact hp.2.1
  have hPc : Pc a (A.U.calling g mk a) := hblind _ _ _ _ hp.2.2
  obtain ⟨U, Ls, c0, s0⟩ := A
  dsimp only [Pt.U, Pt.locs, Pt.cells, Pt.slots] at h1 h2 h3 h4 h5 X hn hPc ⊢
  obtain ⟨methY, cY, hmY, hcY, -, hlY, -, -, -, -⟩ := Cond.code_spec hn h2
  obtain ⟨kY, hkY, -⟩ := className_of_methodNamed hn
  have hinitY : kY.init = .initialized := Cond.initialized_spec (findClass_of_methodNamed hn) hkY h3
  have h : At U g.method c below := by rw [hg]; exact X.here
  have hlocals9 : W9 + (maxL + 11) + (headSpec ws rm).room.locals ≤ R.locals := hlocals
  have happ : (headSpec ws rm).appliesLoose y e.platform (U.calling g mk a) = true :=
    Spec.appliesLoose_calling (g := g) h hdg hn hkY hinitY
      (X.room_calling (g := g) (R' := (headSpec ws rm).room) hsize hmY hcY hframes (by rw [hlY]; omega) h4 h5) h1
  obtain ⟨mid, hmid⟩ := h.above
  have hfr : (U.setTop g).frames = (.java g :: mid) ++ below := by rw [State.frames_setTop' g h.top, hmid]; rfl
  obtain ⟨o, s₂, hsteps, -, hend, hq⟩ := Steps.callFree hM p X.admits X.cas X.clock (acts := []) hfr happ hPc trivial
  have hq' : vx_Q Qc XC mc ms free a (U.calling g mk a) o s₂ := hq
  rw [State.frames_setTop' g h.top] at hend
  obtain ⟨g₀, hg0⟩ := Option.isSome_iff_exists.mp h.top
  obtain ⟨r, hr⟩ := State.topJava?_eq_some.mp hg0
  have hr' : (({ U with heap := s₂.heap, slotsUsed := s₂.slotsUsed } : State).setVm s₂.vm).frames = .java g₀ :: r := hr
  rcases hq' with ⟨hqc, L, hfe, hL⟩ | ⟨q, rfl, E, ce, L, hx, hce, hcv, hcl, hW₂, hsm, hL⟩
  · obtain ⟨⟨v, rfl⟩, hW₂, e2, q2, q3, q4, q5, q6⟩ := id hfe
    have e3 : s₂ = ({ (U.calling g mk a).setFrames s₂.frames with heap := s₂.heap, slotsUsed := s₂.slotsUsed } : State).setVm s₂.vm := by
      have : s₂ = ({ s₂ with vm := (U.calling g mk a).vm } : State).setVm s₂.vm := rfl
      rw [e2] at this
      exact this
    obtain ⟨c₂, i₂, len₂, hc₂, hd₂, hf₂⟩ := hend
    have hW' : U.WarmedH s₂.vm := hW₂
    have hcc : c₂ = c := by
      have h1 : s₂.code? g.method = U.code? g.method := by
        rw [State.code?_eq, State.code?_eq, hW'.alike.method?]
      exact Option.some.inj (hc₂.symm.trans (h1.trans h.code))
    subst hcc
    have hlen : len₂ = len := by rw [hdg] at hd₂; cases hd₂; rfl
    subst hlen
    have hs₂ : s₂ = (({ U with heap := s₂.heap, slotsUsed := s₂.slotsUsed } : State).setVm s₂.vm).setTop { g with pc := g.pc + len₂, stack := v.toList ++ g.stack } := by
      refine e3.trans ?_
      rw [hf₂, State.calling_eq h.top, State.setFrames_setFrames, State.setTop_of_frames _ hr', hr]
      rfl
    have hsame : U.sameButNew ({ U with heap := s₂.heap, slotsUsed := s₂.slotsUsed } : State) L mc ms := by
      refine ⟨?_, q2, q3, q4, q5, q6⟩
      obtain ⟨t, ht, -⟩ := State.frames_cons hr
      show ({ U with heap := s₂.heap, slotsUsed := s₂.slotsUsed } : State) = { U.setFrames U.frames with heap := s₂.heap, slotsUsed := s₂.slotsUsed }
      rw [State.setFrames_self ht]
    subst hg
    refine Or.inl ⟨v, ⟨(({ U with heap := s₂.heap, slotsUsed := s₂.slotsUsed } : State).setVm s₂.vm), Ls ++ L, c0 + mc, s0 + ms⟩,
      ⟨X.admits, X.cas, X.clock, X.frames, X.room, X.hears, X.method, X.code, (X.here.setHeapUsed s₂.heap s₂.slotsUsed).setVm hW'.alike, X.tail, State.WarmedH.trans X.warmed hW', X.limits, X.bytes, X.same.trans (hsame.setVm s.vm)⟩,
      ⟨g, mk, s₂, L, rfl, rfl, hqc, rfl, hL, rfl, rfl⟩, ?_⟩
    show Steps p.tables e below _ ((({ U with heap := s₂.heap, slotsUsed := s₂.slotsUsed } : State).setVm s₂.vm).setTop { g with pc := g.pc + len₂, stack := v.toList ++ g.stack })
    rw [← hs₂]
    exact hsteps
  · obtain ⟨e2, q2, q3, q4, q5, q6⟩ := id hsm
    have e3 : s₂ = ({ (U.calling g mk a).setFrames s₂.frames with heap := s₂.heap, slotsUsed := s₂.slotsUsed } : State).setVm s₂.vm := by
      have : s₂ = ({ s₂ with vm := (U.calling g mk a).vm } : State).setVm s₂.vm := rfl
      rw [e2] at this
      exact this
    have hf₂ : s₂.frames = .throwing q :: .java g :: U.frames.tail := hend
    have hW' : U.WarmedH s₂.vm := hW₂
    have hs₂ : s₂ = ((({ U with heap := s₂.heap, slotsUsed := s₂.slotsUsed } : State).setVm s₂.vm).setTop g).pushFrame (.throwing q) := by
      refine e3.trans ?_
      rw [hf₂, State.calling_eq h.top, State.setFrames_setFrames, State.pushFrame, State.frames_setTop _ hr', State.setTop_of_frames _ hr', State.setFrames_setFrames, hr]
      rfl
    have hsame : U.sameButNew ({ U with heap := s₂.heap, slotsUsed := s₂.slotsUsed } : State) L mc ms := by
      refine ⟨?_, q2, q3, q4, q5, q6⟩
      obtain ⟨t, ht, -⟩ := State.frames_cons hr
      show ({ U with heap := s₂.heap, slotsUsed := s₂.slotsUsed } : State) = { U.setFrames U.frames with heap := s₂.heap, slotsUsed := s₂.slotsUsed }
      rw [State.setFrames_self ht]
    subst hg
    refine Or.inr ⟨q, ⟨(({ U with heap := s₂.heap, slotsUsed := s₂.slotsUsed } : State).setVm s₂.vm), Ls ++ L, c0 + mc, s0 + ms⟩,
      ⟨X.admits, X.cas, X.clock, X.frames, X.room, X.hears, X.method, X.code, (X.here.setHeapUsed s₂.heap s₂.slotsUsed).setVm hW'.alike, X.tail, State.WarmedH.trans X.warmed hW', X.limits, X.bytes, X.same.trans (hsame.setVm s.vm)⟩,
      ⟨g, mk, s₂, L, E, ce, rfl, rfl, hx, hce, hcv, hcl, rfl, hL, rfl, rfl⟩, ?_⟩
    show Steps p.tables e below _ (((({ U with heap := s₂.heap, slotsUsed := s₂.slotsUsed } : State).setVm s₂.vm).setTop g).pushFrame (.throwing q))
    rw [← hs₂]
    exact hsteps
end Payer
section Calls
variable {p : Program} {l : Launch} {e : Env} {R : Room} {s : State} {m : MethodId} {args : Array Value} {below : List Frame} {meth : Method} {c : Code} {T : State} {locs : List Loc} {cells slots : Nat}
theorem vx_callV (X : Stand p l e R s m args below meth c T locs cells slots) (hexec : p.tables.exec = Jvm.exec) {own C : String} {index : Nat} {y : MethodName} {bytes : ByteArray} {maxL : Nat} {ret : Option FieldType}
    (hown : s.vm.findClass own = some m.cls) (hlink : (Cond.methodLink own index y).before args s = true) (hinst : (Cond.instanceMethod y).before args s = true) (hsel : (Cond.selects C y y).before args s = true)
    (hcode : (Cond.code y bytes maxL ret).before args s = true) (hy : y.cls ≠ "java/lang/invoke/MethodHandle" ∧ y.cls ≠ "java/lang/invoke/VarHandle")
    {W9 : Nat} {Pre : Pt → Array Value → Prop} {Post : Pt → Array Value → Option Value → Pt → Prop} {PostX : Pt → Array Value → Addr → Pt → Prop} (hK : vx_Back l R p e below s args y 3 W9 Pre Post PostX)
    {b : Addr} {cellB : Cell} (hcell : T.heap[b]? = some cellB) (hobj : cellB.vm.isStatics = false) (hcls : s.vm.findClass C = some cellB.cls)
    {g : JFrame} (hg : g.method = m) (hsize : g.locals.size = c.maxLocals) {argsL rest : List Value} (hlen : ∀ sig, parseMethodDescriptor y.desc = some sig → argsL.length = sig.parameters.length)
    (hstack : g.stack = argsL.reverse ++ .ref b :: rest) (hW : 2 * g.monitorRoom + (rest.map fun v => v.category).sum ≤ W9) (hdg : decode c.code g.pc = .ok (.invokevirtual index, 3))
    (hpre : ∀ vm₁, s.WarmedH vm₁ → Pre ⟨T.setVm vm₁, locs, cells, slots⟩ (Value.ref b :: argsL).toArray) :
    (∃ (v : Option Value) (vm₁ : Vm) (B : Pt), s.WarmedH vm₁ ∧ Stand p l e R s m args below meth c B.U B.locs B.cells B.slots ∧ Post ⟨T.setVm vm₁, locs, cells, slots⟩ (Value.ref b :: argsL).toArray v B ∧
      ∀ target, Steps p.tables e below (B.U.setTop { g with pc := g.pc + 3, stack := v.toList ++ rest }) target → Steps p.tables e below (T.setTop g) target) ∨
    (∃ (q : Addr) (vm₁ : Vm) (B : Pt), s.WarmedH vm₁ ∧ Stand p l e R s m args below meth c B.U B.locs B.cells B.slots ∧ PostX ⟨T.setVm vm₁, locs, cells, slots⟩ (Value.ref b :: argsL).toArray q B ∧
      Steps p.tables e below (T.setTop g) ((B.U.setTop { g with stack := rest }).pushFrame (.throwing q))) := by
  obtain ⟨mk, methM, hnamed, hmethM, hstM, habM⟩ := Cond.instanceMethod_spec hinst
  obtain ⟨methM', cM, hmethM', -, -, -, -, -, -, hsigM⟩ := Cond.code_spec hnamed hcode
  cases hmethM.symm.trans hmethM'
  obtain ⟨c2, r2, m2, q1, q2, q3, q4, kP, hkP, hkPi⟩ := Cond.selects_spec hsel
  cases hcls.symm.trans q1
  cases (State.methodFound?_of_named hnamed hy).symm.trans q2
  cases hnamed.symm.trans q3
  have hselP : selectMethod e.platform s.vm cellB.cls mk = .method mk := by rw [Launch.admits_selectMethod X.admits]; exact q4
  obtain ⟨vm₁, X₁, hstep₁⟩ := X.invokevirtual hexec hown hlink hnamed hmethM hstM hkP hkPi hy (a := b) (cell := cellB) hcell
    (fun z h => by rw [h] at hobj; cases hobj) hselP hmethM habM hkP hkPi (g := g) hg (argsL := argsL) (rest := rest) (hlen _ hsigM) hstack hdg
  rcases hK m meth c ⟨T.setVm vm₁, locs, cells, slots⟩ { g with stack := rest } (.invokevirtual index) mk (Value.ref b :: argsL).toArray X₁ hg hsize hdg hW (X₁.named hnamed) (hpre vm₁ X₁.warmed) with ⟨v, B, X', hpost, hsteps⟩ | ⟨q, B, X', hpost, hsteps⟩
  · exact Or.inl ⟨v, vm₁, B, X₁.warmed, X', hpost, fun target h => hstep₁ _ fun acts => by rw [doInvoke_state]; exact hsteps.trans h⟩
  · exact Or.inr ⟨q, vm₁, B, X₁.warmed, X', hpost, hstep₁ _ fun acts => by rw [doInvoke_state]; exact hsteps⟩
theorem vx_callS (X : Stand p l e R s m args below meth c T locs cells slots) (hexec : p.tables.exec = Jvm.exec) {own : String} {index : Nat} {y : MethodName} {bytes : ByteArray} {maxL : Nat} {ret : Option FieldType}
    (hown : s.vm.findClass own = some m.cls) (hlink : (Cond.methodLink own index y).before args s = true) (hstat : (Cond.static y).before args s = true) (hinit : (Cond.initialized y.cls).before args s = true)
    (hcode : (Cond.code y bytes maxL ret).before args s = true) (hy : y.cls ≠ "java/lang/invoke/MethodHandle" ∧ y.cls ≠ "java/lang/invoke/VarHandle")
    {W9 : Nat} {Pre : Pt → Array Value → Prop} {Post : Pt → Array Value → Option Value → Pt → Prop} {PostX : Pt → Array Value → Addr → Pt → Prop} (hK : vx_Back l R p e below s args y 3 W9 Pre Post PostX)
    {g : JFrame} (hg : g.method = m) (hsize : g.locals.size = c.maxLocals) {argsL rest : List Value} (hlen : ∀ sig, parseMethodDescriptor y.desc = some sig → argsL.length = sig.parameters.length)
    (hstack : g.stack = argsL.reverse ++ rest) (hW : 2 * g.monitorRoom + (rest.map fun v => v.category).sum ≤ W9) (hdg : decode c.code g.pc = .ok (.invokestatic index, 3))
    (hpre : ∀ vm₁, s.WarmedH vm₁ → Pre ⟨T.setVm vm₁, locs, cells, slots⟩ argsL.toArray) :
    (∃ (v : Option Value) (vm₁ : Vm) (B : Pt), s.WarmedH vm₁ ∧ Stand p l e R s m args below meth c B.U B.locs B.cells B.slots ∧ Post ⟨T.setVm vm₁, locs, cells, slots⟩ argsL.toArray v B ∧
      ∀ target, Steps p.tables e below (B.U.setTop { g with pc := g.pc + 3, stack := v.toList ++ rest }) target → Steps p.tables e below (T.setTop g) target) ∨
    (∃ (q : Addr) (vm₁ : Vm) (B : Pt), s.WarmedH vm₁ ∧ Stand p l e R s m args below meth c B.U B.locs B.cells B.slots ∧ PostX ⟨T.setVm vm₁, locs, cells, slots⟩ argsL.toArray q B ∧
      Steps p.tables e below (T.setTop g) ((B.U.setTop { g with stack := rest }).pushFrame (.throwing q))) := by
  obtain ⟨mk, hnamed⟩ := Cond.code_named hcode
  obtain ⟨methM, cM, hmethM, -, -, -, -, -, -, hsigM⟩ := Cond.code_spec hnamed hcode
  have hstatic : methM.isStatic = true := Cond.static_spec hnamed hmethM hstat
  obtain ⟨kP, hkP, -⟩ := className_of_methodNamed hnamed
  have hinitP : kP.init = .initialized := Cond.initialized_spec (findClass_of_methodNamed hnamed) hkP hinit
  obtain ⟨vm₁, X₁, hstep₁⟩ := X.invokestatic hexec hown hlink hnamed hmethM hstatic hkP hinitP hy (g := g) hg (argsL := argsL) (rest := rest) (hlen _ hsigM) hstack hdg
  rcases hK m meth c ⟨T.setVm vm₁, locs, cells, slots⟩ { g with stack := rest } (.invokestatic index) mk argsL.toArray X₁ hg hsize hdg hW (X₁.named hnamed) (hpre vm₁ X₁.warmed) with ⟨v, B, X', hpost, hsteps⟩ | ⟨q, B, X', hpost, hsteps⟩
  · exact Or.inl ⟨v, vm₁, B, X₁.warmed, X', hpost, fun target h => hstep₁ _ fun acts => by rw [doInvoke_state]; exact hsteps.trans h⟩
  · exact Or.inr ⟨q, vm₁, B, X₁.warmed, X', hpost, hstep₁ _ fun acts => by rw [doInvoke_state]; exact hsteps⟩
end Calls
theorem vx_cls {s : State} {T : State} {vm₁ : Vm} {E : String} {k : ClassId} (hW : s.WarmedH vm₁) (h : (T.setVm vm₁).vm.findClass E = some k) : s.vm.findClass E = some k := by
  have h1 : vm₁.findClass E = some k := h
  rw [hW.alike.findClass] at h1
  exact h1
/-- the method's frame g, with q thrown over it -/
def vx_W (p : Program) (l : Launch) (e : Env) (R : Room) (s : State) (m : MethodId) (args : Array Value) (below : List Frame) (meth : Method) (c : Code) (H : Heap) (locs : List Loc) (cells slots : Nat) (Q : State → Prop) (g : JFrame) (q : Addr) : Prop :=
  ∀ T : State, T.heap = H → Stand p l e R s m args below meth c T locs cells slots → ∃ t, Steps p.tables e below ((T.setTop g).pushFrame (.throwing q)) t ∧ Q t
def vx_Run (p : Program) (l : Launch) (e : Env) (R : Room) (s : State) (m : MethodId) (args : Array Value) (below : List Frame) (meth : Method) (c : Code) (H : Heap) (locs : List Loc) (cells slots mc ms : Nat) (g : JFrame) (rest : List Value) (Qa : State → Outcome → State → Prop) (XC : String → State → State → Prop) (free : Addr → Prop) : Prop :=
  ∀ T : State, T.heap = H → Stand p l e R s m args below meth c T locs cells slots →
    (∃ (v : Option Value) (st₀ t T' : State) (L : List Loc), st₀.heap = H ∧ Stand p l e R s m args below meth c T' (locs ++ L) (cells + mc) (slots + ms) ∧ (∀ q ∈ L, free q.base) ∧ T'.heap = t.heap ∧ T'.vm = t.vm ∧ Qa st₀ (.returned v) t ∧
      Goes p e below T g T' { g with pc := g.pc + 3, stack := v.toList ++ rest }) ∨
    (∃ (q : Addr) (st₀ t T' : State) (L : List Loc) (E : String) (ce : Cell), st₀.heap = H ∧ Stand p l e R s m args below meth c T' (locs ++ L) (cells + mc) (slots + ms) ∧ (∀ z ∈ L, free z.base) ∧ T'.heap = t.heap ∧ T'.vm = t.vm ∧ XC E st₀ t ∧ t.heap[q]? = some ce ∧ ce.vm = .none ∧ s.vm.findClass E = some ce.cls ∧
      Steps p.tables e below (T.setTop g) ((T'.setTop { g with stack := rest }).pushFrame (.throwing q)))
def vx_X {S : Type} (px : S → Prop) (B : String → S → State → Prop) (A : Nat → Prop) : String → State → State → Prop := fun E st t => ∃ u : S, px u ∧ B E u t ∧ va_F A st t
section Runs
variable {p : Program} {l : Launch} {e : Env} {R : Room} {s : State} {m : MethodId} {args : Array Value} {below : List Frame} {meth : Method} {c : Code} {H : Heap} {locs : List Loc} {cells slots : Nat}
variable {y : MethodName} {bytes cc : ByteArray} {maxL nL mc ms n index : Nat} {ret : Option FieldType} {ws : List Cond} {rm : Room} {Pc : Array Value → State → Prop} {Qc : Array Value → State → Outcome → State → Prop} {XC : String → State → State → Prop} {free : Addr → Prop} {Ts : List Cond} {own C : String} {b : Addr} {As rest : List Value} {g : JFrame}
theorem vx_callBack (cb : CallB R s args own index y bytes maxL ret ws rm mc ms n) (hM : vx_Met l y ws rm Pc Qc XC mc ms free) (hbl : FrameBlind Pc) : vx_Back l R p e below s args y 3 8 (PreOf R mc ms Pc) (PostOf Qc mc ms free) (vx_Post XC mc ms free) := by
  obtain ⟨hrc, hrs, hfr, hlo, hws, hcw, -, hini, -⟩ := cb
  exact vx_back (bytes := bytes) (maxL := maxL) (ret := ret) hM hbl hrc hrs hfr hlo hws hcw (fun a' U hW => word_at hW (Or.inl (by first | rfl | simp [Cond.onTables, Cond.keeps, Cond.steady])) hini)
theorem vx_runV (S : CallFix p m c cc nL s args Ts own) (hM : vx_Met l y ws rm Pc Qc XC mc ms free) (cw : CallW R s args own C index y bytes maxL ret ws rm mc ms n) (hp : PreV s H C b Pc As)
    (hg : g.method = m) (hn : As.length = n) (hsize : g.locals.size = nL) (hstack : g.stack = As.reverse ++ .ref b :: rest) (hW : 2 * g.monitorRoom + (rest.map fun v => v.category).sum ≤ 8) (hdg : decode cc g.pc = .ok (.invokevirtual index, 3)) (hf : cells + mc ≤ R.cells ∧ slots + ms ≤ R.slots) :
    vx_Run p l e R s m args below meth c H locs cells slots mc ms g rest (Qc (Value.ref b :: As).toArray) XC free := by
  have hK : vx_Back l R p e below s args y 3 8 (PreOf R mc ms Pc) (PostOf Qc mc ms free) (vx_Post XC mc ms free) := vx_callBack cw.1 hM hp.1
  obtain ⟨⟨-, -, -, -, -, -, hcode, -, hy, hlen, hl⟩, hin, hse⟩ := cw
  obtain ⟨hx, hb, hml, ho, -⟩ := S
  obtain ⟨-, ⟨cellB, hcB, hoB, hclB⟩, hPc⟩ := hp
  intro T hT X
  rcases vx_callV X hx (C := C) (bytes := bytes) (maxL := maxL) (ret := ret) ho hl hin hse hcode hy hK (by rw [hT]; exact hcB) hoB hclB hg (hsize.trans hml.symm) (argsL := As) (rest := rest) (fun sig h => hn.trans (hlen sig h)) hstack hW (by rw [hb]; exact hdg)
    (fun vm₁ hW₁ => ⟨hf.1, hf.2, hPc (T.setVm vm₁) hT hW₁⟩) with ⟨v, vm₁, ⟨U', l2, c2, s2⟩, hW₁, X', ⟨g', mk, t, L, e1, e2, hq, h1, hL, h2, h3⟩, st⟩ | ⟨q, vm₁, ⟨U', l2, c2, s2⟩, hW₁, X', ⟨g', mk, t, L, E, ce, e1, e2, hq, hce, hcv, hcl, h1, hL, h2, h3⟩, st⟩
  · dsimp only [Pt.U, Pt.locs, Pt.cells, Pt.slots] at X' e1 e2 h1 h2 h3 st
    subst h1; subst h2; subst h3
    exact Or.inl ⟨v, (T.setVm vm₁).calling g' mk (Value.ref b :: As).toArray, t, U', L, hT, X', hL, e1, e2, hq, st⟩
  · dsimp only [Pt.U, Pt.locs, Pt.cells, Pt.slots] at X' e1 e2 h1 h2 h3 st hcl
    subst h1; subst h2; subst h3
    exact Or.inr ⟨q, (T.setVm vm₁).calling g' mk (Value.ref b :: As).toArray, t, U', L, E, ce, hT, X', hL, e1, e2, hq, hce, hcv, vx_cls hW₁ hcl, st⟩
theorem vx_runS (S : CallFix p m c cc nL s args Ts own) (hM : vx_Met l y ws rm Pc Qc XC mc ms free) (cw : CallB R s args own index y bytes maxL ret ws rm mc ms n ∧ (Cond.static y).before args s = true) (hp : PreS s H Pc As)
    (hg : g.method = m) (hn : As.length = n) (hsize : g.locals.size = nL) (hstack : g.stack = As.reverse ++ rest) (hW : 2 * g.monitorRoom + (rest.map fun v => v.category).sum ≤ 8) (hdg : decode cc g.pc = .ok (.invokestatic index, 3)) (hf : cells + mc ≤ R.cells ∧ slots + ms ≤ R.slots) :
    vx_Run p l e R s m args below meth c H locs cells slots mc ms g rest (Qc As.toArray) XC free := by
  have hK : vx_Back l R p e below s args y 3 8 (PreOf R mc ms Pc) (PostOf Qc mc ms free) (vx_Post XC mc ms free) := vx_callBack cw.1 hM hp.1
  obtain ⟨⟨-, -, -, -, -, -, hcode, hini, hy, hlen, hl⟩, hstt⟩ := cw
  obtain ⟨hx, hb, hml, ho, -⟩ := S
  intro T hT X
  rcases vx_callS X hx (bytes := bytes) (maxL := maxL) (ret := ret) ho hl hstt hini hcode hy hK hg (hsize.trans hml.symm) (argsL := As) (rest := rest) (fun sig h => hn.trans (hlen sig h)) hstack hW (by rw [hb]; exact hdg)
    (fun vm₁ hW₁ => ⟨hf.1, hf.2, hp.2 (T.setVm vm₁) hT hW₁⟩) with ⟨v, vm₁, ⟨U', l2, c2, s2⟩, hW₁, X', ⟨g', mk, t, L, e1, e2, hq, h1, hL, h2, h3⟩, st⟩ | ⟨q, vm₁, ⟨U', l2, c2, s2⟩, hW₁, X', ⟨g', mk, t, L, E, ce, e1, e2, hq, hce, hcv, hcl, h1, hL, h2, h3⟩, st⟩
  · dsimp only [Pt.U, Pt.locs, Pt.cells, Pt.slots] at X' e1 e2 h1 h2 h3 st
    subst h1; subst h2; subst h3
    exact Or.inl ⟨v, (T.setVm vm₁).calling g' mk As.toArray, t, U', L, hT, X', hL, e1, e2, hq, st⟩
  · dsimp only [Pt.U, Pt.locs, Pt.cells, Pt.slots] at X' e1 e2 h1 h2 h3 st hcl
    subst h1; subst h2; subst h3
    exact Or.inr ⟨q, (T.setVm vm₁).calling g' mk As.toArray, t, U', L, E, ce, hT, X', hL, e1, e2, hq, hce, hcv, vx_cls hW₁ hcl, st⟩
end Runs
section Rows
variable {p : Program} {l : Launch} {e : Env} {R : Room} {s : State} {m : MethodId} {args : Array Value} {below : List Frame} {meth : Method} {c : Code} {H : Heap} {locs : List Loc} {cells slots : Nat} {Q : State → Prop}
variable {mc ms : Nat} {free : Addr → Prop} {A0 A1 : Nat → Prop} {H0 : Heap} {a : Array Value} {pc : Nat} {ls : Array Slot} {st0 rest : List Value}
theorem vx_keep {st₀ t T' : State} {L : List Loc} (h0 : st₀.heap = H) (e1 : T'.heap = t.heap) (hS : va_S A0 H0 H locs) (hA : ∀ q, q < H.size → A1 q → A0 q) (hf : ∀ q, free q → A0 q) (hL : ∀ q ∈ L, free q.base) (hF : va_F A1 st₀ t) :
    H.size ≤ T'.heap.size ∧ (∀ q : Nat, q < H.size → ¬ A1 q → T'.heap[q]? = H[q]?) ∧ va_S A0 H0 T'.heap (locs ++ L) := by
  obtain ⟨hz, hk⟩ := hF
  rw [h0] at hz hk
  exact ⟨by rw [e1]; exact hz, fun q h1 h2 => by rw [e1]; exact hk q h1 h2,
    ⟨Nat.le_trans hS.1 (by rw [e1]; exact hz), fun q h1 h2 => by rw [e1, hk q (Nat.lt_of_lt_of_le h1 hS.1) (fun z => h2 (hA q (Nat.lt_of_lt_of_le h1 hS.1) z))]; exact hS.2.1 q h1 h2, fun q hq => by
      rcases List.mem_append.mp hq with h | h
      · exact hS.2.2 q h
      · exact hf _ (hL q h)⟩⟩
theorem vx_calli {S SX : Type} {post : Int32 → S → Prop} {px : SX → Prop} {B : S → State → Prop} {BX : String → SX → State → Prop} {AX : Nat → Prop} (hr : vx_Run p l e R s m args below meth c H locs cells slots mc ms (F0 m pc ls st0) rest (va_Qi post B A1 a) (vx_X px BX AX) free) (hS : va_S A0 H0 H locs) (hA : ∀ q, q < H.size → A1 q → A0 q) (hf : ∀ q, free q → A0 q) (hAX : ∀ q, q < H.size → AX q → A0 q)
    (kx : ∀ (E : String) (ce : Cell) (q9 : Addr) (u : SX) (t : State) (H1 : Heap) (locs1 : List Loc), t.heap = H1 → s.vm.Alike t.vm → px u → BX E u t → H.size ≤ H1.size → (∀ q : Nat, q < H.size → ¬ AX q → H1[q]? = H[q]?) → va_S A0 H0 H1 locs1 → H1[q9]? = some ce → ce.vm = .none → s.vm.findClass E = some ce.cls → vx_W p l e R s m args below meth c H1 locs1 (cells + mc) (slots + ms) Q (F0 m pc ls rest) q9)
    (kk : ∀ (r : Int32) (u : S) (t : State) (H1 : Heap) (locs1 : List Loc), t.heap = H1 → s.vm.Alike t.vm → post r u → B u t → H.size ≤ H1.size → (∀ q : Nat, q < H.size → ¬ A1 q → H1[q]? = H[q]?) → va_S A0 H0 H1 locs1 → W p l e R s m args below meth c H1 locs1 (cells + mc) (slots + ms) Q (F0 m (pc + 3) ls (.int r :: rest))) : W p l e R s m args below meth c H locs cells slots Q (F0 m pc ls st0) := by
  intro T hT X
  rcases hr T hT X with ⟨v, st₀, t, T', L, h0, X', hL, e1, e2, ⟨⟨r, u, hv, hp, hb⟩, hF⟩, st⟩ | ⟨q, st₀, t, T', L, E, ce, h0, X', hL, e1, e2, ⟨u, hp, hb, hF⟩, hce, hcv, hcl, st⟩
  · cases hv
    obtain ⟨k1, k2, k3⟩ := vx_keep h0 e1 hS hA hf hL hF
    obtain ⟨t2, a1, b1⟩ := kk r u t T'.heap (locs ++ L) e1.symm (by rw [← e2]; exact X'.warmed.alike) hp hb k1 k2 k3 T' rfl X'
    exact ⟨t2, st t2 a1, b1⟩
  · obtain ⟨k1, k2, k3⟩ := vx_keep h0 e1 hS hAX hf hL hF
    obtain ⟨t2, a1, b1⟩ := kx E ce q u t T'.heap (locs ++ L) e1.symm (by rw [← e2]; exact X'.warmed.alike) hp hb k1 k2 k3 (by rw [e1]; exact hce) hcv hcl T' rfl X'
    exact ⟨t2, st.trans a1, b1⟩
theorem vx_calll {S SX : Type} {post : Int64 → S → Prop} {px : SX → Prop} {B : S → State → Prop} {BX : String → SX → State → Prop} {AX : Nat → Prop} (hr : vx_Run p l e R s m args below meth c H locs cells slots mc ms (F0 m pc ls st0) rest (va_Ql post B A1 a) (vx_X px BX AX) free) (hS : va_S A0 H0 H locs) (hA : ∀ q, q < H.size → A1 q → A0 q) (hf : ∀ q, free q → A0 q) (hAX : ∀ q, q < H.size → AX q → A0 q)
    (kx : ∀ (E : String) (ce : Cell) (q9 : Addr) (u : SX) (t : State) (H1 : Heap) (locs1 : List Loc), t.heap = H1 → s.vm.Alike t.vm → px u → BX E u t → H.size ≤ H1.size → (∀ q : Nat, q < H.size → ¬ AX q → H1[q]? = H[q]?) → va_S A0 H0 H1 locs1 → H1[q9]? = some ce → ce.vm = .none → s.vm.findClass E = some ce.cls → vx_W p l e R s m args below meth c H1 locs1 (cells + mc) (slots + ms) Q (F0 m pc ls rest) q9)
    (kk : ∀ (r : Int64) (u : S) (t : State) (H1 : Heap) (locs1 : List Loc), t.heap = H1 → s.vm.Alike t.vm → post r u → B u t → H.size ≤ H1.size → (∀ q : Nat, q < H.size → ¬ A1 q → H1[q]? = H[q]?) → va_S A0 H0 H1 locs1 → W p l e R s m args below meth c H1 locs1 (cells + mc) (slots + ms) Q (F0 m (pc + 3) ls (.long r :: rest))) : W p l e R s m args below meth c H locs cells slots Q (F0 m pc ls st0) := by
  intro T hT X
  rcases hr T hT X with ⟨v, st₀, t, T', L, h0, X', hL, e1, e2, ⟨⟨r, u, hv, hp, hb⟩, hF⟩, st⟩ | ⟨q, st₀, t, T', L, E, ce, h0, X', hL, e1, e2, ⟨u, hp, hb, hF⟩, hce, hcv, hcl, st⟩
  · cases hv
    obtain ⟨k1, k2, k3⟩ := vx_keep h0 e1 hS hA hf hL hF
    obtain ⟨t2, a1, b1⟩ := kk r u t T'.heap (locs ++ L) e1.symm (by rw [← e2]; exact X'.warmed.alike) hp hb k1 k2 k3 T' rfl X'
    exact ⟨t2, st t2 a1, b1⟩
  · obtain ⟨k1, k2, k3⟩ := vx_keep h0 e1 hS hAX hf hL hF
    obtain ⟨t2, a1, b1⟩ := kx E ce q u t T'.heap (locs ++ L) e1.symm (by rw [← e2]; exact X'.warmed.alike) hp hb k1 k2 k3 (by rw [e1]; exact hce) hcv hcl T' rfl X'
    exact ⟨t2, st.trans a1, b1⟩
theorem vx_callf {S SX : Type} {post : UInt32 → S → Prop} {px : SX → Prop} {B : S → State → Prop} {BX : String → SX → State → Prop} {AX : Nat → Prop} (hr : vx_Run p l e R s m args below meth c H locs cells slots mc ms (F0 m pc ls st0) rest (va_Qf post B A1 a) (vx_X px BX AX) free) (hS : va_S A0 H0 H locs) (hA : ∀ q, q < H.size → A1 q → A0 q) (hf : ∀ q, free q → A0 q) (hAX : ∀ q, q < H.size → AX q → A0 q)
    (kx : ∀ (E : String) (ce : Cell) (q9 : Addr) (u : SX) (t : State) (H1 : Heap) (locs1 : List Loc), t.heap = H1 → s.vm.Alike t.vm → px u → BX E u t → H.size ≤ H1.size → (∀ q : Nat, q < H.size → ¬ AX q → H1[q]? = H[q]?) → va_S A0 H0 H1 locs1 → H1[q9]? = some ce → ce.vm = .none → s.vm.findClass E = some ce.cls → vx_W p l e R s m args below meth c H1 locs1 (cells + mc) (slots + ms) Q (F0 m pc ls rest) q9)
    (kk : ∀ (r : UInt32) (u : S) (t : State) (H1 : Heap) (locs1 : List Loc), t.heap = H1 → s.vm.Alike t.vm → post r u → B u t → H.size ≤ H1.size → (∀ q : Nat, q < H.size → ¬ A1 q → H1[q]? = H[q]?) → va_S A0 H0 H1 locs1 → W p l e R s m args below meth c H1 locs1 (cells + mc) (slots + ms) Q (F0 m (pc + 3) ls (.float r :: rest))) : W p l e R s m args below meth c H locs cells slots Q (F0 m pc ls st0) := by
  intro T hT X
  rcases hr T hT X with ⟨v, st₀, t, T', L, h0, X', hL, e1, e2, ⟨⟨r, u, hv, hp, hb⟩, hF⟩, st⟩ | ⟨q, st₀, t, T', L, E, ce, h0, X', hL, e1, e2, ⟨u, hp, hb, hF⟩, hce, hcv, hcl, st⟩
  · cases hv
    obtain ⟨k1, k2, k3⟩ := vx_keep h0 e1 hS hA hf hL hF
    obtain ⟨t2, a1, b1⟩ := kk r u t T'.heap (locs ++ L) e1.symm (by rw [← e2]; exact X'.warmed.alike) hp hb k1 k2 k3 T' rfl X'
    exact ⟨t2, st t2 a1, b1⟩
  · obtain ⟨k1, k2, k3⟩ := vx_keep h0 e1 hS hAX hf hL hF
    obtain ⟨t2, a1, b1⟩ := kx E ce q u t T'.heap (locs ++ L) e1.symm (by rw [← e2]; exact X'.warmed.alike) hp hb k1 k2 k3 (by rw [e1]; exact hce) hcv hcl T' rfl X'
    exact ⟨t2, st.trans a1, b1⟩
theorem vx_calld {S SX : Type} {post : UInt64 → S → Prop} {px : SX → Prop} {B : S → State → Prop} {BX : String → SX → State → Prop} {AX : Nat → Prop} (hr : vx_Run p l e R s m args below meth c H locs cells slots mc ms (F0 m pc ls st0) rest (va_Qd post B A1 a) (vx_X px BX AX) free) (hS : va_S A0 H0 H locs) (hA : ∀ q, q < H.size → A1 q → A0 q) (hf : ∀ q, free q → A0 q) (hAX : ∀ q, q < H.size → AX q → A0 q)
    (kx : ∀ (E : String) (ce : Cell) (q9 : Addr) (u : SX) (t : State) (H1 : Heap) (locs1 : List Loc), t.heap = H1 → s.vm.Alike t.vm → px u → BX E u t → H.size ≤ H1.size → (∀ q : Nat, q < H.size → ¬ AX q → H1[q]? = H[q]?) → va_S A0 H0 H1 locs1 → H1[q9]? = some ce → ce.vm = .none → s.vm.findClass E = some ce.cls → vx_W p l e R s m args below meth c H1 locs1 (cells + mc) (slots + ms) Q (F0 m pc ls rest) q9)
    (kk : ∀ (r : UInt64) (u : S) (t : State) (H1 : Heap) (locs1 : List Loc), t.heap = H1 → s.vm.Alike t.vm → post r u → B u t → H.size ≤ H1.size → (∀ q : Nat, q < H.size → ¬ A1 q → H1[q]? = H[q]?) → va_S A0 H0 H1 locs1 → W p l e R s m args below meth c H1 locs1 (cells + mc) (slots + ms) Q (F0 m (pc + 3) ls (.double r :: rest))) : W p l e R s m args below meth c H locs cells slots Q (F0 m pc ls st0) := by
  intro T hT X
  rcases hr T hT X with ⟨v, st₀, t, T', L, h0, X', hL, e1, e2, ⟨⟨r, u, hv, hp, hb⟩, hF⟩, st⟩ | ⟨q, st₀, t, T', L, E, ce, h0, X', hL, e1, e2, ⟨u, hp, hb, hF⟩, hce, hcv, hcl, st⟩
  · cases hv
    obtain ⟨k1, k2, k3⟩ := vx_keep h0 e1 hS hA hf hL hF
    obtain ⟨t2, a1, b1⟩ := kk r u t T'.heap (locs ++ L) e1.symm (by rw [← e2]; exact X'.warmed.alike) hp hb k1 k2 k3 T' rfl X'
    exact ⟨t2, st t2 a1, b1⟩
  · obtain ⟨k1, k2, k3⟩ := vx_keep h0 e1 hS hAX hf hL hF
    obtain ⟨t2, a1, b1⟩ := kx E ce q u t T'.heap (locs ++ L) e1.symm (by rw [← e2]; exact X'.warmed.alike) hp hb k1 k2 k3 (by rw [e1]; exact hce) hcv hcl T' rfl X'
    exact ⟨t2, st.trans a1, b1⟩
theorem vx_callv {S SX : Type} {post : S → Prop} {px : SX → Prop} {B : S → State → Prop} {BX : String → SX → State → Prop} {AX : Nat → Prop} (hr : vx_Run p l e R s m args below meth c H locs cells slots mc ms (F0 m pc ls st0) rest (va_Qv post B A1 a) (vx_X px BX AX) free) (hS : va_S A0 H0 H locs) (hA : ∀ q, q < H.size → A1 q → A0 q) (hf : ∀ q, free q → A0 q) (hAX : ∀ q, q < H.size → AX q → A0 q)
    (kx : ∀ (E : String) (ce : Cell) (q9 : Addr) (u : SX) (t : State) (H1 : Heap) (locs1 : List Loc), t.heap = H1 → s.vm.Alike t.vm → px u → BX E u t → H.size ≤ H1.size → (∀ q : Nat, q < H.size → ¬ AX q → H1[q]? = H[q]?) → va_S A0 H0 H1 locs1 → H1[q9]? = some ce → ce.vm = .none → s.vm.findClass E = some ce.cls → vx_W p l e R s m args below meth c H1 locs1 (cells + mc) (slots + ms) Q (F0 m pc ls rest) q9)
    (kk : ∀ (u : S) (t : State) (H1 : Heap) (locs1 : List Loc), t.heap = H1 → s.vm.Alike t.vm → post u → B u t → H.size ≤ H1.size → (∀ q : Nat, q < H.size → ¬ A1 q → H1[q]? = H[q]?) → va_S A0 H0 H1 locs1 → W p l e R s m args below meth c H1 locs1 (cells + mc) (slots + ms) Q (F0 m (pc + 3) ls (rest))) : W p l e R s m args below meth c H locs cells slots Q (F0 m pc ls st0) := by
  intro T hT X
  rcases hr T hT X with ⟨v, st₀, t, T', L, h0, X', hL, e1, e2, ⟨⟨u, hv, hp, hb⟩, hF⟩, st⟩ | ⟨q, st₀, t, T', L, E, ce, h0, X', hL, e1, e2, ⟨u, hp, hb, hF⟩, hce, hcv, hcl, st⟩
  · cases hv
    obtain ⟨k1, k2, k3⟩ := vx_keep h0 e1 hS hA hf hL hF
    obtain ⟨t2, a1, b1⟩ := kk u t T'.heap (locs ++ L) e1.symm (by rw [← e2]; exact X'.warmed.alike) hp hb k1 k2 k3 T' rfl X'
    exact ⟨t2, st t2 a1, b1⟩
  · obtain ⟨k1, k2, k3⟩ := vx_keep h0 e1 hS hAX hf hL hF
    obtain ⟨t2, a1, b1⟩ := kx E ce q u t T'.heap (locs ++ L) e1.symm (by rw [← e2]; exact X'.warmed.alike) hp hb k1 k2 k3 (by rw [e1]; exact hce) hcv hcl T' rfl X'
    exact ⟨t2, st.trans a1, b1⟩
/-- caught by the row x of this method's table; the rows ahead don't take it -/
theorem vx_catch {own name : String} {E : String} {ce : Cell} {q : Addr} (hown : s.vm.findClass own = some m.cls) (pre : List ExceptionTableEntry) (x : ExceptionTableEntry) (suf : List ExceptionTableEntry) (hsplit : c.exceptionTable.toList = pre ++ x :: suf)
    (hpass : ∀ z ∈ pre, covers z pc = false ∨ (z.catchType ≠ 0 ∧ ∃ nm : String, (Cond.classLink own z.catchType nm).before args s = true ∧ va_Nc E nm s)) (hx : covers x pc = true) (h0 : x.catchType ≠ 0)
    (hlink : (Cond.classLink own x.catchType name).before args s = true) (hcast : (Cond.castable E name).before args s = true) (hcell : H[q]? = some ce) (hv : ce.vm = .none) (hcl : s.vm.findClass E = some ce.cls)
    (kk : W p l e R s m args below meth c H locs cells slots Q (F0 m x.handlerPc ls [.ref q])) : vx_W p l e R s m args below meth c H locs cells slots Q (F0 m pc ls rest) q := by
  intro T hT X
  have hpl : e.platform.magicAccessors = ({} : Platform).magicAccessors := by rw [X.admits.platform]
  obtain ⟨c3, c4, hc3, hc4, hasg⟩ := Cond.castable_spec hcast
  cases Option.some.inj (hc3.symm.trans hcl)
  obtain ⟨c5, hc5, hcl5⟩ := Cond.classLink_spec hown hlink e.platform hpl
  cases Option.some.inj (hc4.symm.trans hc5)
  obtain ⟨vm', X', st⟩ := X.thenCaughtThrough q (g := F0 m pc ls rest) rfl (Steps.refl _) (by rw [hT]; exact hcell) (by rw [hv]; rfl) (by obtain ⟨k9, h9, -⟩ := Vm.findClass_spec hcl; exact ⟨k9, h9⟩) pre x suf hsplit
    (fun z hz => by
      rcases hpass z hz with h | ⟨hz0, nm, hl1, hn1⟩
      · exact Or.inl h
      · obtain ⟨c6, hc6, hcl6⟩ := Cond.classLink_spec hown hl1 e.platform hpl
        obtain ⟨a8, b8, h1, h2, h3⟩ := hn1
        cases Option.some.inj (h1.symm.trans hcl)
        cases Option.some.inj (h2.symm.trans hc6)
        exact Or.inr ⟨hz0, _, hcl6, h3⟩) hx (Or.inr ⟨h0, c4, hcl5, hasg⟩)
  obtain ⟨t, a1, b1⟩ := kk (T.setVm vm') hT X'
  exact ⟨t, st.trans a1, b1⟩
end Rows
section Ends
variable {p : Program} {l : Launch} {e : Env} {R : Room} {s : State} {m : MethodId} {args : Array Value} {below : List Frame} {meth : Method} {c : Code} {H : Heap} {locs : List Loc} {cells slots : Nat} {Q : State → Prop}
variable {mc ms : Nat} {free : Addr → Prop} {A0 A1 : Nat → Prop} {H0 : Heap} {a : Array Value} {ls : Array Slot} {st0 rest : List Value}
variable {Qc : Array Value → State → Outcome → State → Prop} {XC : String → State → State → Prop}
/-- what a body that may throw owes at its end -/
def vx_MQ (below : List Frame) (Qc : Array Value → State → Outcome → State → Prop) (XC : String → State → State → Prop) (a : Array Value) (s : State) (mc ms : Nat) (free : Addr → Prop) : State → Prop := fun t =>
  ∃ o, t.status = .running ∧ Ended t below o ∧ vx_Q Qc XC mc ms free a s o t
theorem vx_ret {g : JFrame} {mc ms : Nat} (k : W p l e R s m args below meth c H locs cells slots (MQ below Qc args s mc ms free) g) : W p l e R s m args below meth c H locs cells slots (vx_MQ below Qc XC args s mc ms free) g := by
  intro T hT X
  obtain ⟨t, a1, o, b1, b2, b3, b4⟩ := k T hT X
  exact ⟨t, a1, o, b1, b2, Or.inl ⟨b3, b4⟩⟩
/-- not caught here: it goes on to the caller -/
theorem vx_widen {g : JFrame} {q : Addr} {k n : Nat} (h1 : cells ≤ k) (h2 : slots ≤ n) (kk : vx_W p l e R s m args below meth c H locs k n Q g q) : vx_W p l e R s m args below meth c H locs cells slots Q g q := fun T hT X => kk T hT (stand_widen X h1 h2)
theorem vx_out {pc : Nat} {E : String} {ce : Cell} {q : Addr} {mc ms : Nat} (hout : ∀ x ∈ c.exceptionTable.toList, covers x pc = false) (hlocks : meth.locks = false) (hcell : H[q]? = some ce) (hv : ce.vm = .none) (hcl : s.vm.findClass E = some ce.cls)
    (hx : ∀ t : State, t.heap = H → s.vm.Alike t.vm → XC E s t) (hf : ∀ z ∈ locs, free z.base) (hc : cells ≤ mc) (hs : slots ≤ ms) :
    vx_W p l e R s m args below meth c H locs cells slots (vx_MQ below Qc XC args s mc ms free) (F0 m pc ls rest) q := by
  intro T hT X
  obtain ⟨st1, hrun, hend, hW, hsm⟩ := X.leaveThrown q (g := F0 m pc ls rest) rfl rfl rfl hout hlocks
  have hcell9 : (T.setFrames (.throwing q :: below)).heap[q]? = some ce := by
    show T.heap[q]? = some ce
    rw [hT]; exact hcell
  exact ⟨_, st1, .threw q, hrun, hend, Or.inr ⟨q, rfl, E, ce, locs, hx _ hT hW.alike, hcell9, hv, hcl, hW, hsm.mono hc hs, hf⟩⟩
theorem vx_frame {U : State} {k n : Nat} (h : s.sameButNew ({ U with vm := s.vm } : State) locs k n) : s.heap.size ≤ U.heap.size ∧ ∀ q : Nat, q < s.heap.size → (∀ z ∈ locs, z.base ≠ q) → U.heap[q]? = s.heap[q]? := by
  obtain ⟨-, h2, -, -, -, h6⟩ := h
  refine ⟨h2, fun q hq hz => ?_⟩
  obtain ⟨c9, e1, e2, e3, e4⟩ := h6 q _ (Array.getElem?_eq_getElem hq)
  have hs : c9.slots = (s.heap[q]).slots := Array.ext_getElem? fun i => e4 i fun hm => hz _ hm rfl
  have h9 : c9 = s.heap[q] := by
    rw [hs] at e2
    exact e2
  have e5 : U.heap[q]? = some c9 := e1
  rw [e5, h9, Array.getElem?_eq_getElem hq]
/-- the words of a throw but the four that speak of the heap -/
def vx_no (w : Cond) : Bool := decide (w ≠ .isRef (.static Bundle.tN "UNASSIGNED_STACK" Bundle.steD)) && decide (w ≠ .isRef (.static Bundle.tN "SUPPRESSED_SENTINEL" Bundle.listD)) && decide (w ≠ .laysStatic Bundle.tN "UNASSIGNED_STACK" Bundle.steD) && decide (w ≠ .laysStatic Bundle.tN "SUPPRESSED_SENTINEL" Bundle.listD)
def vx_at0 (own : String) (ic : Nat) (X : String) (names : List String) : List Cond := (Bundle.ownAtoms0 own ic X names).filter vx_no
def vx_atS (own : String) (ic : Nat) (X : String) (names : List String) : List Cond := (Bundle.ownAtoms own ic X names).filter vx_no
/-- a word that the tables alone decide, or a good one -/
def vx_ot (w : Cond) : Bool := w.onTables || goodWord w
theorem vx_ot_at {args a' : Array Value} {s U : State} {w : Cond} (hW : s.WarmedH U.vm) (hvm : s.vm = U.vm) (hg : vx_ot w = true) (h : w.before args s = true) : w.before a' U = true := by
  simp only [vx_ot, Bool.or_eq_true] at hg
  rcases hg with hg | hg
  · exact va_tabs hg hvm h
  · exact word_at hW (good_of_word hg) h
/-- a list's words: the good ones out of the method's own list, the others by premises of their own -/
theorem vx_hat {args : Array Value} {s : State} {L B : List Cond} (h1 : ∀ w ∈ L.filter goodWord, w.before args s = true) (h2 : ∀ w ∈ L.filter (fun w => !goodWord w), w ∈ B) (h3 : ∀ w ∈ B, w.before args s = true) : ∀ w ∈ L, w.before args s = true := by
  intro w hw
  by_cases g : goodWord w = true
  · exact h1 w (List.mem_filter.mpr ⟨hw, g⟩)
  · refine h3 w (h2 w (List.mem_filter.mpr ⟨hw, ?_⟩))
    show (!goodWord w) = true
    cases hgw : goodWord w
    · rfl
    · exact absurd hgw g
theorem vx_c {args : Array Value} {s : State} {w : Cond} {B : List Cond} (h : w.before args s = true) (t : ∀ w ∈ B, w.before args s = true) : ∀ w' ∈ w :: B, w'.before args s = true := fun w' h' => (List.mem_cons.mp h').elim (fun e => by rw [e]; exact h) (t w')
theorem vx_n {args : Array Value} {s : State} : ∀ w ∈ ([] : List Cond), w.before args s = true := fun _ h => nomatch h
theorem vx_own {args : Array Value} {s : State} {L : List Cond} (h1 : ∀ w ∈ L.filter vx_no, w.before args s = true)
    (hU : (Cond.isRef (.static Bundle.tN "UNASSIGNED_STACK" Bundle.steD)).before args s = true) (hN : (Cond.isRef (.static Bundle.tN "SUPPRESSED_SENTINEL" Bundle.listD)).before args s = true)
    (lU : (Cond.laysStatic Bundle.tN "UNASSIGNED_STACK" Bundle.steD).before args s = true) (lN : (Cond.laysStatic Bundle.tN "SUPPRESSED_SENTINEL" Bundle.listD).before args s = true) : ∀ w ∈ L, w.before args s = true := by
  intro w hw
  by_cases e1 : w = .isRef (.static Bundle.tN "UNASSIGNED_STACK" Bundle.steD)
  · rw [e1]; exact hU
  · by_cases e2 : w = .isRef (.static Bundle.tN "SUPPRESSED_SENTINEL" Bundle.listD)
    · rw [e2]; exact hN
    · by_cases e3 : w = .laysStatic Bundle.tN "UNASSIGNED_STACK" Bundle.steD
      · rw [e3]; exact lU
      · by_cases e4 : w = .laysStatic Bundle.tN "SUPPRESSED_SENTINEL" Bundle.listD
        · rw [e4]; exact lN
        · exact h1 w (List.mem_filter.mpr ⟨hw, by unfold vx_no; rw [decide_eq_true e1, decide_eq_true e2, decide_eq_true e3, decide_eq_true e4]; rfl⟩)
/-- where a static field lies, its class's statics cell in H -/
def vx_L (C n d : String) (A : Nat → Prop) (U : State) (H : Heap) : Prop := ∃ (c : ClassId) (k : Class) (i : Nat) (f : Field) (a : Nat) (cell : Cell), U.vm.findClass C = some c ∧ U.fieldFound? C n d = some (c, k, i, f) ∧ f.isStatic = true ∧ k.statics = some a ∧ H[a]? = some cell ∧ cell.vm.isStatics = true ∧ cell.cls = c ∧ f.slot < cell.slots.size ∧ k.staticTypes[f.slot]? = some f.type ∧ ¬ A a
theorem vx_L.moved {C n d : String} {A : Nat → Prop} {u U : State} {H : Heap} (hvm : u.vm.Alike U.vm) (h : vx_L C n d A u H) : vx_L C n d A U H := by
  obtain ⟨c, k, i, f, a, cell, h1, h2, h3, h4, h5, h6, h7, h8, h9, h10⟩ := h
  obtain ⟨k', hi', he⟩ := State.fieldFound?_setVm hvm h2
  exact ⟨c, k', i, f, a, cell, by rw [hvm.findClass]; exact h1, hi', h3, by rw [he]; exact h4, h5, h6, h7, h8, by rw [he]; exact h9, h10⟩
theorem vx_L.kept {C n d : String} {A : Nat → Prop} {U : State} {H H1 : Heap} (h : vx_L C n d A U H) (hq : ∀ a : Nat, a < H.size → ¬ A a → H1[a]? = H[a]?) : vx_L C n d A U H1 := by
  obtain ⟨c, k, i, f, a, cell, h1, h2, h3, h4, h5, h6, h7, h8, h9, h10⟩ := h
  exact ⟨c, k, i, f, a, cell, h1, h2, h3, h4, by rw [hq a (Array.getElem?_eq_some_iff.mp h5).1 h10]; exact h5, h6, h7, h8, h9, h10⟩
theorem vx_L.narrow {C n d : String} {A B : Nat → Prop} {U : State} {H : Heap} (h : vx_L C n d A U H) (hAB : ∀ q, B q → A q) : vx_L C n d B U H := by
  obtain ⟨c, k, i, f, a, cell, h1, h2, h3, h4, h5, h6, h7, h8, h9, h10⟩ := h
  exact ⟨c, k, i, f, a, cell, h1, h2, h3, h4, h5, h6, h7, h8, h9, fun z => h10 (hAB _ z)⟩
theorem vx_L.word {C n d : String} {A : Nat → Prop} {s : State} {args : Array Value} (h : vx_L C n d A s s.heap) : (Cond.laysStatic C n d).before args s = true := by
  obtain ⟨c, k, i, f, a, cell, h1, h2, h3, h4, h5, h6, h7, h8, h9, -⟩ := h
  show (Cond.laysStatic C n d).holds args s none s [] = true
  exact Cond.laysStatic_of h1 h2 h3 h4 h5 h6 h7 h8 h9
/-- .. and what it holds: null or some reference -/
def vx_Zq (C n d : String) (A : Nat → Prop) (U : State) (H : Heap) : Prop := va_Zq C n d A U H ∧ vx_L C n d A U H
theorem vx_Zq.moved {C n d : String} {A : Nat → Prop} {u U : State} {H : Heap} (hvm : u.vm.Alike U.vm) (h : vx_Zq C n d A u H) : vx_Zq C n d A U H := ⟨va_Zq.moved hvm h.1, vx_L.moved hvm h.2⟩
theorem vx_Zq.kept {C n d : String} {A : Nat → Prop} {U : State} {H H1 : Heap} (h : vx_Zq C n d A U H) (hq : ∀ a : Nat, a < H.size → ¬ A a → H1[a]? = H[a]?) : vx_Zq C n d A U H1 := ⟨va_Zq.kept h.1 hq, vx_L.kept h.2 hq⟩
theorem vx_Zq.narrow {C n d : String} {A B : Nat → Prop} {U : State} {H : Heap} (h : vx_Zq C n d A U H) (hAB : ∀ q, B q → A q) : vx_Zq C n d B U H := ⟨va_Zq.narrow h.1 hAB, vx_L.narrow h.2 hAB⟩
theorem vx_Zqof {args : Array Value} {s : State} {C n d : String} {A : Nat → Prop} (hl : (Cond.laysStatic C n d).before args s = true) (hini : (Cond.initialized C).before args s = true) (h : (Cond.isRef (.static C n d)).before args s = true) (hA : ∀ a : Nat, a < s.heap.size → ¬ A a) : vx_Zq C n d A s s.heap := by
  refine ⟨va_Zqof hl hini h hA, ?_⟩
  obtain ⟨c, k, i, f, a, cell, h1, h2, h3, h4, h5, h6, h7, h8, h9⟩ := Cond.laysStatic_spec hl
  exact ⟨c, k, i, f, a, cell, h1, h2, h3, h4, h5, h6, h7, h8, h9, hA a (Array.getElem?_eq_some_iff.mp h5).1⟩
theorem vx_isRef {C n d : String} {v : Value} {A : Nat → Prop} {s : State} {args : Array Value} (h : va_Z C n d v A s s.heap) (hv : v.isRef = true) : (Cond.isRef (.static C n d)).before args s = true := by
  obtain ⟨cf, kf, fi, f, a, cell, h1, h2, h3, h4, h5, h6, h7, -⟩ := h
  have he : (Term.static C n d).eval args s none [] s = some v := by
    simp [Term.eval, State.fieldNamed?, h1, h2, h4, h5, h6, h7]
  simp only [Cond.before, Cond.holds, Cond.value, he]
  cases v <;> simp_all [Value.isRef]
theorem vx_isRefq {C n d : String} {A : Nat → Prop} {s : State} {args : Array Value} (h : va_Zq C n d A s s.heap) : (Cond.isRef (.static C n d)).before args s = true := by
  rcases h with h | ⟨t, h⟩
  · exact vx_isRef h rfl
  · exact vx_isRef h rfl
/-- the same frame, seen from here: as if the method were called anew in this heap -/
theorem vx_rebase {T : State} (X : Stand p l e R s m args below meth c T locs cells slots) {R' : Room} (hf : R'.frames ≤ R.frames) (hl : R'.locals ≤ R.locals) (hc : cells + R'.cells ≤ R.cells) (hs : slots + R'.slots ≤ R.slots) :
    Stand p l e R' ((T.setVm s.vm).setFrames (.invoking m args :: below)) m args below meth c T [] 0 0 := by
  have htop : (T.setVm s.vm).topJava?.isSome := X.here.top
  have hF : ((T.setVm s.vm).setFrames (.invoking m args :: below)).frames = .invoking m args :: below := State.frames_setFrames _ (State.cur_lt_of_top htop)
  obtain ⟨g₀, hg0⟩ := Option.isSome_iff_exists.mp htop
  obtain ⟨r, hr⟩ := State.topJava?_eq_some.mp hg0
  have hl9 : e.platform.stackLimits (T.setVm s.vm).me = e.platform.stackLimits s.me := X.limits
  have hb9 : (T.setVm s.vm).me.stackBytes = s.me.stackBytes := X.bytes
  refine ⟨X.admits, X.cas, X.clock, hF, ?_, X.hears, X.method, X.code, X.here, X.tail, X.warmed, ?_, ?_, ?_⟩
  · have h := X.room
    have hU : ((T.setVm s.vm).setFrames (.invoking m args :: below)).localsInUse = s.localsInUse := by
      rw [State.localsInUse_invoking hF (meth := meth) (c := c) X.method X.code, State.localsInUse_invoking X.frames X.method X.code]
    simp only [State.hasRoom, Bool.and_eq_true, decide_eq_true_eq] at h ⊢
    obtain ⟨⟨⟨⟨h1, h2, h3, h4, h5, h6⟩, h7⟩, h8⟩, h9⟩ := h
    rw [X.frames, List.length_cons] at h2 h3
    have q1 := X.heapSize
    have q2 := X.used
    simp only [hF, hU, List.length_cons, State.stackLimits_setFrames, State.stackBytes_setFrames, hl9, hb9]
    refine ⟨⟨⟨⟨by omega, by omega, by omega, by omega, by omega, h6⟩, ?_⟩, ?_⟩, X.book⟩
    · show T.heap.size + R'.cells ≤ e.platform.maxCells
      omega
    · show T.slotsUsed + R'.slots ≤ e.platform.maxSlots
      omega
  · rw [State.stackLimits_setFrames]; rfl
  · rw [State.stackBytes_setFrames]; rfl
  · refine ⟨?_, Nat.le_refl _, Nat.le_refl _, ?_, ?_, fun a c9 h9 => ⟨c9, h9, rfl, rfl, fun _ _ => rfl⟩⟩
    · obtain ⟨t, ht, -⟩ := State.frames_cons hr
      show T.setVm s.vm = { ((T.setVm s.vm).setFrames (.invoking m args :: below)).setFrames (T.setVm s.vm).frames with heap := T.heap, slotsUsed := T.slotsUsed }
      rw [State.setFrames_setFrames, State.setFrames_self ht]
      rfl
    · show T.slotsUsed = T.slotsUsed + ((T.heap.toList.drop T.heap.size).map (·.slots.size)).sum
      rw [List.drop_eq_nil_of_le (Nat.le_of_eq Array.length_toList)]
      rfl
    · show ((T.heap.toList.drop T.heap.size).map (·.slots.size)).sum ≤ 0
      rw [List.drop_eq_nil_of_le (Nat.le_of_eq Array.length_toList)]
      exact Nat.le_refl _
/-- 'throw new E()': new; dup; invokespecial; athrow -/
theorem vx_throw0 {cc : ByteArray} {pc : Nat} (hexec : p.tables.exec = Jvm.exec) (hb : c.code = cc) (hl : l.stackTraces = false) {own cls : String} {names : List String} {ik ic mc ms : Nat} {A : Nat → Prop}
    (hown : s.vm.findClass own = some m.cls) (hcls : Bundle.fit cls = true) (hnames : ∀ n ∈ names, Bundle.fit n = true)
    (hk : (Cond.classLink own ik cls).before args s = true) (hini : (Cond.initialized cls).before args s = true) (hat : ∀ w ∈ vx_at0 own ic cls names, w.before args s = true)
    (hgood : ∀ w ∈ Cond.classLink own ik cls :: Cond.initialized cls :: vx_at0 own ic cls names, vx_ot w = true)
    (hU : vx_Zq Bundle.tN "UNASSIGNED_STACK" Bundle.steD A s s.heap) (hN : vx_Zq Bundle.tN "SUPPRESSED_SENTINEL" Bundle.listD A s s.heap) (hS : va_S A s.heap H locs) (hsize : ls.size = c.maxLocals)
    (d0 : decode cc pc = .ok (.new ik, 3)) (d3 : decode cc (pc + 3) = .ok (.dup, 1)) (d4 : decode cc (pc + 4) = .ok (.invokespecial ic, 3)) (d7 : decode cc (pc + 7) = .ok (.athrow, 1))
    (hout : ∀ x ∈ c.exceptionTable.toList, covers x (pc + 7) = false)
    (hRframes : names.length + 3 < R.frames) (hRlocals : (rest.map fun v => v.category).sum + (13 * (names.length + 1) + 42) ≤ R.locals) (hRcells : cells + 1 ≤ R.cells) (hRslots : slots + 6 ≤ R.slots) (hlocks : meth.locks = false)
    (hx : ∀ t : State, s.vm.Alike t.vm → H.size ≤ t.heap.size → (∀ q : Nat, q < H.size → t.heap[q]? = H[q]?) → XC cls s t)
    (hf : ∀ z ∈ locs, free z.base) (hc : cells + 1 ≤ mc) (hs : slots + 6 ≤ ms) :
    W p l e R s m args below meth c H locs cells slots (vx_MQ below Qc XC args s mc ms free) (F0 m pc ls rest) := by
  intro T hT X
  have htr : e.platform.stackTraces = false := (show e.platform.stackTraces = l.stackTraces by rw [X.admits.platform]).trans hl
  have Y := vx_rebase X (R' := { frames := R.frames, locals := R.locals, cells := 1, slots := 6 }) (Nat.le_refl _) (Nat.le_refl _) hRcells hRslots
  obtain ⟨s', hA⟩ : ∃ z, z = (T.setVm s.vm).setFrames (.invoking m args :: below) := ⟨_, rfl⟩
  rw [← hA] at Y
  have hvm : s'.vm = s.vm := by rw [hA]; rfl
  have hhp : s'.heap = H := by rw [hA]; exact hT
  have hW0 : s.WarmedH s'.vm := by rw [hvm]; exact State.WarmedH.refl s
  have hat' : ∀ w ∈ vx_at0 own ic cls names, w.before args s' = true := fun w hw => vx_ot_at hW0 hvm.symm (hgood w (List.mem_cons_of_mem _ (List.mem_cons_of_mem _ hw))) (hat w hw)
  have hk' : (Cond.classLink own ik cls).before args s' = true := vx_ot_at hW0 hvm.symm (hgood _ List.mem_cons_self) hk
  have hini' : (Cond.initialized cls).before args s' = true := vx_ot_at hW0 hvm.symm (hgood _ (List.mem_cons_of_mem _ List.mem_cons_self)) hini
  have hU' : vx_Zq Bundle.tN "UNASSIGNED_STACK" Bundle.steD A s' s'.heap := by rw [hhp]; exact vx_Zq.moved hW0.alike (hU.kept hS.2.1)
  have hN' : vx_Zq Bundle.tN "SUPPRESSED_SENTINEL" Bundle.listD A s' s'.heap := by rw [hhp]; exact vx_Zq.moved hW0.alike (hN.kept hS.2.1)
  have h : ∀ w ∈ Bundle.ownAtoms0 own ic cls names, w.before args s' = true := vx_own hat' (vx_isRefq hU'.1) (vx_isRefq hN'.1) hU'.2.word hN'.2.word
  have hown' : s'.vm.findClass own = some m.cls := by rw [hvm]; exact hown
  have hins : (Cond.instantiable cls 6).before args s' = true := h _ (by simp [Bundle.ownAtoms0])
  obtain ⟨vm₁, cX, kX, hfX, hkX, -, -, X₁, st1⟩ := Y.newCold hexec (own := own) (C := cls) (index := ik) (n := 6) hown' hk' hins hini'
    (g := F0 m pc ls rest) rfl (by rw [hb]; exact d0) (Nat.le_refl _) (Nat.le_refl _)
  generalize hT1 : (T.setVm vm₁).pushCell { cls := cX, slots := kX.instanceTypes.map defaultValue, vm := .none } = T1 at X₁ st1
  have hcat : (Value.ref T.heap.size).category = 1 := rfl
  have hcellA : T1.heap[T.heap.size]? = some (freshCell cX kX) := by rw [← hT1]; exact State.heap_pushCell_size _ _
  have d3' : decode c.code (pc + 3) = .ok (.dup, 1) := by rw [hb]; exact d3
  obtain ⟨U, hsteps, hrun, hend, hW, hsame, ce, hce, hO⟩ := X₁.ctorThrow0 hexec htr (own := own) (cls := cls) (names := names) (ic := ic) hown' hcls hnames h (fun x hx => nomatch hx) hfX hkX hcellA (by rw [hhp, hT]; exact Nat.le_refl _)
    (g := { method := m, pc := pc + 4, locals := ls, stack := .ref T.heap.size :: .ref T.heap.size :: rest, locked := none }) rfl hsize rfl rfl (rest := rest) rfl
    (by rw [hb]; exact d4) (by rw [hb]; exact d7) hout hRframes (by simp only [List.map_cons, List.sum_cons, hcat]; omega) hlocks
  obtain ⟨f1, f2⟩ := vx_frame hsame
  rw [hhp] at f1 f2
  have hWs : s.WarmedH U.vm := State.WarmedH.trans hW0 hW
  have hcl : s.vm.findClass cls = some ce.cls := by
    have h9 := hO.cls
    rw [hvm] at h9
    exact h9
  have hall : s.sameButNew ({ U with vm := s.vm } : State) locs mc ms := by
    subst hA
    obtain ⟨e1, e2⟩ := hsame
    rw [State.setFrames_setFrames] at e1
    have h2 : (T.setVm s.vm).sameButNew ({ U with vm := s.vm } : State) [] (0 + 1) (0 + 6) := ⟨e1, e2⟩
    have h3 := X.same.trans h2
    rw [List.append_nil] at h3
    exact h3.mono hc hs
  refine ⟨U, ?_, .threw T.heap.size, hrun, hend, Or.inr ⟨T.heap.size, rfl, cls, ce, locs, hx U hWs.alike f1 (fun q hq => f2 q hq (fun z hz => nomatch hz)), hce, hO.vm, hcl, hWs, hall, hf⟩⟩
  refine st1 _ ?_
  show Steps p.tables e below (T1.setTop { method := m, pc := pc + 3, locals := ls, stack := .ref T.heap.size :: rest, locked := none }) _
  jvm_step X₁.here [X₁.here.top, hexec, d3', Value.category]
  exact hsteps
/-- 'throw new E("text")': new; dup; ldc; invokespecial; athrow -/
theorem vx_throwS {cc : ByteArray} {pc : Nat} (hexec : p.tables.exec = Jvm.exec) (hb : c.code = cc) (hl : l.stackTraces = false) {own cls text : String} {names : List String} {ik is ic mc ms sa : Nat} {A : Nat → Prop}
    (hown : s.vm.findClass own = some m.cls) (hcls : Bundle.fit cls = true) (hnames : ∀ n ∈ names, Bundle.fit n = true)
    (hk : (Cond.classLink own ik cls).before args s = true) (hini : (Cond.initialized cls).before args s = true) (hstr : vk_R own is text sa s) (hat : ∀ w ∈ vx_atS own ic cls names, w.before args s = true)
    (hgood : ∀ w ∈ Cond.classLink own ik cls :: Cond.initialized cls :: vx_atS own ic cls names, vx_ot w = true)
    (hU : vx_Zq Bundle.tN "UNASSIGNED_STACK" Bundle.steD A s s.heap) (hN : vx_Zq Bundle.tN "SUPPRESSED_SENTINEL" Bundle.listD A s s.heap) (hS : va_S A s.heap H locs) (hsize : ls.size = c.maxLocals)
    (d0 : decode cc pc = .ok (.new ik, 3)) (d3 : decode cc (pc + 3) = .ok (.dup, 1)) (d4 : decode cc (pc + 4) = .ok (.ldc is, 2)) (d6 : decode cc (pc + 6) = .ok (.invokespecial ic, 3)) (d9 : decode cc (pc + 9) = .ok (.athrow, 1))
    (hout : ∀ x ∈ c.exceptionTable.toList, covers x (pc + 9) = false)
    (hRframes : names.length + 3 < R.frames) (hRlocals : (rest.map fun v => v.category).sum + (13 * (names.length + 1) + 43) ≤ R.locals) (hRcells : cells + 1 ≤ R.cells) (hRslots : slots + 6 ≤ R.slots) (hlocks : meth.locks = false)
    (hx : ∀ t : State, s.vm.Alike t.vm → H.size ≤ t.heap.size → (∀ q : Nat, q < H.size → t.heap[q]? = H[q]?) → XC cls s t)
    (hf : ∀ z ∈ locs, free z.base) (hc : cells + 1 ≤ mc) (hs : slots + 6 ≤ ms) :
    W p l e R s m args below meth c H locs cells slots (vx_MQ below Qc XC args s mc ms free) (F0 m pc ls rest) := by
  intro T hT X
  have htr : e.platform.stackTraces = false := (show e.platform.stackTraces = l.stackTraces by rw [X.admits.platform]).trans hl
  have Y := vx_rebase X (R' := { frames := R.frames, locals := R.locals, cells := 1, slots := 6 }) (Nat.le_refl _) (Nat.le_refl _) hRcells hRslots
  obtain ⟨s', hA⟩ : ∃ z, z = (T.setVm s.vm).setFrames (.invoking m args :: below) := ⟨_, rfl⟩
  rw [← hA] at Y
  have hvm : s'.vm = s.vm := by rw [hA]; rfl
  have hhp : s'.heap = H := by rw [hA]; exact hT
  have hW0 : s.WarmedH s'.vm := by rw [hvm]; exact State.WarmedH.refl s
  have hat' : ∀ w ∈ vx_atS own ic cls names, w.before args s' = true := fun w hw => vx_ot_at hW0 hvm.symm (hgood w (List.mem_cons_of_mem _ (List.mem_cons_of_mem _ hw))) (hat w hw)
  have hk' : (Cond.classLink own ik cls).before args s' = true := vx_ot_at hW0 hvm.symm (hgood _ List.mem_cons_self) hk
  have hini' : (Cond.initialized cls).before args s' = true := vx_ot_at hW0 hvm.symm (hgood _ (List.mem_cons_of_mem _ List.mem_cons_self)) hini
  have hU' : vx_Zq Bundle.tN "UNASSIGNED_STACK" Bundle.steD A s' s'.heap := by rw [hhp]; exact vx_Zq.moved hW0.alike (hU.kept hS.2.1)
  have hN' : vx_Zq Bundle.tN "SUPPRESSED_SENTINEL" Bundle.listD A s' s'.heap := by rw [hhp]; exact vx_Zq.moved hW0.alike (hN.kept hS.2.1)
  have h : ∀ w ∈ Bundle.ownAtoms own ic cls names, w.before args s' = true := vx_own hat' (vx_isRefq hU'.1) (vx_isRefq hN'.1) hU'.2.word hN'.2.word
  have hown' : s'.vm.findClass own = some m.cls := by rw [hvm]; exact hown
  have hins : (Cond.instantiable cls 6).before args s' = true := h _ (by simp [Bundle.ownAtoms])
  obtain ⟨vm₁, cX, kX, hfX, hkX, -, -, X₁, st1⟩ := Y.newCold hexec (own := own) (C := cls) (index := ik) (n := 6) hown' hk' hins hini'
    (g := F0 m pc ls rest) rfl (by rw [hb]; exact d0) (Nat.le_refl _) (Nat.le_refl _)
  generalize hT1 : (T.setVm vm₁).pushCell { cls := cX, slots := kX.instanceTypes.map defaultValue, vm := .none } = T1 at X₁ st1
  have hcat : (Value.ref T.heap.size).category = 1 := rfl
  have hcellA : T1.heap[T.heap.size]? = some (freshCell cX kX) := by rw [← hT1]; exact State.heap_pushCell_size _ _
  have d3' : decode c.code (pc + 3) = .ok (.dup, 1) := by rw [hb]; exact d3
  have d4' : decode c.code (pc + 4) = .ok (.ldc is, 2) := by rw [hb]; exact d4
  have hstr' : vk_R own is text sa s' := vk_R.warm hW0 hstr
  obtain ⟨U, hsteps, hrun, hend, hW, hsame, ce, hce, hO⟩ := X₁.ctorThrowS hexec htr (own := own) (cls := cls) (names := names) (ic := ic) hown' hcls hnames h (fun x hx => nomatch hx) hfX hkX hcellA (by rw [hhp, hT]; exact Nat.le_refl _) (msg := .ref sa) rfl
    (g := { method := m, pc := pc + 6, locals := ls, stack := .ref sa :: .ref T.heap.size :: .ref T.heap.size :: rest, locked := none }) rfl hsize rfl rfl (rest := rest) rfl
    (by rw [hb]; exact d6) (by rw [hb]; exact d9) hout hRframes (by simp only [List.map_cons, List.sum_cons, hcat]; omega) hlocks
  obtain ⟨f1, f2⟩ := vx_frame hsame
  rw [hhp] at f1 f2
  have hWs : s.WarmedH U.vm := State.WarmedH.trans hW0 hW
  have hcl : s.vm.findClass cls = some ce.cls := by
    have h9 := hO.cls
    rw [hvm] at h9
    exact h9
  have hall : s.sameButNew ({ U with vm := s.vm } : State) locs mc ms := by
    subst hA
    obtain ⟨e1, e2⟩ := hsame
    rw [State.setFrames_setFrames] at e1
    have h2 : (T.setVm s.vm).sameButNew ({ U with vm := s.vm } : State) [] (0 + 1) (0 + 6) := ⟨e1, e2⟩
    have h3 := X.same.trans h2
    rw [List.append_nil] at h3
    exact h3.mono hc hs
  refine ⟨U, ?_, .threw T.heap.size, hrun, hend, Or.inr ⟨T.heap.size, rfl, cls, ce, locs, hx U hWs.alike f1 (fun q hq => f2 q hq (fun z hz => nomatch hz)), hce, hO.vm, hcl, hWs, hall, hf⟩⟩
  refine st1 _ ?_
  show Steps p.tables e below (T1.setTop { method := m, pc := pc + 3, locals := ls, stack := .ref T.heap.size :: rest, locked := none }) _
  jvm_step X₁.here [X₁.here.top, hexec, d3', Value.category]
  exact X₁.ldcString hexec (own := own) (text := text) (index := is) (a := sa) hown' hstr'.1 hstr'.2
    (g := { method := m, pc := pc + 4, locals := ls, stack := .ref T.heap.size :: .ref T.heap.size :: rest, locked := none }) rfl d4' _ hsteps
/-- 'throw new E("text")', the text by a wide index -/
theorem vx_throwSW {cc : ByteArray} {pc : Nat} (hexec : p.tables.exec = Jvm.exec) (hb : c.code = cc) (hl : l.stackTraces = false) {own cls text : String} {names : List String} {ik is ic mc ms sa : Nat} {A : Nat → Prop}
    (hown : s.vm.findClass own = some m.cls) (hcls : Bundle.fit cls = true) (hnames : ∀ n ∈ names, Bundle.fit n = true)
    (hk : (Cond.classLink own ik cls).before args s = true) (hini : (Cond.initialized cls).before args s = true) (hstr : vk_R own is text sa s) (hat : ∀ w ∈ vx_atS own ic cls names, w.before args s = true)
    (hgood : ∀ w ∈ Cond.classLink own ik cls :: Cond.initialized cls :: vx_atS own ic cls names, vx_ot w = true)
    (hU : vx_Zq Bundle.tN "UNASSIGNED_STACK" Bundle.steD A s s.heap) (hN : vx_Zq Bundle.tN "SUPPRESSED_SENTINEL" Bundle.listD A s s.heap) (hS : va_S A s.heap H locs) (hsize : ls.size = c.maxLocals)
    (d0 : decode cc pc = .ok (.new ik, 3)) (d3 : decode cc (pc + 3) = .ok (.dup, 1)) (d4 : decode cc (pc + 4) = .ok (.ldc_w is, 3)) (d7 : decode cc (pc + 7) = .ok (.invokespecial ic, 3)) (d10 : decode cc (pc + 10) = .ok (.athrow, 1))
    (hout : ∀ x ∈ c.exceptionTable.toList, covers x (pc + 10) = false)
    (hRframes : names.length + 3 < R.frames) (hRlocals : (rest.map fun v => v.category).sum + (13 * (names.length + 1) + 43) ≤ R.locals) (hRcells : cells + 1 ≤ R.cells) (hRslots : slots + 6 ≤ R.slots) (hlocks : meth.locks = false)
    (hx : ∀ t : State, s.vm.Alike t.vm → H.size ≤ t.heap.size → (∀ q : Nat, q < H.size → t.heap[q]? = H[q]?) → XC cls s t)
    (hf : ∀ z ∈ locs, free z.base) (hc : cells + 1 ≤ mc) (hs : slots + 6 ≤ ms) :
    W p l e R s m args below meth c H locs cells slots (vx_MQ below Qc XC args s mc ms free) (F0 m pc ls rest) := by
  intro T hT X
  have htr : e.platform.stackTraces = false := (show e.platform.stackTraces = l.stackTraces by rw [X.admits.platform]).trans hl
  have Y := vx_rebase X (R' := { frames := R.frames, locals := R.locals, cells := 1, slots := 6 }) (Nat.le_refl _) (Nat.le_refl _) hRcells hRslots
  obtain ⟨s', hA⟩ : ∃ z, z = (T.setVm s.vm).setFrames (.invoking m args :: below) := ⟨_, rfl⟩
  rw [← hA] at Y
  have hvm : s'.vm = s.vm := by rw [hA]; rfl
  have hhp : s'.heap = H := by rw [hA]; exact hT
  have hW0 : s.WarmedH s'.vm := by rw [hvm]; exact State.WarmedH.refl s
  have hat' : ∀ w ∈ vx_atS own ic cls names, w.before args s' = true := fun w hw => vx_ot_at hW0 hvm.symm (hgood w (List.mem_cons_of_mem _ (List.mem_cons_of_mem _ hw))) (hat w hw)
  have hk' : (Cond.classLink own ik cls).before args s' = true := vx_ot_at hW0 hvm.symm (hgood _ List.mem_cons_self) hk
  have hini' : (Cond.initialized cls).before args s' = true := vx_ot_at hW0 hvm.symm (hgood _ (List.mem_cons_of_mem _ List.mem_cons_self)) hini
  have hU' : vx_Zq Bundle.tN "UNASSIGNED_STACK" Bundle.steD A s' s'.heap := by rw [hhp]; exact vx_Zq.moved hW0.alike (hU.kept hS.2.1)
  have hN' : vx_Zq Bundle.tN "SUPPRESSED_SENTINEL" Bundle.listD A s' s'.heap := by rw [hhp]; exact vx_Zq.moved hW0.alike (hN.kept hS.2.1)
  have h : ∀ w ∈ Bundle.ownAtoms own ic cls names, w.before args s' = true := vx_own hat' (vx_isRefq hU'.1) (vx_isRefq hN'.1) hU'.2.word hN'.2.word
  have hown' : s'.vm.findClass own = some m.cls := by rw [hvm]; exact hown
  have hins : (Cond.instantiable cls 6).before args s' = true := h _ (by simp [Bundle.ownAtoms])
  obtain ⟨vm₁, cX, kX, hfX, hkX, -, -, X₁, st1⟩ := Y.newCold hexec (own := own) (C := cls) (index := ik) (n := 6) hown' hk' hins hini'
    (g := F0 m pc ls rest) rfl (by rw [hb]; exact d0) (Nat.le_refl _) (Nat.le_refl _)
  generalize hT1 : (T.setVm vm₁).pushCell { cls := cX, slots := kX.instanceTypes.map defaultValue, vm := .none } = T1 at X₁ st1
  have hcat : (Value.ref T.heap.size).category = 1 := rfl
  have hcellA : T1.heap[T.heap.size]? = some (freshCell cX kX) := by rw [← hT1]; exact State.heap_pushCell_size _ _
  have d3' : decode c.code (pc + 3) = .ok (.dup, 1) := by rw [hb]; exact d3
  have d4' : decode c.code (pc + 4) = .ok (.ldc_w is, 3) := by rw [hb]; exact d4
  have hstr' : vk_R own is text sa s' := vk_R.warm hW0 hstr
  obtain ⟨U, hsteps, hrun, hend, hW, hsame, ce, hce, hO⟩ := X₁.ctorThrowS hexec htr (own := own) (cls := cls) (names := names) (ic := ic) hown' hcls hnames h (fun x hx => nomatch hx) hfX hkX hcellA (by rw [hhp, hT]; exact Nat.le_refl _) (msg := .ref sa) rfl
    (g := { method := m, pc := pc + 7, locals := ls, stack := .ref sa :: .ref T.heap.size :: .ref T.heap.size :: rest, locked := none }) rfl hsize rfl rfl (rest := rest) rfl
    (by rw [hb]; exact d7) (by rw [hb]; exact d10) hout hRframes (by simp only [List.map_cons, List.sum_cons, hcat]; omega) hlocks
  obtain ⟨f1, f2⟩ := vx_frame hsame
  rw [hhp] at f1 f2
  have hWs : s.WarmedH U.vm := State.WarmedH.trans hW0 hW
  have hcl : s.vm.findClass cls = some ce.cls := by
    have h9 := hO.cls
    rw [hvm] at h9
    exact h9
  have hall : s.sameButNew ({ U with vm := s.vm } : State) locs mc ms := by
    subst hA
    obtain ⟨e1, e2⟩ := hsame
    rw [State.setFrames_setFrames] at e1
    have h2 : (T.setVm s.vm).sameButNew ({ U with vm := s.vm } : State) [] (0 + 1) (0 + 6) := ⟨e1, e2⟩
    have h3 := X.same.trans h2
    rw [List.append_nil] at h3
    exact h3.mono hc hs
  refine ⟨U, ?_, .threw T.heap.size, hrun, hend, Or.inr ⟨T.heap.size, rfl, cls, ce, locs, hx U hWs.alike f1 (fun q hq => f2 q hq (fun z hz => nomatch hz)), hce, hO.vm, hcl, hWs, hall, hf⟩⟩
  refine st1 _ ?_
  show Steps p.tables e below (T1.setTop { method := m, pc := pc + 3, locals := ls, stack := .ref T.heap.size :: rest, locked := none }) _
  jvm_step X₁.here [X₁.here.top, hexec, d3', Value.category]
  exact X₁.ldcStringW hexec (own := own) (text := text) (index := is) (a := sa) hown' hstr'.1 hstr'.2
    (g := { method := m, pc := pc + 4, locals := ls, stack := .ref T.heap.size :: .ref T.heap.size :: rest, locked := none }) rfl d4' _ hsteps
end Ends
section Bodies
variable {l : Launch}
theorem vx_ofW {y : MethodName} {ws ws' : List Cond} {rm : Room} {Pc : Array Value → State → Prop} {Qc : Array Value → State → Outcome → State → Prop} {XC : String → State → State → Prop} {mc ms : Nat} {free : Addr → Prop} {cc : ByteArray} {maxL : Nat} {ret : Option FieldType}
    (hy : plainName y.cls = true) (hw : ws = Cond.code y cc maxL ret :: ws')
    (body : ∀ p e s m args below meth c s₁, BodyLoose p l y (headSpec ws rm) cc maxL ret e s m args below meth c s₁ → c.maxLocals = maxL → (∀ x ∈ c.exceptionTable.toList, False) → Pc args s →
      W p l e (headSpec ws rm).room s m args below meth c s.heap [] 0 0 (vx_MQ below Qc XC args s mc ms free) (entryFrame m args maxL)) : vx_Met l y ws rm Pc Qc XC mc ms free := by
  refine MetFree.of_bodyS (code := cc) (maxLocals := maxL) (ret := ret) hy ?_ ?_
  · intro args s m h hn
    obtain ⟨meth, c, h1, h2, h3, h4, h5, h6, -, -⟩ := Cond.code_spec hn (atoms_spec (ws := ws) h _ (by rw [hw]; exact List.mem_cons_self))
    exact ⟨meth, c, h1, h2, h3, h4, h5, h6⟩
  · intro p e s m args below meth c s₁ B hml hP _
    have hh0 : s₁.heap = s.heap := by rw [B.state]; rfl
    have ht : ∀ x ∈ c.exceptionTable.toList, False := by
      obtain ⟨meth9, c9, h1, h2, -, -, -, -, h7, -⟩ := Cond.code_spec B.named (atoms_spec (ws := ws) B.pre _ (by rw [hw]; exact List.mem_cons_self))
      cases Option.some.inj (h1.symm.trans B.method)
      cases Option.some.inj (h2.symm.trans (Stand.of_body B).code)
      intro x hx
      rw [Array.isEmpty_iff.mp h7] at hx
      cases hx
    obtain ⟨t, a1, o, b1, b2, b3⟩ := body p e s m args below meth c s₁ B hml ht hP s₁ hh0 (Stand.of_body B)
    exact ⟨t, o, a1, b1, b2, b3⟩
/-- the table of a body with handlers -/
theorem vx_table {p : Program} {x y : MethodName} {S : Spec} {cc bytes : ByteArray} {maxL maxL' : Nat} {ret ret' : Option FieldType} {e : Env} {s s₁ : State} {m : MethodId} {args : Array Value} {below : List Frame} {meth : Method} {c : Code} {hh : List (Nat × Nat × Nat × Nat)}
    (B : BodyLoose p l y S cc maxL ret e s m args below meth c s₁) (h : (Cond.codeWith y bytes maxL' ret' hh).before args s = true) : c.exceptionTable.toList = tableOf hh := by
  obtain ⟨m9, meth9, c9, hn9, h1, h2, -, -, h6, -⟩ := Cond.codeWith_spec h
  cases Option.some.inj (hn9.symm.trans B.named)
  cases Option.some.inj (h1.symm.trans B.method)
  cases Option.some.inj (h2.symm.trans (Stand.of_body B).code)
  rw [← h6, table_eq]
end Bodies
end VXA
/-! ===== END ===== -/
/-! ===== BEGIN a static call of a method with an exception table ===== -/
section VXS
variable {p : Program} {l : Launch} {e : Env} {R : Room} {s : State} {m : MethodId} {args : Array Value} {below : List Frame} {meth : Method} {c : Code} {T : State} {H : Heap} {locs : List Loc} {cells slots : Nat}
abbrev vx_CSW (R : Room) (s : State) (args : Array Value) (own : String) (index : Nat) (y : MethodName) (bytes : ByteArray) (maxL : Nat) (ret : Option FieldType) (hh : List (Nat × Nat × Nat × Nat)) (ws : List Cond) (rm : Room) (mc ms n : Nat) : Prop :=
  (rm.cells = mc ∧ rm.slots = ms ∧ rm.frames + 1 ≤ R.frames ∧ 8 + (maxL + 11) + rm.locals ≤ R.locals ∧ (∀ w ∈ ws, ∀ (a' : Array Value) (U : State), s.WarmedH U.vm → w.before a' U = true) ∧ Cond.codeWith y bytes maxL ret hh ∈ ws) ∧
  (Cond.codeWith y bytes maxL ret hh).before args s = true ∧ (Cond.initialized y.cls).before args s = true ∧ (y.cls ≠ "java/lang/invoke/MethodHandle" ∧ y.cls ≠ "java/lang/invoke/VarHandle") ∧
  (∀ sig, parseMethodDescriptor y.desc = some sig → n = sig.parameters.length) ∧ (Cond.methodLink own index y).before args s = true ∧ (Cond.static y).before args s = true
theorem vx_cwSW {own : String} {index maxL mc ms : Nat} {y : MethodName} {bytes : ByteArray} {ret : Option FieldType} {hh : List (Nat × Nat × Nat × Nat)} {Ts ws ws' : List Cond} {rm : Room} (n : Nat) (ht : ∀ w ∈ Ts, w.before args s = true) (hT : GoodIn Ts (va_wsS own index y ws)) (hw : ws = Cond.codeWith y bytes maxL ret hh :: ws') (hrc : rm.cells = mc) (hrs : rm.slots = ms)
    (hd : y.cls ≠ "java/lang/invoke/MethodHandle" ∧ y.cls ≠ "java/lang/invoke/VarHandle" ∧ (parseMethodDescriptor y.desc).map (fun d => d.parameters.length) = some n) (hR : rm.frames + 1 ≤ R.frames ∧ 8 + (maxL + 11) + rm.locals ≤ R.locals) :
    vx_CSW R s args own index y bytes maxL ret hh ws rm mc ms n := by
  have ok : ∀ w ∈ va_wsS own index y ws, w.before args s = true := fun w h => ht w (hT w h).1
  have hG : GoodIn Ts ws := fun w h => hT w (by unfold va_wsS; exact List.mem_append_right _ h)
  have hc : Cond.codeWith y bytes maxL ret hh ∈ ws := by rw [hw]; exact List.mem_cons_self
  refine ⟨⟨hrc, hrs, hR.1, hR.2, pay_in ht hG, hc⟩, ht _ (hG _ hc).1, ok _ (by simp [va_wsS]), ⟨hd.1, hd.2.1⟩, fun sig h => ?_, ok _ (by simp [va_wsS]), ok _ (by simp [va_wsS])⟩
  have h2 := hd.2.2
  rw [h] at h2
  exact (Option.some.inj h2).symm
theorem vx_callSW (X : Stand p l e R s m args below meth c T locs cells slots) (hexec : p.tables.exec = Jvm.exec) {own : String} {index : Nat} {y : MethodName} {bytes : ByteArray} {maxL : Nat} {ret : Option FieldType} {hh : List (Nat × Nat × Nat × Nat)}
    (hown : s.vm.findClass own = some m.cls) (hlink : (Cond.methodLink own index y).before args s = true) (hstat : (Cond.static y).before args s = true) (hinit : (Cond.initialized y.cls).before args s = true)
    (hcode : (Cond.codeWith y bytes maxL ret hh).before args s = true) (hy : y.cls ≠ "java/lang/invoke/MethodHandle" ∧ y.cls ≠ "java/lang/invoke/VarHandle")
    {W9 : Nat} {Pre : Pt → Array Value → Prop} {Post : Pt → Array Value → Option Value → Pt → Prop} (hK : Back l R p e below s args y 3 W9 Pre Post)
    {g : JFrame} (hg : g.method = m) (hsize : g.locals.size = c.maxLocals) {argsL rest : List Value} (hlen : ∀ sig, parseMethodDescriptor y.desc = some sig → argsL.length = sig.parameters.length)
    (hstack : g.stack = argsL.reverse ++ rest) (hW : 2 * g.monitorRoom + (rest.map fun v => v.category).sum ≤ W9) (hdg : decode c.code g.pc = .ok (.invokestatic index, 3))
    (hpre : ∀ vm₁, s.WarmedH vm₁ → Pre ⟨T.setVm vm₁, locs, cells, slots⟩ argsL.toArray) :
    ∃ (v : Option Value) (vm₁ : Vm) (B : Pt), s.WarmedH vm₁ ∧ Stand p l e R s m args below meth c B.U B.locs B.cells B.slots ∧ Post ⟨T.setVm vm₁, locs, cells, slots⟩ argsL.toArray v B ∧
      ∀ target, Steps p.tables e below (B.U.setTop { g with pc := g.pc + 3, stack := v.toList ++ rest }) target → Steps p.tables e below (T.setTop g) target := by
  obtain ⟨mk, methM, cM, hnamed, hmethM, -, -, -, -, -, -, hsigM⟩ := Cond.codeWith_spec hcode
  have hstatic : methM.isStatic = true := Cond.static_spec hnamed hmethM hstat
  obtain ⟨kP, hkP, -⟩ := className_of_methodNamed hnamed
  have hinitP : kP.init = .initialized := Cond.initialized_spec (findClass_of_methodNamed hnamed) hkP hinit
  obtain ⟨vm₁, X₁, hstep₁⟩ := X.invokestatic hexec hown hlink hnamed hmethM hstatic hkP hinitP hy (g := g) hg (argsL := argsL) (rest := rest) (hlen _ hsigM) hstack hdg
  obtain ⟨v, B, X', hpost, hsteps⟩ := hK m meth c ⟨T.setVm vm₁, locs, cells, slots⟩ { g with stack := rest } (.invokestatic index) mk argsL.toArray X₁ hg hsize hdg hW (X₁.named hnamed) (hpre vm₁ X₁.warmed)
  exact ⟨v, vm₁, B, X₁.warmed, X', hpost, fun target h => hstep₁ _ fun acts => by rw [doInvoke_state]; exact hsteps.trans h⟩
theorem vx_runSW {y : MethodName} {bytes cc : ByteArray} {maxL nL mc ms n index : Nat} {ret : Option FieldType} {hh : List (Nat × Nat × Nat × Nat)} {ws : List Cond} {rm : Room} {Pc : Array Value → State → Prop} {Qc : Array Value → State → Outcome → State → Prop} {free : Addr → Prop} {Ts : List Cond} {own : String} {As rest : List Value} {g : JFrame}
    (S : CallFix p m c cc nL s args Ts own) (hM : Met l y ws rm Pc Qc mc ms free) (cw : vx_CSW R s args own index y bytes maxL ret hh ws rm mc ms n) (hp : PreS s H Pc As)
    (hg : g.method = m) (hn : As.length = n) (hsize : g.locals.size = nL) (hstack : g.stack = As.reverse ++ rest) (hW : 2 * g.monitorRoom + (rest.map fun v => v.category).sum ≤ 8) (hdg : decode cc g.pc = .ok (.invokestatic index, 3)) (hf : cells + mc ≤ R.cells ∧ slots + ms ≤ R.slots) :
    va_Run p l e R s m args below meth c H locs cells slots mc ms g rest (Qc As.toArray) (free) := by
  obtain ⟨⟨hrc, hrs, hfr, hlo, hws, hcw⟩, hcode, hini, hy, hlen, hl, hstt⟩ := cw
  have hK : Back l R p e below s args y 3 8 (PreOf R mc ms Pc) (PostOf Qc mc ms free) := va_backW (hh := hh) (bytes := bytes) (maxL := maxL) (ret := ret) hM hp.1 hrc hrs hfr hlo hws hcw (fun a' U hW => word_at hW (Or.inl (by first | rfl | simp [Cond.onTables, Cond.keeps, Cond.steady])) hini)
  obtain ⟨hx, hb, hml, ho, -⟩ := S
  intro T hT X
  obtain ⟨v, vm₁, ⟨U', l2, c2, s2⟩, hW₁, X', ⟨g', mk, t, L, e1, e2, hq, h1, hL, h2, h3⟩, st⟩ := vx_callSW X hx (hh := hh) (bytes := bytes) (maxL := maxL) (ret := ret) ho hl hstt hini hcode hy hK hg (hsize.trans hml.symm) (argsL := As) (rest := rest) (fun sig h => hn.trans (hlen sig h)) hstack hW (by rw [hb]; exact hdg)
    (fun vm₁ hW₁ => ⟨hf.1, hf.2, hp.2 (T.setVm vm₁) hT hW₁⟩)
  dsimp only [Pt.U, Pt.locs, Pt.cells, Pt.slots] at X' e1 e2 h1 h2 h3 st
  subst h1; subst h2; subst h3
  exact ⟨v, (T.setVm vm₁).calling g' mk As.toArray, t, U', L, hT, X', hL, e1, e2, hq, st⟩
/-- not caught here, past rows that name other classes: it goes on to the caller -/
theorem vx_outP {p : Program} {l : Launch} {e : Env} {R : Room} {s : State} {m : MethodId} {args : Array Value} {below : List Frame} {meth : Method} {c : Code} {H : Heap} {locs : List Loc} {cells slots : Nat} {free : Addr → Prop} {ls : Array Slot} {rest : List Value} {Qc : Array Value → State → Outcome → State → Prop} {XC : String → State → State → Prop}
    {pc : Nat} {own E : String} {ce : Cell} {q : Addr} {mc ms : Nat} (hown : s.vm.findClass own = some m.cls) (hlocks : meth.locks = false)
    (hpass : ∀ z ∈ c.exceptionTable.toList, covers z pc = false ∨ (z.catchType ≠ 0 ∧ ∃ nm : String, (Cond.classLink own z.catchType nm).before args s = true ∧ va_Nc E nm s)) (hcell : H[q]? = some ce) (hv : ce.vm = .none) (hcl : s.vm.findClass E = some ce.cls)
    (hx : ∀ t : State, t.heap = H → s.vm.Alike t.vm → XC E s t) (hf : ∀ z ∈ locs, free z.base) (hc : cells ≤ mc) (hs : slots ≤ ms) :
    vx_W p l e R s m args below meth c H locs cells slots (vx_MQ below Qc XC args s mc ms free) (F0 m pc ls rest) q := by
  intro T hT X
  have hpl : e.platform.magicAccessors = ({} : Platform).magicAccessors := by rw [X.admits.platform]
  obtain ⟨vm', hW', X', st⟩ := X.outThrough hlocks q (g := F0 m pc ls rest) rfl rfl rfl (cell := ce) (by rw [hT]; exact hcell) (by rw [hv]; rfl)
    (by obtain ⟨k9, h9, -⟩ := Vm.findClass_spec hcl; exact ⟨k9, h9⟩) (fun z hz => by
      rcases hpass z hz with h | ⟨hz0, nm, hl1, hn1⟩
      · exact Or.inl h
      · obtain ⟨c6, hc6, hcl6⟩ := Cond.classLink_spec hown hl1 e.platform hpl
        obtain ⟨a8, b8, h1, h2, h3⟩ := hn1
        cases Option.some.inj (h1.symm.trans hcl)
        cases Option.some.inj (h2.symm.trans hc6)
        exact Or.inr ⟨hz0, _, hcl6, h3⟩)
  obtain ⟨g₀, hfr⟩ := X'.frames_eq
  have hcell9 : ((T.setVm vm').setFrames (.throwing q :: below)).heap[q]? = some ce := by
    show T.heap[q]? = some ce
    rw [hT]; exact hcell
  have hend : Ended ((T.setVm vm').setFrames (.throwing q :: below)) below (.threw q) := State.frames_setFrames _ (State.cur_lt_of_frames hfr)
  refine ⟨(T.setVm vm').setFrames (.throwing q :: below), ?_, .threw q, X'.here.running, hend, Or.inr ⟨q, rfl, E, ce, locs, hx _ hT (X'.ends _).1.alike, hcell9, hv, hcl, (X'.ends _).1, (X'.ends _).2.mono hc hs, hf⟩⟩
  rw [X.pushThrowing_eq]
  exact st
/-- a thing of a world lies in the heap -/
theorem vx_lt {D : va_G} {cl : List vw_C} {ws : va_W} {H1 : Heap} (h : va_P D cl ws H1) {k : Nat} {q : Nat × va_E} (hk : ws[k]? = some q) : q.1 < H1.size := (h k q hk).lt
end VXS
/-! ===== END ===== -/
/-! ===== BEGIN methods with a table of their own: called by a name, returning or throwing ===== -/
section VXH
/-! vx_backW, vx_callVX, vx_callSX, vx_callVW, vx_runVW, vx_runVX, vx_runSX, vx_ofWH follow the same proofs as their sisters above (Free/Laws.lean, Shelf42/LK1.lean); vx_outP calls Shelf42/NT130.lean (outThrough). -/
section
variable {l : Launch} {R : Room} {p : Program} {e : Env} {below : List Frame} {s : State} {sargs : Array Value} {y : MethodName} {len W9 : Nat}
theorem vx_backW {ws : List Cond} {rm : Room} {Pc : Array Value → State → Prop} {Qc : Array Value → State → Outcome → State → Prop} {XC : String → State → State → Prop} {mc ms : Nat} {free : Addr → Prop} {bytes : ByteArray} {maxL : Nat} {ret : Option FieldType} {hh : List (Nat × Nat × Nat × Nat)}
    (hM : vx_Met l y ws rm Pc Qc XC mc ms free) (hblind : FrameBlind Pc) (hrc : rm.cells = mc) (hrs : rm.slots = ms)
    (hframes : rm.frames + 1 ≤ R.frames) (hlocals : W9 + (maxL + 11) + rm.locals ≤ R.locals)
    (hws : ∀ w ∈ ws, ∀ a' U, s.WarmedH U.vm → w.before a' U = true) (hcode : Cond.codeWith y bytes maxL ret hh ∈ ws) (hinit : ∀ a' U, s.WarmedH U.vm → (Cond.initialized y.cls).before a' U = true) :
    vx_Back l R p e below s sargs y len W9 (PreOf R mc ms Pc) (PostOf Qc mc ms free) (vx_Post XC mc ms free) := by
  intro m meth c A g ig mk a X hg hsize hdg hW hn hp
  have h1 : (headSpec ws rm).pre.before a A.U = true := atoms_intro fun w hw => hws w hw _ _ X.warmed
  have h2 : (Cond.codeWith y bytes maxL ret hh).before a A.U = true := hws _ hcode _ _ X.warmed
  have h3 : (Cond.initialized y.cls).before a A.U = true := hinit _ _ X.warmed
  have h4 : A.cells + (headSpec ws rm).room.cells ≤ R.cells := by rw [show (headSpec ws rm).room.cells = mc from hrc]; exact hp.1
  have h5 : A.slots + (headSpec ws rm).room.slots ≤ R.slots := by rw [show (headSpec ws rm).room.slots = ms from hrs]; exact hp.2.1
  have hPc : Pc a (A.U.calling g mk a) := hblind _ _ _ _ hp.2.2
  obtain ⟨U, Ls, c0, s0⟩ := A
  dsimp only [Pt.U, Pt.locs, Pt.cells, Pt.slots] at h1 h2 h3 h4 h5 X hn hPc ⊢
  obtain ⟨m9, methY, cY, hn9, hmY, hcY, -, hlY, -⟩ := Cond.codeWith_spec h2
  cases Option.some.inj (hn9.symm.trans hn)
  obtain ⟨kY, hkY, -⟩ := className_of_methodNamed hn
  have hinitY : kY.init = .initialized := Cond.initialized_spec (findClass_of_methodNamed hn) hkY h3
  have h : At U g.method c below := by rw [hg]; exact X.here
  have hlocals9 : W9 + (maxL + 11) + (headSpec ws rm).room.locals ≤ R.locals := hlocals
  have happ : (headSpec ws rm).appliesLoose y e.platform (U.calling g mk a) = true :=
    Spec.appliesLoose_calling (g := g) h hdg hn hkY hinitY
      (X.room_calling (g := g) (R' := (headSpec ws rm).room) hsize hmY hcY hframes (by rw [hlY]; omega) h4 h5) h1
  obtain ⟨mid, hmid⟩ := h.above
  have hfr : (U.setTop g).frames = (.java g :: mid) ++ below := by rw [State.frames_setTop' g h.top, hmid]; rfl
  obtain ⟨o, s₂, hsteps, -, hend, hq⟩ := Steps.callFree hM p X.admits X.cas X.clock (acts := []) hfr happ hPc trivial
  have hq' : vx_Q Qc XC mc ms free a (U.calling g mk a) o s₂ := hq
  rw [State.frames_setTop' g h.top] at hend
  obtain ⟨g₀, hg0⟩ := Option.isSome_iff_exists.mp h.top
  obtain ⟨r, hr⟩ := State.topJava?_eq_some.mp hg0
  have hr' : (({ U with heap := s₂.heap, slotsUsed := s₂.slotsUsed } : State).setVm s₂.vm).frames = .java g₀ :: r := hr
  rcases hq' with ⟨hqc, L, hfe, hL⟩ | ⟨q, rfl, E, ce, L, hx, hce, hcv, hcl, hW₂, hsm, hL⟩
  · obtain ⟨⟨v, rfl⟩, hW₂, e2, q2, q3, q4, q5, q6⟩ := id hfe
    have e3 : s₂ = ({ (U.calling g mk a).setFrames s₂.frames with heap := s₂.heap, slotsUsed := s₂.slotsUsed } : State).setVm s₂.vm := by
      have : s₂ = ({ s₂ with vm := (U.calling g mk a).vm } : State).setVm s₂.vm := rfl
      rw [e2] at this
      exact this
    obtain ⟨c₂, i₂, len₂, hc₂, hd₂, hf₂⟩ := hend
    have hW' : U.WarmedH s₂.vm := hW₂
    have hcc : c₂ = c := by
      have h1 : s₂.code? g.method = U.code? g.method := by
        rw [State.code?_eq, State.code?_eq, hW'.alike.method?]
      exact Option.some.inj (hc₂.symm.trans (h1.trans h.code))
    subst hcc
    have hlen : len₂ = len := by rw [hdg] at hd₂; cases hd₂; rfl
    subst hlen
    have hs₂ : s₂ = (({ U with heap := s₂.heap, slotsUsed := s₂.slotsUsed } : State).setVm s₂.vm).setTop { g with pc := g.pc + len₂, stack := v.toList ++ g.stack } := by
      refine e3.trans ?_
      rw [hf₂, State.calling_eq h.top, State.setFrames_setFrames, State.setTop_of_frames _ hr', hr]
      rfl
    have hsame : U.sameButNew ({ U with heap := s₂.heap, slotsUsed := s₂.slotsUsed } : State) L mc ms := by
      refine ⟨?_, q2, q3, q4, q5, q6⟩
      obtain ⟨t, ht, -⟩ := State.frames_cons hr
      show ({ U with heap := s₂.heap, slotsUsed := s₂.slotsUsed } : State) = { U.setFrames U.frames with heap := s₂.heap, slotsUsed := s₂.slotsUsed }
      rw [State.setFrames_self ht]
    subst hg
    refine Or.inl ⟨v, ⟨(({ U with heap := s₂.heap, slotsUsed := s₂.slotsUsed } : State).setVm s₂.vm), Ls ++ L, c0 + mc, s0 + ms⟩,
      ⟨X.admits, X.cas, X.clock, X.frames, X.room, X.hears, X.method, X.code, (X.here.setHeapUsed s₂.heap s₂.slotsUsed).setVm hW'.alike, X.tail, State.WarmedH.trans X.warmed hW', X.limits, X.bytes, X.same.trans (hsame.setVm s.vm)⟩,
      ⟨g, mk, s₂, L, rfl, rfl, hqc, rfl, hL, rfl, rfl⟩, ?_⟩
    show Steps p.tables e below _ ((({ U with heap := s₂.heap, slotsUsed := s₂.slotsUsed } : State).setVm s₂.vm).setTop { g with pc := g.pc + len₂, stack := v.toList ++ g.stack })
    rw [← hs₂]
    exact hsteps
  · obtain ⟨e2, q2, q3, q4, q5, q6⟩ := id hsm
    have e3 : s₂ = ({ (U.calling g mk a).setFrames s₂.frames with heap := s₂.heap, slotsUsed := s₂.slotsUsed } : State).setVm s₂.vm := by
      have : s₂ = ({ s₂ with vm := (U.calling g mk a).vm } : State).setVm s₂.vm := rfl
      rw [e2] at this
      exact this
    have hf₂ : s₂.frames = .throwing q :: .java g :: U.frames.tail := hend
    have hW' : U.WarmedH s₂.vm := hW₂
    have hs₂ : s₂ = ((({ U with heap := s₂.heap, slotsUsed := s₂.slotsUsed } : State).setVm s₂.vm).setTop g).pushFrame (.throwing q) := by
      refine e3.trans ?_
      rw [hf₂, State.calling_eq h.top, State.setFrames_setFrames, State.pushFrame, State.frames_setTop _ hr', State.setTop_of_frames _ hr', State.setFrames_setFrames, hr]
      rfl
    have hsame : U.sameButNew ({ U with heap := s₂.heap, slotsUsed := s₂.slotsUsed } : State) L mc ms := by
      refine ⟨?_, q2, q3, q4, q5, q6⟩
      obtain ⟨t, ht, -⟩ := State.frames_cons hr
      show ({ U with heap := s₂.heap, slotsUsed := s₂.slotsUsed } : State) = { U.setFrames U.frames with heap := s₂.heap, slotsUsed := s₂.slotsUsed }
      rw [State.setFrames_self ht]
    subst hg
    refine Or.inr ⟨q, ⟨(({ U with heap := s₂.heap, slotsUsed := s₂.slotsUsed } : State).setVm s₂.vm), Ls ++ L, c0 + mc, s0 + ms⟩,
      ⟨X.admits, X.cas, X.clock, X.frames, X.room, X.hears, X.method, X.code, (X.here.setHeapUsed s₂.heap s₂.slotsUsed).setVm hW'.alike, X.tail, State.WarmedH.trans X.warmed hW', X.limits, X.bytes, X.same.trans (hsame.setVm s.vm)⟩,
      ⟨g, mk, s₂, L, E, ce, rfl, rfl, hx, hce, hcv, hcl, rfl, hL, rfl, rfl⟩, ?_⟩
    show Steps p.tables e below _ (((({ U with heap := s₂.heap, slotsUsed := s₂.slotsUsed } : State).setVm s₂.vm).setTop g).pushFrame (.throwing q))
    rw [← hs₂]
    exact hsteps
end
variable {p : Program} {l : Launch} {e : Env} {R : Room} {s : State} {m : MethodId} {args : Array Value} {below : List Frame} {meth : Method} {c : Code} {T : State} {H : Heap} {locs : List Loc} {cells slots : Nat}
theorem vx_callVX (X : Stand p l e R s m args below meth c T locs cells slots) (hexec : p.tables.exec = Jvm.exec) {own C : String} {index : Nat} {y : MethodName} {bytes : ByteArray} {maxL : Nat} {ret : Option FieldType} {hh : List (Nat × Nat × Nat × Nat)}
    (hown : s.vm.findClass own = some m.cls) (hlink : (Cond.methodLink own index y).before args s = true) (hinst : (Cond.instanceMethod y).before args s = true) (hsel : (Cond.selects C y y).before args s = true)
    (hcode : (Cond.codeWith y bytes maxL ret hh).before args s = true) (hy : y.cls ≠ "java/lang/invoke/MethodHandle" ∧ y.cls ≠ "java/lang/invoke/VarHandle")
    {W9 : Nat} {Pre : Pt → Array Value → Prop} {Post : Pt → Array Value → Option Value → Pt → Prop} {PostX : Pt → Array Value → Addr → Pt → Prop} (hK : vx_Back l R p e below s args y 3 W9 Pre Post PostX)
    {b : Addr} {cellB : Cell} (hcell : T.heap[b]? = some cellB) (hobj : cellB.vm.isStatics = false) (hcls : s.vm.findClass C = some cellB.cls)
    {g : JFrame} (hg : g.method = m) (hsize : g.locals.size = c.maxLocals) {argsL rest : List Value} (hlen : ∀ sig, parseMethodDescriptor y.desc = some sig → argsL.length = sig.parameters.length)
    (hstack : g.stack = argsL.reverse ++ .ref b :: rest) (hW : 2 * g.monitorRoom + (rest.map fun v => v.category).sum ≤ W9) (hdg : decode c.code g.pc = .ok (.invokevirtual index, 3))
    (hpre : ∀ vm₁, s.WarmedH vm₁ → Pre ⟨T.setVm vm₁, locs, cells, slots⟩ (Value.ref b :: argsL).toArray) :
    (∃ (v : Option Value) (vm₁ : Vm) (B : Pt), s.WarmedH vm₁ ∧ Stand p l e R s m args below meth c B.U B.locs B.cells B.slots ∧ Post ⟨T.setVm vm₁, locs, cells, slots⟩ (Value.ref b :: argsL).toArray v B ∧
      ∀ target, Steps p.tables e below (B.U.setTop { g with pc := g.pc + 3, stack := v.toList ++ rest }) target → Steps p.tables e below (T.setTop g) target) ∨
    (∃ (q : Addr) (vm₁ : Vm) (B : Pt), s.WarmedH vm₁ ∧ Stand p l e R s m args below meth c B.U B.locs B.cells B.slots ∧ PostX ⟨T.setVm vm₁, locs, cells, slots⟩ (Value.ref b :: argsL).toArray q B ∧
      Steps p.tables e below (T.setTop g) ((B.U.setTop { g with stack := rest }).pushFrame (.throwing q))) := by
  obtain ⟨mk, methM, hnamed, hmethM, hstM, habM⟩ := Cond.instanceMethod_spec hinst
  obtain ⟨m8, methM', cM, hn8, hmethM', -, -, -, -, -, -, hsigM⟩ := Cond.codeWith_spec hcode
  cases Option.some.inj (hn8.symm.trans hnamed)
  cases hmethM.symm.trans hmethM'
  obtain ⟨c2, r2, m2, q1, q2, q3, q4, kP, hkP, hkPi⟩ := Cond.selects_spec hsel
  cases hcls.symm.trans q1
  cases (State.methodFound?_of_named hnamed hy).symm.trans q2
  cases hnamed.symm.trans q3
  have hselP : selectMethod e.platform s.vm cellB.cls mk = .method mk := by rw [Launch.admits_selectMethod X.admits]; exact q4
  obtain ⟨vm₁, X₁, hstep₁⟩ := X.invokevirtual hexec hown hlink hnamed hmethM hstM hkP hkPi hy (a := b) (cell := cellB) hcell
    (fun z h => by rw [h] at hobj; cases hobj) hselP hmethM habM hkP hkPi (g := g) hg (argsL := argsL) (rest := rest) (hlen _ hsigM) hstack hdg
  rcases hK m meth c ⟨T.setVm vm₁, locs, cells, slots⟩ { g with stack := rest } (.invokevirtual index) mk (Value.ref b :: argsL).toArray X₁ hg hsize hdg hW (X₁.named hnamed) (hpre vm₁ X₁.warmed) with ⟨v, B, X', hpost, hsteps⟩ | ⟨q, B, X', hpost, hsteps⟩
  · exact Or.inl ⟨v, vm₁, B, X₁.warmed, X', hpost, fun target h => hstep₁ _ fun acts => by rw [doInvoke_state]; exact hsteps.trans h⟩
  · exact Or.inr ⟨q, vm₁, B, X₁.warmed, X', hpost, hstep₁ _ fun acts => by rw [doInvoke_state]; exact hsteps⟩
theorem vx_callSX (X : Stand p l e R s m args below meth c T locs cells slots) (hexec : p.tables.exec = Jvm.exec) {own : String} {index : Nat} {y : MethodName} {bytes : ByteArray} {maxL : Nat} {ret : Option FieldType} {hh : List (Nat × Nat × Nat × Nat)}
    (hown : s.vm.findClass own = some m.cls) (hlink : (Cond.methodLink own index y).before args s = true) (hstat : (Cond.static y).before args s = true) (hinit : (Cond.initialized y.cls).before args s = true)
    (hcode : (Cond.codeWith y bytes maxL ret hh).before args s = true) (hy : y.cls ≠ "java/lang/invoke/MethodHandle" ∧ y.cls ≠ "java/lang/invoke/VarHandle")
    {W9 : Nat} {Pre : Pt → Array Value → Prop} {Post : Pt → Array Value → Option Value → Pt → Prop} {PostX : Pt → Array Value → Addr → Pt → Prop} (hK : vx_Back l R p e below s args y 3 W9 Pre Post PostX)
    {g : JFrame} (hg : g.method = m) (hsize : g.locals.size = c.maxLocals) {argsL rest : List Value} (hlen : ∀ sig, parseMethodDescriptor y.desc = some sig → argsL.length = sig.parameters.length)
    (hstack : g.stack = argsL.reverse ++ rest) (hW : 2 * g.monitorRoom + (rest.map fun v => v.category).sum ≤ W9) (hdg : decode c.code g.pc = .ok (.invokestatic index, 3))
    (hpre : ∀ vm₁, s.WarmedH vm₁ → Pre ⟨T.setVm vm₁, locs, cells, slots⟩ argsL.toArray) :
    (∃ (v : Option Value) (vm₁ : Vm) (B : Pt), s.WarmedH vm₁ ∧ Stand p l e R s m args below meth c B.U B.locs B.cells B.slots ∧ Post ⟨T.setVm vm₁, locs, cells, slots⟩ argsL.toArray v B ∧
      ∀ target, Steps p.tables e below (B.U.setTop { g with pc := g.pc + 3, stack := v.toList ++ rest }) target → Steps p.tables e below (T.setTop g) target) ∨
    (∃ (q : Addr) (vm₁ : Vm) (B : Pt), s.WarmedH vm₁ ∧ Stand p l e R s m args below meth c B.U B.locs B.cells B.slots ∧ PostX ⟨T.setVm vm₁, locs, cells, slots⟩ argsL.toArray q B ∧
      Steps p.tables e below (T.setTop g) ((B.U.setTop { g with stack := rest }).pushFrame (.throwing q))) := by
  obtain ⟨mk, methM, cM, hnamed, hmethM, -, -, -, -, -, -, hsigM⟩ := Cond.codeWith_spec hcode
  have hstatic : methM.isStatic = true := Cond.static_spec hnamed hmethM hstat
  obtain ⟨kP, hkP, -⟩ := className_of_methodNamed hnamed
  have hinitP : kP.init = .initialized := Cond.initialized_spec (findClass_of_methodNamed hnamed) hkP hinit
  obtain ⟨vm₁, X₁, hstep₁⟩ := X.invokestatic hexec hown hlink hnamed hmethM hstatic hkP hinitP hy (g := g) hg (argsL := argsL) (rest := rest) (hlen _ hsigM) hstack hdg
  rcases hK m meth c ⟨T.setVm vm₁, locs, cells, slots⟩ { g with stack := rest } (.invokestatic index) mk argsL.toArray X₁ hg hsize hdg hW (X₁.named hnamed) (hpre vm₁ X₁.warmed) with ⟨v, B, X', hpost, hsteps⟩ | ⟨q, B, X', hpost, hsteps⟩
  · exact Or.inl ⟨v, vm₁, B, X₁.warmed, X', hpost, fun target h => hstep₁ _ fun acts => by rw [doInvoke_state]; exact hsteps.trans h⟩
  · exact Or.inr ⟨q, vm₁, B, X₁.warmed, X', hpost, hstep₁ _ fun acts => by rw [doInvoke_state]; exact hsteps⟩
theorem vx_callVW (X : Stand p l e R s m args below meth c T locs cells slots) (hexec : p.tables.exec = Jvm.exec) {own C : String} {index : Nat} {y : MethodName} {bytes : ByteArray} {maxL : Nat} {ret : Option FieldType} {hh : List (Nat × Nat × Nat × Nat)}
    (hown : s.vm.findClass own = some m.cls) (hlink : (Cond.methodLink own index y).before args s = true) (hinst : (Cond.instanceMethod y).before args s = true) (hsel : (Cond.selects C y y).before args s = true)
    (hcode : (Cond.codeWith y bytes maxL ret hh).before args s = true) (hy : y.cls ≠ "java/lang/invoke/MethodHandle" ∧ y.cls ≠ "java/lang/invoke/VarHandle")
    {W9 : Nat} {Pre : Pt → Array Value → Prop} {Post : Pt → Array Value → Option Value → Pt → Prop} (hK : Back l R p e below s args y 3 W9 Pre Post)
    {b : Addr} {cellB : Cell} (hcell : T.heap[b]? = some cellB) (hobj : cellB.vm.isStatics = false) (hcls : s.vm.findClass C = some cellB.cls)
    {g : JFrame} (hg : g.method = m) (hsize : g.locals.size = c.maxLocals) {argsL rest : List Value} (hlen : ∀ sig, parseMethodDescriptor y.desc = some sig → argsL.length = sig.parameters.length)
    (hstack : g.stack = argsL.reverse ++ .ref b :: rest) (hW : 2 * g.monitorRoom + (rest.map fun v => v.category).sum ≤ W9) (hdg : decode c.code g.pc = .ok (.invokevirtual index, 3))
    (hpre : ∀ vm₁, s.WarmedH vm₁ → Pre ⟨T.setVm vm₁, locs, cells, slots⟩ (Value.ref b :: argsL).toArray) :
    ∃ (v : Option Value) (vm₁ : Vm) (B : Pt), s.WarmedH vm₁ ∧ Stand p l e R s m args below meth c B.U B.locs B.cells B.slots ∧ Post ⟨T.setVm vm₁, locs, cells, slots⟩ (Value.ref b :: argsL).toArray v B ∧
      ∀ target, Steps p.tables e below (B.U.setTop { g with pc := g.pc + 3, stack := v.toList ++ rest }) target → Steps p.tables e below (T.setTop g) target := by
  obtain ⟨mk, methM, hnamed, hmethM, hstM, habM⟩ := Cond.instanceMethod_spec hinst
  obtain ⟨m8, methM', cM, hn8, hmethM', -, -, -, -, -, -, hsigM⟩ := Cond.codeWith_spec hcode
  cases Option.some.inj (hn8.symm.trans hnamed)
  cases hmethM.symm.trans hmethM'
  obtain ⟨c2, r2, m2, q1, q2, q3, q4, kP, hkP, hkPi⟩ := Cond.selects_spec hsel
  cases hcls.symm.trans q1
  cases (State.methodFound?_of_named hnamed hy).symm.trans q2
  cases hnamed.symm.trans q3
  have hselP : selectMethod e.platform s.vm cellB.cls mk = .method mk := by rw [Launch.admits_selectMethod X.admits]; exact q4
  obtain ⟨vm₁, X₁, hstep₁⟩ := X.invokevirtual hexec hown hlink hnamed hmethM hstM hkP hkPi hy (a := b) (cell := cellB) hcell
    (fun z h => by rw [h] at hobj; cases hobj) hselP hmethM habM hkP hkPi (g := g) hg (argsL := argsL) (rest := rest) (hlen _ hsigM) hstack hdg
  obtain ⟨v, B, X', hpost, hsteps⟩ := hK m meth c ⟨T.setVm vm₁, locs, cells, slots⟩ { g with stack := rest } (.invokevirtual index) mk (Value.ref b :: argsL).toArray X₁ hg hsize hdg hW (X₁.named hnamed) (hpre vm₁ X₁.warmed)
  exact ⟨v, vm₁, B, X₁.warmed, X', hpost, fun target h => hstep₁ _ fun acts => by rw [doInvoke_state]; exact hsteps.trans h⟩
abbrev vx_CVW (R : Room) (s : State) (args : Array Value) (own C : String) (index : Nat) (y : MethodName) (bytes : ByteArray) (maxL : Nat) (ret : Option FieldType) (hh : List (Nat × Nat × Nat × Nat)) (ws : List Cond) (rm : Room) (mc ms n : Nat) : Prop :=
  (rm.cells = mc ∧ rm.slots = ms ∧ rm.frames + 1 ≤ R.frames ∧ 8 + (maxL + 11) + rm.locals ≤ R.locals ∧ (∀ w ∈ ws, ∀ (a' : Array Value) (U : State), s.WarmedH U.vm → w.before a' U = true) ∧ Cond.codeWith y bytes maxL ret hh ∈ ws) ∧
  (Cond.codeWith y bytes maxL ret hh).before args s = true ∧ (Cond.initialized y.cls).before args s = true ∧ (y.cls ≠ "java/lang/invoke/MethodHandle" ∧ y.cls ≠ "java/lang/invoke/VarHandle") ∧
  (∀ sig, parseMethodDescriptor y.desc = some sig → n = sig.parameters.length) ∧ (Cond.methodLink own index y).before args s = true ∧ (Cond.instanceMethod y).before args s = true ∧ (Cond.selects C y y).before args s = true
theorem vx_cwVW {own C : String} {index maxL mc ms : Nat} {y : MethodName} {bytes : ByteArray} {ret : Option FieldType} {hh : List (Nat × Nat × Nat × Nat)} {Ts ws ws' : List Cond} {rm : Room} (n : Nat) (ht : ∀ w ∈ Ts, w.before args s = true) (hT : GoodIn Ts (wsV own index C y ws)) (hw : ws = Cond.codeWith y bytes maxL ret hh :: ws') (hrc : rm.cells = mc) (hrs : rm.slots = ms)
    (hd : y.cls = C ∧ y.cls ≠ "java/lang/invoke/MethodHandle" ∧ y.cls ≠ "java/lang/invoke/VarHandle" ∧ (parseMethodDescriptor y.desc).map (fun d => d.parameters.length) = some n) (hR : rm.frames + 1 ≤ R.frames ∧ 8 + (maxL + 11) + rm.locals ≤ R.locals) :
    vx_CVW R s args own C index y bytes maxL ret hh ws rm mc ms n := by
  obtain ⟨hC, hd⟩ := hd
  subst hC
  have ok : ∀ w ∈ wsV own index y.cls y ws, w.before args s = true := fun w h => ht w (hT w h).1
  have hG : GoodIn Ts ws := fun w h => hT w (by unfold wsV; exact List.mem_append_right _ h)
  have hc : Cond.codeWith y bytes maxL ret hh ∈ ws := by rw [hw]; exact List.mem_cons_self
  refine ⟨⟨hrc, hrs, hR.1, hR.2, pay_in ht hG, hc⟩, ht _ (hG _ hc).1, ok _ (by simp [wsV]), ⟨hd.1, hd.2.1⟩, fun sig h => ?_, ok _ (by simp [wsV]), ok _ (by simp [wsV]), ok _ (by simp [wsV])⟩
  have h2 := hd.2.2
  rw [h] at h2
  exact (Option.some.inj h2).symm
theorem vx_runVW {y : MethodName} {bytes cc : ByteArray} {maxL nL mc ms n index : Nat} {ret : Option FieldType} {hh : List (Nat × Nat × Nat × Nat)} {ws : List Cond} {rm : Room} {Pc : Array Value → State → Prop} {Qc : Array Value → State → Outcome → State → Prop} {free : Addr → Prop} {Ts : List Cond} {own C : String} {b : Addr} {As rest : List Value} {g : JFrame}
    (S : CallFix p m c cc nL s args Ts own) (hM : Met l y ws rm Pc Qc mc ms free) (cw : vx_CVW R s args own C index y bytes maxL ret hh ws rm mc ms n) (hp : PreV s H C b Pc As)
    (hg : g.method = m) (hn : As.length = n) (hsize : g.locals.size = nL) (hstack : g.stack = As.reverse ++ .ref b :: rest) (hW : 2 * g.monitorRoom + (rest.map fun v => v.category).sum ≤ 8) (hdg : decode cc g.pc = .ok (.invokevirtual index, 3)) (hf : cells + mc ≤ R.cells ∧ slots + ms ≤ R.slots) :
    va_Run p l e R s m args below meth c H locs cells slots mc ms g rest (Qc (Value.ref b :: As).toArray) free := by
  obtain ⟨⟨hrc, hrs, hfr, hlo, hws, hcw⟩, hcode, hini, hy, hlen, hl, hin, hse⟩ := cw
  have hK : Back l R p e below s args y 3 8 (PreOf R mc ms Pc) (PostOf Qc mc ms free) := va_backW (hh := hh) (bytes := bytes) (maxL := maxL) (ret := ret) hM hp.1 hrc hrs hfr hlo hws hcw (fun a' U hW => word_at hW (Or.inl (by first | rfl | simp [Cond.onTables, Cond.keeps, Cond.steady])) hini)
  obtain ⟨hx, hb, hml, ho, -⟩ := S
  obtain ⟨-, ⟨cellB, hcB, hoB, hclB⟩, hPc⟩ := hp
  intro T hT X
  obtain ⟨v, vm₁, ⟨U', l2, c2, s2⟩, hW₁, X', ⟨g', mk, t, L, e1, e2, hq, h1, hL, h2, h3⟩, st⟩ := vx_callVW X hx (C := C) (hh := hh) (bytes := bytes) (maxL := maxL) (ret := ret) ho hl hin hse hcode hy hK (by rw [hT]; exact hcB) hoB hclB hg (hsize.trans hml.symm) (argsL := As) (rest := rest) (fun sig h => hn.trans (hlen sig h)) hstack hW (by rw [hb]; exact hdg)
    (fun vm₁ hW₁ => ⟨hf.1, hf.2, hPc (T.setVm vm₁) hT hW₁⟩)
  dsimp only [Pt.U, Pt.locs, Pt.cells, Pt.slots] at X' e1 e2 h1 h2 h3 st
  subst h1; subst h2; subst h3
  exact ⟨v, (T.setVm vm₁).calling g' mk (Value.ref b :: As).toArray, t, U', L, hT, X', hL, e1, e2, hq, st⟩
section
variable {y : MethodName} {bytes cc : ByteArray} {maxL nL mc ms n index : Nat} {ret : Option FieldType} {ws : List Cond} {rm : Room} {Pc : Array Value → State → Prop} {Qc : Array Value → State → Outcome → State → Prop} {XC : String → State → State → Prop} {free : Addr → Prop} {Ts : List Cond} {own C : String} {b : Addr} {As rest : List Value} {g : JFrame}
theorem vx_runVX {hh : List (Nat × Nat × Nat × Nat)} (S : CallFix p m c cc nL s args Ts own) (hM : vx_Met l y ws rm Pc Qc XC mc ms free) (cw : vx_CVW R s args own C index y bytes maxL ret hh ws rm mc ms n) (hp : PreV s H C b Pc As)
    (hg : g.method = m) (hn : As.length = n) (hsize : g.locals.size = nL) (hstack : g.stack = As.reverse ++ .ref b :: rest) (hW : 2 * g.monitorRoom + (rest.map fun v => v.category).sum ≤ 8) (hdg : decode cc g.pc = .ok (.invokevirtual index, 3)) (hf : cells + mc ≤ R.cells ∧ slots + ms ≤ R.slots) :
    vx_Run p l e R s m args below meth c H locs cells slots mc ms g rest (Qc (Value.ref b :: As).toArray) XC free := by
  obtain ⟨⟨hrc, hrs, hfr, hlo, hws, hcw⟩, hcode, hini, hy, hlen, hl, hin, hse⟩ := cw
  have hK : vx_Back l R p e below s args y 3 8 (PreOf R mc ms Pc) (PostOf Qc mc ms free) (vx_Post XC mc ms free) := vx_backW (hh := hh) (bytes := bytes) (maxL := maxL) (ret := ret) hM hp.1 hrc hrs hfr hlo hws hcw (fun a' U hW => word_at hW (Or.inl (by first | rfl | simp [Cond.onTables, Cond.keeps, Cond.steady])) hini)
  obtain ⟨hx, hb, hml, ho, -⟩ := S
  obtain ⟨-, ⟨cellB, hcB, hoB, hclB⟩, hPc⟩ := hp
  intro T hT X
  rcases vx_callVX X hx (C := C) (hh := hh) (bytes := bytes) (maxL := maxL) (ret := ret) ho hl hin hse hcode hy hK (by rw [hT]; exact hcB) hoB hclB hg (hsize.trans hml.symm) (argsL := As) (rest := rest) (fun sig h => hn.trans (hlen sig h)) hstack hW (by rw [hb]; exact hdg)
    (fun vm₁ hW₁ => ⟨hf.1, hf.2, hPc (T.setVm vm₁) hT hW₁⟩) with ⟨v, vm₁, ⟨U', l2, c2, s2⟩, hW₁, X', ⟨g', mk, t, L, e1, e2, hq, h1, hL, h2, h3⟩, st⟩ | ⟨q, vm₁, ⟨U', l2, c2, s2⟩, hW₁, X', ⟨g', mk, t, L, E, ce, e1, e2, hq, hce, hcv, hcl, h1, hL, h2, h3⟩, st⟩
  · dsimp only [Pt.U, Pt.locs, Pt.cells, Pt.slots] at X' e1 e2 h1 h2 h3 st
    subst h1; subst h2; subst h3
    exact Or.inl ⟨v, (T.setVm vm₁).calling g' mk (Value.ref b :: As).toArray, t, U', L, hT, X', hL, e1, e2, hq, st⟩
  · dsimp only [Pt.U, Pt.locs, Pt.cells, Pt.slots] at X' e1 e2 h1 h2 h3 st hcl
    subst h1; subst h2; subst h3
    exact Or.inr ⟨q, (T.setVm vm₁).calling g' mk (Value.ref b :: As).toArray, t, U', L, E, ce, hT, X', hL, e1, e2, hq, hce, hcv, vx_cls hW₁ hcl, st⟩
theorem vx_runSX {hh : List (Nat × Nat × Nat × Nat)} (S : CallFix p m c cc nL s args Ts own) (hM : vx_Met l y ws rm Pc Qc XC mc ms free) (cw : vx_CSW R s args own index y bytes maxL ret hh ws rm mc ms n) (hp : PreS s H Pc As)
    (hg : g.method = m) (hn : As.length = n) (hsize : g.locals.size = nL) (hstack : g.stack = As.reverse ++ rest) (hW : 2 * g.monitorRoom + (rest.map fun v => v.category).sum ≤ 8) (hdg : decode cc g.pc = .ok (.invokestatic index, 3)) (hf : cells + mc ≤ R.cells ∧ slots + ms ≤ R.slots) :
    vx_Run p l e R s m args below meth c H locs cells slots mc ms g rest (Qc As.toArray) XC free := by
  obtain ⟨⟨hrc, hrs, hfr, hlo, hws, hcw⟩, hcode, hini, hy, hlen, hl, hstt⟩ := cw
  have hK : vx_Back l R p e below s args y 3 8 (PreOf R mc ms Pc) (PostOf Qc mc ms free) (vx_Post XC mc ms free) := vx_backW (hh := hh) (bytes := bytes) (maxL := maxL) (ret := ret) hM hp.1 hrc hrs hfr hlo hws hcw (fun a' U hW => word_at hW (Or.inl (by first | rfl | simp [Cond.onTables, Cond.keeps, Cond.steady])) hini)
  obtain ⟨hx, hb, hml, ho, -⟩ := S
  intro T hT X
  rcases vx_callSX X hx (hh := hh) (bytes := bytes) (maxL := maxL) (ret := ret) ho hl hstt hini hcode hy hK hg (hsize.trans hml.symm) (argsL := As) (rest := rest) (fun sig h => hn.trans (hlen sig h)) hstack hW (by rw [hb]; exact hdg)
    (fun vm₁ hW₁ => ⟨hf.1, hf.2, hp.2 (T.setVm vm₁) hT hW₁⟩) with ⟨v, vm₁, ⟨U', l2, c2, s2⟩, hW₁, X', ⟨g', mk, t, L, e1, e2, hq, h1, hL, h2, h3⟩, st⟩ | ⟨q, vm₁, ⟨U', l2, c2, s2⟩, hW₁, X', ⟨g', mk, t, L, E, ce, e1, e2, hq, hce, hcv, hcl, h1, hL, h2, h3⟩, st⟩
  · dsimp only [Pt.U, Pt.locs, Pt.cells, Pt.slots] at X' e1 e2 h1 h2 h3 st
    subst h1; subst h2; subst h3
    exact Or.inl ⟨v, (T.setVm vm₁).calling g' mk As.toArray, t, U', L, hT, X', hL, e1, e2, hq, st⟩
  · dsimp only [Pt.U, Pt.locs, Pt.cells, Pt.slots] at X' e1 e2 h1 h2 h3 st hcl
    subst h1; subst h2; subst h3
    exact Or.inr ⟨q, (T.setVm vm₁).calling g' mk As.toArray, t, U', L, E, ce, hT, X', hL, e1, e2, hq, hce, hcv, vx_cls hW₁ hcl, st⟩
end
end VXH
theorem vx_ofWH {l : Launch} {y : MethodName} {ws ws' : List Cond} {rm : Room} {Pc : Array Value → State → Prop} {Qc : Array Value → State → Outcome → State → Prop} {XC : String → State → State → Prop} {mc ms : Nat} {free : Addr → Prop} {cc : ByteArray} {maxL : Nat} {ret : Option FieldType} {hh : List (Nat × Nat × Nat × Nat)}
    (hy : plainName y.cls = true) (hw : ws = Cond.codeWith y cc maxL ret hh :: ws')
    (body : ∀ p e s m args below meth c s₁, BodyLoose p l y (headSpec ws rm) cc maxL ret e s m args below meth c s₁ → c.maxLocals = maxL → Pc args s →
      W p l e (headSpec ws rm).room s m args below meth c s.heap [] 0 0 (vx_MQ below Qc XC args s mc ms free) (entryFrame m args maxL)) : vx_Met l y ws rm Pc Qc XC mc ms free := by
  refine MetFree.of_bodyS (code := cc) (maxLocals := maxL) (ret := ret) hy ?_ ?_
  · intro args s m h hn
    obtain ⟨m9, meth, c, hn9, h1, h2, h3, h4, -, h5, h6, -⟩ := Cond.codeWith_spec (atoms_spec (ws := ws) h _ (by rw [hw]; exact List.mem_cons_self))
    cases hn.symm.trans hn9
    exact ⟨meth, c, h1, h2, h3, h4, h5, h6⟩
  · intro p e s m args below meth c s₁ B hml hP _
    have hh0 : s₁.heap = s.heap := by rw [B.state]; rfl
    obtain ⟨t, a1, o, b1, b2, b3⟩ := body p e s m args below meth c s₁ B hml hP s₁ hh0 (Stand.of_body B)
    exact ⟨t, o, a1, b1, b2, b3⟩
/-! ===== END ===== -/
end
section
def RX0 : String := "EchoGauge$1"
def TX0 : u_T := fun k => match k with
  | _ => ("", "", "", false)
def tyX0 : Nat → FieldType := fun k => match k with
  | _ => .int
abbrev wsX00 : List Cond := u_ws RX0 TX0 0
theorem nmX0 : ∀ a, a < 0 → ∀ b, b < 0 → a ≠ b → (TX0 a).2.1 ≠ (TX0 b).2.1 := by decide +kernel
theorem tyX0_ok : ∀ k, k < 0 → parseFieldDescriptor (TX0 k).2.2.1 = some (tyX0 k) := by decide +kernel
def RX1 : String := "EchoGauge$CommandText"
def TX1 : u_T := fun k => match k with
  | 0 => ("EchoGauge$CommandText", "length", "I", false)
  | 1 => ("EchoGauge$CommandText", "bytes", "[B", true)
  | 2 => ("EchoGauge$CommandText", "position", "I", false)
  | 3 => ("EchoGauge$CommandText", "word", "LEchoGauge$Word;", false)
  | _ => ("EchoGauge$CommandText", "numbers", "[I", true)
def tyX1 : Nat → FieldType := fun k => match k with
  | 0 => .int
  | 1 => .array .byte
  | 2 => .int
  | 3 => .object "EchoGauge$Word"
  | _ => .array .int
abbrev wsX10 : List Cond := u_ws RX1 TX1 5
theorem nmX1 : ∀ a, a < 5 → ∀ b, b < 5 → a ≠ b → (TX1 a).2.1 ≠ (TX1 b).2.1 := by decide +kernel
theorem tyX1_ok : ∀ k, k < 5 → parseFieldDescriptor (TX1 k).2.2.1 = some (tyX1 k) := by decide +kernel
abbrev cX1_init : ByteArray := prog_3_method_1_code
def yX1_init : MethodName := ⟨RX1, "<init>", "()V"⟩
abbrev cX1_isFull : ByteArray := prog_3_method_2_code
def yX1_isFull : MethodName := ⟨RX1, "isFull", "()Z"⟩
abbrev cX1_append : ByteArray := prog_3_method_3_code
def yX1_append : MethodName := ⟨RX1, "append", "(I)V"⟩
abbrev cX1_number : ByteArray := prog_3_method_4_code
def yX1_number : MethodName := ⟨RX1, "number", "(I)I"⟩
abbrev cX1_fault : ByteArray := prog_3_method_5_code
def yX1_fault : MethodName := ⟨RX1, "fault", "()I"⟩
abbrev cX1_rewind : ByteArray := prog_3_method_6_code
def yX1_rewind : MethodName := ⟨RX1, "rewind", "()V"⟩
abbrev cX1_hasMore : ByteArray := prog_3_method_7_code
def yX1_hasMore : MethodName := ⟨RX1, "hasMore", "()Z"⟩
abbrev cX1_readCommand : ByteArray := prog_3_method_8_code
def yX1_readCommand : MethodName := ⟨RX1, "readCommand", "()Z"⟩
abbrev cX1_readWord : ByteArray := prog_3_method_9_code
def yX1_readWord : MethodName := ⟨RX1, "readWord", "()Z"⟩
abbrev cX1_readNumber : ByteArray := prog_3_method_10_code
def yX1_readNumber : MethodName := ⟨RX1, "readNumber", "(I)Z"⟩
abbrev cX1_skipSpaces : ByteArray := prog_3_method_11_code
def yX1_skipSpaces : MethodName := ⟨RX1, "skipSpaces", "()V"⟩
abbrev cX1_byteAt : ByteArray := prog_3_method_12_code
def yX1_byteAt : MethodName := ⟨RX1, "byteAt", "(I)I"⟩
abbrev cX1_wordBetween : ByteArray := prog_3_method_13_code
def yX1_wordBetween : MethodName := ⟨RX1, "wordBetween", "(II)LEchoGauge$Word;"⟩
abbrev cX1_standsAt : ByteArray := prog_3_method_14_code
def yX1_standsAt : MethodName := ⟨RX1, "standsAt", "(Ljava/lang/String;II)Z"⟩
abbrev cX1_isLetter : ByteArray := prog_3_method_15_code
def yX1_isLetter : MethodName := ⟨RX1, "isLetter", "(I)Z"⟩
abbrev cX1_isDigit : ByteArray := prog_3_method_16_code
def yX1_isDigit : MethodName := ⟨RX1, "isDigit", "(I)Z"⟩
def RX2 : String := "EchoGauge$Distances"
def TX2 : u_T := fun k => match k with
  | 0 => ("EchoGauge$Distances", "count", "I", false)
  | _ => ("EchoGauge$Distances", "row", "[I", true)
def tyX2 : Nat → FieldType := fun k => match k with
  | 0 => .int
  | _ => .array .int
abbrev wsX20 : List Cond := u_ws RX2 TX2 2
theorem nmX2 : ∀ a, a < 2 → ∀ b, b < 2 → a ≠ b → (TX2 a).2.1 ≠ (TX2 b).2.1 := by decide +kernel
theorem tyX2_ok : ∀ k, k < 2 → parseFieldDescriptor (TX2 k).2.2.1 = some (tyX2 k) := by decide +kernel
abbrev cX2_init : ByteArray := prog_4_method_1_code
def yX2_init : MethodName := ⟨RX2, "<init>", "()V"⟩
abbrev cX2_reset : ByteArray := prog_4_method_2_code
def yX2_reset : MethodName := ⟨RX2, "reset", "()V"⟩
abbrev cX2_copyFrom : ByteArray := prog_4_method_3_code
def yX2_copyFrom : MethodName := ⟨RX2, "copyFrom", "(LEchoGauge$Distances;)V"⟩
abbrev cX2_takeCandidates : ByteArray := prog_4_method_4_code
def yX2_takeCandidates : MethodName := ⟨RX2, "takeCandidates", "(LEchoGauge$Echoes;)V"⟩
abbrev cX2_hasNear : ByteArray := prog_4_method_5_code
def yX2_hasNear : MethodName := ⟨RX2, "hasNear", "(I)Z"⟩
def RX3 : String := "EchoGauge$Echoes"
def TX3 : u_T := fun k => match k with
  | 0 => ("EchoGauge$Echoes", "count", "I", false)
  | 1 => ("EchoGauge$Echoes", "kinds", "[I", true)
  | 2 => ("EchoGauge$Echoes", "distances", "[I", true)
  | 3 => ("EchoGauge$Echoes", "strengths", "[I", true)
  | _ => ("EchoGauge$Echoes", "marks", "[I", true)
def tyX3 : Nat → FieldType := fun k => match k with
  | 0 => .int
  | 1 => .array .int
  | 2 => .array .int
  | 3 => .array .int
  | _ => .array .int
abbrev wsX30 : List Cond := u_ws RX3 TX3 5
theorem nmX3 : ∀ a, a < 5 → ∀ b, b < 5 → a ≠ b → (TX3 a).2.1 ≠ (TX3 b).2.1 := by decide +kernel
theorem tyX3_ok : ∀ k, k < 5 → parseFieldDescriptor (TX3 k).2.2.1 = some (tyX3 k) := by decide +kernel
abbrev cX3_init : ByteArray := prog_5_method_1_code
def yX3_init : MethodName := ⟨RX3, "<init>", "()V"⟩
abbrev cX3_reset : ByteArray := prog_5_method_2_code
def yX3_reset : MethodName := ⟨RX3, "reset", "()V"⟩
abbrev cX3_copyFrom : ByteArray := prog_5_method_3_code
def yX3_copyFrom : MethodName := ⟨RX3, "copyFrom", "(LEchoGauge$Echoes;)V"⟩
abbrev cX3_has : ByteArray := prog_5_method_4_code
def yX3_has : MethodName := ⟨RX3, "has", "(I)Z"⟩
abbrev cX3_kind : ByteArray := prog_5_method_5_code
def yX3_kind : MethodName := ⟨RX3, "kind", "(I)I"⟩
abbrev cX3_distance : ByteArray := prog_5_method_6_code
def yX3_distance : MethodName := ⟨RX3, "distance", "(I)I"⟩
abbrev cX3_strength : ByteArray := prog_5_method_7_code
def yX3_strength : MethodName := ⟨RX3, "strength", "(I)I"⟩
abbrev cX3_isMarked : ByteArray := prog_5_method_8_code
def yX3_isMarked : MethodName := ⟨RX3, "isMarked", "(II)Z"⟩
abbrev cX3_mark : ByteArray := prog_5_method_9_code
def yX3_mark : MethodName := ⟨RX3, "mark", "(II)V"⟩
abbrev cX3_append : ByteArray := prog_5_method_10_code
def yX3_append : MethodName := ⟨RX3, "append", "(III)V"⟩
abbrev cX3_put : ByteArray := prog_5_method_11_code
def yX3_put : MethodName := ⟨RX3, "put", "(IIII)V"⟩
abbrev cX3_meetChance : ByteArray := prog_5_method_12_code
def yX3_meetChance : MethodName := ⟨RX3, "meetChance", "(LEchoGauge$Tank;II)V"⟩
abbrev cX3_insert : ByteArray := prog_5_method_13_code
def yX3_insert : MethodName := ⟨RX3, "insert", "(III)V"⟩
abbrev cX3_comesBefore : ByteArray := prog_5_method_14_code
def yX3_comesBefore : MethodName := ⟨RX3, "comesBefore", "(IIII)Z"⟩
abbrev cX3_bestOf : ByteArray := prog_5_method_15_code
def yX3_bestOf : MethodName := ⟨RX3, "bestOf", "(II)I"⟩
abbrev cX3_isBetter : ByteArray := prog_5_method_16_code
def yX3_isBetter : MethodName := ⟨RX3, "isBetter", "(IIII)Z"⟩
abbrev cX3_value : ByteArray := prog_5_method_17_code
def yX3_value : MethodName := ⟨RX3, "value", "(II)I"⟩
abbrev cX3_addToDigest : ByteArray := prog_5_method_18_code
def yX3_addToDigest : MethodName := ⟨RX3, "addToDigest", "(J)J"⟩
def RX4 : String := "EchoGauge$History"
def TX4 : u_T := fun k => match k with
  | 0 => ("EchoGauge$History", "picks", "[I", true)
  | 1 => ("EchoGauge$History", "count", "I", false)
  | 2 => ("EchoGauge$History", "told", "I", false)
  | 3 => ("EchoGauge$History", "misses", "I", false)
  | 4 => ("EchoGauge$History", "alarm", "I", false)
  | 5 => ("EchoGauge$History", "shots", "I", false)
  | 6 => ("EchoGauge$History", "pickedShots", "I", false)
  | 7 => ("EchoGauge$History", "drops", "I", false)
  | _ => ("EchoGauge$History", "alarms", "I", false)
def tyX4 : Nat → FieldType := fun k => match k with
  | 0 => .array .int
  | 1 => .int
  | 2 => .int
  | 3 => .int
  | 4 => .int
  | 5 => .int
  | 6 => .int
  | 7 => .int
  | _ => .int
abbrev wsX40 : List Cond := u_ws RX4 TX4 9
theorem nmX4 : ∀ a, a < 9 → ∀ b, b < 9 → a ≠ b → (TX4 a).2.1 ≠ (TX4 b).2.1 := by decide +kernel
theorem tyX4_ok : ∀ k, k < 9 → parseFieldDescriptor (TX4 k).2.2.1 = some (tyX4 k) := by decide +kernel
abbrev cX4_init : ByteArray := prog_6_method_1_code
def yX4_init : MethodName := ⟨RX4, "<init>", "()V"⟩
abbrev cX4_reset : ByteArray := prog_6_method_2_code
def yX4_reset : MethodName := ⟨RX4, "reset", "()V"⟩
abbrev cX4_copyFrom : ByteArray := prog_6_method_3_code
def yX4_copyFrom : MethodName := ⟨RX4, "copyFrom", "(LEchoGauge$History;)V"⟩
abbrev cX4_shorten : ByteArray := prog_6_method_4_code
def yX4_shorten : MethodName := ⟨RX4, "shorten", "(I)V"⟩
abbrev cX4_pickAt : ByteArray := prog_6_method_5_code
def yX4_pickAt : MethodName := ⟨RX4, "pickAt", "(I)I"⟩
abbrev cX4_pickCount : ByteArray := prog_6_method_6_code
def yX4_pickCount : MethodName := ⟨RX4, "pickCount", "()I"⟩
abbrev cX4_pickSum : ByteArray := prog_6_method_7_code
def yX4_pickSum : MethodName := ⟨RX4, "pickSum", "()I"⟩
abbrev cX4_median : ByteArray := prog_6_method_8_code
def yX4_median : MethodName := ⟨RX4, "median", "(I)I"⟩
abbrev cX4_pickOfRank : ByteArray := prog_6_method_9_code
def yX4_pickOfRank : MethodName := ⟨RX4, "pickOfRank", "(I)I"⟩
abbrev cX4_picksBelow : ByteArray := prog_6_method_10_code
def yX4_picksBelow : MethodName := ⟨RX4, "picksBelow", "(I)I"⟩
abbrev cX4_toldLevel : ByteArray := prog_6_method_11_code
def yX4_toldLevel : MethodName := ⟨RX4, "toldLevel", "(I)I"⟩
abbrev cX4_enter : ByteArray := prog_6_method_12_code
def yX4_enter : MethodName := ⟨RX4, "enter", "(ILEchoGauge$Settings;I)V"⟩
abbrev cX4_push : ByteArray := prog_6_method_13_code
def yX4_push : MethodName := ⟨RX4, "push", "(II)V"⟩
abbrev cX4_follow : ByteArray := prog_6_method_14_code
def yX4_follow : MethodName := ⟨RX4, "follow", "(II)V"⟩
abbrev cX4_miss : ByteArray := prog_6_method_15_code
def yX4_miss : MethodName := ⟨RX4, "miss", "(I)V"⟩
abbrev cX4_judgeAlarm : ByteArray := prog_6_method_16_code
def yX4_judgeAlarm : MethodName := ⟨RX4, "judgeAlarm", "(ILEchoGauge$Settings;)V"⟩
def RX5 : String := "EchoGauge$Masks"
def TX5 : u_T := fun k => match k with
  | 0 => ("EchoGauge$Masks", "rows", "[J", true)
  | _ => ("EchoGauge$Masks", "count", "I", false)
def tyX5 : Nat → FieldType := fun k => match k with
  | 0 => .array .long
  | _ => .int
abbrev wsX50 : List Cond := u_ws RX5 TX5 2
theorem nmX5 : ∀ a, a < 2 → ∀ b, b < 2 → a ≠ b → (TX5 a).2.1 ≠ (TX5 b).2.1 := by decide +kernel
theorem tyX5_ok : ∀ k, k < 2 → parseFieldDescriptor (TX5 k).2.2.1 = some (tyX5 k) := by decide +kernel
abbrev cX5_init : ByteArray := prog_7_method_1_code
def yX5_init : MethodName := ⟨RX5, "<init>", "()V"⟩
abbrev cX5_reset : ByteArray := prog_7_method_2_code
def yX5_reset : MethodName := ⟨RX5, "reset", "()V"⟩
abbrev cX5_copyFrom : ByteArray := prog_7_method_3_code
def yX5_copyFrom : MethodName := ⟨RX5, "copyFrom", "(LEchoGauge$Masks;)V"⟩
abbrev cX5_covers : ByteArray := prog_7_method_4_code
def yX5_covers : MethodName := ⟨RX5, "covers", "(I)Z"⟩
abbrev cX5_hasBin : ByteArray := prog_7_method_5_code
def yX5_hasBin : MethodName := ⟨RX5, "hasBin", "(I)Z"⟩
abbrev cX5_put : ByteArray := prog_7_method_6_code
def yX5_put : MethodName := ⟨RX5, "put", "(IZ)V"⟩
abbrev cX5_bit : ByteArray := prog_7_method_7_code
def yX5_bit : MethodName := ⟨RX5, "bit", "(I)J"⟩
abbrev cX5_addToDigest : ByteArray := prog_7_method_8_code
def yX5_addToDigest : MethodName := ⟨RX5, "addToDigest", "(J)J"⟩
def RX6 : String := "EchoGauge$Settings"
def TX6 : u_T := fun k => match k with
  | _ => ("EchoGauge$Settings", "values", "[I", true)
def tyX6 : Nat → FieldType := fun k => match k with
  | _ => .array .int
abbrev wsX60 : List Cond := u_ws RX6 TX6 1
theorem nmX6 : ∀ a, a < 1 → ∀ b, b < 1 → a ≠ b → (TX6 a).2.1 ≠ (TX6 b).2.1 := by decide +kernel
theorem tyX6_ok : ∀ k, k < 1 → parseFieldDescriptor (TX6 k).2.2.1 = some (tyX6 k) := by decide +kernel
abbrev cX6_init : ByteArray := prog_8_method_1_code
def yX6_init : MethodName := ⟨RX6, "<init>", "()V"⟩
abbrev cX6_reset : ByteArray := prog_8_method_2_code
def yX6_reset : MethodName := ⟨RX6, "reset", "()V"⟩
abbrev cX6_copyFrom : ByteArray := prog_8_method_3_code
def yX6_copyFrom : MethodName := ⟨RX6, "copyFrom", "(LEchoGauge$Settings;)V"⟩
abbrev cX6_has : ByteArray := prog_8_method_4_code
def yX6_has : MethodName := ⟨RX6, "has", "(I)Z"⟩
abbrev cX6_allows : ByteArray := prog_8_method_5_code
def yX6_allows : MethodName := ⟨RX6, "allows", "(II)Z"⟩
abbrev cX6_value : ByteArray := prog_8_method_6_code
def yX6_value : MethodName := ⟨RX6, "value", "(I)I"⟩
abbrev cX6_put : ByteArray := prog_8_method_7_code
def yX6_put : MethodName := ⟨RX6, "put", "(II)V"⟩
abbrev cX6_needAt : ByteArray := prog_8_method_8_code
def yX6_needAt : MethodName := ⟨RX6, "needAt", "(I)I"⟩
def RX7 : String := "EchoGauge$State"
def TX7 : u_T := fun k => match k with
  | 0 => ("EchoGauge$State", "tank", "LEchoGauge$Tank;", true)
  | 1 => ("EchoGauge$State", "settings", "LEchoGauge$Settings;", true)
  | 2 => ("EchoGauge$State", "masks", "LEchoGauge$Masks;", true)
  | 3 => ("EchoGauge$State", "echoes", "LEchoGauge$Echoes;", true)
  | 4 => ("EchoGauge$State", "history", "LEchoGauge$History;", true)
  | 5 => ("EchoGauge$State", "latest", "LEchoGauge$Distances;", true)
  | _ => ("EchoGauge$State", "earlier", "LEchoGauge$Distances;", true)
def tyX7 : Nat → FieldType := fun k => match k with
  | 0 => .object "EchoGauge$Tank"
  | 1 => .object "EchoGauge$Settings"
  | 2 => .object "EchoGauge$Masks"
  | 3 => .object "EchoGauge$Echoes"
  | 4 => .object "EchoGauge$History"
  | 5 => .object "EchoGauge$Distances"
  | _ => .object "EchoGauge$Distances"
abbrev wsX70 : List Cond := u_ws RX7 TX7 7
theorem nmX7 : ∀ a, a < 7 → ∀ b, b < 7 → a ≠ b → (TX7 a).2.1 ≠ (TX7 b).2.1 := by decide +kernel
theorem tyX7_ok : ∀ k, k < 7 → parseFieldDescriptor (TX7 k).2.2.1 = some (tyX7 k) := by decide +kernel
abbrev cX7_init : ByteArray := prog_9_method_1_code
def yX7_init : MethodName := ⟨RX7, "<init>", "()V"⟩
abbrev cX7_copyFrom : ByteArray := prog_9_method_2_code
def yX7_copyFrom : MethodName := ⟨RX7, "copyFrom", "(LEchoGauge$State;)V"⟩
abbrev cX7_startAgain : ByteArray := prog_9_method_3_code
def yX7_startAgain : MethodName := ⟨RX7, "startAgain", "(I)V"⟩
abbrev cX7_change : ByteArray := prog_9_method_4_code
def yX7_change : MethodName := ⟨RX7, "change", "(II)V"⟩
abbrev cX7_takeShots : ByteArray := prog_9_method_5_code
def yX7_takeShots : MethodName := ⟨RX7, "takeShots", "(I)V"⟩
abbrev cX7_learnFalseEchoes : ByteArray := prog_9_method_6_code
def yX7_learnFalseEchoes : MethodName := ⟨RX7, "learnFalseEchoes", "(I)V"⟩
abbrev cX7_send : ByteArray := prog_9_method_7_code
def yX7_send : MethodName := ⟨RX7, "send", "()V"⟩
abbrev cX7_sendBlades : ByteArray := prog_9_method_8_code
def yX7_sendBlades : MethodName := ⟨RX7, "sendBlades", "(I)Z"⟩
abbrev cX7_findCandidates : ByteArray := prog_9_method_9_code
def yX7_findCandidates : MethodName := ⟨RX7, "findCandidates", "()V"⟩
abbrev cX7_dropBlades : ByteArray := prog_9_method_10_code
def yX7_dropBlades : MethodName := ⟨RX7, "dropBlades", "()V"⟩
def RX8 : String := "EchoGauge$Tank"
def TX8 : u_T := fun k => match k with
  | 0 => ("EchoGauge$Tank", "depth", "I", false)
  | 1 => ("EchoGauge$Tank", "level", "I", false)
  | 2 => ("EchoGauge$Tank", "flow", "I", false)
  | 3 => ("EchoGauge$Tank", "foam", "I", false)
  | 4 => ("EchoGauge$Tank", "things", "I", false)
  | 5 => ("EchoGauge$Tank", "distances", "[I", true)
  | 6 => ("EchoGauge$Tank", "strengths", "[I", true)
  | 7 => ("EchoGauge$Tank", "blades", "I", false)
  | 8 => ("EchoGauge$Tank", "upper", "I", false)
  | 9 => ("EchoGauge$Tank", "lower", "I", false)
  | 10 => ("EchoGauge$Tank", "phase", "I", false)
  | 11 => ("EchoGauge$Tank", "speed", "I", false)
  | 12 => ("EchoGauge$Tank", "beam", "I", false)
  | _ => ("EchoGauge$Tank", "s", "I", false)
def tyX8 : Nat → FieldType := fun k => match k with
  | 0 => .int
  | 1 => .int
  | 2 => .int
  | 3 => .int
  | 4 => .int
  | 5 => .array .int
  | 6 => .array .int
  | 7 => .int
  | 8 => .int
  | 9 => .int
  | 10 => .int
  | 11 => .int
  | 12 => .int
  | _ => .int
abbrev wsX80 : List Cond := u_ws RX8 TX8 14
theorem nmX8 : ∀ a, a < 14 → ∀ b, b < 14 → a ≠ b → (TX8 a).2.1 ≠ (TX8 b).2.1 := by decide +kernel
theorem tyX8_ok : ∀ k, k < 14 → parseFieldDescriptor (TX8 k).2.2.1 = some (tyX8 k) := by decide +kernel
abbrev cX8_init : ByteArray := prog_10_method_1_code
def yX8_init : MethodName := ⟨RX8, "<init>", "()V"⟩
abbrev cX8_reset : ByteArray := prog_10_method_2_code
def yX8_reset : MethodName := ⟨RX8, "reset", "()V"⟩
abbrev cX8_copyFrom : ByteArray := prog_10_method_3_code
def yX8_copyFrom : MethodName := ⟨RX8, "copyFrom", "(LEchoGauge$Tank;)V"⟩
abbrev cX8_allowsDepth : ByteArray := prog_10_method_4_code
def yX8_allowsDepth : MethodName := ⟨RX8, "allowsDepth", "(I)Z"⟩
abbrev cX8_allowsLevel : ByteArray := prog_10_method_5_code
def yX8_allowsLevel : MethodName := ⟨RX8, "allowsLevel", "(I)Z"⟩
abbrev cX8_allowsFlow : ByteArray := prog_10_method_6_code
def yX8_allowsFlow : MethodName := ⟨RX8, "allowsFlow", "(I)Z"⟩
abbrev cX8_allowsFoam : ByteArray := prog_10_method_7_code
def yX8_allowsFoam : MethodName := ⟨RX8, "allowsFoam", "(I)Z"⟩
abbrev cX8_allowsThing : ByteArray := prog_10_method_8_code
def yX8_allowsThing : MethodName := ⟨RX8, "allowsThing", "(II)Z"⟩
abbrev cX8_allowsStirrer : ByteArray := prog_10_method_9_code
def yX8_allowsStirrer : MethodName := ⟨RX8, "allowsStirrer", "(IIIII)Z"⟩
abbrev cX8_hasPlaceForThing : ByteArray := prog_10_method_10_code
def yX8_hasPlaceForThing : MethodName := ⟨RX8, "hasPlaceForThing", "()Z"⟩
abbrev cX8_hasThing : ByteArray := prog_10_method_11_code
def yX8_hasThing : MethodName := ⟨RX8, "hasThing", "(I)Z"⟩
abbrev cX8_putThing : ByteArray := prog_10_method_12_code
def yX8_putThing : MethodName := ⟨RX8, "putThing", "(II)V"⟩
abbrev cX8_dropThing : ByteArray := prog_10_method_13_code
def yX8_dropThing : MethodName := ⟨RX8, "dropThing", "(I)V"⟩
abbrev cX8_thingDistance : ByteArray := prog_10_method_14_code
def yX8_thingDistance : MethodName := ⟨RX8, "thingDistance", "(I)I"⟩
abbrev cX8_thingStrength : ByteArray := prog_10_method_15_code
def yX8_thingStrength : MethodName := ⟨RX8, "thingStrength", "(I)I"⟩
abbrev cX8_putStirrer : ByteArray := prog_10_method_16_code
def yX8_putStirrer : MethodName := ⟨RX8, "putStirrer", "(IIIII)V"⟩
abbrev cX8_moveOn : ByteArray := prog_10_method_17_code
def yX8_moveOn : MethodName := ⟨RX8, "moveOn", "()V"⟩
abbrev cX8_bladeAngle : ByteArray := prog_10_method_18_code
def yX8_bladeAngle : MethodName := ⟨RX8, "bladeAngle", "(I)I"⟩
abbrev cX8_isInBeam : ByteArray := prog_10_method_19_code
def yX8_isInBeam : MethodName := ⟨RX8, "isInBeam", "(I)Z"⟩
abbrev cX8_draw : ByteArray := prog_10_method_20_code
def yX8_draw : MethodName := ⟨RX8, "draw", "(I)I"⟩
abbrev cX8_addToDigest : ByteArray := prog_10_method_21_code
def yX8_addToDigest : MethodName := ⟨RX8, "addToDigest", "(J)J"⟩
def RX9 : String := "EchoGauge$Word"
def TX9 : u_T := fun k => match k with
  | _ => ("", "", "", false)
def tyX9 : Nat → FieldType := fun k => match k with
  | _ => .int
abbrev wsX90 : List Cond := u_ws RX9 TX9 0
theorem nmX9 : ∀ a, a < 0 → ∀ b, b < 0 → a ≠ b → (TX9 a).2.1 ≠ (TX9 b).2.1 := by decide +kernel
theorem tyX9_ok : ∀ k, k < 0 → parseFieldDescriptor (TX9 k).2.2.1 = some (tyX9 k) := by decide +kernel
def RX10 : String := "EchoGauge"
def TX10 : u_T := fun k => match k with
  | 0 => ("EchoGauge", "state", "LEchoGauge$State;", true)
  | 1 => ("EchoGauge", "trial", "LEchoGauge$State;", true)
  | 2 => ("EchoGauge", "saved", "[LEchoGauge$State;", true)
  | 3 => ("EchoGauge", "newestSaved", "I", false)
  | 4 => ("EchoGauge", "savedCount", "I", false)
  | _ => ("EchoGauge", "commands", "LEchoGauge$CommandText;", true)
def tyX10 : Nat → FieldType := fun k => match k with
  | 0 => .object "EchoGauge$State"
  | 1 => .object "EchoGauge$State"
  | 2 => .array (.object "EchoGauge$State")
  | 3 => .int
  | 4 => .int
  | _ => .object "EchoGauge$CommandText"
abbrev wsX100 : List Cond := u_ws RX10 TX10 6
theorem nmX10 : ∀ a, a < 6 → ∀ b, b < 6 → a ≠ b → (TX10 a).2.1 ≠ (TX10 b).2.1 := by decide +kernel
theorem tyX10_ok : ∀ k, k < 6 → parseFieldDescriptor (TX10 k).2.2.1 = some (tyX10 k) := by decide +kernel
abbrev cX10_init : ByteArray := prog_1_method_1_code
def yX10_init : MethodName := ⟨RX10, "<init>", "()V"⟩
abbrev cX10_begin : ByteArray := prog_1_method_2_code
def yX10_begin : MethodName := ⟨RX10, "begin", "(I)I"⟩
abbrev cX10_setLevel : ByteArray := prog_1_method_3_code
def yX10_setLevel : MethodName := ⟨RX10, "setLevel", "(I)I"⟩
abbrev cX10_setFlow : ByteArray := prog_1_method_4_code
def yX10_setFlow : MethodName := ⟨RX10, "setFlow", "(I)I"⟩
abbrev cX10_setFoam : ByteArray := prog_1_method_5_code
def yX10_setFoam : MethodName := ⟨RX10, "setFoam", "(I)I"⟩
abbrev cX10_addThing : ByteArray := prog_1_method_6_code
def yX10_addThing : MethodName := ⟨RX10, "addThing", "(II)I"⟩
abbrev cX10_removeThing : ByteArray := prog_1_method_7_code
def yX10_removeThing : MethodName := ⟨RX10, "removeThing", "(I)I"⟩
abbrev cX10_setStirrer : ByteArray := prog_1_method_8_code
def yX10_setStirrer : MethodName := ⟨RX10, "setStirrer", "(IIIII)I"⟩
abbrev cX10_set : ByteArray := prog_1_method_9_code
def yX10_set : MethodName := ⟨RX10, "set", "(II)I"⟩
abbrev cX10_setS : ByteArray := prog_1_method_10_code
def yX10_setS : MethodName := ⟨RX10, "setS", "(I)I"⟩
abbrev cX10_mask : ByteArray := prog_1_method_11_code
def yX10_mask : MethodName := ⟨RX10, "mask", "(IZ)I"⟩
abbrev cX10_learn : ByteArray := prog_1_method_12_code
def yX10_learn : MethodName := ⟨RX10, "learn", "(I)I"⟩
abbrev cX10_forget : ByteArray := prog_1_method_13_code
def yX10_forget : MethodName := ⟨RX10, "forget", "()I"⟩
abbrev cX10_shoot : ByteArray := prog_1_method_14_code
def yX10_shoot : MethodName := ⟨RX10, "shoot", "(I)I"⟩
abbrev cX10_echo : ByteArray := prog_1_method_15_code
def yX10_echo : MethodName := ⟨RX10, "echo", "(II)I"⟩
abbrev cX10_pick : ByteArray := prog_1_method_16_code
def yX10_pick : MethodName := ⟨RX10, "pick", "(I)I"⟩
abbrev cX10_isMasked : ByteArray := prog_1_method_17_code
def yX10_isMasked : MethodName := ⟨RX10, "isMasked", "(I)Z"⟩
abbrev cX10_need : ByteArray := prog_1_method_18_code
def yX10_need : MethodName := ⟨RX10, "need", "(I)I"⟩
abbrev cX10_thing : ByteArray := prog_1_method_19_code
def yX10_thing : MethodName := ⟨RX10, "thing", "(II)I"⟩
abbrev cX10_angle : ByteArray := prog_1_method_20_code
def yX10_angle : MethodName := ⟨RX10, "angle", "(I)I"⟩
abbrev cX10_tank : ByteArray := prog_1_method_21_code
def yX10_tank : MethodName := ⟨RX10, "tank", "(I)I"⟩
abbrev cX10_setting : ByteArray := prog_1_method_22_code
def yX10_setting : MethodName := ⟨RX10, "setting", "(I)I"⟩
abbrev cX10_gauge : ByteArray := prog_1_method_23_code
def yX10_gauge : MethodName := ⟨RX10, "gauge", "(I)I"⟩
abbrev cX10_meanPick : ByteArray := prog_1_method_24_code
def yX10_meanPick : MethodName := ⟨RX10, "meanPick", "()D"⟩
abbrev cX10_toldAfter : ByteArray := prog_1_method_25_code
def yX10_toldAfter : MethodName := ⟨RX10, "toldAfter", "(I)I"⟩
abbrev cX10_worstError : ByteArray := prog_1_method_26_code
def yX10_worstError : MethodName := ⟨RX10, "worstError", "(I)I"⟩
abbrev cX10_bestMode : ByteArray := prog_1_method_27_code
def yX10_bestMode : MethodName := ⟨RX10, "bestMode", "(I)I"⟩
abbrev cX10_type : ByteArray := prog_1_method_28_code
def yX10_type : MethodName := ⟨RX10, "type", "(I)I"⟩
abbrev cX10_clearCommands : ByteArray := prog_1_method_29_code
def yX10_clearCommands : MethodName := ⟨RX10, "clearCommands", "()I"⟩
abbrev cX10_runCommands : ByteArray := prog_1_method_30_code
def yX10_runCommands : MethodName := ⟨RX10, "runCommands", "()I"⟩
abbrev cX10_undo : ByteArray := prog_1_method_31_code
def yX10_undo : MethodName := ⟨RX10, "undo", "()I"⟩
abbrev cX10_digest : ByteArray := prog_1_method_32_code
def yX10_digest : MethodName := ⟨RX10, "digest", "()J"⟩
abbrev cX10_allowsDistance : ByteArray := prog_1_method_33_code
def yX10_allowsDistance : MethodName := ⟨RX10, "allowsDistance", "(I)Z"⟩
abbrev cX10_allowsShooting : ByteArray := prog_1_method_34_code
def yX10_allowsShooting : MethodName := ⟨RX10, "allowsShooting", "(I)Z"⟩
abbrev cX10_allowsLearning : ByteArray := prog_1_method_35_code
def yX10_allowsLearning : MethodName := ⟨RX10, "allowsLearning", "(I)Z"⟩
abbrev cX10_allowsForecast : ByteArray := prog_1_method_36_code
def yX10_allowsForecast : MethodName := ⟨RX10, "allowsForecast", "(I)Z"⟩
abbrev cX10_copyRow : ByteArray := prog_1_method_37_code
def yX10_copyRow : MethodName := ⟨RX10, "copyRow", "([I[I)V"⟩
abbrev cX10_copyIfThere : ByteArray := prog_1_method_38_code
def yX10_copyIfThere : MethodName := ⟨RX10, "copyIfThere", "(LEchoGauge$State;LEchoGauge$State;)V"⟩
abbrev cX10_savedAt : ByteArray := prog_1_method_39_code
def yX10_savedAt : MethodName := ⟨RX10, "savedAt", "(I)LEchoGauge$State;"⟩
abbrev cX10_save : ByteArray := prog_1_method_40_code
def yX10_save : MethodName := ⟨RX10, "save", "()V"⟩
abbrev cX10_worstErrorByMode : ByteArray := prog_1_method_41_code
def yX10_worstErrorByMode : MethodName := ⟨RX10, "worstErrorByMode", "(II)I"⟩
abbrev cX10_carryOut : ByteArray := prog_1_method_42_code
def yX10_carryOut : MethodName := ⟨RX10, "carryOut", "()Z"⟩
abbrev cX10_mayCarryOut : ByteArray := prog_1_method_43_code
def yX10_mayCarryOut : MethodName := ⟨RX10, "mayCarryOut", "(LEchoGauge$Word;II)Z"⟩
def RX11 : String := "EchoGaugeModel"
def TX11 : u_T := fun k => match k with
  | 0 => ("EchoGaugeModel", "thrown", "I", false)
  | 1 => ("EchoGaugeModel", "s", "[I", true)
  | 2 => ("EchoGaugeModel", "aside", "[I", true)
  | 3 => ("EchoGaugeModel", "saved", "[I", true)
  | 4 => ("EchoGaugeModel", "savedMany", "I", false)
  | 5 => ("EchoGaugeModel", "text", "[B", true)
  | 6 => ("EchoGaugeModel", "length", "I", false)
  | 7 => ("EchoGaugeModel", "at", "I", false)
  | 8 => ("EchoGaugeModel", "word", "J", false)
  | 9 => ("EchoGaugeModel", "numbers", "[I", true)
  | _ => ("EchoGaugeModel", "hash", "J", false)
def tyX11 : Nat → FieldType := fun k => match k with
  | 0 => .int
  | 1 => .array .int
  | 2 => .array .int
  | 3 => .array .int
  | 4 => .int
  | 5 => .array .byte
  | 6 => .int
  | 7 => .int
  | 8 => .long
  | 9 => .array .int
  | _ => .long
abbrev wsX110 : List Cond := u_ws RX11 TX11 11
theorem nmX11 : ∀ a, a < 11 → ∀ b, b < 11 → a ≠ b → (TX11 a).2.1 ≠ (TX11 b).2.1 := by decide +kernel
theorem tyX11_ok : ∀ k, k < 11 → parseFieldDescriptor (TX11 k).2.2.1 = some (tyX11 k) := by decide +kernel
abbrev cX11_init : ByteArray := prog_13_method_1_code
def yX11_init : MethodName := ⟨RX11, "<init>", "()V"⟩
abbrev cX11_thrown : ByteArray := prog_13_method_2_code
def yX11_thrown : MethodName := ⟨RX11, "thrown", "()I"⟩
abbrev cX11_in : ByteArray := prog_13_method_3_code
def yX11_in : MethodName := ⟨RX11, "in", "(III)Z"⟩
abbrev cX11_greater : ByteArray := prog_13_method_4_code
def yX11_greater : MethodName := ⟨RX11, "greater", "(II)I"⟩
abbrev cX11_apart : ByteArray := prog_13_method_5_code
def yX11_apart : MethodName := ⟨RX11, "apart", "(II)I"⟩
abbrev cX11_holds : ByteArray := prog_13_method_6_code
def yX11_holds : MethodName := ⟨RX11, "holds", "(ZI)Z"⟩
abbrev cX11_save : ByteArray := prog_13_method_7_code
def yX11_save : MethodName := ⟨RX11, "save", "()V"⟩
abbrev cX11_undo : ByteArray := prog_13_method_8_code
def yX11_undo : MethodName := ⟨RX11, "undo", "()I"⟩
abbrev cX11_putAside : ByteArray := prog_13_method_9_code
def yX11_putAside : MethodName := ⟨RX11, "putAside", "()V"⟩
abbrev cX11_putBack : ByteArray := prog_13_method_10_code
def yX11_putBack : MethodName := ⟨RX11, "putBack", "()V"⟩
abbrev cX11_begins : ByteArray := prog_13_method_11_code
def yX11_begins : MethodName := ⟨RX11, "begins", "(I)V"⟩
abbrev cX11_draw : ByteArray := prog_13_method_12_code
def yX11_draw : MethodName := ⟨RX11, "draw", "(I)I"⟩
abbrev cX11_surface : ByteArray := prog_13_method_13_code
def yX11_surface : MethodName := ⟨RX11, "surface", "()I"⟩
abbrev cX11_angleOf : ByteArray := prog_13_method_14_code
def yX11_angleOf : MethodName := ⟨RX11, "angleOf", "(I)I"⟩
abbrev cX11_makes : ByteArray := prog_13_method_15_code
def yX11_makes : MethodName := ⟨RX11, "makes", "(III)V"⟩
abbrev cX11_echoes : ByteArray := prog_13_method_16_code
def yX11_echoes : MethodName := ⟨RX11, "echoes", "()V"⟩
abbrev cX11_chance : ByteArray := prog_13_method_17_code
def yX11_chance : MethodName := ⟨RX11, "chance", "()V"⟩
abbrev cX11_isAhead : ByteArray := prog_13_method_18_code
def yX11_isAhead : MethodName := ⟨RX11, "isAhead", "(I)Z"⟩
abbrev cX11_orders : ByteArray := prog_13_method_19_code
def yX11_orders : MethodName := ⟨RX11, "orders", "()V"⟩
abbrev cX11_fires : ByteArray := prog_13_method_20_code
def yX11_fires : MethodName := ⟨RX11, "fires", "()V"⟩
abbrev cX11_needOf : ByteArray := prog_13_method_21_code
def yX11_needOf : MethodName := ⟨RX11, "needOf", "(I)I"⟩
abbrev cX11_isCandidate : ByteArray := prog_13_method_22_code
def yX11_isCandidate : MethodName := ⟨RX11, "isCandidate", "(I)Z"⟩
abbrev cX11_hadNear : ByteArray := prog_13_method_23_code
def yX11_hadNear : MethodName := ⟨RX11, "hadNear", "(II)Z"⟩
abbrev cX11_looks : ByteArray := prog_13_method_24_code
def yX11_looks : MethodName := ⟨RX11, "looks", "()V"⟩
abbrev cX11_remembers : ByteArray := prog_13_method_25_code
def yX11_remembers : MethodName := ⟨RX11, "remembers", "()V"⟩
abbrev cX11_isBetter : ByteArray := prog_13_method_26_code
def yX11_isBetter : MethodName := ⟨RX11, "isBetter", "(II)Z"⟩
abbrev cX11_picks : ByteArray := prog_13_method_27_code
def yX11_picks : MethodName := ⟨RX11, "picks", "()I"⟩
abbrev cX11_keeps : ByteArray := prog_13_method_28_code
def yX11_keeps : MethodName := ⟨RX11, "keeps", "(I)V"⟩
abbrev cX11_kept : ByteArray := prog_13_method_29_code
def yX11_kept : MethodName := ⟨RX11, "kept", "()I"⟩
abbrev cX11_median : ByteArray := prog_13_method_30_code
def yX11_median : MethodName := ⟨RX11, "median", "()I"⟩
abbrev cX11_tells : ByteArray := prog_13_method_31_code
def yX11_tells : MethodName := ⟨RX11, "tells", "()V"⟩
abbrev cX11_alarms : ByteArray := prog_13_method_32_code
def yX11_alarms : MethodName := ⟨RX11, "alarms", "()V"⟩
abbrev cX11_shot : ByteArray := prog_13_method_33_code
def yX11_shot : MethodName := ⟨RX11, "shot", "()Z"⟩
abbrev cX11_canBegin : ByteArray := prog_13_method_34_code
def yX11_canBegin : MethodName := ⟨RX11, "canBegin", "(I)Z"⟩
abbrev cX11_begin : ByteArray := prog_13_method_35_code
def yX11_begin : MethodName := ⟨RX11, "begin", "(I)I"⟩
abbrev cX11_put : ByteArray := prog_13_method_36_code
def yX11_put : MethodName := ⟨RX11, "put", "(II)I"⟩
abbrev cX11_canLevel : ByteArray := prog_13_method_37_code
def yX11_canLevel : MethodName := ⟨RX11, "canLevel", "(I)Z"⟩
abbrev cX11_setLevel : ByteArray := prog_13_method_38_code
def yX11_setLevel : MethodName := ⟨RX11, "setLevel", "(I)I"⟩
abbrev cX11_canFlow : ByteArray := prog_13_method_39_code
def yX11_canFlow : MethodName := ⟨RX11, "canFlow", "(I)Z"⟩
abbrev cX11_setFlow : ByteArray := prog_13_method_40_code
def yX11_setFlow : MethodName := ⟨RX11, "setFlow", "(I)I"⟩
abbrev cX11_canFoam : ByteArray := prog_13_method_41_code
def yX11_canFoam : MethodName := ⟨RX11, "canFoam", "(I)Z"⟩
abbrev cX11_setFoam : ByteArray := prog_13_method_42_code
def yX11_setFoam : MethodName := ⟨RX11, "setFoam", "(I)I"⟩
abbrev cX11_canThing : ByteArray := prog_13_method_43_code
def yX11_canThing : MethodName := ⟨RX11, "canThing", "(II)Z"⟩
abbrev cX11_adds : ByteArray := prog_13_method_44_code
def yX11_adds : MethodName := ⟨RX11, "adds", "(II)V"⟩
abbrev cX11_addThing : ByteArray := prog_13_method_45_code
def yX11_addThing : MethodName := ⟨RX11, "addThing", "(II)I"⟩
abbrev cX11_isThing : ByteArray := prog_13_method_46_code
def yX11_isThing : MethodName := ⟨RX11, "isThing", "(I)Z"⟩
abbrev cX11_removeThing : ByteArray := prog_13_method_47_code
def yX11_removeThing : MethodName := ⟨RX11, "removeThing", "(I)I"⟩
abbrev cX11_canStir : ByteArray := prog_13_method_48_code
def yX11_canStir : MethodName := ⟨RX11, "canStir", "(IIIII)Z"⟩
abbrev cX11_stirs : ByteArray := prog_13_method_49_code
def yX11_stirs : MethodName := ⟨RX11, "stirs", "(IIIII)V"⟩
abbrev cX11_setStirrer : ByteArray := prog_13_method_50_code
def yX11_setStirrer : MethodName := ⟨RX11, "setStirrer", "(IIIII)I"⟩
abbrev cX11_least : ByteArray := prog_13_method_51_code
def yX11_least : MethodName := ⟨RX11, "least", "(I)I"⟩
abbrev cX11_most : ByteArray := prog_13_method_52_code
def yX11_most : MethodName := ⟨RX11, "most", "(I)I"⟩
abbrev cX11_canSet : ByteArray := prog_13_method_53_code
def yX11_canSet : MethodName := ⟨RX11, "canSet", "(II)Z"⟩
abbrev cX11_sets : ByteArray := prog_13_method_54_code
def yX11_sets : MethodName := ⟨RX11, "sets", "(II)V"⟩
abbrev cX11_set : ByteArray := prog_13_method_55_code
def yX11_set : MethodName := ⟨RX11, "set", "(II)I"⟩
abbrev cX11_setS : ByteArray := prog_13_method_56_code
def yX11_setS : MethodName := ⟨RX11, "setS", "(I)I"⟩
abbrev cX11_mask : ByteArray := prog_13_method_57_code
def yX11_mask : MethodName := ⟨RX11, "mask", "(IZ)I"⟩
abbrev cX11_masked : ByteArray := prog_13_method_58_code
def yX11_masked : MethodName := ⟨RX11, "masked", "()I"⟩
abbrev cX11_canLearn : ByteArray := prog_13_method_59_code
def yX11_canLearn : MethodName := ⟨RX11, "canLearn", "(I)Z"⟩
abbrev cX11_learns : ByteArray := prog_13_method_60_code
def yX11_learns : MethodName := ⟨RX11, "learns", "(I)V"⟩
abbrev cX11_learn : ByteArray := prog_13_method_61_code
def yX11_learn : MethodName := ⟨RX11, "learn", "(I)I"⟩
abbrev cX11_forget : ByteArray := prog_13_method_62_code
def yX11_forget : MethodName := ⟨RX11, "forget", "()I"⟩
abbrev cX11_canShoot : ByteArray := prog_13_method_63_code
def yX11_canShoot : MethodName := ⟨RX11, "canShoot", "(I)Z"⟩
abbrev cX11_shoots : ByteArray := prog_13_method_64_code
def yX11_shoots : MethodName := ⟨RX11, "shoots", "(I)I"⟩
abbrev cX11_shoot : ByteArray := prog_13_method_65_code
def yX11_shoot : MethodName := ⟨RX11, "shoot", "(I)I"⟩
abbrev cX11_echoOf : ByteArray := prog_13_method_66_code
def yX11_echoOf : MethodName := ⟨RX11, "echoOf", "(II)I"⟩
abbrev cX11_echo : ByteArray := prog_13_method_67_code
def yX11_echo : MethodName := ⟨RX11, "echo", "(II)I"⟩
abbrev cX11_pick : ByteArray := prog_13_method_68_code
def yX11_pick : MethodName := ⟨RX11, "pick", "(I)I"⟩
abbrev cX11_isMasked : ByteArray := prog_13_method_69_code
def yX11_isMasked : MethodName := ⟨RX11, "isMasked", "(I)Z"⟩
abbrev cX11_need : ByteArray := prog_13_method_70_code
def yX11_need : MethodName := ⟨RX11, "need", "(I)I"⟩
abbrev cX11_thing : ByteArray := prog_13_method_71_code
def yX11_thing : MethodName := ⟨RX11, "thing", "(II)I"⟩
abbrev cX11_angle : ByteArray := prog_13_method_72_code
def yX11_angle : MethodName := ⟨RX11, "angle", "(I)I"⟩
abbrev cX11_tank : ByteArray := prog_13_method_73_code
def yX11_tank : MethodName := ⟨RX11, "tank", "(I)I"⟩
abbrev cX11_setting : ByteArray := prog_13_method_74_code
def yX11_setting : MethodName := ⟨RX11, "setting", "(I)I"⟩
abbrev cX11_gaugeOf : ByteArray := prog_13_method_75_code
def yX11_gaugeOf : MethodName := ⟨RX11, "gaugeOf", "(I)I"⟩
abbrev cX11_gauge : ByteArray := prog_13_method_76_code
def yX11_gauge : MethodName := ⟨RX11, "gauge", "(I)I"⟩
abbrev cX11_meanPick : ByteArray := prog_13_method_77_code
def yX11_meanPick : MethodName := ⟨RX11, "meanPick", "()D"⟩
abbrev cX11_toldAfter : ByteArray := prog_13_method_78_code
def yX11_toldAfter : MethodName := ⟨RX11, "toldAfter", "(I)I"⟩
abbrev cX11_worst : ByteArray := prog_13_method_79_code
def yX11_worst : MethodName := ⟨RX11, "worst", "(II)I"⟩
abbrev cX11_worstError : ByteArray := prog_13_method_80_code
def yX11_worstError : MethodName := ⟨RX11, "worstError", "(I)I"⟩
abbrev cX11_bestMode : ByteArray := prog_13_method_81_code
def yX11_bestMode : MethodName := ⟨RX11, "bestMode", "(I)I"⟩
abbrev cX11_type : ByteArray := prog_13_method_82_code
def yX11_type : MethodName := ⟨RX11, "type", "(I)I"⟩
abbrev cX11_clearCommands : ByteArray := prog_13_method_83_code
def yX11_clearCommands : MethodName := ⟨RX11, "clearCommands", "()I"⟩
abbrev cX11_isAt : ByteArray := prog_13_method_84_code
def yX11_isAt : MethodName := ⟨RX11, "isAt", "(II)Z"⟩
abbrev cX11_spaces : ByteArray := prog_13_method_85_code
def yX11_spaces : MethodName := ⟨RX11, "spaces", "()V"⟩
abbrev cX11_manyOf : ByteArray := prog_13_method_86_code
def yX11_manyOf : MethodName := ⟨RX11, "manyOf", "(J)I"⟩
abbrev cX11_readsWord : ByteArray := prog_13_method_87_code
def yX11_readsWord : MethodName := ⟨RX11, "readsWord", "()Z"⟩
abbrev cX11_readsNumber : ByteArray := prog_13_method_88_code
def yX11_readsNumber : MethodName := ⟨RX11, "readsNumber", "(I)Z"⟩
abbrev cX11_readsCommand : ByteArray := prog_13_method_89_code
def yX11_readsCommand : MethodName := ⟨RX11, "readsCommand", "()Z"⟩
abbrev cX11_does : ByteArray := prog_13_method_90_code
def yX11_does : MethodName := ⟨RX11, "does", "()Z"⟩
abbrev cX11_runCommands : ByteArray := prog_13_method_91_code
def yX11_runCommands : MethodName := ⟨RX11, "runCommands", "()I"⟩
abbrev cX11_mixes : ByteArray := prog_13_method_92_code
def yX11_mixes : MethodName := ⟨RX11, "mixes", "(I)V"⟩
abbrev cX11_digest : ByteArray := prog_13_method_93_code
def yX11_digest : MethodName := ⟨RX11, "digest", "()J"⟩
def RJx29ce0 : String := "java/lang/Enum"
def TJx29ce0 : u_T := fun k => match k with
  | _ => ("", "", "", false)
def tyJx29ce0 : Nat → FieldType := fun k => match k with
  | _ => .int
abbrev wsJx29ce00 : List Cond := u_ws RJx29ce0 TJx29ce0 0
theorem nmJx29ce0 : ∀ a, a < 0 → ∀ b, b < 0 → a ≠ b → (TJx29ce0 a).2.1 ≠ (TJx29ce0 b).2.1 := by decide +kernel
theorem tyJx29ce0_ok : ∀ k, k < 0 → parseFieldDescriptor (TJx29ce0 k).2.2.1 = some (tyJx29ce0 k) := by decide +kernel
abbrev cJx29ce0_ordinal_8abf5 : ByteArray := prog_14_method_2_code
def yJx29ce0_ordinal_8abf5 : MethodName := ⟨RJx29ce0, "ordinal", "()I"⟩
def RJ9 : String := "java/lang/Math"
def TJ9 : u_T := fun k => match k with
  | _ => ("", "", "", false)
def tyJ9 : Nat → FieldType := fun k => match k with
  | _ => .int
abbrev wsJ90 : List Cond := u_ws RJ9 TJ9 0
theorem nmJ9 : ∀ a, a < 0 → ∀ b, b < 0 → a ≠ b → (TJ9 a).2.1 ≠ (TJ9 b).2.1 := by decide +kernel
theorem tyJ9_ok : ∀ k, k < 0 → parseFieldDescriptor (TJ9 k).2.2.1 = some (tyJ9 k) := by decide +kernel
abbrev cJ9_abs_0f7a4 : ByteArray := prog_19_method_59_code
def yJ9_abs_0f7a4 : MethodName := ⟨RJ9, "abs", "(I)I"⟩
abbrev cJ9_max_7cf53 : ByteArray := prog_19_method_65_code
def yJ9_max_7cf53 : MethodName := ⟨RJ9, "max", "(II)I"⟩
abbrev cJ9_min_7cf53 : ByteArray := prog_19_method_69_code
def yJ9_min_7cf53 : MethodName := ⟨RJ9, "min", "(II)I"⟩
def RJ0 : String := "java/lang/String"
def TJ0 : u_T := fun k => match k with
  | _ => ("", "", "", false)
def tyJ0 : Nat → FieldType := fun k => match k with
  | _ => .int
abbrev wsJ00 : List Cond := u_ws RJ0 TJ0 0
theorem nmJ0 : ∀ a, a < 0 → ∀ b, b < 0 → a ≠ b → (TJ0 a).2.1 ≠ (TJ0 b).2.1 := by decide +kernel
theorem tyJ0_ok : ∀ k, k < 0 → parseFieldDescriptor (TJ0 k).2.2.1 = some (tyJ0 k) := by decide +kernel
abbrev cJ0_length_8abf5 : ByteArray := prog_21_method_54_code
def yJ0_length_8abf5 : MethodName := ⟨RJ0, "length", "()I"⟩
abbrev cJ0_charAt_5068e : ByteArray := prog_21_method_56_code
def yJ0_charAt_5068e : MethodName := ⟨RJ0, "charAt", "(I)C"⟩
abbrev cJ0_coder_7d493 : ByteArray := prog_21_method_152_code
def yJ0_coder_7d493 : MethodName := ⟨RJ0, "coder", "()B"⟩
abbrev cJ0_isLatin1_aae02 : ByteArray := prog_21_method_154_code
def yJ0_isLatin1_aae02 : MethodName := ⟨RJ0, "isLatin1", "()Z"⟩
abbrev cJ0_checkIndex_df160 : ByteArray := prog_21_method_155_code
def yJ0_checkIndex_df160 : MethodName := ⟨RJ0, "checkIndex", "(II)V"⟩
def RJ1 : String := "java/lang/StringLatin1"
def TJ1 : u_T := fun k => match k with
  | _ => ("", "", "", false)
def tyJ1 : Nat → FieldType := fun k => match k with
  | _ => .int
abbrev wsJ10 : List Cond := u_ws RJ1 TJ1 0
theorem nmJ1 : ∀ a, a < 0 → ∀ b, b < 0 → a ≠ b → (TJ1 a).2.1 ≠ (TJ1 b).2.1 := by decide +kernel
theorem tyJ1_ok : ∀ k, k < 0 → parseFieldDescriptor (TJ1 k).2.2.1 = some (tyJ1 k) := by decide +kernel
abbrev cJ1_charAt_3b067 : ByteArray := prog_22_method_2_code
def yJ1_charAt_3b067 : MethodName := ⟨RJ1, "charAt", "([BI)C"⟩
def RJ2 : String := "java/lang/StringUTF16"
def TJ2 : u_T := fun k => match k with
  | _ => ("", "", "", false)
def tyJ2 : Nat → FieldType := fun k => match k with
  | _ => .int
abbrev wsJ20 : List Cond := u_ws RJ2 TJ2 0
theorem nmJ2 : ∀ a, a < 0 → ∀ b, b < 0 → a ≠ b → (TJ2 a).2.1 ≠ (TJ2 b).2.1 := by decide +kernel
theorem tyJ2_ok : ∀ k, k < 0 → parseFieldDescriptor (TJ2 k).2.2.1 = some (tyJ2 k) := by decide +kernel
abbrev cJ2_getChar_3b067 : ByteArray := prog_23_method_5_code
def yJ2_getChar_3b067 : MethodName := ⟨RJ2, "getChar", "([BI)C"⟩
abbrev cJ2_length_9d52b : ByteArray := prog_23_method_6_code
def yJ2_length_9d52b : MethodName := ⟨RJ2, "length", "([B)I"⟩
abbrev cJ2_charAt_3b067 : ByteArray := prog_23_method_83_code
def yJ2_charAt_3b067 : MethodName := ⟨RJ2, "charAt", "([BI)C"⟩
abbrev cJ2_checkIndex_2214a : ByteArray := prog_23_method_91_code
def yJ2_checkIndex_2214a : MethodName := ⟨RJ2, "checkIndex", "(I[B)V"⟩
def RJ10 : String := "java/lang/System"
def TJ10 : u_T := fun k => match k with
  | _ => ("", "", "", false)
def tyJ10 : Nat → FieldType := fun k => match k with
  | _ => .int
abbrev wsJ100 : List Cond := u_ws RJ10 TJ10 0
theorem nmJ10 : ∀ a, a < 0 → ∀ b, b < 0 → a ≠ b → (TJ10 a).2.1 ≠ (TJ10 b).2.1 := by decide +kernel
theorem tyJ10_ok : ∀ k, k < 0 → parseFieldDescriptor (TJ10 k).2.2.1 = some (tyJ10 k) := by decide +kernel
def RJ3 : String := "jdk/internal/util/Preconditions"
def TJ3 : u_T := fun k => match k with
  | _ => ("", "", "", false)
def tyJ3 : Nat → FieldType := fun k => match k with
  | _ => .int
abbrev wsJ30 : List Cond := u_ws RJ3 TJ3 0
theorem nmJ3 : ∀ a, a < 0 → ∀ b, b < 0 → a ≠ b → (TJ3 a).2.1 ≠ (TJ3 b).2.1 := by decide +kernel
theorem tyJ3_ok : ∀ k, k < 0 → parseFieldDescriptor (TJ3 k).2.2.1 = some (tyJ3 k) := by decide +kernel
abbrev cJ3_checkIndex_8e157 : ByteArray := prog_26_method_11_code
def yJ3_checkIndex_8e157 : MethodName := ⟨RJ3, "checkIndex", "(IILjava/util/function/BiFunction;)I"⟩
def RL : String := "EchoGaugeLaw"
abbrev cL_begin : ByteArray := method_3_code
def yL_begin : MethodName := ⟨RL, "begin", "(LEchoGauge;I[J)I"⟩
abbrev cL_setLevel : ByteArray := method_4_code
def yL_setLevel : MethodName := ⟨RL, "setLevel", "(LEchoGauge;I[J)I"⟩
abbrev cL_setFlow : ByteArray := method_5_code
def yL_setFlow : MethodName := ⟨RL, "setFlow", "(LEchoGauge;I[J)I"⟩
abbrev cL_setFoam : ByteArray := method_6_code
def yL_setFoam : MethodName := ⟨RL, "setFoam", "(LEchoGauge;I[J)I"⟩
abbrev cL_addThing : ByteArray := method_7_code
def yL_addThing : MethodName := ⟨RL, "addThing", "(LEchoGauge;II[J)I"⟩
abbrev cL_removeThing : ByteArray := method_8_code
def yL_removeThing : MethodName := ⟨RL, "removeThing", "(LEchoGauge;I[J)I"⟩
abbrev cL_setStirrer : ByteArray := method_9_code
def yL_setStirrer : MethodName := ⟨RL, "setStirrer", "(LEchoGauge;IIIII[J)I"⟩
abbrev cL_set : ByteArray := method_10_code
def yL_set : MethodName := ⟨RL, "set", "(LEchoGauge;II[J)I"⟩
abbrev cL_setS : ByteArray := method_11_code
def yL_setS : MethodName := ⟨RL, "setS", "(LEchoGauge;I[J)I"⟩
abbrev cL_mask : ByteArray := method_12_code
def yL_mask : MethodName := ⟨RL, "mask", "(LEchoGauge;IZ[J)I"⟩
abbrev cL_learn : ByteArray := method_13_code
def yL_learn : MethodName := ⟨RL, "learn", "(LEchoGauge;I[J)I"⟩
abbrev cL_shoot : ByteArray := method_14_code
def yL_shoot : MethodName := ⟨RL, "shoot", "(LEchoGauge;I[J)I"⟩
abbrev cL_echo : ByteArray := method_15_code
def yL_echo : MethodName := ⟨RL, "echo", "(LEchoGauge;II[J)I"⟩
abbrev cL_pick : ByteArray := method_16_code
def yL_pick : MethodName := ⟨RL, "pick", "(LEchoGauge;I[J)I"⟩
abbrev cL_isMasked : ByteArray := method_17_code
def yL_isMasked : MethodName := ⟨RL, "isMasked", "(LEchoGauge;I[J)I"⟩
abbrev cL_need : ByteArray := method_18_code
def yL_need : MethodName := ⟨RL, "need", "(LEchoGauge;I[J)I"⟩
abbrev cL_thing : ByteArray := method_19_code
def yL_thing : MethodName := ⟨RL, "thing", "(LEchoGauge;II[J)I"⟩
abbrev cL_angle : ByteArray := method_20_code
def yL_angle : MethodName := ⟨RL, "angle", "(LEchoGauge;I[J)I"⟩
abbrev cL_tank : ByteArray := method_21_code
def yL_tank : MethodName := ⟨RL, "tank", "(LEchoGauge;I[J)I"⟩
abbrev cL_setting : ByteArray := method_22_code
def yL_setting : MethodName := ⟨RL, "setting", "(LEchoGauge;I[J)I"⟩
abbrev cL_gauge : ByteArray := method_23_code
def yL_gauge : MethodName := ⟨RL, "gauge", "(LEchoGauge;I[J)I"⟩
abbrev cL_toldAfter : ByteArray := method_24_code
def yL_toldAfter : MethodName := ⟨RL, "toldAfter", "(LEchoGauge;I[J)I"⟩
abbrev cL_worstError : ByteArray := method_25_code
def yL_worstError : MethodName := ⟨RL, "worstError", "(LEchoGauge;I[J)I"⟩
abbrev cL_bestMode : ByteArray := method_26_code
def yL_bestMode : MethodName := ⟨RL, "bestMode", "(LEchoGauge;I[J)I"⟩
abbrev cL_type : ByteArray := method_27_code
def yL_type : MethodName := ⟨RL, "type", "(LEchoGauge;I[J)I"⟩
abbrev cL_undo : ByteArray := method_28_code
def yL_undo : MethodName := ⟨RL, "undo", "(LEchoGauge;[J)I"⟩
abbrev cL_law : ByteArray := code
def yL_law : MethodName := ⟨RL, "law", "([I)Z"⟩
abbrev vwCl : List vw_C := [(RX1, TX1, 5), (RX2, TX2, 2), (RX3, TX3, 5), (RX4, TX4, 9), (RX5, TX5, 2), (RX6, TX6, 1), (RX7, TX7, 7), (RX8, TX8, 14), (RX10, TX10, 6), (RX11, TX11, 11)]
end
section
theorem dX1_init_0 : decode cX1_init 0 = .ok (.aload_n 0, 1) := by decide +kernel
theorem dX1_init_1 : decode cX1_init 1 = .ok (.invokespecial 3, 3) := by decide +kernel
theorem dX1_init_4 : decode cX1_init 4 = .ok (.aload_n 0, 1) := by decide +kernel
theorem dX1_init_5 : decode cX1_init 5 = .ok (.iconst 0, 1) := by decide +kernel
theorem dX1_init_6 : decode cX1_init 6 = .ok (.putfield 9, 3) := by decide +kernel
theorem dX1_init_9 : decode cX1_init 9 = .ok (.aload_n 0, 1) := by decide +kernel
theorem dX1_init_10 : decode cX1_init 10 = .ok (.sipush 150, 3) := by decide +kernel
theorem dX1_init_13 : decode cX1_init 13 = .ok (.newarray .byte, 2) := by decide +kernel
theorem dX1_init_15 : decode cX1_init 15 = .ok (.putfield 15, 3) := by decide +kernel
theorem dX1_init_18 : decode cX1_init 18 = .ok (.aload_n 0, 1) := by decide +kernel
theorem dX1_init_19 : decode cX1_init 19 = .ok (.iconst 0, 1) := by decide +kernel
theorem dX1_init_20 : decode cX1_init 20 = .ok (.putfield 19, 3) := by decide +kernel
theorem dX1_init_23 : decode cX1_init 23 = .ok (.aload_n 0, 1) := by decide +kernel
theorem dX1_init_24 : decode cX1_init 24 = .ok (.aconst_null, 1) := by decide +kernel
theorem dX1_init_25 : decode cX1_init 25 = .ok (.putfield 22, 3) := by decide +kernel
theorem dX1_init_28 : decode cX1_init 28 = .ok (.aload_n 0, 1) := by decide +kernel
theorem dX1_init_29 : decode cX1_init 29 = .ok (.iconst 5, 1) := by decide +kernel
theorem dX1_init_30 : decode cX1_init 30 = .ok (.newarray .int, 2) := by decide +kernel
theorem dX1_init_32 : decode cX1_init 32 = .ok (.putfield 26, 3) := by decide +kernel
theorem dX1_init_35 : decode cX1_init 35 = .ok (.return_, 1) := by decide +kernel
theorem dX1_isFull_0 : decode cX1_isFull 0 = .ok (.aload_n 0, 1) := by decide +kernel
theorem dX1_isFull_1 : decode cX1_isFull 1 = .ok (.getfield 9, 3) := by decide +kernel
theorem dX1_isFull_4 : decode cX1_isFull 4 = .ok (.sipush 150, 3) := by decide +kernel
theorem dX1_isFull_7 : decode cX1_isFull 7 = .ok (.if_icmp .lt 7, 3) := by decide +kernel
theorem dX1_isFull_10 : decode cX1_isFull 10 = .ok (.iconst 1, 1) := by decide +kernel
theorem dX1_isFull_11 : decode cX1_isFull 11 = .ok (.goto 4, 3) := by decide +kernel
theorem dX1_isFull_14 : decode cX1_isFull 14 = .ok (.iconst 0, 1) := by decide +kernel
theorem dX1_isFull_15 : decode cX1_isFull 15 = .ok (.ireturn, 1) := by decide +kernel
theorem dX1_append_0 : decode cX1_append 0 = .ok (.aload_n 0, 1) := by decide +kernel
theorem dX1_append_1 : decode cX1_append 1 = .ok (.getfield 9, 3) := by decide +kernel
theorem dX1_append_4 : decode cX1_append 4 = .ok (.ifCond .lt 36, 3) := by decide +kernel
theorem dX1_append_7 : decode cX1_append 7 = .ok (.aload_n 0, 1) := by decide +kernel
theorem dX1_append_8 : decode cX1_append 8 = .ok (.getfield 9, 3) := by decide +kernel
theorem dX1_append_11 : decode cX1_append 11 = .ok (.aload_n 0, 1) := by decide +kernel
theorem dX1_append_12 : decode cX1_append 12 = .ok (.getfield 15, 3) := by decide +kernel
theorem dX1_append_15 : decode cX1_append 15 = .ok (.arraylength, 1) := by decide +kernel
theorem dX1_append_16 : decode cX1_append 16 = .ok (.if_icmp .ge 24, 3) := by decide +kernel
theorem dX1_append_19 : decode cX1_append 19 = .ok (.aload_n 0, 1) := by decide +kernel
theorem dX1_append_20 : decode cX1_append 20 = .ok (.getfield 15, 3) := by decide +kernel
theorem dX1_append_23 : decode cX1_append 23 = .ok (.aload_n 0, 1) := by decide +kernel
theorem dX1_append_24 : decode cX1_append 24 = .ok (.getfield 9, 3) := by decide +kernel
theorem dX1_append_27 : decode cX1_append 27 = .ok (.iload_n 1, 1) := by decide +kernel
theorem dX1_append_28 : decode cX1_append 28 = .ok (.i2b, 1) := by decide +kernel
theorem dX1_append_29 : decode cX1_append 29 = .ok (.bastore, 1) := by decide +kernel
theorem dX1_append_30 : decode cX1_append 30 = .ok (.aload_n 0, 1) := by decide +kernel
theorem dX1_append_31 : decode cX1_append 31 = .ok (.dup, 1) := by decide +kernel
theorem dX1_append_32 : decode cX1_append 32 = .ok (.getfield 9, 3) := by decide +kernel
theorem dX1_append_35 : decode cX1_append 35 = .ok (.iconst 1, 1) := by decide +kernel
theorem dX1_append_36 : decode cX1_append 36 = .ok (.iadd, 1) := by decide +kernel
theorem dX1_append_37 : decode cX1_append 37 = .ok (.putfield 9, 3) := by decide +kernel
theorem dX1_append_40 : decode cX1_append 40 = .ok (.return_, 1) := by decide +kernel
theorem dX1_number_0 : decode cX1_number 0 = .ok (.iload_n 1, 1) := by decide +kernel
theorem dX1_number_1 : decode cX1_number 1 = .ok (.ifCond .lt 21, 3) := by decide +kernel
theorem dX1_number_4 : decode cX1_number 4 = .ok (.iload_n 1, 1) := by decide +kernel
theorem dX1_number_5 : decode cX1_number 5 = .ok (.aload_n 0, 1) := by decide +kernel
theorem dX1_number_6 : decode cX1_number 6 = .ok (.getfield 26, 3) := by decide +kernel
theorem dX1_number_9 : decode cX1_number 9 = .ok (.arraylength, 1) := by decide +kernel
theorem dX1_number_10 : decode cX1_number 10 = .ok (.if_icmp .ge 12, 3) := by decide +kernel
theorem dX1_number_13 : decode cX1_number 13 = .ok (.aload_n 0, 1) := by decide +kernel
theorem dX1_number_14 : decode cX1_number 14 = .ok (.getfield 26, 3) := by decide +kernel
theorem dX1_number_17 : decode cX1_number 17 = .ok (.iload_n 1, 1) := by decide +kernel
theorem dX1_number_18 : decode cX1_number 18 = .ok (.iaload, 1) := by decide +kernel
theorem dX1_number_19 : decode cX1_number 19 = .ok (.goto 4, 3) := by decide +kernel
theorem dX1_number_22 : decode cX1_number 22 = .ok (.iconst 0, 1) := by decide +kernel
theorem dX1_number_23 : decode cX1_number 23 = .ok (.ireturn, 1) := by decide +kernel
theorem dX1_fault_0 : decode cX1_fault 0 = .ok (.aload_n 0, 1) := by decide +kernel
theorem dX1_fault_1 : decode cX1_fault 1 = .ok (.invokevirtual 30, 3) := by decide +kernel
theorem dX1_fault_4 : decode cX1_fault 4 = .ok (.iconst 0, 1) := by decide +kernel
theorem dX1_fault_5 : decode cX1_fault 5 = .ok (.istore_n 1, 1) := by decide +kernel
theorem dX1_fault_6 : decode cX1_fault 6 = .ok (.iload_n 1, 1) := by decide +kernel
theorem dX1_fault_7 : decode cX1_fault 7 = .ok (.sipush 150, 3) := by decide +kernel
theorem dX1_fault_10 : decode cX1_fault 10 = .ok (.if_icmp .ge 28, 3) := by decide +kernel
theorem dX1_fault_13 : decode cX1_fault 13 = .ok (.aload_n 0, 1) := by decide +kernel
theorem dX1_fault_14 : decode cX1_fault 14 = .ok (.invokevirtual 33, 3) := by decide +kernel
theorem dX1_fault_17 : decode cX1_fault 17 = .ok (.ifCond .eq 21, 3) := by decide +kernel
theorem dX1_fault_20 : decode cX1_fault 20 = .ok (.aload_n 0, 1) := by decide +kernel
theorem dX1_fault_21 : decode cX1_fault 21 = .ok (.invokevirtual 37, 3) := by decide +kernel
theorem dX1_fault_24 : decode cX1_fault 24 = .ok (.ifCond .ne 8, 3) := by decide +kernel
theorem dX1_fault_27 : decode cX1_fault 27 = .ok (.aload_n 0, 1) := by decide +kernel
theorem dX1_fault_28 : decode cX1_fault 28 = .ok (.getfield 19, 3) := by decide +kernel
theorem dX1_fault_31 : decode cX1_fault 31 = .ok (.ireturn, 1) := by decide +kernel
theorem dX1_fault_32 : decode cX1_fault 32 = .ok (.iinc 1 1, 3) := by decide +kernel
theorem dX1_fault_35 : decode cX1_fault 35 = .ok (.goto (-29), 3) := by decide +kernel
theorem dX1_fault_38 : decode cX1_fault 38 = .ok (.iconst (-1), 1) := by decide +kernel
theorem dX1_fault_39 : decode cX1_fault 39 = .ok (.ireturn, 1) := by decide +kernel
theorem dX1_rewind_0 : decode cX1_rewind 0 = .ok (.aload_n 0, 1) := by decide +kernel
theorem dX1_rewind_1 : decode cX1_rewind 1 = .ok (.iconst 0, 1) := by decide +kernel
theorem dX1_rewind_2 : decode cX1_rewind 2 = .ok (.putfield 19, 3) := by decide +kernel
theorem dX1_rewind_5 : decode cX1_rewind 5 = .ok (.return_, 1) := by decide +kernel
theorem dX1_hasMore_0 : decode cX1_hasMore 0 = .ok (.aload_n 0, 1) := by decide +kernel
theorem dX1_hasMore_1 : decode cX1_hasMore 1 = .ok (.invokevirtual 40, 3) := by decide +kernel
theorem dX1_hasMore_4 : decode cX1_hasMore 4 = .ok (.aload_n 0, 1) := by decide +kernel
theorem dX1_hasMore_5 : decode cX1_hasMore 5 = .ok (.getfield 19, 3) := by decide +kernel
theorem dX1_hasMore_8 : decode cX1_hasMore 8 = .ok (.aload_n 0, 1) := by decide +kernel
theorem dX1_hasMore_9 : decode cX1_hasMore 9 = .ok (.getfield 9, 3) := by decide +kernel
theorem dX1_hasMore_12 : decode cX1_hasMore 12 = .ok (.if_icmp .ge 7, 3) := by decide +kernel
theorem dX1_hasMore_15 : decode cX1_hasMore 15 = .ok (.iconst 1, 1) := by decide +kernel
theorem dX1_hasMore_16 : decode cX1_hasMore 16 = .ok (.goto 4, 3) := by decide +kernel
theorem dX1_hasMore_19 : decode cX1_hasMore 19 = .ok (.iconst 0, 1) := by decide +kernel
theorem dX1_hasMore_20 : decode cX1_hasMore 20 = .ok (.ireturn, 1) := by decide +kernel
theorem dX1_readCommand_0 : decode cX1_readCommand 0 = .ok (.aload_n 0, 1) := by decide +kernel
theorem dX1_readCommand_1 : decode cX1_readCommand 1 = .ok (.invokevirtual 43, 3) := by decide +kernel
theorem dX1_readCommand_4 : decode cX1_readCommand 4 = .ok (.ifCond .eq 10, 3) := by decide +kernel
theorem dX1_readCommand_7 : decode cX1_readCommand 7 = .ok (.aload_n 0, 1) := by decide +kernel
theorem dX1_readCommand_8 : decode cX1_readCommand 8 = .ok (.getfield 22, 3) := by decide +kernel
theorem dX1_readCommand_11 : decode cX1_readCommand 11 = .ok (.ifnonnull 5, 3) := by decide +kernel
theorem dX1_readCommand_14 : decode cX1_readCommand 14 = .ok (.iconst 0, 1) := by decide +kernel
theorem dX1_readCommand_15 : decode cX1_readCommand 15 = .ok (.ireturn, 1) := by decide +kernel
theorem dX1_readCommand_16 : decode cX1_readCommand 16 = .ok (.iconst 0, 1) := by decide +kernel
theorem dX1_readCommand_17 : decode cX1_readCommand 17 = .ok (.istore_n 1, 1) := by decide +kernel
theorem dX1_readCommand_18 : decode cX1_readCommand 18 = .ok (.iload_n 1, 1) := by decide +kernel
theorem dX1_readCommand_19 : decode cX1_readCommand 19 = .ok (.aload_n 0, 1) := by decide +kernel
theorem dX1_readCommand_20 : decode cX1_readCommand 20 = .ok (.getfield 22, 3) := by decide +kernel
theorem dX1_readCommand_23 : decode cX1_readCommand 23 = .ok (.getfield 46, 3) := by decide +kernel
theorem dX1_readCommand_26 : decode cX1_readCommand 26 = .ok (.if_icmp .ge 19, 3) := by decide +kernel
theorem dX1_readCommand_29 : decode cX1_readCommand 29 = .ok (.aload_n 0, 1) := by decide +kernel
theorem dX1_readCommand_30 : decode cX1_readCommand 30 = .ok (.iload_n 1, 1) := by decide +kernel
theorem dX1_readCommand_31 : decode cX1_readCommand 31 = .ok (.invokevirtual 50, 3) := by decide +kernel
theorem dX1_readCommand_34 : decode cX1_readCommand 34 = .ok (.ifCond .ne 5, 3) := by decide +kernel
theorem dX1_readCommand_37 : decode cX1_readCommand 37 = .ok (.iconst 0, 1) := by decide +kernel
theorem dX1_readCommand_38 : decode cX1_readCommand 38 = .ok (.ireturn, 1) := by decide +kernel
theorem dX1_readCommand_39 : decode cX1_readCommand 39 = .ok (.iinc 1 1, 3) := by decide +kernel
theorem dX1_readCommand_42 : decode cX1_readCommand 42 = .ok (.goto (-24), 3) := by decide +kernel
theorem dX1_readCommand_45 : decode cX1_readCommand 45 = .ok (.aload_n 0, 1) := by decide +kernel
theorem dX1_readCommand_46 : decode cX1_readCommand 46 = .ok (.invokevirtual 40, 3) := by decide +kernel
theorem dX1_readCommand_49 : decode cX1_readCommand 49 = .ok (.aload_n 0, 1) := by decide +kernel
theorem dX1_readCommand_50 : decode cX1_readCommand 50 = .ok (.aload_n 0, 1) := by decide +kernel
theorem dX1_readCommand_51 : decode cX1_readCommand 51 = .ok (.getfield 19, 3) := by decide +kernel
theorem dX1_readCommand_54 : decode cX1_readCommand 54 = .ok (.invokevirtual 54, 3) := by decide +kernel
theorem dX1_readCommand_57 : decode cX1_readCommand 57 = .ok (.bipush 59, 2) := by decide +kernel
theorem dX1_readCommand_59 : decode cX1_readCommand 59 = .ok (.if_icmp .eq 5, 3) := by decide +kernel
theorem dX1_readCommand_62 : decode cX1_readCommand 62 = .ok (.iconst 0, 1) := by decide +kernel
theorem dX1_readCommand_63 : decode cX1_readCommand 63 = .ok (.ireturn, 1) := by decide +kernel
theorem dX1_readCommand_64 : decode cX1_readCommand 64 = .ok (.aload_n 0, 1) := by decide +kernel
theorem dX1_readCommand_65 : decode cX1_readCommand 65 = .ok (.dup, 1) := by decide +kernel
theorem dX1_readCommand_66 : decode cX1_readCommand 66 = .ok (.getfield 19, 3) := by decide +kernel
theorem dX1_readCommand_69 : decode cX1_readCommand 69 = .ok (.iconst 1, 1) := by decide +kernel
theorem dX1_readCommand_70 : decode cX1_readCommand 70 = .ok (.iadd, 1) := by decide +kernel
theorem dX1_readCommand_71 : decode cX1_readCommand 71 = .ok (.putfield 19, 3) := by decide +kernel
theorem dX1_readCommand_74 : decode cX1_readCommand 74 = .ok (.iconst 1, 1) := by decide +kernel
theorem dX1_readCommand_75 : decode cX1_readCommand 75 = .ok (.ireturn, 1) := by decide +kernel
theorem dX1_readWord_0 : decode cX1_readWord 0 = .ok (.aload_n 0, 1) := by decide +kernel
theorem dX1_readWord_1 : decode cX1_readWord 1 = .ok (.getfield 19, 3) := by decide +kernel
theorem dX1_readWord_4 : decode cX1_readWord 4 = .ok (.istore_n 1, 1) := by decide +kernel
theorem dX1_readWord_5 : decode cX1_readWord 5 = .ok (.aload_n 0, 1) := by decide +kernel
theorem dX1_readWord_6 : decode cX1_readWord 6 = .ok (.getfield 19, 3) := by decide +kernel
theorem dX1_readWord_9 : decode cX1_readWord 9 = .ok (.aload_n 0, 1) := by decide +kernel
theorem dX1_readWord_10 : decode cX1_readWord 10 = .ok (.getfield 9, 3) := by decide +kernel
theorem dX1_readWord_13 : decode cX1_readWord 13 = .ok (.if_icmp .ge 30, 3) := by decide +kernel
theorem dX1_readWord_16 : decode cX1_readWord 16 = .ok (.aload_n 0, 1) := by decide +kernel
theorem dX1_readWord_17 : decode cX1_readWord 17 = .ok (.aload_n 0, 1) := by decide +kernel
theorem dX1_readWord_18 : decode cX1_readWord 18 = .ok (.getfield 19, 3) := by decide +kernel
theorem dX1_readWord_21 : decode cX1_readWord 21 = .ok (.invokevirtual 54, 3) := by decide +kernel
theorem dX1_readWord_24 : decode cX1_readWord 24 = .ok (.invokestatic 58, 3) := by decide +kernel
theorem dX1_readWord_27 : decode cX1_readWord 27 = .ok (.ifCond .eq 16, 3) := by decide +kernel
theorem dX1_readWord_30 : decode cX1_readWord 30 = .ok (.aload_n 0, 1) := by decide +kernel
theorem dX1_readWord_31 : decode cX1_readWord 31 = .ok (.dup, 1) := by decide +kernel
theorem dX1_readWord_32 : decode cX1_readWord 32 = .ok (.getfield 19, 3) := by decide +kernel
theorem dX1_readWord_35 : decode cX1_readWord 35 = .ok (.iconst 1, 1) := by decide +kernel
theorem dX1_readWord_36 : decode cX1_readWord 36 = .ok (.iadd, 1) := by decide +kernel
theorem dX1_readWord_37 : decode cX1_readWord 37 = .ok (.putfield 19, 3) := by decide +kernel
theorem dX1_readWord_40 : decode cX1_readWord 40 = .ok (.goto (-35), 3) := by decide +kernel
theorem dX1_readWord_43 : decode cX1_readWord 43 = .ok (.aload_n 0, 1) := by decide +kernel
theorem dX1_readWord_44 : decode cX1_readWord 44 = .ok (.aload_n 0, 1) := by decide +kernel
theorem dX1_readWord_45 : decode cX1_readWord 45 = .ok (.iload_n 1, 1) := by decide +kernel
theorem dX1_readWord_46 : decode cX1_readWord 46 = .ok (.aload_n 0, 1) := by decide +kernel
theorem dX1_readWord_47 : decode cX1_readWord 47 = .ok (.getfield 19, 3) := by decide +kernel
theorem dX1_readWord_50 : decode cX1_readWord 50 = .ok (.invokevirtual 61, 3) := by decide +kernel
theorem dX1_readWord_53 : decode cX1_readWord 53 = .ok (.putfield 22, 3) := by decide +kernel
theorem dX1_readWord_56 : decode cX1_readWord 56 = .ok (.aload_n 0, 1) := by decide +kernel
theorem dX1_readWord_57 : decode cX1_readWord 57 = .ok (.getfield 22, 3) := by decide +kernel
theorem dX1_readWord_60 : decode cX1_readWord 60 = .ok (.ifnonnull 10, 3) := by decide +kernel
theorem dX1_readWord_63 : decode cX1_readWord 63 = .ok (.aload_n 0, 1) := by decide +kernel
theorem dX1_readWord_64 : decode cX1_readWord 64 = .ok (.iload_n 1, 1) := by decide +kernel
theorem dX1_readWord_65 : decode cX1_readWord 65 = .ok (.putfield 19, 3) := by decide +kernel
theorem dX1_readWord_68 : decode cX1_readWord 68 = .ok (.iconst 0, 1) := by decide +kernel
theorem dX1_readWord_69 : decode cX1_readWord 69 = .ok (.ireturn, 1) := by decide +kernel
theorem dX1_readWord_70 : decode cX1_readWord 70 = .ok (.iconst 1, 1) := by decide +kernel
theorem dX1_readWord_71 : decode cX1_readWord 71 = .ok (.ireturn, 1) := by decide +kernel
theorem dX1_readNumber_0 : decode cX1_readNumber 0 = .ok (.aload_n 0, 1) := by decide +kernel
theorem dX1_readNumber_1 : decode cX1_readNumber 1 = .ok (.getfield 19, 3) := by decide +kernel
theorem dX1_readNumber_4 : decode cX1_readNumber 4 = .ok (.istore_n 2, 1) := by decide +kernel
theorem dX1_readNumber_5 : decode cX1_readNumber 5 = .ok (.aload_n 0, 1) := by decide +kernel
theorem dX1_readNumber_6 : decode cX1_readNumber 6 = .ok (.invokevirtual 40, 3) := by decide +kernel
theorem dX1_readNumber_9 : decode cX1_readNumber 9 = .ok (.aload_n 0, 1) := by decide +kernel
theorem dX1_readNumber_10 : decode cX1_readNumber 10 = .ok (.getfield 19, 3) := by decide +kernel
theorem dX1_readNumber_13 : decode cX1_readNumber 13 = .ok (.iload_n 2, 1) := by decide +kernel
theorem dX1_readNumber_14 : decode cX1_readNumber 14 = .ok (.if_icmp .eq 30, 3) := by decide +kernel
theorem dX1_readNumber_17 : decode cX1_readNumber 17 = .ok (.aload_n 0, 1) := by decide +kernel
theorem dX1_readNumber_18 : decode cX1_readNumber 18 = .ok (.aload_n 0, 1) := by decide +kernel
theorem dX1_readNumber_19 : decode cX1_readNumber 19 = .ok (.getfield 19, 3) := by decide +kernel
theorem dX1_readNumber_22 : decode cX1_readNumber 22 = .ok (.invokevirtual 54, 3) := by decide +kernel
theorem dX1_readNumber_25 : decode cX1_readNumber 25 = .ok (.invokestatic 65, 3) := by decide +kernel
theorem dX1_readNumber_28 : decode cX1_readNumber 28 = .ok (.ifCond .eq 16, 3) := by decide +kernel
theorem dX1_readNumber_31 : decode cX1_readNumber 31 = .ok (.iload_n 1, 1) := by decide +kernel
theorem dX1_readNumber_32 : decode cX1_readNumber 32 = .ok (.ifCond .lt 12, 3) := by decide +kernel
theorem dX1_readNumber_35 : decode cX1_readNumber 35 = .ok (.iload_n 1, 1) := by decide +kernel
theorem dX1_readNumber_36 : decode cX1_readNumber 36 = .ok (.aload_n 0, 1) := by decide +kernel
theorem dX1_readNumber_37 : decode cX1_readNumber 37 = .ok (.getfield 26, 3) := by decide +kernel
theorem dX1_readNumber_40 : decode cX1_readNumber 40 = .ok (.arraylength, 1) := by decide +kernel
theorem dX1_readNumber_41 : decode cX1_readNumber 41 = .ok (.if_icmp .lt 5, 3) := by decide +kernel
theorem dX1_readNumber_44 : decode cX1_readNumber 44 = .ok (.iconst 0, 1) := by decide +kernel
theorem dX1_readNumber_45 : decode cX1_readNumber 45 = .ok (.ireturn, 1) := by decide +kernel
theorem dX1_readNumber_46 : decode cX1_readNumber 46 = .ok (.iconst 0, 1) := by decide +kernel
theorem dX1_readNumber_47 : decode cX1_readNumber 47 = .ok (.istore_n 3, 1) := by decide +kernel
theorem dX1_readNumber_48 : decode cX1_readNumber 48 = .ok (.iconst 0, 1) := by decide +kernel
theorem dX1_readNumber_49 : decode cX1_readNumber 49 = .ok (.istore 4, 2) := by decide +kernel
theorem dX1_readNumber_51 : decode cX1_readNumber 51 = .ok (.iload 4, 2) := by decide +kernel
theorem dX1_readNumber_53 : decode cX1_readNumber 53 = .ok (.iconst 5, 1) := by decide +kernel
theorem dX1_readNumber_54 : decode cX1_readNumber 54 = .ok (.if_icmp .ge 50, 3) := by decide +kernel
theorem dX1_readNumber_57 : decode cX1_readNumber 57 = .ok (.aload_n 0, 1) := by decide +kernel
theorem dX1_readNumber_58 : decode cX1_readNumber 58 = .ok (.aload_n 0, 1) := by decide +kernel
theorem dX1_readNumber_59 : decode cX1_readNumber 59 = .ok (.getfield 19, 3) := by decide +kernel
theorem dX1_readNumber_62 : decode cX1_readNumber 62 = .ok (.invokevirtual 54, 3) := by decide +kernel
theorem dX1_readNumber_65 : decode cX1_readNumber 65 = .ok (.invokestatic 65, 3) := by decide +kernel
theorem dX1_readNumber_68 : decode cX1_readNumber 68 = .ok (.ifCond .eq 36, 3) := by decide +kernel
theorem dX1_readNumber_71 : decode cX1_readNumber 71 = .ok (.bipush 10, 2) := by decide +kernel
theorem dX1_readNumber_73 : decode cX1_readNumber 73 = .ok (.iload_n 3, 1) := by decide +kernel
theorem dX1_readNumber_74 : decode cX1_readNumber 74 = .ok (.imul, 1) := by decide +kernel
theorem dX1_readNumber_75 : decode cX1_readNumber 75 = .ok (.aload_n 0, 1) := by decide +kernel
theorem dX1_readNumber_76 : decode cX1_readNumber 76 = .ok (.aload_n 0, 1) := by decide +kernel
theorem dX1_readNumber_77 : decode cX1_readNumber 77 = .ok (.getfield 19, 3) := by decide +kernel
theorem dX1_readNumber_80 : decode cX1_readNumber 80 = .ok (.invokevirtual 54, 3) := by decide +kernel
theorem dX1_readNumber_83 : decode cX1_readNumber 83 = .ok (.iadd, 1) := by decide +kernel
theorem dX1_readNumber_84 : decode cX1_readNumber 84 = .ok (.bipush 48, 2) := by decide +kernel
theorem dX1_readNumber_86 : decode cX1_readNumber 86 = .ok (.isub, 1) := by decide +kernel
theorem dX1_readNumber_87 : decode cX1_readNumber 87 = .ok (.istore_n 3, 1) := by decide +kernel
theorem dX1_readNumber_88 : decode cX1_readNumber 88 = .ok (.aload_n 0, 1) := by decide +kernel
theorem dX1_readNumber_89 : decode cX1_readNumber 89 = .ok (.dup, 1) := by decide +kernel
theorem dX1_readNumber_90 : decode cX1_readNumber 90 = .ok (.getfield 19, 3) := by decide +kernel
theorem dX1_readNumber_93 : decode cX1_readNumber 93 = .ok (.iconst 1, 1) := by decide +kernel
theorem dX1_readNumber_94 : decode cX1_readNumber 94 = .ok (.iadd, 1) := by decide +kernel
theorem dX1_readNumber_95 : decode cX1_readNumber 95 = .ok (.putfield 19, 3) := by decide +kernel
theorem dX1_readNumber_98 : decode cX1_readNumber 98 = .ok (.iinc 4 1, 3) := by decide +kernel
theorem dX1_readNumber_101 : decode cX1_readNumber 101 = .ok (.goto (-50), 3) := by decide +kernel
theorem dX1_readNumber_104 : decode cX1_readNumber 104 = .ok (.aload_n 0, 1) := by decide +kernel
theorem dX1_readNumber_105 : decode cX1_readNumber 105 = .ok (.getfield 26, 3) := by decide +kernel
theorem dX1_readNumber_108 : decode cX1_readNumber 108 = .ok (.iload_n 1, 1) := by decide +kernel
theorem dX1_readNumber_109 : decode cX1_readNumber 109 = .ok (.iload_n 3, 1) := by decide +kernel
theorem dX1_readNumber_110 : decode cX1_readNumber 110 = .ok (.iastore, 1) := by decide +kernel
theorem dX1_readNumber_111 : decode cX1_readNumber 111 = .ok (.iconst 1, 1) := by decide +kernel
theorem dX1_readNumber_112 : decode cX1_readNumber 112 = .ok (.ireturn, 1) := by decide +kernel
theorem dX1_skipSpaces_0 : decode cX1_skipSpaces 0 = .ok (.aload_n 0, 1) := by decide +kernel
theorem dX1_skipSpaces_1 : decode cX1_skipSpaces 1 = .ok (.getfield 19, 3) := by decide +kernel
theorem dX1_skipSpaces_4 : decode cX1_skipSpaces 4 = .ok (.aload_n 0, 1) := by decide +kernel
theorem dX1_skipSpaces_5 : decode cX1_skipSpaces 5 = .ok (.getfield 9, 3) := by decide +kernel
theorem dX1_skipSpaces_8 : decode cX1_skipSpaces 8 = .ok (.if_icmp .ge 29, 3) := by decide +kernel
theorem dX1_skipSpaces_11 : decode cX1_skipSpaces 11 = .ok (.aload_n 0, 1) := by decide +kernel
theorem dX1_skipSpaces_12 : decode cX1_skipSpaces 12 = .ok (.aload_n 0, 1) := by decide +kernel
theorem dX1_skipSpaces_13 : decode cX1_skipSpaces 13 = .ok (.getfield 19, 3) := by decide +kernel
theorem dX1_skipSpaces_16 : decode cX1_skipSpaces 16 = .ok (.invokevirtual 54, 3) := by decide +kernel
theorem dX1_skipSpaces_19 : decode cX1_skipSpaces 19 = .ok (.bipush 32, 2) := by decide +kernel
theorem dX1_skipSpaces_21 : decode cX1_skipSpaces 21 = .ok (.if_icmp .ne 16, 3) := by decide +kernel
theorem dX1_skipSpaces_24 : decode cX1_skipSpaces 24 = .ok (.aload_n 0, 1) := by decide +kernel
theorem dX1_skipSpaces_25 : decode cX1_skipSpaces 25 = .ok (.dup, 1) := by decide +kernel
theorem dX1_skipSpaces_26 : decode cX1_skipSpaces 26 = .ok (.getfield 19, 3) := by decide +kernel
theorem dX1_skipSpaces_29 : decode cX1_skipSpaces 29 = .ok (.iconst 1, 1) := by decide +kernel
theorem dX1_skipSpaces_30 : decode cX1_skipSpaces 30 = .ok (.iadd, 1) := by decide +kernel
theorem dX1_skipSpaces_31 : decode cX1_skipSpaces 31 = .ok (.putfield 19, 3) := by decide +kernel
theorem dX1_skipSpaces_34 : decode cX1_skipSpaces 34 = .ok (.goto (-34), 3) := by decide +kernel
theorem dX1_skipSpaces_37 : decode cX1_skipSpaces 37 = .ok (.return_, 1) := by decide +kernel
theorem dX1_byteAt_0 : decode cX1_byteAt 0 = .ok (.iload_n 1, 1) := by decide +kernel
theorem dX1_byteAt_1 : decode cX1_byteAt 1 = .ok (.ifCond .lt 29, 3) := by decide +kernel
theorem dX1_byteAt_4 : decode cX1_byteAt 4 = .ok (.iload_n 1, 1) := by decide +kernel
theorem dX1_byteAt_5 : decode cX1_byteAt 5 = .ok (.aload_n 0, 1) := by decide +kernel
theorem dX1_byteAt_6 : decode cX1_byteAt 6 = .ok (.getfield 9, 3) := by decide +kernel
theorem dX1_byteAt_9 : decode cX1_byteAt 9 = .ok (.if_icmp .ge 21, 3) := by decide +kernel
theorem dX1_byteAt_12 : decode cX1_byteAt 12 = .ok (.iload_n 1, 1) := by decide +kernel
theorem dX1_byteAt_13 : decode cX1_byteAt 13 = .ok (.aload_n 0, 1) := by decide +kernel
theorem dX1_byteAt_14 : decode cX1_byteAt 14 = .ok (.getfield 15, 3) := by decide +kernel
theorem dX1_byteAt_17 : decode cX1_byteAt 17 = .ok (.arraylength, 1) := by decide +kernel
theorem dX1_byteAt_18 : decode cX1_byteAt 18 = .ok (.if_icmp .ge 12, 3) := by decide +kernel
theorem dX1_byteAt_21 : decode cX1_byteAt 21 = .ok (.aload_n 0, 1) := by decide +kernel
theorem dX1_byteAt_22 : decode cX1_byteAt 22 = .ok (.getfield 15, 3) := by decide +kernel
theorem dX1_byteAt_25 : decode cX1_byteAt 25 = .ok (.iload_n 1, 1) := by decide +kernel
theorem dX1_byteAt_26 : decode cX1_byteAt 26 = .ok (.baload, 1) := by decide +kernel
theorem dX1_byteAt_27 : decode cX1_byteAt 27 = .ok (.goto 4, 3) := by decide +kernel
theorem dX1_byteAt_30 : decode cX1_byteAt 30 = .ok (.iconst (-1), 1) := by decide +kernel
theorem dX1_byteAt_31 : decode cX1_byteAt 31 = .ok (.ireturn, 1) := by decide +kernel
theorem dX1_wordBetween_0 : decode cX1_wordBetween 0 = .ok (.iconst 0, 1) := by decide +kernel
theorem dX1_wordBetween_1 : decode cX1_wordBetween 1 = .ok (.istore_n 3, 1) := by decide +kernel
theorem dX1_wordBetween_2 : decode cX1_wordBetween 2 = .ok (.iload_n 3, 1) := by decide +kernel
theorem dX1_wordBetween_3 : decode cX1_wordBetween 3 = .ok (.getstatic 68, 3) := by decide +kernel
theorem dX1_wordBetween_6 : decode cX1_wordBetween 6 = .ok (.arraylength, 1) := by decide +kernel
theorem dX1_wordBetween_7 : decode cX1_wordBetween 7 = .ok (.if_icmp .ge 40, 3) := by decide +kernel
theorem dX1_wordBetween_10 : decode cX1_wordBetween 10 = .ok (.getstatic 68, 3) := by decide +kernel
theorem dX1_wordBetween_13 : decode cX1_wordBetween 13 = .ok (.iload_n 3, 1) := by decide +kernel
theorem dX1_wordBetween_14 : decode cX1_wordBetween 14 = .ok (.aaload, 1) := by decide +kernel
theorem dX1_wordBetween_15 : decode cX1_wordBetween 15 = .ok (.ifnull 26, 3) := by decide +kernel
theorem dX1_wordBetween_18 : decode cX1_wordBetween 18 = .ok (.aload_n 0, 1) := by decide +kernel
theorem dX1_wordBetween_19 : decode cX1_wordBetween 19 = .ok (.getstatic 68, 3) := by decide +kernel
theorem dX1_wordBetween_22 : decode cX1_wordBetween 22 = .ok (.iload_n 3, 1) := by decide +kernel
theorem dX1_wordBetween_23 : decode cX1_wordBetween 23 = .ok (.aaload, 1) := by decide +kernel
theorem dX1_wordBetween_24 : decode cX1_wordBetween 24 = .ok (.getfield 72, 3) := by decide +kernel
theorem dX1_wordBetween_27 : decode cX1_wordBetween 27 = .ok (.iload_n 1, 1) := by decide +kernel
theorem dX1_wordBetween_28 : decode cX1_wordBetween 28 = .ok (.iload_n 2, 1) := by decide +kernel
theorem dX1_wordBetween_29 : decode cX1_wordBetween 29 = .ok (.invokevirtual 76, 3) := by decide +kernel
theorem dX1_wordBetween_32 : decode cX1_wordBetween 32 = .ok (.ifCond .eq 9, 3) := by decide +kernel
theorem dX1_wordBetween_35 : decode cX1_wordBetween 35 = .ok (.getstatic 68, 3) := by decide +kernel
theorem dX1_wordBetween_38 : decode cX1_wordBetween 38 = .ok (.iload_n 3, 1) := by decide +kernel
theorem dX1_wordBetween_39 : decode cX1_wordBetween 39 = .ok (.aaload, 1) := by decide +kernel
theorem dX1_wordBetween_40 : decode cX1_wordBetween 40 = .ok (.areturn, 1) := by decide +kernel
theorem dX1_wordBetween_41 : decode cX1_wordBetween 41 = .ok (.iinc 3 1, 3) := by decide +kernel
theorem dX1_wordBetween_44 : decode cX1_wordBetween 44 = .ok (.goto (-42), 3) := by decide +kernel
theorem dX1_wordBetween_47 : decode cX1_wordBetween 47 = .ok (.aconst_null, 1) := by decide +kernel
theorem dX1_wordBetween_48 : decode cX1_wordBetween 48 = .ok (.areturn, 1) := by decide +kernel
theorem dX1_standsAt_0 : decode cX1_standsAt 0 = .ok (.aload_n 1, 1) := by decide +kernel
theorem dX1_standsAt_1 : decode cX1_standsAt 1 = .ok (.invokevirtual 80, 3) := by decide +kernel
theorem dX1_standsAt_4 : decode cX1_standsAt 4 = .ok (.iload_n 3, 1) := by decide +kernel
theorem dX1_standsAt_5 : decode cX1_standsAt 5 = .ok (.iload_n 2, 1) := by decide +kernel
theorem dX1_standsAt_6 : decode cX1_standsAt 6 = .ok (.isub, 1) := by decide +kernel
theorem dX1_standsAt_7 : decode cX1_standsAt 7 = .ok (.if_icmp .eq 5, 3) := by decide +kernel
theorem dX1_standsAt_10 : decode cX1_standsAt 10 = .ok (.iconst 0, 1) := by decide +kernel
theorem dX1_standsAt_11 : decode cX1_standsAt 11 = .ok (.ireturn, 1) := by decide +kernel
theorem dX1_standsAt_12 : decode cX1_standsAt 12 = .ok (.iconst 0, 1) := by decide +kernel
theorem dX1_standsAt_13 : decode cX1_standsAt 13 = .ok (.istore 4, 2) := by decide +kernel
theorem dX1_standsAt_15 : decode cX1_standsAt 15 = .ok (.iload 4, 2) := by decide +kernel
theorem dX1_standsAt_17 : decode cX1_standsAt 17 = .ok (.aload_n 1, 1) := by decide +kernel
theorem dX1_standsAt_18 : decode cX1_standsAt 18 = .ok (.invokevirtual 80, 3) := by decide +kernel
theorem dX1_standsAt_21 : decode cX1_standsAt 21 = .ok (.if_icmp .ge 28, 3) := by decide +kernel
theorem dX1_standsAt_24 : decode cX1_standsAt 24 = .ok (.aload_n 1, 1) := by decide +kernel
theorem dX1_standsAt_25 : decode cX1_standsAt 25 = .ok (.iload 4, 2) := by decide +kernel
theorem dX1_standsAt_27 : decode cX1_standsAt 27 = .ok (.invokevirtual 85, 3) := by decide +kernel
theorem dX1_standsAt_30 : decode cX1_standsAt 30 = .ok (.aload_n 0, 1) := by decide +kernel
theorem dX1_standsAt_31 : decode cX1_standsAt 31 = .ok (.iload_n 2, 1) := by decide +kernel
theorem dX1_standsAt_32 : decode cX1_standsAt 32 = .ok (.iload 4, 2) := by decide +kernel
theorem dX1_standsAt_34 : decode cX1_standsAt 34 = .ok (.iadd, 1) := by decide +kernel
theorem dX1_standsAt_35 : decode cX1_standsAt 35 = .ok (.invokevirtual 54, 3) := by decide +kernel
theorem dX1_standsAt_38 : decode cX1_standsAt 38 = .ok (.if_icmp .eq 5, 3) := by decide +kernel
theorem dX1_standsAt_41 : decode cX1_standsAt 41 = .ok (.iconst 0, 1) := by decide +kernel
theorem dX1_standsAt_42 : decode cX1_standsAt 42 = .ok (.ireturn, 1) := by decide +kernel
theorem dX1_standsAt_43 : decode cX1_standsAt 43 = .ok (.iinc 4 1, 3) := by decide +kernel
theorem dX1_standsAt_46 : decode cX1_standsAt 46 = .ok (.goto (-31), 3) := by decide +kernel
theorem dX1_standsAt_49 : decode cX1_standsAt 49 = .ok (.iconst 1, 1) := by decide +kernel
theorem dX1_standsAt_50 : decode cX1_standsAt 50 = .ok (.ireturn, 1) := by decide +kernel
theorem dX1_isLetter_0 : decode cX1_isLetter 0 = .ok (.iload_n 0, 1) := by decide +kernel
theorem dX1_isLetter_1 : decode cX1_isLetter 1 = .ok (.bipush 97, 2) := by decide +kernel
theorem dX1_isLetter_3 : decode cX1_isLetter 3 = .ok (.if_icmp .lt 13, 3) := by decide +kernel
theorem dX1_isLetter_6 : decode cX1_isLetter 6 = .ok (.iload_n 0, 1) := by decide +kernel
theorem dX1_isLetter_7 : decode cX1_isLetter 7 = .ok (.bipush 122, 2) := by decide +kernel
theorem dX1_isLetter_9 : decode cX1_isLetter 9 = .ok (.if_icmp .gt 7, 3) := by decide +kernel
theorem dX1_isLetter_12 : decode cX1_isLetter 12 = .ok (.iconst 1, 1) := by decide +kernel
theorem dX1_isLetter_13 : decode cX1_isLetter 13 = .ok (.goto 4, 3) := by decide +kernel
theorem dX1_isLetter_16 : decode cX1_isLetter 16 = .ok (.iconst 0, 1) := by decide +kernel
theorem dX1_isLetter_17 : decode cX1_isLetter 17 = .ok (.ireturn, 1) := by decide +kernel
theorem dX1_isDigit_0 : decode cX1_isDigit 0 = .ok (.iload_n 0, 1) := by decide +kernel
theorem dX1_isDigit_1 : decode cX1_isDigit 1 = .ok (.bipush 48, 2) := by decide +kernel
theorem dX1_isDigit_3 : decode cX1_isDigit 3 = .ok (.if_icmp .lt 13, 3) := by decide +kernel
theorem dX1_isDigit_6 : decode cX1_isDigit 6 = .ok (.iload_n 0, 1) := by decide +kernel
theorem dX1_isDigit_7 : decode cX1_isDigit 7 = .ok (.bipush 57, 2) := by decide +kernel
theorem dX1_isDigit_9 : decode cX1_isDigit 9 = .ok (.if_icmp .gt 7, 3) := by decide +kernel
theorem dX1_isDigit_12 : decode cX1_isDigit 12 = .ok (.iconst 1, 1) := by decide +kernel
theorem dX1_isDigit_13 : decode cX1_isDigit 13 = .ok (.goto 4, 3) := by decide +kernel
theorem dX1_isDigit_16 : decode cX1_isDigit 16 = .ok (.iconst 0, 1) := by decide +kernel
theorem dX1_isDigit_17 : decode cX1_isDigit 17 = .ok (.ireturn, 1) := by decide +kernel
theorem dX2_init_0 : decode cX2_init 0 = .ok (.aload_n 0, 1) := by decide +kernel
theorem dX2_init_1 : decode cX2_init 1 = .ok (.invokespecial 3, 3) := by decide +kernel
theorem dX2_init_4 : decode cX2_init 4 = .ok (.aload_n 0, 1) := by decide +kernel
theorem dX2_init_5 : decode cX2_init 5 = .ok (.iconst 0, 1) := by decide +kernel
theorem dX2_init_6 : decode cX2_init 6 = .ok (.putfield 9, 3) := by decide +kernel
theorem dX2_init_9 : decode cX2_init 9 = .ok (.aload_n 0, 1) := by decide +kernel
theorem dX2_init_10 : decode cX2_init 10 = .ok (.bipush 15, 2) := by decide +kernel
theorem dX2_init_12 : decode cX2_init 12 = .ok (.newarray .int, 2) := by decide +kernel
theorem dX2_init_14 : decode cX2_init 14 = .ok (.putfield 15, 3) := by decide +kernel
theorem dX2_init_17 : decode cX2_init 17 = .ok (.return_, 1) := by decide +kernel
theorem dX2_reset_0 : decode cX2_reset 0 = .ok (.aload_n 0, 1) := by decide +kernel
theorem dX2_reset_1 : decode cX2_reset 1 = .ok (.iconst 0, 1) := by decide +kernel
theorem dX2_reset_2 : decode cX2_reset 2 = .ok (.putfield 9, 3) := by decide +kernel
theorem dX2_reset_5 : decode cX2_reset 5 = .ok (.return_, 1) := by decide +kernel
theorem dX2_copyFrom_0 : decode cX2_copyFrom 0 = .ok (.aload_n 0, 1) := by decide +kernel
theorem dX2_copyFrom_1 : decode cX2_copyFrom 1 = .ok (.aload_n 1, 1) := by decide +kernel
theorem dX2_copyFrom_2 : decode cX2_copyFrom 2 = .ok (.getfield 9, 3) := by decide +kernel
theorem dX2_copyFrom_5 : decode cX2_copyFrom 5 = .ok (.putfield 9, 3) := by decide +kernel
theorem dX2_copyFrom_8 : decode cX2_copyFrom 8 = .ok (.aload_n 1, 1) := by decide +kernel
theorem dX2_copyFrom_9 : decode cX2_copyFrom 9 = .ok (.getfield 15, 3) := by decide +kernel
theorem dX2_copyFrom_12 : decode cX2_copyFrom 12 = .ok (.aload_n 0, 1) := by decide +kernel
theorem dX2_copyFrom_13 : decode cX2_copyFrom 13 = .ok (.getfield 15, 3) := by decide +kernel
theorem dX2_copyFrom_16 : decode cX2_copyFrom 16 = .ok (.invokestatic 19, 3) := by decide +kernel
theorem dX2_copyFrom_19 : decode cX2_copyFrom 19 = .ok (.return_, 1) := by decide +kernel
theorem dX2_takeCandidates_0 : decode cX2_takeCandidates 0 = .ok (.aload_n 0, 1) := by decide +kernel
theorem dX2_takeCandidates_1 : decode cX2_takeCandidates 1 = .ok (.iconst 0, 1) := by decide +kernel
theorem dX2_takeCandidates_2 : decode cX2_takeCandidates 2 = .ok (.putfield 9, 3) := by decide +kernel
theorem dX2_takeCandidates_5 : decode cX2_takeCandidates 5 = .ok (.iconst 0, 1) := by decide +kernel
theorem dX2_takeCandidates_6 : decode cX2_takeCandidates 6 = .ok (.istore_n 2, 1) := by decide +kernel
theorem dX2_takeCandidates_7 : decode cX2_takeCandidates 7 = .ok (.iload_n 2, 1) := by decide +kernel
theorem dX2_takeCandidates_8 : decode cX2_takeCandidates 8 = .ok (.aload_n 1, 1) := by decide +kernel
theorem dX2_takeCandidates_9 : decode cX2_takeCandidates 9 = .ok (.getfield 23, 3) := by decide +kernel
theorem dX2_takeCandidates_12 : decode cX2_takeCandidates 12 = .ok (.if_icmp .ge 54, 3) := by decide +kernel
theorem dX2_takeCandidates_15 : decode cX2_takeCandidates 15 = .ok (.aload_n 1, 1) := by decide +kernel
theorem dX2_takeCandidates_16 : decode cX2_takeCandidates 16 = .ok (.iload_n 2, 1) := by decide +kernel
theorem dX2_takeCandidates_17 : decode cX2_takeCandidates 17 = .ok (.iconst 1, 1) := by decide +kernel
theorem dX2_takeCandidates_18 : decode cX2_takeCandidates 18 = .ok (.invokevirtual 26, 3) := by decide +kernel
theorem dX2_takeCandidates_21 : decode cX2_takeCandidates 21 = .ok (.ifCond .eq 39, 3) := by decide +kernel
theorem dX2_takeCandidates_24 : decode cX2_takeCandidates 24 = .ok (.aload_n 0, 1) := by decide +kernel
theorem dX2_takeCandidates_25 : decode cX2_takeCandidates 25 = .ok (.getfield 9, 3) := by decide +kernel
theorem dX2_takeCandidates_28 : decode cX2_takeCandidates 28 = .ok (.aload_n 0, 1) := by decide +kernel
theorem dX2_takeCandidates_29 : decode cX2_takeCandidates 29 = .ok (.getfield 15, 3) := by decide +kernel
theorem dX2_takeCandidates_32 : decode cX2_takeCandidates 32 = .ok (.arraylength, 1) := by decide +kernel
theorem dX2_takeCandidates_33 : decode cX2_takeCandidates 33 = .ok (.if_icmp .ge 27, 3) := by decide +kernel
theorem dX2_takeCandidates_36 : decode cX2_takeCandidates 36 = .ok (.aload_n 0, 1) := by decide +kernel
theorem dX2_takeCandidates_37 : decode cX2_takeCandidates 37 = .ok (.getfield 15, 3) := by decide +kernel
theorem dX2_takeCandidates_40 : decode cX2_takeCandidates 40 = .ok (.aload_n 0, 1) := by decide +kernel
theorem dX2_takeCandidates_41 : decode cX2_takeCandidates 41 = .ok (.getfield 9, 3) := by decide +kernel
theorem dX2_takeCandidates_44 : decode cX2_takeCandidates 44 = .ok (.aload_n 1, 1) := by decide +kernel
theorem dX2_takeCandidates_45 : decode cX2_takeCandidates 45 = .ok (.iload_n 2, 1) := by decide +kernel
theorem dX2_takeCandidates_46 : decode cX2_takeCandidates 46 = .ok (.invokevirtual 30, 3) := by decide +kernel
theorem dX2_takeCandidates_49 : decode cX2_takeCandidates 49 = .ok (.iastore, 1) := by decide +kernel
theorem dX2_takeCandidates_50 : decode cX2_takeCandidates 50 = .ok (.aload_n 0, 1) := by decide +kernel
theorem dX2_takeCandidates_51 : decode cX2_takeCandidates 51 = .ok (.dup, 1) := by decide +kernel
theorem dX2_takeCandidates_52 : decode cX2_takeCandidates 52 = .ok (.getfield 9, 3) := by decide +kernel
theorem dX2_takeCandidates_55 : decode cX2_takeCandidates 55 = .ok (.iconst 1, 1) := by decide +kernel
theorem dX2_takeCandidates_56 : decode cX2_takeCandidates 56 = .ok (.iadd, 1) := by decide +kernel
theorem dX2_takeCandidates_57 : decode cX2_takeCandidates 57 = .ok (.putfield 9, 3) := by decide +kernel
theorem dX2_takeCandidates_60 : decode cX2_takeCandidates 60 = .ok (.iinc 2 1, 3) := by decide +kernel
theorem dX2_takeCandidates_63 : decode cX2_takeCandidates 63 = .ok (.goto (-56), 3) := by decide +kernel
theorem dX2_takeCandidates_66 : decode cX2_takeCandidates 66 = .ok (.return_, 1) := by decide +kernel
theorem dX2_hasNear_0 : decode cX2_hasNear 0 = .ok (.iconst 0, 1) := by decide +kernel
theorem dX2_hasNear_1 : decode cX2_hasNear 1 = .ok (.istore_n 2, 1) := by decide +kernel
theorem dX2_hasNear_2 : decode cX2_hasNear 2 = .ok (.iload_n 2, 1) := by decide +kernel
theorem dX2_hasNear_3 : decode cX2_hasNear 3 = .ok (.aload_n 0, 1) := by decide +kernel
theorem dX2_hasNear_4 : decode cX2_hasNear 4 = .ok (.getfield 9, 3) := by decide +kernel
theorem dX2_hasNear_7 : decode cX2_hasNear 7 = .ok (.if_icmp .ge 36, 3) := by decide +kernel
theorem dX2_hasNear_10 : decode cX2_hasNear 10 = .ok (.iload_n 2, 1) := by decide +kernel
theorem dX2_hasNear_11 : decode cX2_hasNear 11 = .ok (.aload_n 0, 1) := by decide +kernel
theorem dX2_hasNear_12 : decode cX2_hasNear 12 = .ok (.getfield 15, 3) := by decide +kernel
theorem dX2_hasNear_15 : decode cX2_hasNear 15 = .ok (.arraylength, 1) := by decide +kernel
theorem dX2_hasNear_16 : decode cX2_hasNear 16 = .ok (.if_icmp .ge 27, 3) := by decide +kernel
theorem dX2_hasNear_19 : decode cX2_hasNear 19 = .ok (.aload_n 0, 1) := by decide +kernel
theorem dX2_hasNear_20 : decode cX2_hasNear 20 = .ok (.getfield 15, 3) := by decide +kernel
theorem dX2_hasNear_23 : decode cX2_hasNear 23 = .ok (.iload_n 2, 1) := by decide +kernel
theorem dX2_hasNear_24 : decode cX2_hasNear 24 = .ok (.iaload, 1) := by decide +kernel
theorem dX2_hasNear_25 : decode cX2_hasNear 25 = .ok (.iload_n 1, 1) := by decide +kernel
theorem dX2_hasNear_26 : decode cX2_hasNear 26 = .ok (.isub, 1) := by decide +kernel
theorem dX2_hasNear_27 : decode cX2_hasNear 27 = .ok (.invokestatic 34, 3) := by decide +kernel
theorem dX2_hasNear_30 : decode cX2_hasNear 30 = .ok (.bipush 15, 2) := by decide +kernel
theorem dX2_hasNear_32 : decode cX2_hasNear 32 = .ok (.if_icmp .gt 5, 3) := by decide +kernel
theorem dX2_hasNear_35 : decode cX2_hasNear 35 = .ok (.iconst 1, 1) := by decide +kernel
theorem dX2_hasNear_36 : decode cX2_hasNear 36 = .ok (.ireturn, 1) := by decide +kernel
theorem dX2_hasNear_37 : decode cX2_hasNear 37 = .ok (.iinc 2 1, 3) := by decide +kernel
theorem dX2_hasNear_40 : decode cX2_hasNear 40 = .ok (.goto (-38), 3) := by decide +kernel
theorem dX2_hasNear_43 : decode cX2_hasNear 43 = .ok (.iconst 0, 1) := by decide +kernel
theorem dX2_hasNear_44 : decode cX2_hasNear 44 = .ok (.ireturn, 1) := by decide +kernel
theorem dX3_init_0 : decode cX3_init 0 = .ok (.aload_n 0, 1) := by decide +kernel
theorem dX3_init_1 : decode cX3_init 1 = .ok (.invokespecial 3, 3) := by decide +kernel
theorem dX3_init_4 : decode cX3_init 4 = .ok (.aload_n 0, 1) := by decide +kernel
theorem dX3_init_5 : decode cX3_init 5 = .ok (.iconst 0, 1) := by decide +kernel
theorem dX3_init_6 : decode cX3_init 6 = .ok (.putfield 9, 3) := by decide +kernel
theorem dX3_init_9 : decode cX3_init 9 = .ok (.aload_n 0, 1) := by decide +kernel
theorem dX3_init_10 : decode cX3_init 10 = .ok (.bipush 15, 2) := by decide +kernel
theorem dX3_init_12 : decode cX3_init 12 = .ok (.newarray .int, 2) := by decide +kernel
theorem dX3_init_14 : decode cX3_init 14 = .ok (.putfield 15, 3) := by decide +kernel
theorem dX3_init_17 : decode cX3_init 17 = .ok (.aload_n 0, 1) := by decide +kernel
theorem dX3_init_18 : decode cX3_init 18 = .ok (.bipush 15, 2) := by decide +kernel
theorem dX3_init_20 : decode cX3_init 20 = .ok (.newarray .int, 2) := by decide +kernel
theorem dX3_init_22 : decode cX3_init 22 = .ok (.putfield 19, 3) := by decide +kernel
theorem dX3_init_25 : decode cX3_init 25 = .ok (.aload_n 0, 1) := by decide +kernel
theorem dX3_init_26 : decode cX3_init 26 = .ok (.bipush 15, 2) := by decide +kernel
theorem dX3_init_28 : decode cX3_init 28 = .ok (.newarray .int, 2) := by decide +kernel
theorem dX3_init_30 : decode cX3_init 30 = .ok (.putfield 22, 3) := by decide +kernel
theorem dX3_init_33 : decode cX3_init 33 = .ok (.aload_n 0, 1) := by decide +kernel
theorem dX3_init_34 : decode cX3_init 34 = .ok (.bipush 15, 2) := by decide +kernel
theorem dX3_init_36 : decode cX3_init 36 = .ok (.newarray .int, 2) := by decide +kernel
theorem dX3_init_38 : decode cX3_init 38 = .ok (.putfield 25, 3) := by decide +kernel
theorem dX3_init_41 : decode cX3_init 41 = .ok (.return_, 1) := by decide +kernel
theorem dX3_reset_0 : decode cX3_reset 0 = .ok (.aload_n 0, 1) := by decide +kernel
theorem dX3_reset_1 : decode cX3_reset 1 = .ok (.iconst 0, 1) := by decide +kernel
theorem dX3_reset_2 : decode cX3_reset 2 = .ok (.putfield 9, 3) := by decide +kernel
theorem dX3_reset_5 : decode cX3_reset 5 = .ok (.return_, 1) := by decide +kernel
theorem dX3_copyFrom_0 : decode cX3_copyFrom 0 = .ok (.aload_n 0, 1) := by decide +kernel
theorem dX3_copyFrom_1 : decode cX3_copyFrom 1 = .ok (.aload_n 1, 1) := by decide +kernel
theorem dX3_copyFrom_2 : decode cX3_copyFrom 2 = .ok (.getfield 9, 3) := by decide +kernel
theorem dX3_copyFrom_5 : decode cX3_copyFrom 5 = .ok (.putfield 9, 3) := by decide +kernel
theorem dX3_copyFrom_8 : decode cX3_copyFrom 8 = .ok (.aload_n 1, 1) := by decide +kernel
theorem dX3_copyFrom_9 : decode cX3_copyFrom 9 = .ok (.getfield 15, 3) := by decide +kernel
theorem dX3_copyFrom_12 : decode cX3_copyFrom 12 = .ok (.aload_n 0, 1) := by decide +kernel
theorem dX3_copyFrom_13 : decode cX3_copyFrom 13 = .ok (.getfield 15, 3) := by decide +kernel
theorem dX3_copyFrom_16 : decode cX3_copyFrom 16 = .ok (.invokestatic 28, 3) := by decide +kernel
theorem dX3_copyFrom_19 : decode cX3_copyFrom 19 = .ok (.aload_n 1, 1) := by decide +kernel
theorem dX3_copyFrom_20 : decode cX3_copyFrom 20 = .ok (.getfield 19, 3) := by decide +kernel
theorem dX3_copyFrom_23 : decode cX3_copyFrom 23 = .ok (.aload_n 0, 1) := by decide +kernel
theorem dX3_copyFrom_24 : decode cX3_copyFrom 24 = .ok (.getfield 19, 3) := by decide +kernel
theorem dX3_copyFrom_27 : decode cX3_copyFrom 27 = .ok (.invokestatic 28, 3) := by decide +kernel
theorem dX3_copyFrom_30 : decode cX3_copyFrom 30 = .ok (.aload_n 1, 1) := by decide +kernel
theorem dX3_copyFrom_31 : decode cX3_copyFrom 31 = .ok (.getfield 22, 3) := by decide +kernel
theorem dX3_copyFrom_34 : decode cX3_copyFrom 34 = .ok (.aload_n 0, 1) := by decide +kernel
theorem dX3_copyFrom_35 : decode cX3_copyFrom 35 = .ok (.getfield 22, 3) := by decide +kernel
theorem dX3_copyFrom_38 : decode cX3_copyFrom 38 = .ok (.invokestatic 28, 3) := by decide +kernel
theorem dX3_copyFrom_41 : decode cX3_copyFrom 41 = .ok (.aload_n 1, 1) := by decide +kernel
theorem dX3_copyFrom_42 : decode cX3_copyFrom 42 = .ok (.getfield 25, 3) := by decide +kernel
theorem dX3_copyFrom_45 : decode cX3_copyFrom 45 = .ok (.aload_n 0, 1) := by decide +kernel
theorem dX3_copyFrom_46 : decode cX3_copyFrom 46 = .ok (.getfield 25, 3) := by decide +kernel
theorem dX3_copyFrom_49 : decode cX3_copyFrom 49 = .ok (.invokestatic 28, 3) := by decide +kernel
theorem dX3_copyFrom_52 : decode cX3_copyFrom 52 = .ok (.return_, 1) := by decide +kernel
theorem dX3_has_0 : decode cX3_has 0 = .ok (.iload_n 1, 1) := by decide +kernel
theorem dX3_has_1 : decode cX3_has 1 = .ok (.ifCond .lt 21, 3) := by decide +kernel
theorem dX3_has_4 : decode cX3_has 4 = .ok (.iload_n 1, 1) := by decide +kernel
theorem dX3_has_5 : decode cX3_has 5 = .ok (.aload_n 0, 1) := by decide +kernel
theorem dX3_has_6 : decode cX3_has 6 = .ok (.getfield 9, 3) := by decide +kernel
theorem dX3_has_9 : decode cX3_has 9 = .ok (.if_icmp .ge 13, 3) := by decide +kernel
theorem dX3_has_12 : decode cX3_has 12 = .ok (.iload_n 1, 1) := by decide +kernel
theorem dX3_has_13 : decode cX3_has 13 = .ok (.bipush 15, 2) := by decide +kernel
theorem dX3_has_15 : decode cX3_has 15 = .ok (.if_icmp .ge 7, 3) := by decide +kernel
theorem dX3_has_18 : decode cX3_has 18 = .ok (.iconst 1, 1) := by decide +kernel
theorem dX3_has_19 : decode cX3_has 19 = .ok (.goto 4, 3) := by decide +kernel
theorem dX3_has_22 : decode cX3_has 22 = .ok (.iconst 0, 1) := by decide +kernel
theorem dX3_has_23 : decode cX3_has 23 = .ok (.ireturn, 1) := by decide +kernel
theorem dX3_kind_0 : decode cX3_kind 0 = .ok (.aload_n 0, 1) := by decide +kernel
theorem dX3_kind_1 : decode cX3_kind 1 = .ok (.iload_n 1, 1) := by decide +kernel
theorem dX3_kind_2 : decode cX3_kind 2 = .ok (.invokevirtual 32, 3) := by decide +kernel
theorem dX3_kind_5 : decode cX3_kind 5 = .ok (.ifCond .eq 12, 3) := by decide +kernel
theorem dX3_kind_8 : decode cX3_kind 8 = .ok (.aload_n 0, 1) := by decide +kernel
theorem dX3_kind_9 : decode cX3_kind 9 = .ok (.getfield 15, 3) := by decide +kernel
theorem dX3_kind_12 : decode cX3_kind 12 = .ok (.iload_n 1, 1) := by decide +kernel
theorem dX3_kind_13 : decode cX3_kind 13 = .ok (.iaload, 1) := by decide +kernel
theorem dX3_kind_14 : decode cX3_kind 14 = .ok (.goto 4, 3) := by decide +kernel
theorem dX3_kind_17 : decode cX3_kind 17 = .ok (.iconst (-1), 1) := by decide +kernel
theorem dX3_kind_18 : decode cX3_kind 18 = .ok (.ireturn, 1) := by decide +kernel
theorem dX3_distance_0 : decode cX3_distance 0 = .ok (.aload_n 0, 1) := by decide +kernel
theorem dX3_distance_1 : decode cX3_distance 1 = .ok (.iload_n 1, 1) := by decide +kernel
theorem dX3_distance_2 : decode cX3_distance 2 = .ok (.invokevirtual 32, 3) := by decide +kernel
theorem dX3_distance_5 : decode cX3_distance 5 = .ok (.ifCond .eq 12, 3) := by decide +kernel
theorem dX3_distance_8 : decode cX3_distance 8 = .ok (.aload_n 0, 1) := by decide +kernel
theorem dX3_distance_9 : decode cX3_distance 9 = .ok (.getfield 19, 3) := by decide +kernel
theorem dX3_distance_12 : decode cX3_distance 12 = .ok (.iload_n 1, 1) := by decide +kernel
theorem dX3_distance_13 : decode cX3_distance 13 = .ok (.iaload, 1) := by decide +kernel
theorem dX3_distance_14 : decode cX3_distance 14 = .ok (.goto 4, 3) := by decide +kernel
theorem dX3_distance_17 : decode cX3_distance 17 = .ok (.iconst (-1), 1) := by decide +kernel
theorem dX3_distance_18 : decode cX3_distance 18 = .ok (.ireturn, 1) := by decide +kernel
theorem dX3_strength_0 : decode cX3_strength 0 = .ok (.aload_n 0, 1) := by decide +kernel
theorem dX3_strength_1 : decode cX3_strength 1 = .ok (.iload_n 1, 1) := by decide +kernel
theorem dX3_strength_2 : decode cX3_strength 2 = .ok (.invokevirtual 32, 3) := by decide +kernel
theorem dX3_strength_5 : decode cX3_strength 5 = .ok (.ifCond .eq 12, 3) := by decide +kernel
theorem dX3_strength_8 : decode cX3_strength 8 = .ok (.aload_n 0, 1) := by decide +kernel
theorem dX3_strength_9 : decode cX3_strength 9 = .ok (.getfield 22, 3) := by decide +kernel
theorem dX3_strength_12 : decode cX3_strength 12 = .ok (.iload_n 1, 1) := by decide +kernel
theorem dX3_strength_13 : decode cX3_strength 13 = .ok (.iaload, 1) := by decide +kernel
theorem dX3_strength_14 : decode cX3_strength 14 = .ok (.goto 4, 3) := by decide +kernel
theorem dX3_strength_17 : decode cX3_strength 17 = .ok (.iconst (-1), 1) := by decide +kernel
theorem dX3_strength_18 : decode cX3_strength 18 = .ok (.ireturn, 1) := by decide +kernel
theorem dX3_isMarked_0 : decode cX3_isMarked 0 = .ok (.aload_n 0, 1) := by decide +kernel
theorem dX3_isMarked_1 : decode cX3_isMarked 1 = .ok (.iload_n 1, 1) := by decide +kernel
theorem dX3_isMarked_2 : decode cX3_isMarked 2 = .ok (.invokevirtual 32, 3) := by decide +kernel
theorem dX3_isMarked_5 : decode cX3_isMarked 5 = .ok (.ifCond .eq 18, 3) := by decide +kernel
theorem dX3_isMarked_8 : decode cX3_isMarked 8 = .ok (.aload_n 0, 1) := by decide +kernel
theorem dX3_isMarked_9 : decode cX3_isMarked 9 = .ok (.getfield 25, 3) := by decide +kernel
theorem dX3_isMarked_12 : decode cX3_isMarked 12 = .ok (.iload_n 1, 1) := by decide +kernel
theorem dX3_isMarked_13 : decode cX3_isMarked 13 = .ok (.iaload, 1) := by decide +kernel
theorem dX3_isMarked_14 : decode cX3_isMarked 14 = .ok (.iload_n 2, 1) := by decide +kernel
theorem dX3_isMarked_15 : decode cX3_isMarked 15 = .ok (.iand, 1) := by decide +kernel
theorem dX3_isMarked_16 : decode cX3_isMarked 16 = .ok (.ifCond .eq 7, 3) := by decide +kernel
theorem dX3_isMarked_19 : decode cX3_isMarked 19 = .ok (.iconst 1, 1) := by decide +kernel
theorem dX3_isMarked_20 : decode cX3_isMarked 20 = .ok (.goto 4, 3) := by decide +kernel
theorem dX3_isMarked_23 : decode cX3_isMarked 23 = .ok (.iconst 0, 1) := by decide +kernel
theorem dX3_isMarked_24 : decode cX3_isMarked 24 = .ok (.ireturn, 1) := by decide +kernel
theorem dX3_mark_0 : decode cX3_mark 0 = .ok (.aload_n 0, 1) := by decide +kernel
theorem dX3_mark_1 : decode cX3_mark 1 = .ok (.iload_n 1, 1) := by decide +kernel
theorem dX3_mark_2 : decode cX3_mark 2 = .ok (.invokevirtual 32, 3) := by decide +kernel
theorem dX3_mark_5 : decode cX3_mark 5 = .ok (.ifCond .eq 13, 3) := by decide +kernel
theorem dX3_mark_8 : decode cX3_mark 8 = .ok (.aload_n 0, 1) := by decide +kernel
theorem dX3_mark_9 : decode cX3_mark 9 = .ok (.getfield 25, 3) := by decide +kernel
theorem dX3_mark_12 : decode cX3_mark 12 = .ok (.iload_n 1, 1) := by decide +kernel
theorem dX3_mark_13 : decode cX3_mark 13 = .ok (.dup2, 1) := by decide +kernel
theorem dX3_mark_14 : decode cX3_mark 14 = .ok (.iaload, 1) := by decide +kernel
theorem dX3_mark_15 : decode cX3_mark 15 = .ok (.iload_n 2, 1) := by decide +kernel
theorem dX3_mark_16 : decode cX3_mark 16 = .ok (.ior, 1) := by decide +kernel
theorem dX3_mark_17 : decode cX3_mark 17 = .ok (.iastore, 1) := by decide +kernel
theorem dX3_mark_18 : decode cX3_mark 18 = .ok (.return_, 1) := by decide +kernel
theorem dX3_append_0 : decode cX3_append 0 = .ok (.aload_n 0, 1) := by decide +kernel
theorem dX3_append_1 : decode cX3_append 1 = .ok (.getfield 9, 3) := by decide +kernel
theorem dX3_append_4 : decode cX3_append 4 = .ok (.ifCond .lt 43, 3) := by decide +kernel
theorem dX3_append_7 : decode cX3_append 7 = .ok (.aload_n 0, 1) := by decide +kernel
theorem dX3_append_8 : decode cX3_append 8 = .ok (.getfield 9, 3) := by decide +kernel
theorem dX3_append_11 : decode cX3_append 11 = .ok (.bipush 15, 2) := by decide +kernel
theorem dX3_append_13 : decode cX3_append 13 = .ok (.if_icmp .ge 34, 3) := by decide +kernel
theorem dX3_append_16 : decode cX3_append 16 = .ok (.aload_n 0, 1) := by decide +kernel
theorem dX3_append_17 : decode cX3_append 17 = .ok (.aload_n 0, 1) := by decide +kernel
theorem dX3_append_18 : decode cX3_append 18 = .ok (.getfield 9, 3) := by decide +kernel
theorem dX3_append_21 : decode cX3_append 21 = .ok (.iload_n 1, 1) := by decide +kernel
theorem dX3_append_22 : decode cX3_append 22 = .ok (.iload_n 2, 1) := by decide +kernel
theorem dX3_append_23 : decode cX3_append 23 = .ok (.iload_n 3, 1) := by decide +kernel
theorem dX3_append_24 : decode cX3_append 24 = .ok (.invokevirtual 36, 3) := by decide +kernel
theorem dX3_append_27 : decode cX3_append 27 = .ok (.aload_n 0, 1) := by decide +kernel
theorem dX3_append_28 : decode cX3_append 28 = .ok (.getfield 25, 3) := by decide +kernel
theorem dX3_append_31 : decode cX3_append 31 = .ok (.aload_n 0, 1) := by decide +kernel
theorem dX3_append_32 : decode cX3_append 32 = .ok (.getfield 9, 3) := by decide +kernel
theorem dX3_append_35 : decode cX3_append 35 = .ok (.iconst 0, 1) := by decide +kernel
theorem dX3_append_36 : decode cX3_append 36 = .ok (.iastore, 1) := by decide +kernel
theorem dX3_append_37 : decode cX3_append 37 = .ok (.aload_n 0, 1) := by decide +kernel
theorem dX3_append_38 : decode cX3_append 38 = .ok (.dup, 1) := by decide +kernel
theorem dX3_append_39 : decode cX3_append 39 = .ok (.getfield 9, 3) := by decide +kernel
theorem dX3_append_42 : decode cX3_append 42 = .ok (.iconst 1, 1) := by decide +kernel
theorem dX3_append_43 : decode cX3_append 43 = .ok (.iadd, 1) := by decide +kernel
theorem dX3_append_44 : decode cX3_append 44 = .ok (.putfield 9, 3) := by decide +kernel
theorem dX3_append_47 : decode cX3_append 47 = .ok (.return_, 1) := by decide +kernel
theorem dX3_put_0 : decode cX3_put 0 = .ok (.iload_n 1, 1) := by decide +kernel
theorem dX3_put_1 : decode cX3_put 1 = .ok (.ifCond .lt 31, 3) := by decide +kernel
theorem dX3_put_4 : decode cX3_put 4 = .ok (.iload_n 1, 1) := by decide +kernel
theorem dX3_put_5 : decode cX3_put 5 = .ok (.bipush 15, 2) := by decide +kernel
theorem dX3_put_7 : decode cX3_put 7 = .ok (.if_icmp .ge 25, 3) := by decide +kernel
theorem dX3_put_10 : decode cX3_put 10 = .ok (.aload_n 0, 1) := by decide +kernel
theorem dX3_put_11 : decode cX3_put 11 = .ok (.getfield 15, 3) := by decide +kernel
theorem dX3_put_14 : decode cX3_put 14 = .ok (.iload_n 1, 1) := by decide +kernel
theorem dX3_put_15 : decode cX3_put 15 = .ok (.iload_n 2, 1) := by decide +kernel
theorem dX3_put_16 : decode cX3_put 16 = .ok (.iastore, 1) := by decide +kernel
theorem dX3_put_17 : decode cX3_put 17 = .ok (.aload_n 0, 1) := by decide +kernel
theorem dX3_put_18 : decode cX3_put 18 = .ok (.getfield 19, 3) := by decide +kernel
theorem dX3_put_21 : decode cX3_put 21 = .ok (.iload_n 1, 1) := by decide +kernel
theorem dX3_put_22 : decode cX3_put 22 = .ok (.iload_n 3, 1) := by decide +kernel
theorem dX3_put_23 : decode cX3_put 23 = .ok (.iastore, 1) := by decide +kernel
theorem dX3_put_24 : decode cX3_put 24 = .ok (.aload_n 0, 1) := by decide +kernel
theorem dX3_put_25 : decode cX3_put 25 = .ok (.getfield 22, 3) := by decide +kernel
theorem dX3_put_28 : decode cX3_put 28 = .ok (.iload_n 1, 1) := by decide +kernel
theorem dX3_put_29 : decode cX3_put 29 = .ok (.iload 4, 2) := by decide +kernel
theorem dX3_put_31 : decode cX3_put 31 = .ok (.iastore, 1) := by decide +kernel
theorem dX3_put_32 : decode cX3_put 32 = .ok (.return_, 1) := by decide +kernel
theorem dX3_meetChance_0 : decode cX3_meetChance 0 = .ok (.aload_n 0, 1) := by decide +kernel
theorem dX3_meetChance_1 : decode cX3_meetChance 1 = .ok (.getfield 9, 3) := by decide +kernel
theorem dX3_meetChance_4 : decode cX3_meetChance 4 = .ok (.bipush 15, 2) := by decide +kernel
theorem dX3_meetChance_6 : decode cX3_meetChance 6 = .ok (.invokestatic 40, 3) := by decide +kernel
theorem dX3_meetChance_9 : decode cX3_meetChance 9 = .ok (.istore 4, 2) := by decide +kernel
theorem dX3_meetChance_11 : decode cX3_meetChance 11 = .ok (.aload_n 0, 1) := by decide +kernel
theorem dX3_meetChance_12 : decode cX3_meetChance 12 = .ok (.iconst 0, 1) := by decide +kernel
theorem dX3_meetChance_13 : decode cX3_meetChance 13 = .ok (.putfield 9, 3) := by decide +kernel
theorem dX3_meetChance_16 : decode cX3_meetChance 16 = .ok (.iconst 0, 1) := by decide +kernel
theorem dX3_meetChance_17 : decode cX3_meetChance 17 = .ok (.istore 5, 2) := by decide +kernel
theorem dX3_meetChance_19 : decode cX3_meetChance 19 = .ok (.iload 5, 2) := by decide +kernel
theorem dX3_meetChance_21 : decode cX3_meetChance 21 = .ok (.iload 4, 2) := by decide +kernel
theorem dX3_meetChance_23 : decode cX3_meetChance 23 = .ok (.if_icmp .ge 90, 3) := by decide +kernel
theorem dX3_meetChance_26 : decode cX3_meetChance 26 = .ok (.aload_n 1, 1) := by decide +kernel
theorem dX3_meetChance_27 : decode cX3_meetChance 27 = .ok (.bipush 100, 2) := by decide +kernel
theorem dX3_meetChance_29 : decode cX3_meetChance 29 = .ok (.invokevirtual 46, 3) := by decide +kernel
theorem dX3_meetChance_32 : decode cX3_meetChance 32 = .ok (.iload_n 2, 1) := by decide +kernel
theorem dX3_meetChance_33 : decode cX3_meetChance 33 = .ok (.if_icmp .ge 7, 3) := by decide +kernel
theorem dX3_meetChance_36 : decode cX3_meetChance 36 = .ok (.iconst 1, 1) := by decide +kernel
theorem dX3_meetChance_37 : decode cX3_meetChance 37 = .ok (.goto 4, 3) := by decide +kernel
theorem dX3_meetChance_40 : decode cX3_meetChance 40 = .ok (.iconst 0, 1) := by decide +kernel
theorem dX3_meetChance_41 : decode cX3_meetChance 41 = .ok (.istore 6, 2) := by decide +kernel
theorem dX3_meetChance_43 : decode cX3_meetChance 43 = .ok (.iload 6, 2) := by decide +kernel
theorem dX3_meetChance_45 : decode cX3_meetChance 45 = .ok (.ifCond .ne 62, 3) := by decide +kernel
theorem dX3_meetChance_48 : decode cX3_meetChance 48 = .ok (.iload_n 3, 1) := by decide +kernel
theorem dX3_meetChance_49 : decode cX3_meetChance 49 = .ok (.ifCond .le 25, 3) := by decide +kernel
theorem dX3_meetChance_52 : decode cX3_meetChance 52 = .ok (.aload_n 0, 1) := by decide +kernel
theorem dX3_meetChance_53 : decode cX3_meetChance 53 = .ok (.getfield 19, 3) := by decide +kernel
theorem dX3_meetChance_56 : decode cX3_meetChance 56 = .ok (.iload 5, 2) := by decide +kernel
theorem dX3_meetChance_58 : decode cX3_meetChance 58 = .ok (.iaload, 1) := by decide +kernel
theorem dX3_meetChance_59 : decode cX3_meetChance 59 = .ok (.aload_n 1, 1) := by decide +kernel
theorem dX3_meetChance_60 : decode cX3_meetChance 60 = .ok (.iconst 2, 1) := by decide +kernel
theorem dX3_meetChance_61 : decode cX3_meetChance 61 = .ok (.iload_n 3, 1) := by decide +kernel
theorem dX3_meetChance_62 : decode cX3_meetChance 62 = .ok (.imul, 1) := by decide +kernel
theorem dX3_meetChance_63 : decode cX3_meetChance 63 = .ok (.iconst 1, 1) := by decide +kernel
theorem dX3_meetChance_64 : decode cX3_meetChance 64 = .ok (.iadd, 1) := by decide +kernel
theorem dX3_meetChance_65 : decode cX3_meetChance 65 = .ok (.invokevirtual 46, 3) := by decide +kernel
theorem dX3_meetChance_68 : decode cX3_meetChance 68 = .ok (.iadd, 1) := by decide +kernel
theorem dX3_meetChance_69 : decode cX3_meetChance 69 = .ok (.iload_n 3, 1) := by decide +kernel
theorem dX3_meetChance_70 : decode cX3_meetChance 70 = .ok (.isub, 1) := by decide +kernel
theorem dX3_meetChance_71 : decode cX3_meetChance 71 = .ok (.goto 10, 3) := by decide +kernel
theorem dX3_meetChance_74 : decode cX3_meetChance 74 = .ok (.aload_n 0, 1) := by decide +kernel
theorem dX3_meetChance_75 : decode cX3_meetChance 75 = .ok (.getfield 19, 3) := by decide +kernel
theorem dX3_meetChance_78 : decode cX3_meetChance 78 = .ok (.iload 5, 2) := by decide +kernel
theorem dX3_meetChance_80 : decode cX3_meetChance 80 = .ok (.iaload, 1) := by decide +kernel
theorem dX3_meetChance_81 : decode cX3_meetChance 81 = .ok (.istore 7, 2) := by decide +kernel
theorem dX3_meetChance_83 : decode cX3_meetChance 83 = .ok (.aload_n 0, 1) := by decide +kernel
theorem dX3_meetChance_84 : decode cX3_meetChance 84 = .ok (.aload_n 0, 1) := by decide +kernel
theorem dX3_meetChance_85 : decode cX3_meetChance 85 = .ok (.getfield 15, 3) := by decide +kernel
theorem dX3_meetChance_88 : decode cX3_meetChance 88 = .ok (.iload 5, 2) := by decide +kernel
theorem dX3_meetChance_90 : decode cX3_meetChance 90 = .ok (.iaload, 1) := by decide +kernel
theorem dX3_meetChance_91 : decode cX3_meetChance 91 = .ok (.iconst 0, 1) := by decide +kernel
theorem dX3_meetChance_92 : decode cX3_meetChance 92 = .ok (.iload 7, 2) := by decide +kernel
theorem dX3_meetChance_94 : decode cX3_meetChance 94 = .ok (.invokestatic 52, 3) := by decide +kernel
theorem dX3_meetChance_97 : decode cX3_meetChance 97 = .ok (.aload_n 0, 1) := by decide +kernel
theorem dX3_meetChance_98 : decode cX3_meetChance 98 = .ok (.getfield 22, 3) := by decide +kernel
theorem dX3_meetChance_101 : decode cX3_meetChance 101 = .ok (.iload 5, 2) := by decide +kernel
theorem dX3_meetChance_103 : decode cX3_meetChance 103 = .ok (.iaload, 1) := by decide +kernel
theorem dX3_meetChance_104 : decode cX3_meetChance 104 = .ok (.invokevirtual 55, 3) := by decide +kernel
theorem dX3_meetChance_107 : decode cX3_meetChance 107 = .ok (.iinc 5 1, 3) := by decide +kernel
theorem dX3_meetChance_110 : decode cX3_meetChance 110 = .ok (.goto (-91), 3) := by decide +kernel
theorem dX3_meetChance_113 : decode cX3_meetChance 113 = .ok (.return_, 1) := by decide +kernel
theorem dX3_insert_0 : decode cX3_insert 0 = .ok (.aload_n 0, 1) := by decide +kernel
theorem dX3_insert_1 : decode cX3_insert 1 = .ok (.getfield 9, 3) := by decide +kernel
theorem dX3_insert_4 : decode cX3_insert 4 = .ok (.ifCond .lt 12, 3) := by decide +kernel
theorem dX3_insert_7 : decode cX3_insert 7 = .ok (.aload_n 0, 1) := by decide +kernel
theorem dX3_insert_8 : decode cX3_insert 8 = .ok (.getfield 9, 3) := by decide +kernel
theorem dX3_insert_11 : decode cX3_insert 11 = .ok (.bipush 15, 2) := by decide +kernel
theorem dX3_insert_13 : decode cX3_insert 13 = .ok (.if_icmp .lt 4, 3) := by decide +kernel
theorem dX3_insert_16 : decode cX3_insert 16 = .ok (.return_, 1) := by decide +kernel
theorem dX3_insert_17 : decode cX3_insert 17 = .ok (.aload_n 0, 1) := by decide +kernel
theorem dX3_insert_18 : decode cX3_insert 18 = .ok (.getfield 9, 3) := by decide +kernel
theorem dX3_insert_21 : decode cX3_insert 21 = .ok (.istore 4, 2) := by decide +kernel
theorem dX3_insert_23 : decode cX3_insert 23 = .ok (.iload 4, 2) := by decide +kernel
theorem dX3_insert_25 : decode cX3_insert 25 = .ok (.ifCond .le 56, 3) := by decide +kernel
theorem dX3_insert_28 : decode cX3_insert 28 = .ok (.aload_n 0, 1) := by decide +kernel
theorem dX3_insert_29 : decode cX3_insert 29 = .ok (.iload_n 1, 1) := by decide +kernel
theorem dX3_insert_30 : decode cX3_insert 30 = .ok (.iload_n 2, 1) := by decide +kernel
theorem dX3_insert_31 : decode cX3_insert 31 = .ok (.iload_n 3, 1) := by decide +kernel
theorem dX3_insert_32 : decode cX3_insert 32 = .ok (.iload 4, 2) := by decide +kernel
theorem dX3_insert_34 : decode cX3_insert 34 = .ok (.iconst 1, 1) := by decide +kernel
theorem dX3_insert_35 : decode cX3_insert 35 = .ok (.isub, 1) := by decide +kernel
theorem dX3_insert_36 : decode cX3_insert 36 = .ok (.invokevirtual 59, 3) := by decide +kernel
theorem dX3_insert_39 : decode cX3_insert 39 = .ok (.ifCond .eq 42, 3) := by decide +kernel
theorem dX3_insert_42 : decode cX3_insert 42 = .ok (.aload_n 0, 1) := by decide +kernel
theorem dX3_insert_43 : decode cX3_insert 43 = .ok (.iload 4, 2) := by decide +kernel
theorem dX3_insert_45 : decode cX3_insert 45 = .ok (.aload_n 0, 1) := by decide +kernel
theorem dX3_insert_46 : decode cX3_insert 46 = .ok (.getfield 15, 3) := by decide +kernel
theorem dX3_insert_49 : decode cX3_insert 49 = .ok (.iload 4, 2) := by decide +kernel
theorem dX3_insert_51 : decode cX3_insert 51 = .ok (.iconst 1, 1) := by decide +kernel
theorem dX3_insert_52 : decode cX3_insert 52 = .ok (.isub, 1) := by decide +kernel
theorem dX3_insert_53 : decode cX3_insert 53 = .ok (.iaload, 1) := by decide +kernel
theorem dX3_insert_54 : decode cX3_insert 54 = .ok (.aload_n 0, 1) := by decide +kernel
theorem dX3_insert_55 : decode cX3_insert 55 = .ok (.getfield 19, 3) := by decide +kernel
theorem dX3_insert_58 : decode cX3_insert 58 = .ok (.iload 4, 2) := by decide +kernel
theorem dX3_insert_60 : decode cX3_insert 60 = .ok (.iconst 1, 1) := by decide +kernel
theorem dX3_insert_61 : decode cX3_insert 61 = .ok (.isub, 1) := by decide +kernel
theorem dX3_insert_62 : decode cX3_insert 62 = .ok (.iaload, 1) := by decide +kernel
theorem dX3_insert_63 : decode cX3_insert 63 = .ok (.aload_n 0, 1) := by decide +kernel
theorem dX3_insert_64 : decode cX3_insert 64 = .ok (.getfield 22, 3) := by decide +kernel
theorem dX3_insert_67 : decode cX3_insert 67 = .ok (.iload 4, 2) := by decide +kernel
theorem dX3_insert_69 : decode cX3_insert 69 = .ok (.iconst 1, 1) := by decide +kernel
theorem dX3_insert_70 : decode cX3_insert 70 = .ok (.isub, 1) := by decide +kernel
theorem dX3_insert_71 : decode cX3_insert 71 = .ok (.iaload, 1) := by decide +kernel
theorem dX3_insert_72 : decode cX3_insert 72 = .ok (.invokevirtual 36, 3) := by decide +kernel
theorem dX3_insert_75 : decode cX3_insert 75 = .ok (.iinc 4 (-1), 3) := by decide +kernel
theorem dX3_insert_78 : decode cX3_insert 78 = .ok (.goto (-55), 3) := by decide +kernel
theorem dX3_insert_81 : decode cX3_insert 81 = .ok (.aload_n 0, 1) := by decide +kernel
theorem dX3_insert_82 : decode cX3_insert 82 = .ok (.iload 4, 2) := by decide +kernel
theorem dX3_insert_84 : decode cX3_insert 84 = .ok (.iload_n 1, 1) := by decide +kernel
theorem dX3_insert_85 : decode cX3_insert 85 = .ok (.iload_n 2, 1) := by decide +kernel
theorem dX3_insert_86 : decode cX3_insert 86 = .ok (.iload_n 3, 1) := by decide +kernel
theorem dX3_insert_87 : decode cX3_insert 87 = .ok (.invokevirtual 36, 3) := by decide +kernel
theorem dX3_insert_90 : decode cX3_insert 90 = .ok (.aload_n 0, 1) := by decide +kernel
theorem dX3_insert_91 : decode cX3_insert 91 = .ok (.dup, 1) := by decide +kernel
theorem dX3_insert_92 : decode cX3_insert 92 = .ok (.getfield 9, 3) := by decide +kernel
theorem dX3_insert_95 : decode cX3_insert 95 = .ok (.iconst 1, 1) := by decide +kernel
theorem dX3_insert_96 : decode cX3_insert 96 = .ok (.iadd, 1) := by decide +kernel
theorem dX3_insert_97 : decode cX3_insert 97 = .ok (.putfield 9, 3) := by decide +kernel
theorem dX3_insert_100 : decode cX3_insert 100 = .ok (.return_, 1) := by decide +kernel
theorem dX3_comesBefore_0 : decode cX3_comesBefore 0 = .ok (.iload 4, 2) := by decide +kernel
theorem dX3_comesBefore_2 : decode cX3_comesBefore 2 = .ok (.ifCond .lt 10, 3) := by decide +kernel
theorem dX3_comesBefore_5 : decode cX3_comesBefore 5 = .ok (.iload 4, 2) := by decide +kernel
theorem dX3_comesBefore_7 : decode cX3_comesBefore 7 = .ok (.bipush 15, 2) := by decide +kernel
theorem dX3_comesBefore_9 : decode cX3_comesBefore 9 = .ok (.if_icmp .lt 5, 3) := by decide +kernel
theorem dX3_comesBefore_12 : decode cX3_comesBefore 12 = .ok (.iconst 0, 1) := by decide +kernel
theorem dX3_comesBefore_13 : decode cX3_comesBefore 13 = .ok (.ireturn, 1) := by decide +kernel
theorem dX3_comesBefore_14 : decode cX3_comesBefore 14 = .ok (.iload_n 2, 1) := by decide +kernel
theorem dX3_comesBefore_15 : decode cX3_comesBefore 15 = .ok (.aload_n 0, 1) := by decide +kernel
theorem dX3_comesBefore_16 : decode cX3_comesBefore 16 = .ok (.getfield 19, 3) := by decide +kernel
theorem dX3_comesBefore_19 : decode cX3_comesBefore 19 = .ok (.iload 4, 2) := by decide +kernel
theorem dX3_comesBefore_21 : decode cX3_comesBefore 21 = .ok (.iaload, 1) := by decide +kernel
theorem dX3_comesBefore_22 : decode cX3_comesBefore 22 = .ok (.if_icmp .eq 20, 3) := by decide +kernel
theorem dX3_comesBefore_25 : decode cX3_comesBefore 25 = .ok (.iload_n 2, 1) := by decide +kernel
theorem dX3_comesBefore_26 : decode cX3_comesBefore 26 = .ok (.aload_n 0, 1) := by decide +kernel
theorem dX3_comesBefore_27 : decode cX3_comesBefore 27 = .ok (.getfield 19, 3) := by decide +kernel
theorem dX3_comesBefore_30 : decode cX3_comesBefore 30 = .ok (.iload 4, 2) := by decide +kernel
theorem dX3_comesBefore_32 : decode cX3_comesBefore 32 = .ok (.iaload, 1) := by decide +kernel
theorem dX3_comesBefore_33 : decode cX3_comesBefore 33 = .ok (.if_icmp .ge 7, 3) := by decide +kernel
theorem dX3_comesBefore_36 : decode cX3_comesBefore 36 = .ok (.iconst 1, 1) := by decide +kernel
theorem dX3_comesBefore_37 : decode cX3_comesBefore 37 = .ok (.goto 4, 3) := by decide +kernel
theorem dX3_comesBefore_40 : decode cX3_comesBefore 40 = .ok (.iconst 0, 1) := by decide +kernel
theorem dX3_comesBefore_41 : decode cX3_comesBefore 41 = .ok (.ireturn, 1) := by decide +kernel
theorem dX3_comesBefore_42 : decode cX3_comesBefore 42 = .ok (.iload_n 3, 1) := by decide +kernel
theorem dX3_comesBefore_43 : decode cX3_comesBefore 43 = .ok (.aload_n 0, 1) := by decide +kernel
theorem dX3_comesBefore_44 : decode cX3_comesBefore 44 = .ok (.getfield 22, 3) := by decide +kernel
theorem dX3_comesBefore_47 : decode cX3_comesBefore 47 = .ok (.iload 4, 2) := by decide +kernel
theorem dX3_comesBefore_49 : decode cX3_comesBefore 49 = .ok (.iaload, 1) := by decide +kernel
theorem dX3_comesBefore_50 : decode cX3_comesBefore 50 = .ok (.if_icmp .eq 20, 3) := by decide +kernel
theorem dX3_comesBefore_53 : decode cX3_comesBefore 53 = .ok (.iload_n 3, 1) := by decide +kernel
theorem dX3_comesBefore_54 : decode cX3_comesBefore 54 = .ok (.aload_n 0, 1) := by decide +kernel
theorem dX3_comesBefore_55 : decode cX3_comesBefore 55 = .ok (.getfield 22, 3) := by decide +kernel
theorem dX3_comesBefore_58 : decode cX3_comesBefore 58 = .ok (.iload 4, 2) := by decide +kernel
theorem dX3_comesBefore_60 : decode cX3_comesBefore 60 = .ok (.iaload, 1) := by decide +kernel
theorem dX3_comesBefore_61 : decode cX3_comesBefore 61 = .ok (.if_icmp .le 7, 3) := by decide +kernel
theorem dX3_comesBefore_64 : decode cX3_comesBefore 64 = .ok (.iconst 1, 1) := by decide +kernel
theorem dX3_comesBefore_65 : decode cX3_comesBefore 65 = .ok (.goto 4, 3) := by decide +kernel
theorem dX3_comesBefore_68 : decode cX3_comesBefore 68 = .ok (.iconst 0, 1) := by decide +kernel
theorem dX3_comesBefore_69 : decode cX3_comesBefore 69 = .ok (.ireturn, 1) := by decide +kernel
theorem dX3_comesBefore_70 : decode cX3_comesBefore 70 = .ok (.iload_n 1, 1) := by decide +kernel
theorem dX3_comesBefore_71 : decode cX3_comesBefore 71 = .ok (.aload_n 0, 1) := by decide +kernel
theorem dX3_comesBefore_72 : decode cX3_comesBefore 72 = .ok (.getfield 15, 3) := by decide +kernel
theorem dX3_comesBefore_75 : decode cX3_comesBefore 75 = .ok (.iload 4, 2) := by decide +kernel
theorem dX3_comesBefore_77 : decode cX3_comesBefore 77 = .ok (.iaload, 1) := by decide +kernel
theorem dX3_comesBefore_78 : decode cX3_comesBefore 78 = .ok (.if_icmp .ge 7, 3) := by decide +kernel
theorem dX3_comesBefore_81 : decode cX3_comesBefore 81 = .ok (.iconst 1, 1) := by decide +kernel
theorem dX3_comesBefore_82 : decode cX3_comesBefore 82 = .ok (.goto 4, 3) := by decide +kernel
theorem dX3_comesBefore_85 : decode cX3_comesBefore 85 = .ok (.iconst 0, 1) := by decide +kernel
theorem dX3_comesBefore_86 : decode cX3_comesBefore 86 = .ok (.ireturn, 1) := by decide +kernel
theorem dX3_bestOf_0 : decode cX3_bestOf 0 = .ok (.iconst (-1), 1) := by decide +kernel
theorem dX3_bestOf_1 : decode cX3_bestOf 1 = .ok (.istore_n 3, 1) := by decide +kernel
theorem dX3_bestOf_2 : decode cX3_bestOf 2 = .ok (.iconst 0, 1) := by decide +kernel
theorem dX3_bestOf_3 : decode cX3_bestOf 3 = .ok (.istore 4, 2) := by decide +kernel
theorem dX3_bestOf_5 : decode cX3_bestOf 5 = .ok (.iload 4, 2) := by decide +kernel
theorem dX3_bestOf_7 : decode cX3_bestOf 7 = .ok (.aload_n 0, 1) := by decide +kernel
theorem dX3_bestOf_8 : decode cX3_bestOf 8 = .ok (.getfield 9, 3) := by decide +kernel
theorem dX3_bestOf_11 : decode cX3_bestOf 11 = .ok (.if_icmp .ge 49, 3) := by decide +kernel
theorem dX3_bestOf_14 : decode cX3_bestOf 14 = .ok (.aload_n 0, 1) := by decide +kernel
theorem dX3_bestOf_15 : decode cX3_bestOf 15 = .ok (.iload 4, 2) := by decide +kernel
theorem dX3_bestOf_17 : decode cX3_bestOf 17 = .ok (.iconst 1, 1) := by decide +kernel
theorem dX3_bestOf_18 : decode cX3_bestOf 18 = .ok (.invokevirtual 63, 3) := by decide +kernel
theorem dX3_bestOf_21 : decode cX3_bestOf 21 = .ok (.ifCond .eq 33, 3) := by decide +kernel
theorem dX3_bestOf_24 : decode cX3_bestOf 24 = .ok (.aload_n 0, 1) := by decide +kernel
theorem dX3_bestOf_25 : decode cX3_bestOf 25 = .ok (.iload 4, 2) := by decide +kernel
theorem dX3_bestOf_27 : decode cX3_bestOf 27 = .ok (.iconst 2, 1) := by decide +kernel
theorem dX3_bestOf_28 : decode cX3_bestOf 28 = .ok (.invokevirtual 63, 3) := by decide +kernel
theorem dX3_bestOf_31 : decode cX3_bestOf 31 = .ok (.ifCond .ne 23, 3) := by decide +kernel
theorem dX3_bestOf_34 : decode cX3_bestOf 34 = .ok (.iload_n 3, 1) := by decide +kernel
theorem dX3_bestOf_35 : decode cX3_bestOf 35 = .ok (.iconst (-1), 1) := by decide +kernel
theorem dX3_bestOf_36 : decode cX3_bestOf 36 = .ok (.if_icmp .eq 15, 3) := by decide +kernel
theorem dX3_bestOf_39 : decode cX3_bestOf 39 = .ok (.aload_n 0, 1) := by decide +kernel
theorem dX3_bestOf_40 : decode cX3_bestOf 40 = .ok (.iload 4, 2) := by decide +kernel
theorem dX3_bestOf_42 : decode cX3_bestOf 42 = .ok (.iload_n 3, 1) := by decide +kernel
theorem dX3_bestOf_43 : decode cX3_bestOf 43 = .ok (.iload_n 1, 1) := by decide +kernel
theorem dX3_bestOf_44 : decode cX3_bestOf 44 = .ok (.iload_n 2, 1) := by decide +kernel
theorem dX3_bestOf_45 : decode cX3_bestOf 45 = .ok (.invokevirtual 67, 3) := by decide +kernel
theorem dX3_bestOf_48 : decode cX3_bestOf 48 = .ok (.ifCond .eq 6, 3) := by decide +kernel
theorem dX3_bestOf_51 : decode cX3_bestOf 51 = .ok (.iload 4, 2) := by decide +kernel
theorem dX3_bestOf_53 : decode cX3_bestOf 53 = .ok (.istore_n 3, 1) := by decide +kernel
theorem dX3_bestOf_54 : decode cX3_bestOf 54 = .ok (.iinc 4 1, 3) := by decide +kernel
theorem dX3_bestOf_57 : decode cX3_bestOf 57 = .ok (.goto (-52), 3) := by decide +kernel
theorem dX3_bestOf_60 : decode cX3_bestOf 60 = .ok (.iload_n 3, 1) := by decide +kernel
theorem dX3_bestOf_61 : decode cX3_bestOf 61 = .ok (.ireturn, 1) := by decide +kernel
theorem dX3_isBetter_0 : decode cX3_isBetter 0 = .ok (.iload_n 3, 1) := by decide +kernel
theorem dX3_isBetter_1 : decode cX3_isBetter 1 = .ok (.iconst 1, 1) := by decide +kernel
theorem dX3_isBetter_2 : decode cX3_isBetter 2 = .ok (.if_icmp .ne 22, 3) := by decide +kernel
theorem dX3_isBetter_5 : decode cX3_isBetter 5 = .ok (.aload_n 0, 1) := by decide +kernel
theorem dX3_isBetter_6 : decode cX3_isBetter 6 = .ok (.iload_n 1, 1) := by decide +kernel
theorem dX3_isBetter_7 : decode cX3_isBetter 7 = .ok (.invokevirtual 70, 3) := by decide +kernel
theorem dX3_isBetter_10 : decode cX3_isBetter 10 = .ok (.aload_n 0, 1) := by decide +kernel
theorem dX3_isBetter_11 : decode cX3_isBetter 11 = .ok (.iload_n 2, 1) := by decide +kernel
theorem dX3_isBetter_12 : decode cX3_isBetter 12 = .ok (.invokevirtual 70, 3) := by decide +kernel
theorem dX3_isBetter_15 : decode cX3_isBetter 15 = .ok (.if_icmp .le 7, 3) := by decide +kernel
theorem dX3_isBetter_18 : decode cX3_isBetter 18 = .ok (.iconst 1, 1) := by decide +kernel
theorem dX3_isBetter_19 : decode cX3_isBetter 19 = .ok (.goto 4, 3) := by decide +kernel
theorem dX3_isBetter_22 : decode cX3_isBetter 22 = .ok (.iconst 0, 1) := by decide +kernel
theorem dX3_isBetter_23 : decode cX3_isBetter 23 = .ok (.ireturn, 1) := by decide +kernel
theorem dX3_isBetter_24 : decode cX3_isBetter 24 = .ok (.iload_n 3, 1) := by decide +kernel
theorem dX3_isBetter_25 : decode cX3_isBetter 25 = .ok (.iconst 2, 1) := by decide +kernel
theorem dX3_isBetter_26 : decode cX3_isBetter 26 = .ok (.if_icmp .ne 40, 3) := by decide +kernel
theorem dX3_isBetter_29 : decode cX3_isBetter 29 = .ok (.iload 4, 2) := by decide +kernel
theorem dX3_isBetter_31 : decode cX3_isBetter 31 = .ok (.iconst (-1), 1) := by decide +kernel
theorem dX3_isBetter_32 : decode cX3_isBetter 32 = .ok (.if_icmp .eq 34, 3) := by decide +kernel
theorem dX3_isBetter_35 : decode cX3_isBetter 35 = .ok (.aload_n 0, 1) := by decide +kernel
theorem dX3_isBetter_36 : decode cX3_isBetter 36 = .ok (.iload_n 1, 1) := by decide +kernel
theorem dX3_isBetter_37 : decode cX3_isBetter 37 = .ok (.invokevirtual 73, 3) := by decide +kernel
theorem dX3_isBetter_40 : decode cX3_isBetter 40 = .ok (.iload 4, 2) := by decide +kernel
theorem dX3_isBetter_42 : decode cX3_isBetter 42 = .ok (.isub, 1) := by decide +kernel
theorem dX3_isBetter_43 : decode cX3_isBetter 43 = .ok (.invokestatic 76, 3) := by decide +kernel
theorem dX3_isBetter_46 : decode cX3_isBetter 46 = .ok (.aload_n 0, 1) := by decide +kernel
theorem dX3_isBetter_47 : decode cX3_isBetter 47 = .ok (.iload_n 2, 1) := by decide +kernel
theorem dX3_isBetter_48 : decode cX3_isBetter 48 = .ok (.invokevirtual 73, 3) := by decide +kernel
theorem dX3_isBetter_51 : decode cX3_isBetter 51 = .ok (.iload 4, 2) := by decide +kernel
theorem dX3_isBetter_53 : decode cX3_isBetter 53 = .ok (.isub, 1) := by decide +kernel
theorem dX3_isBetter_54 : decode cX3_isBetter 54 = .ok (.invokestatic 76, 3) := by decide +kernel
theorem dX3_isBetter_57 : decode cX3_isBetter 57 = .ok (.if_icmp .ge 7, 3) := by decide +kernel
theorem dX3_isBetter_60 : decode cX3_isBetter 60 = .ok (.iconst 1, 1) := by decide +kernel
theorem dX3_isBetter_61 : decode cX3_isBetter 61 = .ok (.goto 4, 3) := by decide +kernel
theorem dX3_isBetter_64 : decode cX3_isBetter 64 = .ok (.iconst 0, 1) := by decide +kernel
theorem dX3_isBetter_65 : decode cX3_isBetter 65 = .ok (.ireturn, 1) := by decide +kernel
theorem dX3_isBetter_66 : decode cX3_isBetter 66 = .ok (.iconst 0, 1) := by decide +kernel
theorem dX3_isBetter_67 : decode cX3_isBetter 67 = .ok (.ireturn, 1) := by decide +kernel
theorem dX3_value_0 : decode cX3_value 0 = .ok (.aload_n 0, 1) := by decide +kernel
theorem dX3_value_1 : decode cX3_value 1 = .ok (.iload_n 1, 1) := by decide +kernel
theorem dX3_value_2 : decode cX3_value 2 = .ok (.invokevirtual 32, 3) := by decide +kernel
theorem dX3_value_5 : decode cX3_value 5 = .ok (.ifCond .ne 5, 3) := by decide +kernel
theorem dX3_value_8 : decode cX3_value 8 = .ok (.iconst (-1), 1) := by decide +kernel
theorem dX3_value_9 : decode cX3_value 9 = .ok (.ireturn, 1) := by decide +kernel
theorem dX3_value_10 : decode cX3_value 10 = .ok (.iload_n 2, 1) := by decide +kernel
theorem dX3_value_11 : decode cX3_value 11 = .ok (.tableswitch 100 0 5 #[37, 43, 49, 55, 70, 85], 37) := by decide +kernel
theorem dX3_value_48 : decode cX3_value 48 = .ok (.aload_n 0, 1) := by decide +kernel
theorem dX3_value_49 : decode cX3_value 49 = .ok (.iload_n 1, 1) := by decide +kernel
theorem dX3_value_50 : decode cX3_value 50 = .ok (.invokevirtual 79, 3) := by decide +kernel
theorem dX3_value_53 : decode cX3_value 53 = .ok (.ireturn, 1) := by decide +kernel
theorem dX3_value_54 : decode cX3_value 54 = .ok (.aload_n 0, 1) := by decide +kernel
theorem dX3_value_55 : decode cX3_value 55 = .ok (.iload_n 1, 1) := by decide +kernel
theorem dX3_value_56 : decode cX3_value 56 = .ok (.invokevirtual 73, 3) := by decide +kernel
theorem dX3_value_59 : decode cX3_value 59 = .ok (.ireturn, 1) := by decide +kernel
theorem dX3_value_60 : decode cX3_value 60 = .ok (.aload_n 0, 1) := by decide +kernel
theorem dX3_value_61 : decode cX3_value 61 = .ok (.iload_n 1, 1) := by decide +kernel
theorem dX3_value_62 : decode cX3_value 62 = .ok (.invokevirtual 70, 3) := by decide +kernel
theorem dX3_value_65 : decode cX3_value 65 = .ok (.ireturn, 1) := by decide +kernel
theorem dX3_value_66 : decode cX3_value 66 = .ok (.aload_n 0, 1) := by decide +kernel
theorem dX3_value_67 : decode cX3_value 67 = .ok (.iload_n 1, 1) := by decide +kernel
theorem dX3_value_68 : decode cX3_value 68 = .ok (.iconst 1, 1) := by decide +kernel
theorem dX3_value_69 : decode cX3_value 69 = .ok (.invokevirtual 63, 3) := by decide +kernel
theorem dX3_value_72 : decode cX3_value 72 = .ok (.ifCond .eq 7, 3) := by decide +kernel
theorem dX3_value_75 : decode cX3_value 75 = .ok (.iconst 1, 1) := by decide +kernel
theorem dX3_value_76 : decode cX3_value 76 = .ok (.goto 4, 3) := by decide +kernel
theorem dX3_value_79 : decode cX3_value 79 = .ok (.iconst 0, 1) := by decide +kernel
theorem dX3_value_80 : decode cX3_value 80 = .ok (.ireturn, 1) := by decide +kernel
theorem dX3_value_81 : decode cX3_value 81 = .ok (.aload_n 0, 1) := by decide +kernel
theorem dX3_value_82 : decode cX3_value 82 = .ok (.iload_n 1, 1) := by decide +kernel
theorem dX3_value_83 : decode cX3_value 83 = .ok (.iconst 2, 1) := by decide +kernel
theorem dX3_value_84 : decode cX3_value 84 = .ok (.invokevirtual 63, 3) := by decide +kernel
theorem dX3_value_87 : decode cX3_value 87 = .ok (.ifCond .eq 7, 3) := by decide +kernel
theorem dX3_value_90 : decode cX3_value 90 = .ok (.iconst 1, 1) := by decide +kernel
theorem dX3_value_91 : decode cX3_value 91 = .ok (.goto 4, 3) := by decide +kernel
theorem dX3_value_94 : decode cX3_value 94 = .ok (.iconst 0, 1) := by decide +kernel
theorem dX3_value_95 : decode cX3_value 95 = .ok (.ireturn, 1) := by decide +kernel
theorem dX3_value_96 : decode cX3_value 96 = .ok (.aload_n 0, 1) := by decide +kernel
theorem dX3_value_97 : decode cX3_value 97 = .ok (.iload_n 1, 1) := by decide +kernel
theorem dX3_value_98 : decode cX3_value 98 = .ok (.iconst 4, 1) := by decide +kernel
theorem dX3_value_99 : decode cX3_value 99 = .ok (.invokevirtual 63, 3) := by decide +kernel
theorem dX3_value_102 : decode cX3_value 102 = .ok (.ifCond .eq 7, 3) := by decide +kernel
theorem dX3_value_105 : decode cX3_value 105 = .ok (.iconst 1, 1) := by decide +kernel
theorem dX3_value_106 : decode cX3_value 106 = .ok (.goto 4, 3) := by decide +kernel
theorem dX3_value_109 : decode cX3_value 109 = .ok (.iconst 0, 1) := by decide +kernel
theorem dX3_value_110 : decode cX3_value 110 = .ok (.ireturn, 1) := by decide +kernel
theorem dX3_value_111 : decode cX3_value 111 = .ok (.iconst (-1), 1) := by decide +kernel
theorem dX3_value_112 : decode cX3_value 112 = .ok (.ireturn, 1) := by decide +kernel
theorem dX3_addToDigest_0 : decode cX3_addToDigest 0 = .ok (.lload_n 1, 1) := by decide +kernel
theorem dX3_addToDigest_1 : decode cX3_addToDigest 1 = .ok (.lstore_n 3, 1) := by decide +kernel
theorem dX3_addToDigest_2 : decode cX3_addToDigest 2 = .ok (.iconst 0, 1) := by decide +kernel
theorem dX3_addToDigest_3 : decode cX3_addToDigest 3 = .ok (.istore 5, 2) := by decide +kernel
theorem dX3_addToDigest_5 : decode cX3_addToDigest 5 = .ok (.iload 5, 2) := by decide +kernel
theorem dX3_addToDigest_7 : decode cX3_addToDigest 7 = .ok (.aload_n 0, 1) := by decide +kernel
theorem dX3_addToDigest_8 : decode cX3_addToDigest 8 = .ok (.getfield 9, 3) := by decide +kernel
theorem dX3_addToDigest_11 : decode cX3_addToDigest 11 = .ok (.if_icmp .ge 41, 3) := by decide +kernel
theorem dX3_addToDigest_14 : decode cX3_addToDigest 14 = .ok (.iconst 0, 1) := by decide +kernel
theorem dX3_addToDigest_15 : decode cX3_addToDigest 15 = .ok (.istore 6, 2) := by decide +kernel
theorem dX3_addToDigest_17 : decode cX3_addToDigest 17 = .ok (.iload 6, 2) := by decide +kernel
theorem dX3_addToDigest_19 : decode cX3_addToDigest 19 = .ok (.bipush 6, 2) := by decide +kernel
theorem dX3_addToDigest_21 : decode cX3_addToDigest 21 = .ok (.if_icmp .ge 25, 3) := by decide +kernel
theorem dX3_addToDigest_24 : decode cX3_addToDigest 24 = .ok (.ldc2_w 82, 3) := by decide +kernel
theorem dX3_addToDigest_27 : decode cX3_addToDigest 27 = .ok (.lload_n 3, 1) := by decide +kernel
theorem dX3_addToDigest_28 : decode cX3_addToDigest 28 = .ok (.lmul, 1) := by decide +kernel
theorem dX3_addToDigest_29 : decode cX3_addToDigest 29 = .ok (.aload_n 0, 1) := by decide +kernel
theorem dX3_addToDigest_30 : decode cX3_addToDigest 30 = .ok (.iload 5, 2) := by decide +kernel
theorem dX3_addToDigest_32 : decode cX3_addToDigest 32 = .ok (.iload 6, 2) := by decide +kernel
theorem dX3_addToDigest_34 : decode cX3_addToDigest 34 = .ok (.invokevirtual 84, 3) := by decide +kernel
theorem dX3_addToDigest_37 : decode cX3_addToDigest 37 = .ok (.i2l, 1) := by decide +kernel
theorem dX3_addToDigest_38 : decode cX3_addToDigest 38 = .ok (.ladd, 1) := by decide +kernel
theorem dX3_addToDigest_39 : decode cX3_addToDigest 39 = .ok (.lstore_n 3, 1) := by decide +kernel
theorem dX3_addToDigest_40 : decode cX3_addToDigest 40 = .ok (.iinc 6 1, 3) := by decide +kernel
theorem dX3_addToDigest_43 : decode cX3_addToDigest 43 = .ok (.goto (-26), 3) := by decide +kernel
theorem dX3_addToDigest_46 : decode cX3_addToDigest 46 = .ok (.iinc 5 1, 3) := by decide +kernel
theorem dX3_addToDigest_49 : decode cX3_addToDigest 49 = .ok (.goto (-44), 3) := by decide +kernel
theorem dX3_addToDigest_52 : decode cX3_addToDigest 52 = .ok (.lload_n 3, 1) := by decide +kernel
theorem dX3_addToDigest_53 : decode cX3_addToDigest 53 = .ok (.lreturn, 1) := by decide +kernel
theorem dX4_init_0 : decode cX4_init 0 = .ok (.aload_n 0, 1) := by decide +kernel
theorem dX4_init_1 : decode cX4_init 1 = .ok (.invokespecial 3, 3) := by decide +kernel
theorem dX4_init_4 : decode cX4_init 4 = .ok (.aload_n 0, 1) := by decide +kernel
theorem dX4_init_5 : decode cX4_init 5 = .ok (.bipush 9, 2) := by decide +kernel
theorem dX4_init_7 : decode cX4_init 7 = .ok (.newarray .int, 2) := by decide +kernel
theorem dX4_init_9 : decode cX4_init 9 = .ok (.putfield 9, 3) := by decide +kernel
theorem dX4_init_12 : decode cX4_init 12 = .ok (.aload_n 0, 1) := by decide +kernel
theorem dX4_init_13 : decode cX4_init 13 = .ok (.invokevirtual 15, 3) := by decide +kernel
theorem dX4_init_16 : decode cX4_init 16 = .ok (.return_, 1) := by decide +kernel
theorem dX4_reset_0 : decode cX4_reset 0 = .ok (.aload_n 0, 1) := by decide +kernel
theorem dX4_reset_1 : decode cX4_reset 1 = .ok (.iconst 0, 1) := by decide +kernel
theorem dX4_reset_2 : decode cX4_reset 2 = .ok (.putfield 18, 3) := by decide +kernel
theorem dX4_reset_5 : decode cX4_reset 5 = .ok (.aload_n 0, 1) := by decide +kernel
theorem dX4_reset_6 : decode cX4_reset 6 = .ok (.iconst (-1), 1) := by decide +kernel
theorem dX4_reset_7 : decode cX4_reset 7 = .ok (.putfield 22, 3) := by decide +kernel
theorem dX4_reset_10 : decode cX4_reset 10 = .ok (.aload_n 0, 1) := by decide +kernel
theorem dX4_reset_11 : decode cX4_reset 11 = .ok (.iconst 0, 1) := by decide +kernel
theorem dX4_reset_12 : decode cX4_reset 12 = .ok (.putfield 25, 3) := by decide +kernel
theorem dX4_reset_15 : decode cX4_reset 15 = .ok (.aload_n 0, 1) := by decide +kernel
theorem dX4_reset_16 : decode cX4_reset 16 = .ok (.iconst 0, 1) := by decide +kernel
theorem dX4_reset_17 : decode cX4_reset 17 = .ok (.putfield 28, 3) := by decide +kernel
theorem dX4_reset_20 : decode cX4_reset 20 = .ok (.aload_n 0, 1) := by decide +kernel
theorem dX4_reset_21 : decode cX4_reset 21 = .ok (.iconst 0, 1) := by decide +kernel
theorem dX4_reset_22 : decode cX4_reset 22 = .ok (.putfield 31, 3) := by decide +kernel
theorem dX4_reset_25 : decode cX4_reset 25 = .ok (.aload_n 0, 1) := by decide +kernel
theorem dX4_reset_26 : decode cX4_reset 26 = .ok (.iconst 0, 1) := by decide +kernel
theorem dX4_reset_27 : decode cX4_reset 27 = .ok (.putfield 34, 3) := by decide +kernel
theorem dX4_reset_30 : decode cX4_reset 30 = .ok (.aload_n 0, 1) := by decide +kernel
theorem dX4_reset_31 : decode cX4_reset 31 = .ok (.iconst 0, 1) := by decide +kernel
theorem dX4_reset_32 : decode cX4_reset 32 = .ok (.putfield 37, 3) := by decide +kernel
theorem dX4_reset_35 : decode cX4_reset 35 = .ok (.aload_n 0, 1) := by decide +kernel
theorem dX4_reset_36 : decode cX4_reset 36 = .ok (.iconst 0, 1) := by decide +kernel
theorem dX4_reset_37 : decode cX4_reset 37 = .ok (.putfield 40, 3) := by decide +kernel
theorem dX4_reset_40 : decode cX4_reset 40 = .ok (.return_, 1) := by decide +kernel
theorem dX4_copyFrom_0 : decode cX4_copyFrom 0 = .ok (.aload_n 1, 1) := by decide +kernel
theorem dX4_copyFrom_1 : decode cX4_copyFrom 1 = .ok (.getfield 9, 3) := by decide +kernel
theorem dX4_copyFrom_4 : decode cX4_copyFrom 4 = .ok (.aload_n 0, 1) := by decide +kernel
theorem dX4_copyFrom_5 : decode cX4_copyFrom 5 = .ok (.getfield 9, 3) := by decide +kernel
theorem dX4_copyFrom_8 : decode cX4_copyFrom 8 = .ok (.invokestatic 43, 3) := by decide +kernel
theorem dX4_copyFrom_11 : decode cX4_copyFrom 11 = .ok (.aload_n 0, 1) := by decide +kernel
theorem dX4_copyFrom_12 : decode cX4_copyFrom 12 = .ok (.aload_n 1, 1) := by decide +kernel
theorem dX4_copyFrom_13 : decode cX4_copyFrom 13 = .ok (.getfield 18, 3) := by decide +kernel
theorem dX4_copyFrom_16 : decode cX4_copyFrom 16 = .ok (.putfield 18, 3) := by decide +kernel
theorem dX4_copyFrom_19 : decode cX4_copyFrom 19 = .ok (.aload_n 0, 1) := by decide +kernel
theorem dX4_copyFrom_20 : decode cX4_copyFrom 20 = .ok (.aload_n 1, 1) := by decide +kernel
theorem dX4_copyFrom_21 : decode cX4_copyFrom 21 = .ok (.getfield 22, 3) := by decide +kernel
theorem dX4_copyFrom_24 : decode cX4_copyFrom 24 = .ok (.putfield 22, 3) := by decide +kernel
theorem dX4_copyFrom_27 : decode cX4_copyFrom 27 = .ok (.aload_n 0, 1) := by decide +kernel
theorem dX4_copyFrom_28 : decode cX4_copyFrom 28 = .ok (.aload_n 1, 1) := by decide +kernel
theorem dX4_copyFrom_29 : decode cX4_copyFrom 29 = .ok (.getfield 25, 3) := by decide +kernel
theorem dX4_copyFrom_32 : decode cX4_copyFrom 32 = .ok (.putfield 25, 3) := by decide +kernel
theorem dX4_copyFrom_35 : decode cX4_copyFrom 35 = .ok (.aload_n 0, 1) := by decide +kernel
theorem dX4_copyFrom_36 : decode cX4_copyFrom 36 = .ok (.aload_n 1, 1) := by decide +kernel
theorem dX4_copyFrom_37 : decode cX4_copyFrom 37 = .ok (.getfield 28, 3) := by decide +kernel
theorem dX4_copyFrom_40 : decode cX4_copyFrom 40 = .ok (.putfield 28, 3) := by decide +kernel
theorem dX4_copyFrom_43 : decode cX4_copyFrom 43 = .ok (.aload_n 0, 1) := by decide +kernel
theorem dX4_copyFrom_44 : decode cX4_copyFrom 44 = .ok (.aload_n 1, 1) := by decide +kernel
theorem dX4_copyFrom_45 : decode cX4_copyFrom 45 = .ok (.getfield 31, 3) := by decide +kernel
theorem dX4_copyFrom_48 : decode cX4_copyFrom 48 = .ok (.putfield 31, 3) := by decide +kernel
theorem dX4_copyFrom_51 : decode cX4_copyFrom 51 = .ok (.aload_n 0, 1) := by decide +kernel
theorem dX4_copyFrom_52 : decode cX4_copyFrom 52 = .ok (.aload_n 1, 1) := by decide +kernel
theorem dX4_copyFrom_53 : decode cX4_copyFrom 53 = .ok (.getfield 34, 3) := by decide +kernel
theorem dX4_copyFrom_56 : decode cX4_copyFrom 56 = .ok (.putfield 34, 3) := by decide +kernel
theorem dX4_copyFrom_59 : decode cX4_copyFrom 59 = .ok (.aload_n 0, 1) := by decide +kernel
theorem dX4_copyFrom_60 : decode cX4_copyFrom 60 = .ok (.aload_n 1, 1) := by decide +kernel
theorem dX4_copyFrom_61 : decode cX4_copyFrom 61 = .ok (.getfield 37, 3) := by decide +kernel
theorem dX4_copyFrom_64 : decode cX4_copyFrom 64 = .ok (.putfield 37, 3) := by decide +kernel
theorem dX4_copyFrom_67 : decode cX4_copyFrom 67 = .ok (.aload_n 0, 1) := by decide +kernel
theorem dX4_copyFrom_68 : decode cX4_copyFrom 68 = .ok (.aload_n 1, 1) := by decide +kernel
theorem dX4_copyFrom_69 : decode cX4_copyFrom 69 = .ok (.getfield 40, 3) := by decide +kernel
theorem dX4_copyFrom_72 : decode cX4_copyFrom 72 = .ok (.putfield 40, 3) := by decide +kernel
theorem dX4_copyFrom_75 : decode cX4_copyFrom 75 = .ok (.return_, 1) := by decide +kernel
theorem dX4_shorten_0 : decode cX4_shorten 0 = .ok (.aload_n 0, 1) := by decide +kernel
theorem dX4_shorten_1 : decode cX4_shorten 1 = .ok (.aload_n 0, 1) := by decide +kernel
theorem dX4_shorten_2 : decode cX4_shorten 2 = .ok (.getfield 18, 3) := by decide +kernel
theorem dX4_shorten_5 : decode cX4_shorten 5 = .ok (.iload_n 1, 1) := by decide +kernel
theorem dX4_shorten_6 : decode cX4_shorten 6 = .ok (.invokestatic 47, 3) := by decide +kernel
theorem dX4_shorten_9 : decode cX4_shorten 9 = .ok (.putfield 18, 3) := by decide +kernel
theorem dX4_shorten_12 : decode cX4_shorten 12 = .ok (.return_, 1) := by decide +kernel
theorem dX4_pickAt_0 : decode cX4_pickAt 0 = .ok (.iload_n 1, 1) := by decide +kernel
theorem dX4_pickAt_1 : decode cX4_pickAt 1 = .ok (.ifCond .lt 29, 3) := by decide +kernel
theorem dX4_pickAt_4 : decode cX4_pickAt 4 = .ok (.iload_n 1, 1) := by decide +kernel
theorem dX4_pickAt_5 : decode cX4_pickAt 5 = .ok (.aload_n 0, 1) := by decide +kernel
theorem dX4_pickAt_6 : decode cX4_pickAt 6 = .ok (.getfield 18, 3) := by decide +kernel
theorem dX4_pickAt_9 : decode cX4_pickAt 9 = .ok (.if_icmp .ge 21, 3) := by decide +kernel
theorem dX4_pickAt_12 : decode cX4_pickAt 12 = .ok (.iload_n 1, 1) := by decide +kernel
theorem dX4_pickAt_13 : decode cX4_pickAt 13 = .ok (.aload_n 0, 1) := by decide +kernel
theorem dX4_pickAt_14 : decode cX4_pickAt 14 = .ok (.getfield 9, 3) := by decide +kernel
theorem dX4_pickAt_17 : decode cX4_pickAt 17 = .ok (.arraylength, 1) := by decide +kernel
theorem dX4_pickAt_18 : decode cX4_pickAt 18 = .ok (.if_icmp .ge 12, 3) := by decide +kernel
theorem dX4_pickAt_21 : decode cX4_pickAt 21 = .ok (.aload_n 0, 1) := by decide +kernel
theorem dX4_pickAt_22 : decode cX4_pickAt 22 = .ok (.getfield 9, 3) := by decide +kernel
theorem dX4_pickAt_25 : decode cX4_pickAt 25 = .ok (.iload_n 1, 1) := by decide +kernel
theorem dX4_pickAt_26 : decode cX4_pickAt 26 = .ok (.iaload, 1) := by decide +kernel
theorem dX4_pickAt_27 : decode cX4_pickAt 27 = .ok (.goto 4, 3) := by decide +kernel
theorem dX4_pickAt_30 : decode cX4_pickAt 30 = .ok (.iconst (-1), 1) := by decide +kernel
theorem dX4_pickAt_31 : decode cX4_pickAt 31 = .ok (.ireturn, 1) := by decide +kernel
theorem dX4_pickCount_0 : decode cX4_pickCount 0 = .ok (.iconst 0, 1) := by decide +kernel
theorem dX4_pickCount_1 : decode cX4_pickCount 1 = .ok (.istore_n 1, 1) := by decide +kernel
theorem dX4_pickCount_2 : decode cX4_pickCount 2 = .ok (.iconst 0, 1) := by decide +kernel
theorem dX4_pickCount_3 : decode cX4_pickCount 3 = .ok (.istore_n 2, 1) := by decide +kernel
theorem dX4_pickCount_4 : decode cX4_pickCount 4 = .ok (.iload_n 2, 1) := by decide +kernel
theorem dX4_pickCount_5 : decode cX4_pickCount 5 = .ok (.aload_n 0, 1) := by decide +kernel
theorem dX4_pickCount_6 : decode cX4_pickCount 6 = .ok (.getfield 18, 3) := by decide +kernel
theorem dX4_pickCount_9 : decode cX4_pickCount 9 = .ok (.if_icmp .ge 21, 3) := by decide +kernel
theorem dX4_pickCount_12 : decode cX4_pickCount 12 = .ok (.aload_n 0, 1) := by decide +kernel
theorem dX4_pickCount_13 : decode cX4_pickCount 13 = .ok (.iload_n 2, 1) := by decide +kernel
theorem dX4_pickCount_14 : decode cX4_pickCount 14 = .ok (.invokevirtual 53, 3) := by decide +kernel
theorem dX4_pickCount_17 : decode cX4_pickCount 17 = .ok (.iconst (-1), 1) := by decide +kernel
theorem dX4_pickCount_18 : decode cX4_pickCount 18 = .ok (.if_icmp .eq 6, 3) := by decide +kernel
theorem dX4_pickCount_21 : decode cX4_pickCount 21 = .ok (.iinc 1 1, 3) := by decide +kernel
theorem dX4_pickCount_24 : decode cX4_pickCount 24 = .ok (.iinc 2 1, 3) := by decide +kernel
theorem dX4_pickCount_27 : decode cX4_pickCount 27 = .ok (.goto (-23), 3) := by decide +kernel
theorem dX4_pickCount_30 : decode cX4_pickCount 30 = .ok (.iload_n 1, 1) := by decide +kernel
theorem dX4_pickCount_31 : decode cX4_pickCount 31 = .ok (.ireturn, 1) := by decide +kernel
theorem dX4_pickSum_0 : decode cX4_pickSum 0 = .ok (.iconst 0, 1) := by decide +kernel
theorem dX4_pickSum_1 : decode cX4_pickSum 1 = .ok (.istore_n 1, 1) := by decide +kernel
theorem dX4_pickSum_2 : decode cX4_pickSum 2 = .ok (.iconst 0, 1) := by decide +kernel
theorem dX4_pickSum_3 : decode cX4_pickSum 3 = .ok (.istore_n 2, 1) := by decide +kernel
theorem dX4_pickSum_4 : decode cX4_pickSum 4 = .ok (.iload_n 2, 1) := by decide +kernel
theorem dX4_pickSum_5 : decode cX4_pickSum 5 = .ok (.aload_n 0, 1) := by decide +kernel
theorem dX4_pickSum_6 : decode cX4_pickSum 6 = .ok (.getfield 18, 3) := by decide +kernel
theorem dX4_pickSum_9 : decode cX4_pickSum 9 = .ok (.if_icmp .ge 26, 3) := by decide +kernel
theorem dX4_pickSum_12 : decode cX4_pickSum 12 = .ok (.aload_n 0, 1) := by decide +kernel
theorem dX4_pickSum_13 : decode cX4_pickSum 13 = .ok (.iload_n 2, 1) := by decide +kernel
theorem dX4_pickSum_14 : decode cX4_pickSum 14 = .ok (.invokevirtual 53, 3) := by decide +kernel
theorem dX4_pickSum_17 : decode cX4_pickSum 17 = .ok (.iconst (-1), 1) := by decide +kernel
theorem dX4_pickSum_18 : decode cX4_pickSum 18 = .ok (.if_icmp .eq 11, 3) := by decide +kernel
theorem dX4_pickSum_21 : decode cX4_pickSum 21 = .ok (.iload_n 1, 1) := by decide +kernel
theorem dX4_pickSum_22 : decode cX4_pickSum 22 = .ok (.aload_n 0, 1) := by decide +kernel
theorem dX4_pickSum_23 : decode cX4_pickSum 23 = .ok (.iload_n 2, 1) := by decide +kernel
theorem dX4_pickSum_24 : decode cX4_pickSum 24 = .ok (.invokevirtual 53, 3) := by decide +kernel
theorem dX4_pickSum_27 : decode cX4_pickSum 27 = .ok (.iadd, 1) := by decide +kernel
theorem dX4_pickSum_28 : decode cX4_pickSum 28 = .ok (.istore_n 1, 1) := by decide +kernel
theorem dX4_pickSum_29 : decode cX4_pickSum 29 = .ok (.iinc 2 1, 3) := by decide +kernel
theorem dX4_pickSum_32 : decode cX4_pickSum 32 = .ok (.goto (-28), 3) := by decide +kernel
theorem dX4_pickSum_35 : decode cX4_pickSum 35 = .ok (.iload_n 1, 1) := by decide +kernel
theorem dX4_pickSum_36 : decode cX4_pickSum 36 = .ok (.ireturn, 1) := by decide +kernel
theorem dX4_median_0 : decode cX4_median 0 = .ok (.aload_n 0, 1) := by decide +kernel
theorem dX4_median_1 : decode cX4_median 1 = .ok (.invokevirtual 57, 3) := by decide +kernel
theorem dX4_median_4 : decode cX4_median 4 = .ok (.istore_n 2, 1) := by decide +kernel
theorem dX4_median_5 : decode cX4_median 5 = .ok (.iconst 2, 1) := by decide +kernel
theorem dX4_median_6 : decode cX4_median 6 = .ok (.iload_n 2, 1) := by decide +kernel
theorem dX4_median_7 : decode cX4_median 7 = .ok (.imul, 1) := by decide +kernel
theorem dX4_median_8 : decode cX4_median 8 = .ok (.iload_n 1, 1) := by decide +kernel
theorem dX4_median_9 : decode cX4_median 9 = .ok (.if_icmp .lt 15, 3) := by decide +kernel
theorem dX4_median_12 : decode cX4_median 12 = .ok (.aload_n 0, 1) := by decide +kernel
theorem dX4_median_13 : decode cX4_median 13 = .ok (.iload_n 2, 1) := by decide +kernel
theorem dX4_median_14 : decode cX4_median 14 = .ok (.iconst 1, 1) := by decide +kernel
theorem dX4_median_15 : decode cX4_median 15 = .ok (.isub, 1) := by decide +kernel
theorem dX4_median_16 : decode cX4_median 16 = .ok (.iconst 2, 1) := by decide +kernel
theorem dX4_median_17 : decode cX4_median 17 = .ok (.idiv, 1) := by decide +kernel
theorem dX4_median_18 : decode cX4_median 18 = .ok (.invokevirtual 61, 3) := by decide +kernel
theorem dX4_median_21 : decode cX4_median 21 = .ok (.goto 4, 3) := by decide +kernel
theorem dX4_median_24 : decode cX4_median 24 = .ok (.iconst (-1), 1) := by decide +kernel
theorem dX4_median_25 : decode cX4_median 25 = .ok (.ireturn, 1) := by decide +kernel
theorem dX4_pickOfRank_0 : decode cX4_pickOfRank 0 = .ok (.iconst 0, 1) := by decide +kernel
theorem dX4_pickOfRank_1 : decode cX4_pickOfRank 1 = .ok (.istore_n 2, 1) := by decide +kernel
theorem dX4_pickOfRank_2 : decode cX4_pickOfRank 2 = .ok (.iload_n 2, 1) := by decide +kernel
theorem dX4_pickOfRank_3 : decode cX4_pickOfRank 3 = .ok (.aload_n 0, 1) := by decide +kernel
theorem dX4_pickOfRank_4 : decode cX4_pickOfRank 4 = .ok (.getfield 18, 3) := by decide +kernel
theorem dX4_pickOfRank_7 : decode cX4_pickOfRank 7 = .ok (.if_icmp .ge 42, 3) := by decide +kernel
theorem dX4_pickOfRank_10 : decode cX4_pickOfRank 10 = .ok (.aload_n 0, 1) := by decide +kernel
theorem dX4_pickOfRank_11 : decode cX4_pickOfRank 11 = .ok (.iload_n 2, 1) := by decide +kernel
theorem dX4_pickOfRank_12 : decode cX4_pickOfRank 12 = .ok (.invokevirtual 53, 3) := by decide +kernel
theorem dX4_pickOfRank_15 : decode cX4_pickOfRank 15 = .ok (.istore_n 3, 1) := by decide +kernel
theorem dX4_pickOfRank_16 : decode cX4_pickOfRank 16 = .ok (.iload_n 3, 1) := by decide +kernel
theorem dX4_pickOfRank_17 : decode cX4_pickOfRank 17 = .ok (.iconst (-1), 1) := by decide +kernel
theorem dX4_pickOfRank_18 : decode cX4_pickOfRank 18 = .ok (.if_icmp .eq 25, 3) := by decide +kernel
theorem dX4_pickOfRank_21 : decode cX4_pickOfRank 21 = .ok (.aload_n 0, 1) := by decide +kernel
theorem dX4_pickOfRank_22 : decode cX4_pickOfRank 22 = .ok (.iload_n 3, 1) := by decide +kernel
theorem dX4_pickOfRank_23 : decode cX4_pickOfRank 23 = .ok (.invokevirtual 64, 3) := by decide +kernel
theorem dX4_pickOfRank_26 : decode cX4_pickOfRank 26 = .ok (.iload_n 1, 1) := by decide +kernel
theorem dX4_pickOfRank_27 : decode cX4_pickOfRank 27 = .ok (.if_icmp .gt 16, 3) := by decide +kernel
theorem dX4_pickOfRank_30 : decode cX4_pickOfRank 30 = .ok (.iload_n 1, 1) := by decide +kernel
theorem dX4_pickOfRank_31 : decode cX4_pickOfRank 31 = .ok (.aload_n 0, 1) := by decide +kernel
theorem dX4_pickOfRank_32 : decode cX4_pickOfRank 32 = .ok (.iload_n 3, 1) := by decide +kernel
theorem dX4_pickOfRank_33 : decode cX4_pickOfRank 33 = .ok (.iconst 1, 1) := by decide +kernel
theorem dX4_pickOfRank_34 : decode cX4_pickOfRank 34 = .ok (.iadd, 1) := by decide +kernel
theorem dX4_pickOfRank_35 : decode cX4_pickOfRank 35 = .ok (.invokevirtual 64, 3) := by decide +kernel
theorem dX4_pickOfRank_38 : decode cX4_pickOfRank 38 = .ok (.if_icmp .ge 5, 3) := by decide +kernel
theorem dX4_pickOfRank_41 : decode cX4_pickOfRank 41 = .ok (.iload_n 3, 1) := by decide +kernel
theorem dX4_pickOfRank_42 : decode cX4_pickOfRank 42 = .ok (.ireturn, 1) := by decide +kernel
theorem dX4_pickOfRank_43 : decode cX4_pickOfRank 43 = .ok (.iinc 2 1, 3) := by decide +kernel
theorem dX4_pickOfRank_46 : decode cX4_pickOfRank 46 = .ok (.goto (-44), 3) := by decide +kernel
theorem dX4_pickOfRank_49 : decode cX4_pickOfRank 49 = .ok (.iconst (-1), 1) := by decide +kernel
theorem dX4_pickOfRank_50 : decode cX4_pickOfRank 50 = .ok (.ireturn, 1) := by decide +kernel
theorem dX4_picksBelow_0 : decode cX4_picksBelow 0 = .ok (.iconst 0, 1) := by decide +kernel
theorem dX4_picksBelow_1 : decode cX4_picksBelow 1 = .ok (.istore_n 2, 1) := by decide +kernel
theorem dX4_picksBelow_2 : decode cX4_picksBelow 2 = .ok (.iconst 0, 1) := by decide +kernel
theorem dX4_picksBelow_3 : decode cX4_picksBelow 3 = .ok (.istore_n 3, 1) := by decide +kernel
theorem dX4_picksBelow_4 : decode cX4_picksBelow 4 = .ok (.iload_n 3, 1) := by decide +kernel
theorem dX4_picksBelow_5 : decode cX4_picksBelow 5 = .ok (.aload_n 0, 1) := by decide +kernel
theorem dX4_picksBelow_6 : decode cX4_picksBelow 6 = .ok (.getfield 18, 3) := by decide +kernel
theorem dX4_picksBelow_9 : decode cX4_picksBelow 9 = .ok (.if_icmp .ge 41, 3) := by decide +kernel
theorem dX4_picksBelow_12 : decode cX4_picksBelow 12 = .ok (.iload_n 3, 1) := by decide +kernel
theorem dX4_picksBelow_13 : decode cX4_picksBelow 13 = .ok (.aload_n 0, 1) := by decide +kernel
theorem dX4_picksBelow_14 : decode cX4_picksBelow 14 = .ok (.getfield 9, 3) := by decide +kernel
theorem dX4_picksBelow_17 : decode cX4_picksBelow 17 = .ok (.arraylength, 1) := by decide +kernel
theorem dX4_picksBelow_18 : decode cX4_picksBelow 18 = .ok (.if_icmp .ge 32, 3) := by decide +kernel
theorem dX4_picksBelow_21 : decode cX4_picksBelow 21 = .ok (.aload_n 0, 1) := by decide +kernel
theorem dX4_picksBelow_22 : decode cX4_picksBelow 22 = .ok (.getfield 9, 3) := by decide +kernel
theorem dX4_picksBelow_25 : decode cX4_picksBelow 25 = .ok (.iload_n 3, 1) := by decide +kernel
theorem dX4_picksBelow_26 : decode cX4_picksBelow 26 = .ok (.iaload, 1) := by decide +kernel
theorem dX4_picksBelow_27 : decode cX4_picksBelow 27 = .ok (.iconst (-1), 1) := by decide +kernel
theorem dX4_picksBelow_28 : decode cX4_picksBelow 28 = .ok (.if_icmp .eq 16, 3) := by decide +kernel
theorem dX4_picksBelow_31 : decode cX4_picksBelow 31 = .ok (.aload_n 0, 1) := by decide +kernel
theorem dX4_picksBelow_32 : decode cX4_picksBelow 32 = .ok (.getfield 9, 3) := by decide +kernel
theorem dX4_picksBelow_35 : decode cX4_picksBelow 35 = .ok (.iload_n 3, 1) := by decide +kernel
theorem dX4_picksBelow_36 : decode cX4_picksBelow 36 = .ok (.iaload, 1) := by decide +kernel
theorem dX4_picksBelow_37 : decode cX4_picksBelow 37 = .ok (.iload_n 1, 1) := by decide +kernel
theorem dX4_picksBelow_38 : decode cX4_picksBelow 38 = .ok (.if_icmp .ge 6, 3) := by decide +kernel
theorem dX4_picksBelow_41 : decode cX4_picksBelow 41 = .ok (.iinc 2 1, 3) := by decide +kernel
theorem dX4_picksBelow_44 : decode cX4_picksBelow 44 = .ok (.iinc 3 1, 3) := by decide +kernel
theorem dX4_picksBelow_47 : decode cX4_picksBelow 47 = .ok (.goto (-43), 3) := by decide +kernel
theorem dX4_picksBelow_50 : decode cX4_picksBelow 50 = .ok (.iload_n 2, 1) := by decide +kernel
theorem dX4_picksBelow_51 : decode cX4_picksBelow 51 = .ok (.ireturn, 1) := by decide +kernel
theorem dX4_toldLevel_0 : decode cX4_toldLevel 0 = .ok (.aload_n 0, 1) := by decide +kernel
theorem dX4_toldLevel_1 : decode cX4_toldLevel 1 = .ok (.getfield 22, 3) := by decide +kernel
theorem dX4_toldLevel_4 : decode cX4_toldLevel 4 = .ok (.iconst (-1), 1) := by decide +kernel
theorem dX4_toldLevel_5 : decode cX4_toldLevel 5 = .ok (.if_icmp .eq 12, 3) := by decide +kernel
theorem dX4_toldLevel_8 : decode cX4_toldLevel 8 = .ok (.iload_n 1, 1) := by decide +kernel
theorem dX4_toldLevel_9 : decode cX4_toldLevel 9 = .ok (.aload_n 0, 1) := by decide +kernel
theorem dX4_toldLevel_10 : decode cX4_toldLevel 10 = .ok (.getfield 22, 3) := by decide +kernel
theorem dX4_toldLevel_13 : decode cX4_toldLevel 13 = .ok (.isub, 1) := by decide +kernel
theorem dX4_toldLevel_14 : decode cX4_toldLevel 14 = .ok (.goto 4, 3) := by decide +kernel
theorem dX4_toldLevel_17 : decode cX4_toldLevel 17 = .ok (.iconst (-1), 1) := by decide +kernel
theorem dX4_toldLevel_18 : decode cX4_toldLevel 18 = .ok (.ireturn, 1) := by decide +kernel
theorem dX4_enter_0 : decode cX4_enter 0 = .ok (.aload_n 0, 1) := by decide +kernel
theorem dX4_enter_1 : decode cX4_enter 1 = .ok (.dup, 1) := by decide +kernel
theorem dX4_enter_2 : decode cX4_enter 2 = .ok (.getfield 31, 3) := by decide +kernel
theorem dX4_enter_5 : decode cX4_enter 5 = .ok (.iconst 1, 1) := by decide +kernel
theorem dX4_enter_6 : decode cX4_enter 6 = .ok (.iadd, 1) := by decide +kernel
theorem dX4_enter_7 : decode cX4_enter 7 = .ok (.putfield 31, 3) := by decide +kernel
theorem dX4_enter_10 : decode cX4_enter 10 = .ok (.iload_n 1, 1) := by decide +kernel
theorem dX4_enter_11 : decode cX4_enter 11 = .ok (.iconst (-1), 1) := by decide +kernel
theorem dX4_enter_12 : decode cX4_enter 12 = .ok (.if_icmp .eq 13, 3) := by decide +kernel
theorem dX4_enter_15 : decode cX4_enter 15 = .ok (.aload_n 0, 1) := by decide +kernel
theorem dX4_enter_16 : decode cX4_enter 16 = .ok (.dup, 1) := by decide +kernel
theorem dX4_enter_17 : decode cX4_enter 17 = .ok (.getfield 34, 3) := by decide +kernel
theorem dX4_enter_20 : decode cX4_enter 20 = .ok (.iconst 1, 1) := by decide +kernel
theorem dX4_enter_21 : decode cX4_enter 21 = .ok (.iadd, 1) := by decide +kernel
theorem dX4_enter_22 : decode cX4_enter 22 = .ok (.putfield 34, 3) := by decide +kernel
theorem dX4_enter_25 : decode cX4_enter 25 = .ok (.aload_n 0, 1) := by decide +kernel
theorem dX4_enter_26 : decode cX4_enter 26 = .ok (.iload_n 1, 1) := by decide +kernel
theorem dX4_enter_27 : decode cX4_enter 27 = .ok (.aload_n 2, 1) := by decide +kernel
theorem dX4_enter_28 : decode cX4_enter 28 = .ok (.bipush 6, 2) := by decide +kernel
theorem dX4_enter_30 : decode cX4_enter 30 = .ok (.invokevirtual 67, 3) := by decide +kernel
theorem dX4_enter_33 : decode cX4_enter 33 = .ok (.invokevirtual 72, 3) := by decide +kernel
theorem dX4_enter_36 : decode cX4_enter 36 = .ok (.aload_n 0, 1) := by decide +kernel
theorem dX4_enter_37 : decode cX4_enter 37 = .ok (.aload_n 2, 1) := by decide +kernel
theorem dX4_enter_38 : decode cX4_enter 38 = .ok (.bipush 6, 2) := by decide +kernel
theorem dX4_enter_40 : decode cX4_enter 40 = .ok (.invokevirtual 67, 3) := by decide +kernel
theorem dX4_enter_43 : decode cX4_enter 43 = .ok (.invokevirtual 76, 3) := by decide +kernel
theorem dX4_enter_46 : decode cX4_enter 46 = .ok (.istore 4, 2) := by decide +kernel
theorem dX4_enter_48 : decode cX4_enter 48 = .ok (.iload 4, 2) := by decide +kernel
theorem dX4_enter_50 : decode cX4_enter 50 = .ok (.iconst (-1), 1) := by decide +kernel
theorem dX4_enter_51 : decode cX4_enter 51 = .ok (.if_icmp .eq 23, 3) := by decide +kernel
theorem dX4_enter_54 : decode cX4_enter 54 = .ok (.aload_n 0, 1) := by decide +kernel
theorem dX4_enter_55 : decode cX4_enter 55 = .ok (.iload 4, 2) := by decide +kernel
theorem dX4_enter_57 : decode cX4_enter 57 = .ok (.aload_n 2, 1) := by decide +kernel
theorem dX4_enter_58 : decode cX4_enter 58 = .ok (.bipush 7, 2) := by decide +kernel
theorem dX4_enter_60 : decode cX4_enter 60 = .ok (.invokevirtual 67, 3) := by decide +kernel
theorem dX4_enter_63 : decode cX4_enter 63 = .ok (.invokevirtual 79, 3) := by decide +kernel
theorem dX4_enter_66 : decode cX4_enter 66 = .ok (.aload_n 0, 1) := by decide +kernel
theorem dX4_enter_67 : decode cX4_enter 67 = .ok (.iconst 0, 1) := by decide +kernel
theorem dX4_enter_68 : decode cX4_enter 68 = .ok (.putfield 25, 3) := by decide +kernel
theorem dX4_enter_71 : decode cX4_enter 71 = .ok (.goto 13, 3) := by decide +kernel
theorem dX4_enter_74 : decode cX4_enter 74 = .ok (.aload_n 0, 1) := by decide +kernel
theorem dX4_enter_75 : decode cX4_enter 75 = .ok (.aload_n 2, 1) := by decide +kernel
theorem dX4_enter_76 : decode cX4_enter 76 = .ok (.bipush 8, 2) := by decide +kernel
theorem dX4_enter_78 : decode cX4_enter 78 = .ok (.invokevirtual 67, 3) := by decide +kernel
theorem dX4_enter_81 : decode cX4_enter 81 = .ok (.invokevirtual 82, 3) := by decide +kernel
theorem dX4_enter_84 : decode cX4_enter 84 = .ok (.aload_n 0, 1) := by decide +kernel
theorem dX4_enter_85 : decode cX4_enter 85 = .ok (.aload_n 0, 1) := by decide +kernel
theorem dX4_enter_86 : decode cX4_enter 86 = .ok (.iload_n 3, 1) := by decide +kernel
theorem dX4_enter_87 : decode cX4_enter 87 = .ok (.invokevirtual 86, 3) := by decide +kernel
theorem dX4_enter_90 : decode cX4_enter 90 = .ok (.aload_n 2, 1) := by decide +kernel
theorem dX4_enter_91 : decode cX4_enter 91 = .ok (.invokevirtual 89, 3) := by decide +kernel
theorem dX4_enter_94 : decode cX4_enter 94 = .ok (.return_, 1) := by decide +kernel
theorem dX4_push_0 : decode cX4_push 0 = .ok (.aload_n 0, 1) := by decide +kernel
theorem dX4_push_1 : decode cX4_push 1 = .ok (.aload_n 0, 1) := by decide +kernel
theorem dX4_push_2 : decode cX4_push 2 = .ok (.getfield 18, 3) := by decide +kernel
theorem dX4_push_5 : decode cX4_push 5 = .ok (.iconst 1, 1) := by decide +kernel
theorem dX4_push_6 : decode cX4_push 6 = .ok (.iadd, 1) := by decide +kernel
theorem dX4_push_7 : decode cX4_push 7 = .ok (.iload_n 2, 1) := by decide +kernel
theorem dX4_push_8 : decode cX4_push 8 = .ok (.aload_n 0, 1) := by decide +kernel
theorem dX4_push_9 : decode cX4_push 9 = .ok (.getfield 9, 3) := by decide +kernel
theorem dX4_push_12 : decode cX4_push 12 = .ok (.arraylength, 1) := by decide +kernel
theorem dX4_push_13 : decode cX4_push 13 = .ok (.invokestatic 47, 3) := by decide +kernel
theorem dX4_push_16 : decode cX4_push 16 = .ok (.invokestatic 47, 3) := by decide +kernel
theorem dX4_push_19 : decode cX4_push 19 = .ok (.putfield 18, 3) := by decide +kernel
theorem dX4_push_22 : decode cX4_push 22 = .ok (.aload_n 0, 1) := by decide +kernel
theorem dX4_push_23 : decode cX4_push 23 = .ok (.getfield 18, 3) := by decide +kernel
theorem dX4_push_26 : decode cX4_push 26 = .ok (.iconst 1, 1) := by decide +kernel
theorem dX4_push_27 : decode cX4_push 27 = .ok (.isub, 1) := by decide +kernel
theorem dX4_push_28 : decode cX4_push 28 = .ok (.istore_n 3, 1) := by decide +kernel
theorem dX4_push_29 : decode cX4_push 29 = .ok (.iload_n 3, 1) := by decide +kernel
theorem dX4_push_30 : decode cX4_push 30 = .ok (.ifCond .le 23, 3) := by decide +kernel
theorem dX4_push_33 : decode cX4_push 33 = .ok (.aload_n 0, 1) := by decide +kernel
theorem dX4_push_34 : decode cX4_push 34 = .ok (.getfield 9, 3) := by decide +kernel
theorem dX4_push_37 : decode cX4_push 37 = .ok (.iload_n 3, 1) := by decide +kernel
theorem dX4_push_38 : decode cX4_push 38 = .ok (.aload_n 0, 1) := by decide +kernel
theorem dX4_push_39 : decode cX4_push 39 = .ok (.getfield 9, 3) := by decide +kernel
theorem dX4_push_42 : decode cX4_push 42 = .ok (.iload_n 3, 1) := by decide +kernel
theorem dX4_push_43 : decode cX4_push 43 = .ok (.iconst 1, 1) := by decide +kernel
theorem dX4_push_44 : decode cX4_push 44 = .ok (.isub, 1) := by decide +kernel
theorem dX4_push_45 : decode cX4_push 45 = .ok (.iaload, 1) := by decide +kernel
theorem dX4_push_46 : decode cX4_push 46 = .ok (.iastore, 1) := by decide +kernel
theorem dX4_push_47 : decode cX4_push 47 = .ok (.iinc 3 (-1), 3) := by decide +kernel
theorem dX4_push_50 : decode cX4_push 50 = .ok (.goto (-21), 3) := by decide +kernel
theorem dX4_push_53 : decode cX4_push 53 = .ok (.aload_n 0, 1) := by decide +kernel
theorem dX4_push_54 : decode cX4_push 54 = .ok (.getfield 9, 3) := by decide +kernel
theorem dX4_push_57 : decode cX4_push 57 = .ok (.iconst 0, 1) := by decide +kernel
theorem dX4_push_58 : decode cX4_push 58 = .ok (.iload_n 1, 1) := by decide +kernel
theorem dX4_push_59 : decode cX4_push 59 = .ok (.iastore, 1) := by decide +kernel
theorem dX4_push_60 : decode cX4_push 60 = .ok (.return_, 1) := by decide +kernel
theorem dX4_follow_0 : decode cX4_follow 0 = .ok (.iload_n 2, 1) := by decide +kernel
theorem dX4_follow_1 : decode cX4_follow 1 = .ok (.ifCond .le 14, 3) := by decide +kernel
theorem dX4_follow_4 : decode cX4_follow 4 = .ok (.iload_n 1, 1) := by decide +kernel
theorem dX4_follow_5 : decode cX4_follow 5 = .ok (.aload_n 0, 1) := by decide +kernel
theorem dX4_follow_6 : decode cX4_follow 6 = .ok (.getfield 22, 3) := by decide +kernel
theorem dX4_follow_9 : decode cX4_follow 9 = .ok (.isub, 1) := by decide +kernel
theorem dX4_follow_10 : decode cX4_follow 10 = .ok (.iload_n 2, 1) := by decide +kernel
theorem dX4_follow_11 : decode cX4_follow 11 = .ok (.idiv, 1) := by decide +kernel
theorem dX4_follow_12 : decode cX4_follow 12 = .ok (.goto 4, 3) := by decide +kernel
theorem dX4_follow_15 : decode cX4_follow 15 = .ok (.iconst 0, 1) := by decide +kernel
theorem dX4_follow_16 : decode cX4_follow 16 = .ok (.istore_n 3, 1) := by decide +kernel
theorem dX4_follow_17 : decode cX4_follow 17 = .ok (.aload_n 0, 1) := by decide +kernel
theorem dX4_follow_18 : decode cX4_follow 18 = .ok (.aload_n 0, 1) := by decide +kernel
theorem dX4_follow_19 : decode cX4_follow 19 = .ok (.getfield 22, 3) := by decide +kernel
theorem dX4_follow_22 : decode cX4_follow 22 = .ok (.iconst (-1), 1) := by decide +kernel
theorem dX4_follow_23 : decode cX4_follow 23 = .ok (.if_icmp .eq 7, 3) := by decide +kernel
theorem dX4_follow_26 : decode cX4_follow 26 = .ok (.iload_n 3, 1) := by decide +kernel
theorem dX4_follow_27 : decode cX4_follow 27 = .ok (.ifCond .ne 7, 3) := by decide +kernel
theorem dX4_follow_30 : decode cX4_follow 30 = .ok (.iload_n 1, 1) := by decide +kernel
theorem dX4_follow_31 : decode cX4_follow 31 = .ok (.goto 9, 3) := by decide +kernel
theorem dX4_follow_34 : decode cX4_follow 34 = .ok (.aload_n 0, 1) := by decide +kernel
theorem dX4_follow_35 : decode cX4_follow 35 = .ok (.getfield 22, 3) := by decide +kernel
theorem dX4_follow_38 : decode cX4_follow 38 = .ok (.iload_n 3, 1) := by decide +kernel
theorem dX4_follow_39 : decode cX4_follow 39 = .ok (.iadd, 1) := by decide +kernel
theorem dX4_follow_40 : decode cX4_follow 40 = .ok (.putfield 22, 3) := by decide +kernel
theorem dX4_follow_43 : decode cX4_follow 43 = .ok (.return_, 1) := by decide +kernel
theorem dX4_miss_0 : decode cX4_miss 0 = .ok (.aload_n 0, 1) := by decide +kernel
theorem dX4_miss_1 : decode cX4_miss 1 = .ok (.dup, 1) := by decide +kernel
theorem dX4_miss_2 : decode cX4_miss 2 = .ok (.getfield 25, 3) := by decide +kernel
theorem dX4_miss_5 : decode cX4_miss 5 = .ok (.iconst 1, 1) := by decide +kernel
theorem dX4_miss_6 : decode cX4_miss 6 = .ok (.iadd, 1) := by decide +kernel
theorem dX4_miss_7 : decode cX4_miss 7 = .ok (.putfield 25, 3) := by decide +kernel
theorem dX4_miss_10 : decode cX4_miss 10 = .ok (.aload_n 0, 1) := by decide +kernel
theorem dX4_miss_11 : decode cX4_miss 11 = .ok (.getfield 25, 3) := by decide +kernel
theorem dX4_miss_14 : decode cX4_miss 14 = .ok (.iload_n 1, 1) := by decide +kernel
theorem dX4_miss_15 : decode cX4_miss 15 = .ok (.if_icmp .ne 32, 3) := by decide +kernel
theorem dX4_miss_18 : decode cX4_miss 18 = .ok (.aload_n 0, 1) := by decide +kernel
theorem dX4_miss_19 : decode cX4_miss 19 = .ok (.iconst (-1), 1) := by decide +kernel
theorem dX4_miss_20 : decode cX4_miss 20 = .ok (.putfield 22, 3) := by decide +kernel
theorem dX4_miss_23 : decode cX4_miss 23 = .ok (.iconst 0, 1) := by decide +kernel
theorem dX4_miss_24 : decode cX4_miss 24 = .ok (.istore_n 2, 1) := by decide +kernel
theorem dX4_miss_25 : decode cX4_miss 25 = .ok (.iload_n 2, 1) := by decide +kernel
theorem dX4_miss_26 : decode cX4_miss 26 = .ok (.aload_n 0, 1) := by decide +kernel
theorem dX4_miss_27 : decode cX4_miss 27 = .ok (.getfield 9, 3) := by decide +kernel
theorem dX4_miss_30 : decode cX4_miss 30 = .ok (.arraylength, 1) := by decide +kernel
theorem dX4_miss_31 : decode cX4_miss 31 = .ok (.if_icmp .ge 16, 3) := by decide +kernel
theorem dX4_miss_34 : decode cX4_miss 34 = .ok (.aload_n 0, 1) := by decide +kernel
theorem dX4_miss_35 : decode cX4_miss 35 = .ok (.getfield 9, 3) := by decide +kernel
theorem dX4_miss_38 : decode cX4_miss 38 = .ok (.iload_n 2, 1) := by decide +kernel
theorem dX4_miss_39 : decode cX4_miss 39 = .ok (.iconst (-1), 1) := by decide +kernel
theorem dX4_miss_40 : decode cX4_miss 40 = .ok (.iastore, 1) := by decide +kernel
theorem dX4_miss_41 : decode cX4_miss 41 = .ok (.iinc 2 1, 3) := by decide +kernel
theorem dX4_miss_44 : decode cX4_miss 44 = .ok (.goto (-19), 3) := by decide +kernel
theorem dX4_miss_47 : decode cX4_miss 47 = .ok (.return_, 1) := by decide +kernel
theorem dX4_judgeAlarm_0 : decode cX4_judgeAlarm 0 = .ok (.aload_n 0, 1) := by decide +kernel
theorem dX4_judgeAlarm_1 : decode cX4_judgeAlarm 1 = .ok (.getfield 28, 3) := by decide +kernel
theorem dX4_judgeAlarm_4 : decode cX4_judgeAlarm 4 = .ok (.istore_n 3, 1) := by decide +kernel
theorem dX4_judgeAlarm_5 : decode cX4_judgeAlarm 5 = .ok (.iload_n 1, 1) := by decide +kernel
theorem dX4_judgeAlarm_6 : decode cX4_judgeAlarm 6 = .ok (.iconst (-1), 1) := by decide +kernel
theorem dX4_judgeAlarm_7 : decode cX4_judgeAlarm 7 = .ok (.if_icmp .ne 11, 3) := by decide +kernel
theorem dX4_judgeAlarm_10 : decode cX4_judgeAlarm 10 = .ok (.aload_n 0, 1) := by decide +kernel
theorem dX4_judgeAlarm_11 : decode cX4_judgeAlarm 11 = .ok (.iconst 0, 1) := by decide +kernel
theorem dX4_judgeAlarm_12 : decode cX4_judgeAlarm 12 = .ok (.putfield 28, 3) := by decide +kernel
theorem dX4_judgeAlarm_15 : decode cX4_judgeAlarm 15 = .ok (.goto 88, 3) := by decide +kernel
theorem dX4_judgeAlarm_18 : decode cX4_judgeAlarm 18 = .ok (.iload_n 1, 1) := by decide +kernel
theorem dX4_judgeAlarm_19 : decode cX4_judgeAlarm 19 = .ok (.aload_n 2, 1) := by decide +kernel
theorem dX4_judgeAlarm_20 : decode cX4_judgeAlarm 20 = .ok (.bipush 9, 2) := by decide +kernel
theorem dX4_judgeAlarm_22 : decode cX4_judgeAlarm 22 = .ok (.invokevirtual 67, 3) := by decide +kernel
theorem dX4_judgeAlarm_25 : decode cX4_judgeAlarm 25 = .ok (.if_icmp .gt 11, 3) := by decide +kernel
theorem dX4_judgeAlarm_28 : decode cX4_judgeAlarm 28 = .ok (.aload_n 0, 1) := by decide +kernel
theorem dX4_judgeAlarm_29 : decode cX4_judgeAlarm 29 = .ok (.iconst 1, 1) := by decide +kernel
theorem dX4_judgeAlarm_30 : decode cX4_judgeAlarm 30 = .ok (.putfield 28, 3) := by decide +kernel
theorem dX4_judgeAlarm_33 : decode cX4_judgeAlarm 33 = .ok (.goto 70, 3) := by decide +kernel
theorem dX4_judgeAlarm_36 : decode cX4_judgeAlarm 36 = .ok (.iload_n 1, 1) := by decide +kernel
theorem dX4_judgeAlarm_37 : decode cX4_judgeAlarm 37 = .ok (.aload_n 2, 1) := by decide +kernel
theorem dX4_judgeAlarm_38 : decode cX4_judgeAlarm 38 = .ok (.bipush 10, 2) := by decide +kernel
theorem dX4_judgeAlarm_40 : decode cX4_judgeAlarm 40 = .ok (.invokevirtual 67, 3) := by decide +kernel
theorem dX4_judgeAlarm_43 : decode cX4_judgeAlarm 43 = .ok (.if_icmp .lt 11, 3) := by decide +kernel
theorem dX4_judgeAlarm_46 : decode cX4_judgeAlarm 46 = .ok (.aload_n 0, 1) := by decide +kernel
theorem dX4_judgeAlarm_47 : decode cX4_judgeAlarm 47 = .ok (.iconst 2, 1) := by decide +kernel
theorem dX4_judgeAlarm_48 : decode cX4_judgeAlarm 48 = .ok (.putfield 28, 3) := by decide +kernel
theorem dX4_judgeAlarm_51 : decode cX4_judgeAlarm 51 = .ok (.goto 52, 3) := by decide +kernel
theorem dX4_judgeAlarm_54 : decode cX4_judgeAlarm 54 = .ok (.iload_n 3, 1) := by decide +kernel
theorem dX4_judgeAlarm_55 : decode cX4_judgeAlarm 55 = .ok (.iconst 1, 1) := by decide +kernel
theorem dX4_judgeAlarm_56 : decode cX4_judgeAlarm 56 = .ok (.if_icmp .ne 20, 3) := by decide +kernel
theorem dX4_judgeAlarm_59 : decode cX4_judgeAlarm 59 = .ok (.iload_n 1, 1) := by decide +kernel
theorem dX4_judgeAlarm_60 : decode cX4_judgeAlarm 60 = .ok (.aload_n 2, 1) := by decide +kernel
theorem dX4_judgeAlarm_61 : decode cX4_judgeAlarm 61 = .ok (.bipush 9, 2) := by decide +kernel
theorem dX4_judgeAlarm_63 : decode cX4_judgeAlarm 63 = .ok (.invokevirtual 67, 3) := by decide +kernel
theorem dX4_judgeAlarm_66 : decode cX4_judgeAlarm 66 = .ok (.aload_n 2, 1) := by decide +kernel
theorem dX4_judgeAlarm_67 : decode cX4_judgeAlarm 67 = .ok (.bipush 11, 2) := by decide +kernel
theorem dX4_judgeAlarm_69 : decode cX4_judgeAlarm 69 = .ok (.invokevirtual 67, 3) := by decide +kernel
theorem dX4_judgeAlarm_72 : decode cX4_judgeAlarm 72 = .ok (.iadd, 1) := by decide +kernel
theorem dX4_judgeAlarm_73 : decode cX4_judgeAlarm 73 = .ok (.if_icmp .gt 25, 3) := by decide +kernel
theorem dX4_judgeAlarm_76 : decode cX4_judgeAlarm 76 = .ok (.iload_n 3, 1) := by decide +kernel
theorem dX4_judgeAlarm_77 : decode cX4_judgeAlarm 77 = .ok (.iconst 2, 1) := by decide +kernel
theorem dX4_judgeAlarm_78 : decode cX4_judgeAlarm 78 = .ok (.if_icmp .ne 25, 3) := by decide +kernel
theorem dX4_judgeAlarm_81 : decode cX4_judgeAlarm 81 = .ok (.iload_n 1, 1) := by decide +kernel
theorem dX4_judgeAlarm_82 : decode cX4_judgeAlarm 82 = .ok (.aload_n 2, 1) := by decide +kernel
theorem dX4_judgeAlarm_83 : decode cX4_judgeAlarm 83 = .ok (.bipush 10, 2) := by decide +kernel
theorem dX4_judgeAlarm_85 : decode cX4_judgeAlarm 85 = .ok (.invokevirtual 67, 3) := by decide +kernel
theorem dX4_judgeAlarm_88 : decode cX4_judgeAlarm 88 = .ok (.aload_n 2, 1) := by decide +kernel
theorem dX4_judgeAlarm_89 : decode cX4_judgeAlarm 89 = .ok (.bipush 11, 2) := by decide +kernel
theorem dX4_judgeAlarm_91 : decode cX4_judgeAlarm 91 = .ok (.invokevirtual 67, 3) := by decide +kernel
theorem dX4_judgeAlarm_94 : decode cX4_judgeAlarm 94 = .ok (.isub, 1) := by decide +kernel
theorem dX4_judgeAlarm_95 : decode cX4_judgeAlarm 95 = .ok (.if_icmp .ge 8, 3) := by decide +kernel
theorem dX4_judgeAlarm_98 : decode cX4_judgeAlarm 98 = .ok (.aload_n 0, 1) := by decide +kernel
theorem dX4_judgeAlarm_99 : decode cX4_judgeAlarm 99 = .ok (.iconst 0, 1) := by decide +kernel
theorem dX4_judgeAlarm_100 : decode cX4_judgeAlarm 100 = .ok (.putfield 28, 3) := by decide +kernel
theorem dX4_judgeAlarm_103 : decode cX4_judgeAlarm 103 = .ok (.aload_n 0, 1) := by decide +kernel
theorem dX4_judgeAlarm_104 : decode cX4_judgeAlarm 104 = .ok (.getfield 28, 3) := by decide +kernel
theorem dX4_judgeAlarm_107 : decode cX4_judgeAlarm 107 = .ok (.ifCond .eq 21, 3) := by decide +kernel
theorem dX4_judgeAlarm_110 : decode cX4_judgeAlarm 110 = .ok (.aload_n 0, 1) := by decide +kernel
theorem dX4_judgeAlarm_111 : decode cX4_judgeAlarm 111 = .ok (.getfield 28, 3) := by decide +kernel
theorem dX4_judgeAlarm_114 : decode cX4_judgeAlarm 114 = .ok (.iload_n 3, 1) := by decide +kernel
theorem dX4_judgeAlarm_115 : decode cX4_judgeAlarm 115 = .ok (.if_icmp .eq 13, 3) := by decide +kernel
theorem dX4_judgeAlarm_118 : decode cX4_judgeAlarm 118 = .ok (.aload_n 0, 1) := by decide +kernel
theorem dX4_judgeAlarm_119 : decode cX4_judgeAlarm 119 = .ok (.dup, 1) := by decide +kernel
theorem dX4_judgeAlarm_120 : decode cX4_judgeAlarm 120 = .ok (.getfield 40, 3) := by decide +kernel
theorem dX4_judgeAlarm_123 : decode cX4_judgeAlarm 123 = .ok (.iconst 1, 1) := by decide +kernel
theorem dX4_judgeAlarm_124 : decode cX4_judgeAlarm 124 = .ok (.iadd, 1) := by decide +kernel
theorem dX4_judgeAlarm_125 : decode cX4_judgeAlarm 125 = .ok (.putfield 40, 3) := by decide +kernel
theorem dX4_judgeAlarm_128 : decode cX4_judgeAlarm 128 = .ok (.return_, 1) := by decide +kernel
theorem dX5_init_0 : decode cX5_init 0 = .ok (.aload_n 0, 1) := by decide +kernel
theorem dX5_init_1 : decode cX5_init 1 = .ok (.invokespecial 3, 3) := by decide +kernel
theorem dX5_init_4 : decode cX5_init 4 = .ok (.aload_n 0, 1) := by decide +kernel
theorem dX5_init_5 : decode cX5_init 5 = .ok (.bipush 8, 2) := by decide +kernel
theorem dX5_init_7 : decode cX5_init 7 = .ok (.newarray .long, 2) := by decide +kernel
theorem dX5_init_9 : decode cX5_init 9 = .ok (.putfield 11, 3) := by decide +kernel
theorem dX5_init_12 : decode cX5_init 12 = .ok (.aload_n 0, 1) := by decide +kernel
theorem dX5_init_13 : decode cX5_init 13 = .ok (.iconst 0, 1) := by decide +kernel
theorem dX5_init_14 : decode cX5_init 14 = .ok (.putfield 15, 3) := by decide +kernel
theorem dX5_init_17 : decode cX5_init 17 = .ok (.return_, 1) := by decide +kernel
theorem dX5_reset_0 : decode cX5_reset 0 = .ok (.iconst 0, 1) := by decide +kernel
theorem dX5_reset_1 : decode cX5_reset 1 = .ok (.istore_n 1, 1) := by decide +kernel
theorem dX5_reset_2 : decode cX5_reset 2 = .ok (.iload_n 1, 1) := by decide +kernel
theorem dX5_reset_3 : decode cX5_reset 3 = .ok (.aload_n 0, 1) := by decide +kernel
theorem dX5_reset_4 : decode cX5_reset 4 = .ok (.getfield 11, 3) := by decide +kernel
theorem dX5_reset_7 : decode cX5_reset 7 = .ok (.arraylength, 1) := by decide +kernel
theorem dX5_reset_8 : decode cX5_reset 8 = .ok (.if_icmp .ge 16, 3) := by decide +kernel
theorem dX5_reset_11 : decode cX5_reset 11 = .ok (.aload_n 0, 1) := by decide +kernel
theorem dX5_reset_12 : decode cX5_reset 12 = .ok (.getfield 11, 3) := by decide +kernel
theorem dX5_reset_15 : decode cX5_reset 15 = .ok (.iload_n 1, 1) := by decide +kernel
theorem dX5_reset_16 : decode cX5_reset 16 = .ok (.lconst 0, 1) := by decide +kernel
theorem dX5_reset_17 : decode cX5_reset 17 = .ok (.lastore, 1) := by decide +kernel
theorem dX5_reset_18 : decode cX5_reset 18 = .ok (.iinc 1 1, 3) := by decide +kernel
theorem dX5_reset_21 : decode cX5_reset 21 = .ok (.goto (-19), 3) := by decide +kernel
theorem dX5_reset_24 : decode cX5_reset 24 = .ok (.aload_n 0, 1) := by decide +kernel
theorem dX5_reset_25 : decode cX5_reset 25 = .ok (.iconst 0, 1) := by decide +kernel
theorem dX5_reset_26 : decode cX5_reset 26 = .ok (.putfield 15, 3) := by decide +kernel
theorem dX5_reset_29 : decode cX5_reset 29 = .ok (.return_, 1) := by decide +kernel
theorem dX5_copyFrom_0 : decode cX5_copyFrom 0 = .ok (.aload_n 1, 1) := by decide +kernel
theorem dX5_copyFrom_1 : decode cX5_copyFrom 1 = .ok (.getfield 11, 3) := by decide +kernel
theorem dX5_copyFrom_4 : decode cX5_copyFrom 4 = .ok (.iconst 0, 1) := by decide +kernel
theorem dX5_copyFrom_5 : decode cX5_copyFrom 5 = .ok (.aload_n 0, 1) := by decide +kernel
theorem dX5_copyFrom_6 : decode cX5_copyFrom 6 = .ok (.getfield 11, 3) := by decide +kernel
theorem dX5_copyFrom_9 : decode cX5_copyFrom 9 = .ok (.iconst 0, 1) := by decide +kernel
theorem dX5_copyFrom_10 : decode cX5_copyFrom 10 = .ok (.aload_n 1, 1) := by decide +kernel
theorem dX5_copyFrom_11 : decode cX5_copyFrom 11 = .ok (.getfield 11, 3) := by decide +kernel
theorem dX5_copyFrom_14 : decode cX5_copyFrom 14 = .ok (.arraylength, 1) := by decide +kernel
theorem dX5_copyFrom_15 : decode cX5_copyFrom 15 = .ok (.aload_n 0, 1) := by decide +kernel
theorem dX5_copyFrom_16 : decode cX5_copyFrom 16 = .ok (.getfield 11, 3) := by decide +kernel
theorem dX5_copyFrom_19 : decode cX5_copyFrom 19 = .ok (.arraylength, 1) := by decide +kernel
theorem dX5_copyFrom_20 : decode cX5_copyFrom 20 = .ok (.invokestatic 19, 3) := by decide +kernel
theorem dX5_copyFrom_23 : decode cX5_copyFrom 23 = .ok (.invokestatic 25, 3) := by decide +kernel
theorem dX5_copyFrom_26 : decode cX5_copyFrom 26 = .ok (.aload_n 0, 1) := by decide +kernel
theorem dX5_copyFrom_27 : decode cX5_copyFrom 27 = .ok (.aload_n 1, 1) := by decide +kernel
theorem dX5_copyFrom_28 : decode cX5_copyFrom 28 = .ok (.getfield 15, 3) := by decide +kernel
theorem dX5_copyFrom_31 : decode cX5_copyFrom 31 = .ok (.putfield 15, 3) := by decide +kernel
theorem dX5_copyFrom_34 : decode cX5_copyFrom 34 = .ok (.return_, 1) := by decide +kernel
theorem dX5_covers_0 : decode cX5_covers 0 = .ok (.aload_n 0, 1) := by decide +kernel
theorem dX5_covers_1 : decode cX5_covers 1 = .ok (.iload_n 1, 1) := by decide +kernel
theorem dX5_covers_2 : decode cX5_covers 2 = .ok (.bipush 20, 2) := by decide +kernel
theorem dX5_covers_4 : decode cX5_covers 4 = .ok (.idiv, 1) := by decide +kernel
theorem dX5_covers_5 : decode cX5_covers 5 = .ok (.invokevirtual 31, 3) := by decide +kernel
theorem dX5_covers_8 : decode cX5_covers 8 = .ok (.ireturn, 1) := by decide +kernel
theorem dX5_hasBin_0 : decode cX5_hasBin 0 = .ok (.iload_n 1, 1) := by decide +kernel
theorem dX5_hasBin_1 : decode cX5_hasBin 1 = .ok (.bipush 64, 2) := by decide +kernel
theorem dX5_hasBin_3 : decode cX5_hasBin 3 = .ok (.idiv, 1) := by decide +kernel
theorem dX5_hasBin_4 : decode cX5_hasBin 4 = .ok (.istore_n 2, 1) := by decide +kernel
theorem dX5_hasBin_5 : decode cX5_hasBin 5 = .ok (.iload_n 1, 1) := by decide +kernel
theorem dX5_hasBin_6 : decode cX5_hasBin 6 = .ok (.ifCond .lt 32, 3) := by decide +kernel
theorem dX5_hasBin_9 : decode cX5_hasBin 9 = .ok (.iload_n 2, 1) := by decide +kernel
theorem dX5_hasBin_10 : decode cX5_hasBin 10 = .ok (.aload_n 0, 1) := by decide +kernel
theorem dX5_hasBin_11 : decode cX5_hasBin 11 = .ok (.getfield 11, 3) := by decide +kernel
theorem dX5_hasBin_14 : decode cX5_hasBin 14 = .ok (.arraylength, 1) := by decide +kernel
theorem dX5_hasBin_15 : decode cX5_hasBin 15 = .ok (.if_icmp .ge 23, 3) := by decide +kernel
theorem dX5_hasBin_18 : decode cX5_hasBin 18 = .ok (.aload_n 0, 1) := by decide +kernel
theorem dX5_hasBin_19 : decode cX5_hasBin 19 = .ok (.getfield 11, 3) := by decide +kernel
theorem dX5_hasBin_22 : decode cX5_hasBin 22 = .ok (.iload_n 2, 1) := by decide +kernel
theorem dX5_hasBin_23 : decode cX5_hasBin 23 = .ok (.laload, 1) := by decide +kernel
theorem dX5_hasBin_24 : decode cX5_hasBin 24 = .ok (.iload_n 1, 1) := by decide +kernel
theorem dX5_hasBin_25 : decode cX5_hasBin 25 = .ok (.invokestatic 35, 3) := by decide +kernel
theorem dX5_hasBin_28 : decode cX5_hasBin 28 = .ok (.land, 1) := by decide +kernel
theorem dX5_hasBin_29 : decode cX5_hasBin 29 = .ok (.lconst 0, 1) := by decide +kernel
theorem dX5_hasBin_30 : decode cX5_hasBin 30 = .ok (.lcmp, 1) := by decide +kernel
theorem dX5_hasBin_31 : decode cX5_hasBin 31 = .ok (.ifCond .eq 7, 3) := by decide +kernel
theorem dX5_hasBin_34 : decode cX5_hasBin 34 = .ok (.iconst 1, 1) := by decide +kernel
theorem dX5_hasBin_35 : decode cX5_hasBin 35 = .ok (.goto 4, 3) := by decide +kernel
theorem dX5_hasBin_38 : decode cX5_hasBin 38 = .ok (.iconst 0, 1) := by decide +kernel
theorem dX5_hasBin_39 : decode cX5_hasBin 39 = .ok (.ireturn, 1) := by decide +kernel
theorem dX5_put_0 : decode cX5_put 0 = .ok (.iload_n 1, 1) := by decide +kernel
theorem dX5_put_1 : decode cX5_put 1 = .ok (.bipush 20, 2) := by decide +kernel
theorem dX5_put_3 : decode cX5_put 3 = .ok (.idiv, 1) := by decide +kernel
theorem dX5_put_4 : decode cX5_put 4 = .ok (.istore_n 3, 1) := by decide +kernel
theorem dX5_put_5 : decode cX5_put 5 = .ok (.iload_n 3, 1) := by decide +kernel
theorem dX5_put_6 : decode cX5_put 6 = .ok (.bipush 64, 2) := by decide +kernel
theorem dX5_put_8 : decode cX5_put 8 = .ok (.idiv, 1) := by decide +kernel
theorem dX5_put_9 : decode cX5_put 9 = .ok (.istore 4, 2) := by decide +kernel
theorem dX5_put_11 : decode cX5_put 11 = .ok (.iload_n 3, 1) := by decide +kernel
theorem dX5_put_12 : decode cX5_put 12 = .ok (.ifCond .lt 22, 3) := by decide +kernel
theorem dX5_put_15 : decode cX5_put 15 = .ok (.iload 4, 2) := by decide +kernel
theorem dX5_put_17 : decode cX5_put 17 = .ok (.aload_n 0, 1) := by decide +kernel
theorem dX5_put_18 : decode cX5_put 18 = .ok (.getfield 11, 3) := by decide +kernel
theorem dX5_put_21 : decode cX5_put 21 = .ok (.arraylength, 1) := by decide +kernel
theorem dX5_put_22 : decode cX5_put 22 = .ok (.if_icmp .ge 12, 3) := by decide +kernel
theorem dX5_put_25 : decode cX5_put 25 = .ok (.aload_n 0, 1) := by decide +kernel
theorem dX5_put_26 : decode cX5_put 26 = .ok (.iload_n 3, 1) := by decide +kernel
theorem dX5_put_27 : decode cX5_put 27 = .ok (.invokevirtual 31, 3) := by decide +kernel
theorem dX5_put_30 : decode cX5_put 30 = .ok (.iload_n 2, 1) := by decide +kernel
theorem dX5_put_31 : decode cX5_put 31 = .ok (.if_icmp .ne 4, 3) := by decide +kernel
theorem dX5_put_34 : decode cX5_put 34 = .ok (.return_, 1) := by decide +kernel
theorem dX5_put_35 : decode cX5_put 35 = .ok (.aload_n 0, 1) := by decide +kernel
theorem dX5_put_36 : decode cX5_put 36 = .ok (.getfield 11, 3) := by decide +kernel
theorem dX5_put_39 : decode cX5_put 39 = .ok (.iload 4, 2) := by decide +kernel
theorem dX5_put_41 : decode cX5_put 41 = .ok (.dup2, 1) := by decide +kernel
theorem dX5_put_42 : decode cX5_put 42 = .ok (.laload, 1) := by decide +kernel
theorem dX5_put_43 : decode cX5_put 43 = .ok (.iload_n 3, 1) := by decide +kernel
theorem dX5_put_44 : decode cX5_put 44 = .ok (.invokestatic 35, 3) := by decide +kernel
theorem dX5_put_47 : decode cX5_put 47 = .ok (.lxor, 1) := by decide +kernel
theorem dX5_put_48 : decode cX5_put 48 = .ok (.lastore, 1) := by decide +kernel
theorem dX5_put_49 : decode cX5_put 49 = .ok (.aload_n 0, 1) := by decide +kernel
theorem dX5_put_50 : decode cX5_put 50 = .ok (.dup, 1) := by decide +kernel
theorem dX5_put_51 : decode cX5_put 51 = .ok (.getfield 15, 3) := by decide +kernel
theorem dX5_put_54 : decode cX5_put 54 = .ok (.iload_n 2, 1) := by decide +kernel
theorem dX5_put_55 : decode cX5_put 55 = .ok (.ifCond .eq 7, 3) := by decide +kernel
theorem dX5_put_58 : decode cX5_put 58 = .ok (.iconst 1, 1) := by decide +kernel
theorem dX5_put_59 : decode cX5_put 59 = .ok (.goto 4, 3) := by decide +kernel
theorem dX5_put_62 : decode cX5_put 62 = .ok (.iconst (-1), 1) := by decide +kernel
theorem dX5_put_63 : decode cX5_put 63 = .ok (.iadd, 1) := by decide +kernel
theorem dX5_put_64 : decode cX5_put 64 = .ok (.putfield 15, 3) := by decide +kernel
theorem dX5_put_67 : decode cX5_put 67 = .ok (.return_, 1) := by decide +kernel
theorem dX5_bit_0 : decode cX5_bit 0 = .ok (.lconst 1, 1) := by decide +kernel
theorem dX5_bit_1 : decode cX5_bit 1 = .ok (.iload_n 0, 1) := by decide +kernel
theorem dX5_bit_2 : decode cX5_bit 2 = .ok (.bipush 64, 2) := by decide +kernel
theorem dX5_bit_4 : decode cX5_bit 4 = .ok (.irem, 1) := by decide +kernel
theorem dX5_bit_5 : decode cX5_bit 5 = .ok (.lshl, 1) := by decide +kernel
theorem dX5_bit_6 : decode cX5_bit 6 = .ok (.lreturn, 1) := by decide +kernel
theorem dX5_addToDigest_0 : decode cX5_addToDigest 0 = .ok (.lload_n 1, 1) := by decide +kernel
theorem dX5_addToDigest_1 : decode cX5_addToDigest 1 = .ok (.lstore_n 3, 1) := by decide +kernel
theorem dX5_addToDigest_2 : decode cX5_addToDigest 2 = .ok (.iconst 0, 1) := by decide +kernel
theorem dX5_addToDigest_3 : decode cX5_addToDigest 3 = .ok (.istore 5, 2) := by decide +kernel
theorem dX5_addToDigest_5 : decode cX5_addToDigest 5 = .ok (.iload 5, 2) := by decide +kernel
theorem dX5_addToDigest_7 : decode cX5_addToDigest 7 = .ok (.sipush 501, 3) := by decide +kernel
theorem dX5_addToDigest_10 : decode cX5_addToDigest 10 = .ok (.if_icmp .ge 30, 3) := by decide +kernel
theorem dX5_addToDigest_13 : decode cX5_addToDigest 13 = .ok (.ldc2_w 39, 3) := by decide +kernel
theorem dX5_addToDigest_16 : decode cX5_addToDigest 16 = .ok (.lload_n 3, 1) := by decide +kernel
theorem dX5_addToDigest_17 : decode cX5_addToDigest 17 = .ok (.lmul, 1) := by decide +kernel
theorem dX5_addToDigest_18 : decode cX5_addToDigest 18 = .ok (.aload_n 0, 1) := by decide +kernel
theorem dX5_addToDigest_19 : decode cX5_addToDigest 19 = .ok (.iload 5, 2) := by decide +kernel
theorem dX5_addToDigest_21 : decode cX5_addToDigest 21 = .ok (.invokevirtual 31, 3) := by decide +kernel
theorem dX5_addToDigest_24 : decode cX5_addToDigest 24 = .ok (.ifCond .eq 7, 3) := by decide +kernel
theorem dX5_addToDigest_27 : decode cX5_addToDigest 27 = .ok (.lconst 1, 1) := by decide +kernel
theorem dX5_addToDigest_28 : decode cX5_addToDigest 28 = .ok (.goto 4, 3) := by decide +kernel
theorem dX5_addToDigest_31 : decode cX5_addToDigest 31 = .ok (.lconst 0, 1) := by decide +kernel
theorem dX5_addToDigest_32 : decode cX5_addToDigest 32 = .ok (.ladd, 1) := by decide +kernel
theorem dX5_addToDigest_33 : decode cX5_addToDigest 33 = .ok (.lstore_n 3, 1) := by decide +kernel
theorem dX5_addToDigest_34 : decode cX5_addToDigest 34 = .ok (.iinc 5 1, 3) := by decide +kernel
theorem dX5_addToDigest_37 : decode cX5_addToDigest 37 = .ok (.goto (-32), 3) := by decide +kernel
theorem dX5_addToDigest_40 : decode cX5_addToDigest 40 = .ok (.lload_n 3, 1) := by decide +kernel
theorem dX5_addToDigest_41 : decode cX5_addToDigest 41 = .ok (.lreturn, 1) := by decide +kernel
theorem dX6_init_0 : decode cX6_init 0 = .ok (.aload_n 0, 1) := by decide +kernel
theorem dX6_init_1 : decode cX6_init 1 = .ok (.invokespecial 3, 3) := by decide +kernel
theorem dX6_init_4 : decode cX6_init 4 = .ok (.aload_n 0, 1) := by decide +kernel
theorem dX6_init_5 : decode cX6_init 5 = .ok (.bipush 12, 2) := by decide +kernel
theorem dX6_init_7 : decode cX6_init 7 = .ok (.newarray .int, 2) := by decide +kernel
theorem dX6_init_9 : decode cX6_init 9 = .ok (.putfield 9, 3) := by decide +kernel
theorem dX6_init_12 : decode cX6_init 12 = .ok (.aload_n 0, 1) := by decide +kernel
theorem dX6_init_13 : decode cX6_init 13 = .ok (.invokevirtual 15, 3) := by decide +kernel
theorem dX6_init_16 : decode cX6_init 16 = .ok (.return_, 1) := by decide +kernel
theorem dX6_reset_0 : decode cX6_reset 0 = .ok (.getstatic 18, 3) := by decide +kernel
theorem dX6_reset_3 : decode cX6_reset 3 = .ok (.aload_n 0, 1) := by decide +kernel
theorem dX6_reset_4 : decode cX6_reset 4 = .ok (.getfield 9, 3) := by decide +kernel
theorem dX6_reset_7 : decode cX6_reset 7 = .ok (.invokestatic 21, 3) := by decide +kernel
theorem dX6_reset_10 : decode cX6_reset 10 = .ok (.return_, 1) := by decide +kernel
theorem dX6_copyFrom_0 : decode cX6_copyFrom 0 = .ok (.aload_n 1, 1) := by decide +kernel
theorem dX6_copyFrom_1 : decode cX6_copyFrom 1 = .ok (.getfield 9, 3) := by decide +kernel
theorem dX6_copyFrom_4 : decode cX6_copyFrom 4 = .ok (.aload_n 0, 1) := by decide +kernel
theorem dX6_copyFrom_5 : decode cX6_copyFrom 5 = .ok (.getfield 9, 3) := by decide +kernel
theorem dX6_copyFrom_8 : decode cX6_copyFrom 8 = .ok (.invokestatic 21, 3) := by decide +kernel
theorem dX6_copyFrom_11 : decode cX6_copyFrom 11 = .ok (.return_, 1) := by decide +kernel
theorem dX6_has_0 : decode cX6_has 0 = .ok (.iload_n 0, 1) := by decide +kernel
theorem dX6_has_1 : decode cX6_has 1 = .ok (.ifCond .lt 13, 3) := by decide +kernel
theorem dX6_has_4 : decode cX6_has 4 = .ok (.iload_n 0, 1) := by decide +kernel
theorem dX6_has_5 : decode cX6_has 5 = .ok (.bipush 12, 2) := by decide +kernel
theorem dX6_has_7 : decode cX6_has 7 = .ok (.if_icmp .ge 7, 3) := by decide +kernel
theorem dX6_has_10 : decode cX6_has 10 = .ok (.iconst 1, 1) := by decide +kernel
theorem dX6_has_11 : decode cX6_has 11 = .ok (.goto 4, 3) := by decide +kernel
theorem dX6_has_14 : decode cX6_has 14 = .ok (.iconst 0, 1) := by decide +kernel
theorem dX6_has_15 : decode cX6_has 15 = .ok (.ireturn, 1) := by decide +kernel
theorem dX6_allows_0 : decode cX6_allows 0 = .ok (.iload_n 1, 1) := by decide +kernel
theorem dX6_allows_1 : decode cX6_allows 1 = .ok (.invokestatic 25, 3) := by decide +kernel
theorem dX6_allows_4 : decode cX6_allows 4 = .ok (.ifCond .eq 21, 3) := by decide +kernel
theorem dX6_allows_7 : decode cX6_allows 7 = .ok (.iload_n 2, 1) := by decide +kernel
theorem dX6_allows_8 : decode cX6_allows 8 = .ok (.getstatic 29, 3) := by decide +kernel
theorem dX6_allows_11 : decode cX6_allows 11 = .ok (.iload_n 1, 1) := by decide +kernel
theorem dX6_allows_12 : decode cX6_allows 12 = .ok (.iaload, 1) := by decide +kernel
theorem dX6_allows_13 : decode cX6_allows 13 = .ok (.if_icmp .lt 12, 3) := by decide +kernel
theorem dX6_allows_16 : decode cX6_allows 16 = .ok (.iload_n 2, 1) := by decide +kernel
theorem dX6_allows_17 : decode cX6_allows 17 = .ok (.getstatic 32, 3) := by decide +kernel
theorem dX6_allows_20 : decode cX6_allows 20 = .ok (.iload_n 1, 1) := by decide +kernel
theorem dX6_allows_21 : decode cX6_allows 21 = .ok (.iaload, 1) := by decide +kernel
theorem dX6_allows_22 : decode cX6_allows 22 = .ok (.if_icmp .le 5, 3) := by decide +kernel
theorem dX6_allows_25 : decode cX6_allows 25 = .ok (.iconst 0, 1) := by decide +kernel
theorem dX6_allows_26 : decode cX6_allows 26 = .ok (.ireturn, 1) := by decide +kernel
theorem dX6_allows_27 : decode cX6_allows 27 = .ok (.iload_n 1, 1) := by decide +kernel
theorem dX6_allows_28 : decode cX6_allows 28 = .ok (.bipush 9, 2) := by decide +kernel
theorem dX6_allows_30 : decode cX6_allows 30 = .ok (.if_icmp .ne 13, 3) := by decide +kernel
theorem dX6_allows_33 : decode cX6_allows 33 = .ok (.iload_n 2, 1) := by decide +kernel
theorem dX6_allows_34 : decode cX6_allows 34 = .ok (.aload_n 0, 1) := by decide +kernel
theorem dX6_allows_35 : decode cX6_allows 35 = .ok (.bipush 10, 2) := by decide +kernel
theorem dX6_allows_37 : decode cX6_allows 37 = .ok (.invokevirtual 35, 3) := by decide +kernel
theorem dX6_allows_40 : decode cX6_allows 40 = .ok (.if_icmp .gt 23, 3) := by decide +kernel
theorem dX6_allows_43 : decode cX6_allows 43 = .ok (.iload_n 1, 1) := by decide +kernel
theorem dX6_allows_44 : decode cX6_allows 44 = .ok (.bipush 10, 2) := by decide +kernel
theorem dX6_allows_46 : decode cX6_allows 46 = .ok (.if_icmp .ne 13, 3) := by decide +kernel
theorem dX6_allows_49 : decode cX6_allows 49 = .ok (.iload_n 2, 1) := by decide +kernel
theorem dX6_allows_50 : decode cX6_allows 50 = .ok (.aload_n 0, 1) := by decide +kernel
theorem dX6_allows_51 : decode cX6_allows 51 = .ok (.bipush 9, 2) := by decide +kernel
theorem dX6_allows_53 : decode cX6_allows 53 = .ok (.invokevirtual 35, 3) := by decide +kernel
theorem dX6_allows_56 : decode cX6_allows 56 = .ok (.if_icmp .lt 7, 3) := by decide +kernel
theorem dX6_allows_59 : decode cX6_allows 59 = .ok (.iconst 1, 1) := by decide +kernel
theorem dX6_allows_60 : decode cX6_allows 60 = .ok (.goto 4, 3) := by decide +kernel
theorem dX6_allows_63 : decode cX6_allows 63 = .ok (.iconst 0, 1) := by decide +kernel
theorem dX6_allows_64 : decode cX6_allows 64 = .ok (.ireturn, 1) := by decide +kernel
theorem dX6_value_0 : decode cX6_value 0 = .ok (.iload_n 1, 1) := by decide +kernel
theorem dX6_value_1 : decode cX6_value 1 = .ok (.invokestatic 25, 3) := by decide +kernel
theorem dX6_value_4 : decode cX6_value 4 = .ok (.ifCond .eq 12, 3) := by decide +kernel
theorem dX6_value_7 : decode cX6_value 7 = .ok (.aload_n 0, 1) := by decide +kernel
theorem dX6_value_8 : decode cX6_value 8 = .ok (.getfield 9, 3) := by decide +kernel
theorem dX6_value_11 : decode cX6_value 11 = .ok (.iload_n 1, 1) := by decide +kernel
theorem dX6_value_12 : decode cX6_value 12 = .ok (.iaload, 1) := by decide +kernel
theorem dX6_value_13 : decode cX6_value 13 = .ok (.goto 4, 3) := by decide +kernel
theorem dX6_value_16 : decode cX6_value 16 = .ok (.iconst 0, 1) := by decide +kernel
theorem dX6_value_17 : decode cX6_value 17 = .ok (.ireturn, 1) := by decide +kernel
theorem dX6_put_0 : decode cX6_put 0 = .ok (.iload_n 1, 1) := by decide +kernel
theorem dX6_put_1 : decode cX6_put 1 = .ok (.invokestatic 25, 3) := by decide +kernel
theorem dX6_put_4 : decode cX6_put 4 = .ok (.ifCond .eq 10, 3) := by decide +kernel
theorem dX6_put_7 : decode cX6_put 7 = .ok (.aload_n 0, 1) := by decide +kernel
theorem dX6_put_8 : decode cX6_put 8 = .ok (.getfield 9, 3) := by decide +kernel
theorem dX6_put_11 : decode cX6_put 11 = .ok (.iload_n 1, 1) := by decide +kernel
theorem dX6_put_12 : decode cX6_put 12 = .ok (.iload_n 2, 1) := by decide +kernel
theorem dX6_put_13 : decode cX6_put 13 = .ok (.iastore, 1) := by decide +kernel
theorem dX6_put_14 : decode cX6_put 14 = .ok (.return_, 1) := by decide +kernel
theorem dX6_needAt_0 : decode cX6_needAt 0 = .ok (.iconst 1, 1) := by decide +kernel
theorem dX6_needAt_1 : decode cX6_needAt 1 = .ok (.aload_n 0, 1) := by decide +kernel
theorem dX6_needAt_2 : decode cX6_needAt 2 = .ok (.iconst 2, 1) := by decide +kernel
theorem dX6_needAt_3 : decode cX6_needAt 3 = .ok (.invokevirtual 35, 3) := by decide +kernel
theorem dX6_needAt_6 : decode cX6_needAt 6 = .ok (.iload_n 1, 1) := by decide +kernel
theorem dX6_needAt_7 : decode cX6_needAt 7 = .ok (.aload_n 0, 1) := by decide +kernel
theorem dX6_needAt_8 : decode cX6_needAt 8 = .ok (.iconst 3, 1) := by decide +kernel
theorem dX6_needAt_9 : decode cX6_needAt 9 = .ok (.invokevirtual 35, 3) := by decide +kernel
theorem dX6_needAt_12 : decode cX6_needAt 12 = .ok (.imul, 1) := by decide +kernel
theorem dX6_needAt_13 : decode cX6_needAt 13 = .ok (.sipush 1000, 3) := by decide +kernel
theorem dX6_needAt_16 : decode cX6_needAt 16 = .ok (.idiv, 1) := by decide +kernel
theorem dX6_needAt_17 : decode cX6_needAt 17 = .ok (.isub, 1) := by decide +kernel
theorem dX6_needAt_18 : decode cX6_needAt 18 = .ok (.invokestatic 39, 3) := by decide +kernel
theorem dX6_needAt_21 : decode cX6_needAt 21 = .ok (.ireturn, 1) := by decide +kernel
theorem dX7_init_0 : decode cX7_init 0 = .ok (.aload_n 0, 1) := by decide +kernel
theorem dX7_init_1 : decode cX7_init 1 = .ok (.invokespecial 3, 3) := by decide +kernel
theorem dX7_init_4 : decode cX7_init 4 = .ok (.aload_n 0, 1) := by decide +kernel
theorem dX7_init_5 : decode cX7_init 5 = .ok (.new 9, 3) := by decide +kernel
theorem dX7_init_8 : decode cX7_init 8 = .ok (.dup, 1) := by decide +kernel
theorem dX7_init_9 : decode cX7_init 9 = .ok (.invokespecial 11, 3) := by decide +kernel
theorem dX7_init_12 : decode cX7_init 12 = .ok (.putfield 12, 3) := by decide +kernel
theorem dX7_init_15 : decode cX7_init 15 = .ok (.aload_n 0, 1) := by decide +kernel
theorem dX7_init_16 : decode cX7_init 16 = .ok (.new 18, 3) := by decide +kernel
theorem dX7_init_19 : decode cX7_init 19 = .ok (.dup, 1) := by decide +kernel
theorem dX7_init_20 : decode cX7_init 20 = .ok (.invokespecial 20, 3) := by decide +kernel
theorem dX7_init_23 : decode cX7_init 23 = .ok (.putfield 21, 3) := by decide +kernel
theorem dX7_init_26 : decode cX7_init 26 = .ok (.aload_n 0, 1) := by decide +kernel
theorem dX7_init_27 : decode cX7_init 27 = .ok (.new 25, 3) := by decide +kernel
theorem dX7_init_30 : decode cX7_init 30 = .ok (.dup, 1) := by decide +kernel
theorem dX7_init_31 : decode cX7_init 31 = .ok (.invokespecial 27, 3) := by decide +kernel
theorem dX7_init_34 : decode cX7_init 34 = .ok (.putfield 28, 3) := by decide +kernel
theorem dX7_init_37 : decode cX7_init 37 = .ok (.aload_n 0, 1) := by decide +kernel
theorem dX7_init_38 : decode cX7_init 38 = .ok (.new 32, 3) := by decide +kernel
theorem dX7_init_41 : decode cX7_init 41 = .ok (.dup, 1) := by decide +kernel
theorem dX7_init_42 : decode cX7_init 42 = .ok (.invokespecial 34, 3) := by decide +kernel
theorem dX7_init_45 : decode cX7_init 45 = .ok (.putfield 35, 3) := by decide +kernel
theorem dX7_init_48 : decode cX7_init 48 = .ok (.aload_n 0, 1) := by decide +kernel
theorem dX7_init_49 : decode cX7_init 49 = .ok (.new 39, 3) := by decide +kernel
theorem dX7_init_52 : decode cX7_init 52 = .ok (.dup, 1) := by decide +kernel
theorem dX7_init_53 : decode cX7_init 53 = .ok (.invokespecial 41, 3) := by decide +kernel
theorem dX7_init_56 : decode cX7_init 56 = .ok (.putfield 42, 3) := by decide +kernel
theorem dX7_init_59 : decode cX7_init 59 = .ok (.aload_n 0, 1) := by decide +kernel
theorem dX7_init_60 : decode cX7_init 60 = .ok (.new 46, 3) := by decide +kernel
theorem dX7_init_63 : decode cX7_init 63 = .ok (.dup, 1) := by decide +kernel
theorem dX7_init_64 : decode cX7_init 64 = .ok (.invokespecial 48, 3) := by decide +kernel
theorem dX7_init_67 : decode cX7_init 67 = .ok (.putfield 49, 3) := by decide +kernel
theorem dX7_init_70 : decode cX7_init 70 = .ok (.aload_n 0, 1) := by decide +kernel
theorem dX7_init_71 : decode cX7_init 71 = .ok (.new 46, 3) := by decide +kernel
theorem dX7_init_74 : decode cX7_init 74 = .ok (.dup, 1) := by decide +kernel
theorem dX7_init_75 : decode cX7_init 75 = .ok (.invokespecial 48, 3) := by decide +kernel
theorem dX7_init_78 : decode cX7_init 78 = .ok (.putfield 53, 3) := by decide +kernel
theorem dX7_init_81 : decode cX7_init 81 = .ok (.return_, 1) := by decide +kernel
theorem dX7_copyFrom_0 : decode cX7_copyFrom 0 = .ok (.aload_n 0, 1) := by decide +kernel
theorem dX7_copyFrom_1 : decode cX7_copyFrom 1 = .ok (.getfield 12, 3) := by decide +kernel
theorem dX7_copyFrom_4 : decode cX7_copyFrom 4 = .ok (.aload_n 1, 1) := by decide +kernel
theorem dX7_copyFrom_5 : decode cX7_copyFrom 5 = .ok (.getfield 12, 3) := by decide +kernel
theorem dX7_copyFrom_8 : decode cX7_copyFrom 8 = .ok (.invokevirtual 56, 3) := by decide +kernel
theorem dX7_copyFrom_11 : decode cX7_copyFrom 11 = .ok (.aload_n 0, 1) := by decide +kernel
theorem dX7_copyFrom_12 : decode cX7_copyFrom 12 = .ok (.getfield 21, 3) := by decide +kernel
theorem dX7_copyFrom_15 : decode cX7_copyFrom 15 = .ok (.aload_n 1, 1) := by decide +kernel
theorem dX7_copyFrom_16 : decode cX7_copyFrom 16 = .ok (.getfield 21, 3) := by decide +kernel
theorem dX7_copyFrom_19 : decode cX7_copyFrom 19 = .ok (.invokevirtual 60, 3) := by decide +kernel
theorem dX7_copyFrom_22 : decode cX7_copyFrom 22 = .ok (.aload_n 0, 1) := by decide +kernel
theorem dX7_copyFrom_23 : decode cX7_copyFrom 23 = .ok (.getfield 28, 3) := by decide +kernel
theorem dX7_copyFrom_26 : decode cX7_copyFrom 26 = .ok (.aload_n 1, 1) := by decide +kernel
theorem dX7_copyFrom_27 : decode cX7_copyFrom 27 = .ok (.getfield 28, 3) := by decide +kernel
theorem dX7_copyFrom_30 : decode cX7_copyFrom 30 = .ok (.invokevirtual 63, 3) := by decide +kernel
theorem dX7_copyFrom_33 : decode cX7_copyFrom 33 = .ok (.aload_n 0, 1) := by decide +kernel
theorem dX7_copyFrom_34 : decode cX7_copyFrom 34 = .ok (.getfield 35, 3) := by decide +kernel
theorem dX7_copyFrom_37 : decode cX7_copyFrom 37 = .ok (.aload_n 1, 1) := by decide +kernel
theorem dX7_copyFrom_38 : decode cX7_copyFrom 38 = .ok (.getfield 35, 3) := by decide +kernel
theorem dX7_copyFrom_41 : decode cX7_copyFrom 41 = .ok (.invokevirtual 66, 3) := by decide +kernel
theorem dX7_copyFrom_44 : decode cX7_copyFrom 44 = .ok (.aload_n 0, 1) := by decide +kernel
theorem dX7_copyFrom_45 : decode cX7_copyFrom 45 = .ok (.getfield 42, 3) := by decide +kernel
theorem dX7_copyFrom_48 : decode cX7_copyFrom 48 = .ok (.aload_n 1, 1) := by decide +kernel
theorem dX7_copyFrom_49 : decode cX7_copyFrom 49 = .ok (.getfield 42, 3) := by decide +kernel
theorem dX7_copyFrom_52 : decode cX7_copyFrom 52 = .ok (.invokevirtual 69, 3) := by decide +kernel
theorem dX7_copyFrom_55 : decode cX7_copyFrom 55 = .ok (.aload_n 0, 1) := by decide +kernel
theorem dX7_copyFrom_56 : decode cX7_copyFrom 56 = .ok (.getfield 49, 3) := by decide +kernel
theorem dX7_copyFrom_59 : decode cX7_copyFrom 59 = .ok (.aload_n 1, 1) := by decide +kernel
theorem dX7_copyFrom_60 : decode cX7_copyFrom 60 = .ok (.getfield 49, 3) := by decide +kernel
theorem dX7_copyFrom_63 : decode cX7_copyFrom 63 = .ok (.invokevirtual 72, 3) := by decide +kernel
theorem dX7_copyFrom_66 : decode cX7_copyFrom 66 = .ok (.aload_n 0, 1) := by decide +kernel
theorem dX7_copyFrom_67 : decode cX7_copyFrom 67 = .ok (.getfield 53, 3) := by decide +kernel
theorem dX7_copyFrom_70 : decode cX7_copyFrom 70 = .ok (.aload_n 1, 1) := by decide +kernel
theorem dX7_copyFrom_71 : decode cX7_copyFrom 71 = .ok (.getfield 53, 3) := by decide +kernel
theorem dX7_copyFrom_74 : decode cX7_copyFrom 74 = .ok (.invokevirtual 72, 3) := by decide +kernel
theorem dX7_copyFrom_77 : decode cX7_copyFrom 77 = .ok (.return_, 1) := by decide +kernel
theorem dX7_startAgain_0 : decode cX7_startAgain 0 = .ok (.aload_n 0, 1) := by decide +kernel
theorem dX7_startAgain_1 : decode cX7_startAgain 1 = .ok (.getfield 12, 3) := by decide +kernel
theorem dX7_startAgain_4 : decode cX7_startAgain 4 = .ok (.getfield 75, 3) := by decide +kernel
theorem dX7_startAgain_7 : decode cX7_startAgain 7 = .ok (.istore_n 2, 1) := by decide +kernel
theorem dX7_startAgain_8 : decode cX7_startAgain 8 = .ok (.aload_n 0, 1) := by decide +kernel
theorem dX7_startAgain_9 : decode cX7_startAgain 9 = .ok (.getfield 12, 3) := by decide +kernel
theorem dX7_startAgain_12 : decode cX7_startAgain 12 = .ok (.invokevirtual 79, 3) := by decide +kernel
theorem dX7_startAgain_15 : decode cX7_startAgain 15 = .ok (.aload_n 0, 1) := by decide +kernel
theorem dX7_startAgain_16 : decode cX7_startAgain 16 = .ok (.getfield 12, 3) := by decide +kernel
theorem dX7_startAgain_19 : decode cX7_startAgain 19 = .ok (.iload_n 1, 1) := by decide +kernel
theorem dX7_startAgain_20 : decode cX7_startAgain 20 = .ok (.putfield 82, 3) := by decide +kernel
theorem dX7_startAgain_23 : decode cX7_startAgain 23 = .ok (.aload_n 0, 1) := by decide +kernel
theorem dX7_startAgain_24 : decode cX7_startAgain 24 = .ok (.getfield 12, 3) := by decide +kernel
theorem dX7_startAgain_27 : decode cX7_startAgain 27 = .ok (.iload_n 2, 1) := by decide +kernel
theorem dX7_startAgain_28 : decode cX7_startAgain 28 = .ok (.putfield 75, 3) := by decide +kernel
theorem dX7_startAgain_31 : decode cX7_startAgain 31 = .ok (.aload_n 0, 1) := by decide +kernel
theorem dX7_startAgain_32 : decode cX7_startAgain 32 = .ok (.getfield 21, 3) := by decide +kernel
theorem dX7_startAgain_35 : decode cX7_startAgain 35 = .ok (.invokevirtual 85, 3) := by decide +kernel
theorem dX7_startAgain_38 : decode cX7_startAgain 38 = .ok (.aload_n 0, 1) := by decide +kernel
theorem dX7_startAgain_39 : decode cX7_startAgain 39 = .ok (.getfield 28, 3) := by decide +kernel
theorem dX7_startAgain_42 : decode cX7_startAgain 42 = .ok (.invokevirtual 86, 3) := by decide +kernel
theorem dX7_startAgain_45 : decode cX7_startAgain 45 = .ok (.aload_n 0, 1) := by decide +kernel
theorem dX7_startAgain_46 : decode cX7_startAgain 46 = .ok (.getfield 35, 3) := by decide +kernel
theorem dX7_startAgain_49 : decode cX7_startAgain 49 = .ok (.invokevirtual 87, 3) := by decide +kernel
theorem dX7_startAgain_52 : decode cX7_startAgain 52 = .ok (.aload_n 0, 1) := by decide +kernel
theorem dX7_startAgain_53 : decode cX7_startAgain 53 = .ok (.getfield 42, 3) := by decide +kernel
theorem dX7_startAgain_56 : decode cX7_startAgain 56 = .ok (.invokevirtual 88, 3) := by decide +kernel
theorem dX7_startAgain_59 : decode cX7_startAgain 59 = .ok (.aload_n 0, 1) := by decide +kernel
theorem dX7_startAgain_60 : decode cX7_startAgain 60 = .ok (.getfield 49, 3) := by decide +kernel
theorem dX7_startAgain_63 : decode cX7_startAgain 63 = .ok (.invokevirtual 89, 3) := by decide +kernel
theorem dX7_startAgain_66 : decode cX7_startAgain 66 = .ok (.aload_n 0, 1) := by decide +kernel
theorem dX7_startAgain_67 : decode cX7_startAgain 67 = .ok (.getfield 53, 3) := by decide +kernel
theorem dX7_startAgain_70 : decode cX7_startAgain 70 = .ok (.invokevirtual 89, 3) := by decide +kernel
theorem dX7_startAgain_73 : decode cX7_startAgain 73 = .ok (.return_, 1) := by decide +kernel
theorem dX7_change_0 : decode cX7_change 0 = .ok (.aload_n 0, 1) := by decide +kernel
theorem dX7_change_1 : decode cX7_change 1 = .ok (.getfield 21, 3) := by decide +kernel
theorem dX7_change_4 : decode cX7_change 4 = .ok (.iload_n 1, 1) := by decide +kernel
theorem dX7_change_5 : decode cX7_change 5 = .ok (.iload_n 2, 1) := by decide +kernel
theorem dX7_change_6 : decode cX7_change 6 = .ok (.invokevirtual 90, 3) := by decide +kernel
theorem dX7_change_9 : decode cX7_change 9 = .ok (.iload_n 1, 1) := by decide +kernel
theorem dX7_change_10 : decode cX7_change 10 = .ok (.bipush 6, 2) := by decide +kernel
theorem dX7_change_12 : decode cX7_change 12 = .ok (.if_icmp .ne 11, 3) := by decide +kernel
theorem dX7_change_15 : decode cX7_change 15 = .ok (.aload_n 0, 1) := by decide +kernel
theorem dX7_change_16 : decode cX7_change 16 = .ok (.getfield 42, 3) := by decide +kernel
theorem dX7_change_19 : decode cX7_change 19 = .ok (.iload_n 2, 1) := by decide +kernel
theorem dX7_change_20 : decode cX7_change 20 = .ok (.invokevirtual 94, 3) := by decide +kernel
theorem dX7_change_23 : decode cX7_change 23 = .ok (.return_, 1) := by decide +kernel
theorem dX7_takeShots_0 : decode cX7_takeShots 0 = .ok (.iconst 0, 1) := by decide +kernel
theorem dX7_takeShots_1 : decode cX7_takeShots 1 = .ok (.istore_n 2, 1) := by decide +kernel
theorem dX7_takeShots_2 : decode cX7_takeShots 2 = .ok (.iload_n 2, 1) := by decide +kernel
theorem dX7_takeShots_3 : decode cX7_takeShots 3 = .ok (.iload_n 1, 1) := by decide +kernel
theorem dX7_takeShots_4 : decode cX7_takeShots 4 = .ok (.if_icmp .ge 113, 3) := by decide +kernel
theorem dX7_takeShots_7 : decode cX7_takeShots 7 = .ok (.aload_n 0, 1) := by decide +kernel
theorem dX7_takeShots_8 : decode cX7_takeShots 8 = .ok (.invokevirtual 98, 3) := by decide +kernel
theorem dX7_takeShots_11 : decode cX7_takeShots 11 = .ok (.aload_n 0, 1) := by decide +kernel
theorem dX7_takeShots_12 : decode cX7_takeShots 12 = .ok (.invokevirtual 101, 3) := by decide +kernel
theorem dX7_takeShots_15 : decode cX7_takeShots 15 = .ok (.aload_n 0, 1) := by decide +kernel
theorem dX7_takeShots_16 : decode cX7_takeShots 16 = .ok (.getfield 21, 3) := by decide +kernel
theorem dX7_takeShots_19 : decode cX7_takeShots 19 = .ok (.iconst 4, 1) := by decide +kernel
theorem dX7_takeShots_20 : decode cX7_takeShots 20 = .ok (.invokevirtual 104, 3) := by decide +kernel
theorem dX7_takeShots_23 : decode cX7_takeShots 23 = .ok (.iconst 1, 1) := by decide +kernel
theorem dX7_takeShots_24 : decode cX7_takeShots 24 = .ok (.if_icmp .ne 7, 3) := by decide +kernel
theorem dX7_takeShots_27 : decode cX7_takeShots 27 = .ok (.aload_n 0, 1) := by decide +kernel
theorem dX7_takeShots_28 : decode cX7_takeShots 28 = .ok (.invokevirtual 108, 3) := by decide +kernel
theorem dX7_takeShots_31 : decode cX7_takeShots 31 = .ok (.aload_n 0, 1) := by decide +kernel
theorem dX7_takeShots_32 : decode cX7_takeShots 32 = .ok (.getfield 35, 3) := by decide +kernel
theorem dX7_takeShots_35 : decode cX7_takeShots 35 = .ok (.aload_n 0, 1) := by decide +kernel
theorem dX7_takeShots_36 : decode cX7_takeShots 36 = .ok (.getfield 21, 3) := by decide +kernel
theorem dX7_takeShots_39 : decode cX7_takeShots 39 = .ok (.iconst 5, 1) := by decide +kernel
theorem dX7_takeShots_40 : decode cX7_takeShots 40 = .ok (.invokevirtual 104, 3) := by decide +kernel
theorem dX7_takeShots_43 : decode cX7_takeShots 43 = .ok (.aload_n 0, 1) := by decide +kernel
theorem dX7_takeShots_44 : decode cX7_takeShots 44 = .ok (.getfield 42, 3) := by decide +kernel
theorem dX7_takeShots_47 : decode cX7_takeShots 47 = .ok (.getfield 111, 3) := by decide +kernel
theorem dX7_takeShots_50 : decode cX7_takeShots 50 = .ok (.invokevirtual 114, 3) := by decide +kernel
theorem dX7_takeShots_53 : decode cX7_takeShots 53 = .ok (.istore_n 3, 1) := by decide +kernel
theorem dX7_takeShots_54 : decode cX7_takeShots 54 = .ok (.aload_n 0, 1) := by decide +kernel
theorem dX7_takeShots_55 : decode cX7_takeShots 55 = .ok (.getfield 35, 3) := by decide +kernel
theorem dX7_takeShots_58 : decode cX7_takeShots 58 = .ok (.iload_n 3, 1) := by decide +kernel
theorem dX7_takeShots_59 : decode cX7_takeShots 59 = .ok (.iconst 4, 1) := by decide +kernel
theorem dX7_takeShots_60 : decode cX7_takeShots 60 = .ok (.invokevirtual 118, 3) := by decide +kernel
theorem dX7_takeShots_63 : decode cX7_takeShots 63 = .ok (.aload_n 0, 1) := by decide +kernel
theorem dX7_takeShots_64 : decode cX7_takeShots 64 = .ok (.getfield 53, 3) := by decide +kernel
theorem dX7_takeShots_67 : decode cX7_takeShots 67 = .ok (.aload_n 0, 1) := by decide +kernel
theorem dX7_takeShots_68 : decode cX7_takeShots 68 = .ok (.getfield 49, 3) := by decide +kernel
theorem dX7_takeShots_71 : decode cX7_takeShots 71 = .ok (.invokevirtual 72, 3) := by decide +kernel
theorem dX7_takeShots_74 : decode cX7_takeShots 74 = .ok (.aload_n 0, 1) := by decide +kernel
theorem dX7_takeShots_75 : decode cX7_takeShots 75 = .ok (.getfield 49, 3) := by decide +kernel
theorem dX7_takeShots_78 : decode cX7_takeShots 78 = .ok (.aload_n 0, 1) := by decide +kernel
theorem dX7_takeShots_79 : decode cX7_takeShots 79 = .ok (.getfield 35, 3) := by decide +kernel
theorem dX7_takeShots_82 : decode cX7_takeShots 82 = .ok (.invokevirtual 121, 3) := by decide +kernel
theorem dX7_takeShots_85 : decode cX7_takeShots 85 = .ok (.aload_n 0, 1) := by decide +kernel
theorem dX7_takeShots_86 : decode cX7_takeShots 86 = .ok (.getfield 42, 3) := by decide +kernel
theorem dX7_takeShots_89 : decode cX7_takeShots 89 = .ok (.aload_n 0, 1) := by decide +kernel
theorem dX7_takeShots_90 : decode cX7_takeShots 90 = .ok (.getfield 35, 3) := by decide +kernel
theorem dX7_takeShots_93 : decode cX7_takeShots 93 = .ok (.iload_n 3, 1) := by decide +kernel
theorem dX7_takeShots_94 : decode cX7_takeShots 94 = .ok (.invokevirtual 124, 3) := by decide +kernel
theorem dX7_takeShots_97 : decode cX7_takeShots 97 = .ok (.aload_n 0, 1) := by decide +kernel
theorem dX7_takeShots_98 : decode cX7_takeShots 98 = .ok (.getfield 21, 3) := by decide +kernel
theorem dX7_takeShots_101 : decode cX7_takeShots 101 = .ok (.aload_n 0, 1) := by decide +kernel
theorem dX7_takeShots_102 : decode cX7_takeShots 102 = .ok (.getfield 12, 3) := by decide +kernel
theorem dX7_takeShots_105 : decode cX7_takeShots 105 = .ok (.getfield 82, 3) := by decide +kernel
theorem dX7_takeShots_108 : decode cX7_takeShots 108 = .ok (.invokevirtual 127, 3) := by decide +kernel
theorem dX7_takeShots_111 : decode cX7_takeShots 111 = .ok (.iinc 2 1, 3) := by decide +kernel
theorem dX7_takeShots_114 : decode cX7_takeShots 114 = .ok (.goto (-112), 3) := by decide +kernel
theorem dX7_takeShots_117 : decode cX7_takeShots 117 = .ok (.return_, 1) := by decide +kernel
theorem dX7_learnFalseEchoes_0 : decode cX7_learnFalseEchoes 0 = .ok (.iconst 0, 1) := by decide +kernel
theorem dX7_learnFalseEchoes_1 : decode cX7_learnFalseEchoes 1 = .ok (.istore_n 2, 1) := by decide +kernel
theorem dX7_learnFalseEchoes_2 : decode cX7_learnFalseEchoes 2 = .ok (.iload_n 2, 1) := by decide +kernel
theorem dX7_learnFalseEchoes_3 : decode cX7_learnFalseEchoes 3 = .ok (.iload_n 1, 1) := by decide +kernel
theorem dX7_learnFalseEchoes_4 : decode cX7_learnFalseEchoes 4 = .ok (.if_icmp .ge 76, 3) := by decide +kernel
theorem dX7_learnFalseEchoes_7 : decode cX7_learnFalseEchoes 7 = .ok (.aload_n 0, 1) := by decide +kernel
theorem dX7_learnFalseEchoes_8 : decode cX7_learnFalseEchoes 8 = .ok (.invokevirtual 98, 3) := by decide +kernel
theorem dX7_learnFalseEchoes_11 : decode cX7_learnFalseEchoes 11 = .ok (.iconst 0, 1) := by decide +kernel
theorem dX7_learnFalseEchoes_12 : decode cX7_learnFalseEchoes 12 = .ok (.istore_n 3, 1) := by decide +kernel
theorem dX7_learnFalseEchoes_13 : decode cX7_learnFalseEchoes 13 = .ok (.iload_n 3, 1) := by decide +kernel
theorem dX7_learnFalseEchoes_14 : decode cX7_learnFalseEchoes 14 = .ok (.aload_n 0, 1) := by decide +kernel
theorem dX7_learnFalseEchoes_15 : decode cX7_learnFalseEchoes 15 = .ok (.getfield 35, 3) := by decide +kernel
theorem dX7_learnFalseEchoes_18 : decode cX7_learnFalseEchoes 18 = .ok (.getfield 131, 3) := by decide +kernel
theorem dX7_learnFalseEchoes_21 : decode cX7_learnFalseEchoes 21 = .ok (.if_icmp .ge 53, 3) := by decide +kernel
theorem dX7_learnFalseEchoes_24 : decode cX7_learnFalseEchoes 24 = .ok (.aload_n 0, 1) := by decide +kernel
theorem dX7_learnFalseEchoes_25 : decode cX7_learnFalseEchoes 25 = .ok (.getfield 35, 3) := by decide +kernel
theorem dX7_learnFalseEchoes_28 : decode cX7_learnFalseEchoes 28 = .ok (.iload_n 3, 1) := by decide +kernel
theorem dX7_learnFalseEchoes_29 : decode cX7_learnFalseEchoes 29 = .ok (.invokevirtual 124, 3) := by decide +kernel
theorem dX7_learnFalseEchoes_32 : decode cX7_learnFalseEchoes 32 = .ok (.istore 4, 2) := by decide +kernel
theorem dX7_learnFalseEchoes_34 : decode cX7_learnFalseEchoes 34 = .ok (.aload_n 0, 1) := by decide +kernel
theorem dX7_learnFalseEchoes_35 : decode cX7_learnFalseEchoes 35 = .ok (.getfield 35, 3) := by decide +kernel
theorem dX7_learnFalseEchoes_38 : decode cX7_learnFalseEchoes 38 = .ok (.iload_n 3, 1) := by decide +kernel
theorem dX7_learnFalseEchoes_39 : decode cX7_learnFalseEchoes 39 = .ok (.invokevirtual 134, 3) := by decide +kernel
theorem dX7_learnFalseEchoes_42 : decode cX7_learnFalseEchoes 42 = .ok (.iconst 1, 1) := by decide +kernel
theorem dX7_learnFalseEchoes_43 : decode cX7_learnFalseEchoes 43 = .ok (.if_icmp .gt 25, 3) := by decide +kernel
theorem dX7_learnFalseEchoes_46 : decode cX7_learnFalseEchoes 46 = .ok (.iload 4, 2) := by decide +kernel
theorem dX7_learnFalseEchoes_48 : decode cX7_learnFalseEchoes 48 = .ok (.aload_n 0, 1) := by decide +kernel
theorem dX7_learnFalseEchoes_49 : decode cX7_learnFalseEchoes 49 = .ok (.getfield 12, 3) := by decide +kernel
theorem dX7_learnFalseEchoes_52 : decode cX7_learnFalseEchoes 52 = .ok (.getfield 82, 3) := by decide +kernel
theorem dX7_learnFalseEchoes_55 : decode cX7_learnFalseEchoes 55 = .ok (.if_icmp .gt 13, 3) := by decide +kernel
theorem dX7_learnFalseEchoes_58 : decode cX7_learnFalseEchoes 58 = .ok (.aload_n 0, 1) := by decide +kernel
theorem dX7_learnFalseEchoes_59 : decode cX7_learnFalseEchoes 59 = .ok (.getfield 28, 3) := by decide +kernel
theorem dX7_learnFalseEchoes_62 : decode cX7_learnFalseEchoes 62 = .ok (.iload 4, 2) := by decide +kernel
theorem dX7_learnFalseEchoes_64 : decode cX7_learnFalseEchoes 64 = .ok (.iconst 1, 1) := by decide +kernel
theorem dX7_learnFalseEchoes_65 : decode cX7_learnFalseEchoes 65 = .ok (.invokevirtual 137, 3) := by decide +kernel
theorem dX7_learnFalseEchoes_68 : decode cX7_learnFalseEchoes 68 = .ok (.iinc 3 1, 3) := by decide +kernel
theorem dX7_learnFalseEchoes_71 : decode cX7_learnFalseEchoes 71 = .ok (.goto (-58), 3) := by decide +kernel
theorem dX7_learnFalseEchoes_74 : decode cX7_learnFalseEchoes 74 = .ok (.iinc 2 1, 3) := by decide +kernel
theorem dX7_learnFalseEchoes_77 : decode cX7_learnFalseEchoes 77 = .ok (.goto (-75), 3) := by decide +kernel
theorem dX7_learnFalseEchoes_80 : decode cX7_learnFalseEchoes 80 = .ok (.return_, 1) := by decide +kernel
theorem dX7_send_0 : decode cX7_send 0 = .ok (.aload_n 0, 1) := by decide +kernel
theorem dX7_send_1 : decode cX7_send 1 = .ok (.getfield 12, 3) := by decide +kernel
theorem dX7_send_4 : decode cX7_send 4 = .ok (.invokevirtual 140, 3) := by decide +kernel
theorem dX7_send_7 : decode cX7_send 7 = .ok (.aload_n 0, 1) := by decide +kernel
theorem dX7_send_8 : decode cX7_send 8 = .ok (.getfield 35, 3) := by decide +kernel
theorem dX7_send_11 : decode cX7_send 11 = .ok (.invokevirtual 87, 3) := by decide +kernel
theorem dX7_send_14 : decode cX7_send 14 = .ok (.aload_n 0, 1) := by decide +kernel
theorem dX7_send_15 : decode cX7_send 15 = .ok (.getfield 12, 3) := by decide +kernel
theorem dX7_send_18 : decode cX7_send 18 = .ok (.getfield 82, 3) := by decide +kernel
theorem dX7_send_21 : decode cX7_send 21 = .ok (.aload_n 0, 1) := by decide +kernel
theorem dX7_send_22 : decode cX7_send 22 = .ok (.getfield 12, 3) := by decide +kernel
theorem dX7_send_25 : decode cX7_send 25 = .ok (.getfield 143, 3) := by decide +kernel
theorem dX7_send_28 : decode cX7_send 28 = .ok (.isub, 1) := by decide +kernel
theorem dX7_send_29 : decode cX7_send 29 = .ok (.istore_n 1, 1) := by decide +kernel
theorem dX7_send_30 : decode cX7_send 30 = .ok (.iconst 0, 1) := by decide +kernel
theorem dX7_send_31 : decode cX7_send 31 = .ok (.istore_n 2, 1) := by decide +kernel
theorem dX7_send_32 : decode cX7_send 32 = .ok (.iload_n 2, 1) := by decide +kernel
theorem dX7_send_33 : decode cX7_send 33 = .ok (.aload_n 0, 1) := by decide +kernel
theorem dX7_send_34 : decode cX7_send 34 = .ok (.getfield 12, 3) := by decide +kernel
theorem dX7_send_37 : decode cX7_send 37 = .ok (.getfield 146, 3) := by decide +kernel
theorem dX7_send_40 : decode cX7_send 40 = .ok (.if_icmp .ge 45, 3) := by decide +kernel
theorem dX7_send_43 : decode cX7_send 43 = .ok (.aload_n 0, 1) := by decide +kernel
theorem dX7_send_44 : decode cX7_send 44 = .ok (.getfield 12, 3) := by decide +kernel
theorem dX7_send_47 : decode cX7_send 47 = .ok (.iload_n 2, 1) := by decide +kernel
theorem dX7_send_48 : decode cX7_send 48 = .ok (.invokevirtual 149, 3) := by decide +kernel
theorem dX7_send_51 : decode cX7_send 51 = .ok (.iload_n 1, 1) := by decide +kernel
theorem dX7_send_52 : decode cX7_send 52 = .ok (.if_icmp .ge 27, 3) := by decide +kernel
theorem dX7_send_55 : decode cX7_send 55 = .ok (.aload_n 0, 1) := by decide +kernel
theorem dX7_send_56 : decode cX7_send 56 = .ok (.getfield 35, 3) := by decide +kernel
theorem dX7_send_59 : decode cX7_send 59 = .ok (.iconst 0, 1) := by decide +kernel
theorem dX7_send_60 : decode cX7_send 60 = .ok (.aload_n 0, 1) := by decide +kernel
theorem dX7_send_61 : decode cX7_send 61 = .ok (.getfield 12, 3) := by decide +kernel
theorem dX7_send_64 : decode cX7_send 64 = .ok (.iload_n 2, 1) := by decide +kernel
theorem dX7_send_65 : decode cX7_send 65 = .ok (.invokevirtual 149, 3) := by decide +kernel
theorem dX7_send_68 : decode cX7_send 68 = .ok (.aload_n 0, 1) := by decide +kernel
theorem dX7_send_69 : decode cX7_send 69 = .ok (.getfield 12, 3) := by decide +kernel
theorem dX7_send_72 : decode cX7_send 72 = .ok (.iload_n 2, 1) := by decide +kernel
theorem dX7_send_73 : decode cX7_send 73 = .ok (.invokevirtual 152, 3) := by decide +kernel
theorem dX7_send_76 : decode cX7_send 76 = .ok (.invokevirtual 155, 3) := by decide +kernel
theorem dX7_send_79 : decode cX7_send 79 = .ok (.iinc 2 1, 3) := by decide +kernel
theorem dX7_send_82 : decode cX7_send 82 = .ok (.goto (-50), 3) := by decide +kernel
theorem dX7_send_85 : decode cX7_send 85 = .ok (.aload_n 0, 1) := by decide +kernel
theorem dX7_send_86 : decode cX7_send 86 = .ok (.iload_n 1, 1) := by decide +kernel
theorem dX7_send_87 : decode cX7_send 87 = .ok (.invokevirtual 159, 3) := by decide +kernel
theorem dX7_send_90 : decode cX7_send 90 = .ok (.istore_n 2, 1) := by decide +kernel
theorem dX7_send_91 : decode cX7_send 91 = .ok (.aload_n 0, 1) := by decide +kernel
theorem dX7_send_92 : decode cX7_send 92 = .ok (.getfield 12, 3) := by decide +kernel
theorem dX7_send_95 : decode cX7_send 95 = .ok (.getfield 163, 3) := by decide +kernel
theorem dX7_send_98 : decode cX7_send 98 = .ok (.ifCond .le 42, 3) := by decide +kernel
theorem dX7_send_101 : decode cX7_send 101 = .ok (.aload_n 0, 1) := by decide +kernel
theorem dX7_send_102 : decode cX7_send 102 = .ok (.getfield 35, 3) := by decide +kernel
theorem dX7_send_105 : decode cX7_send 105 = .ok (.iconst 2, 1) := by decide +kernel
theorem dX7_send_106 : decode cX7_send 106 = .ok (.iconst 0, 1) := by decide +kernel
theorem dX7_send_107 : decode cX7_send 107 = .ok (.iload_n 1, 1) := by decide +kernel
theorem dX7_send_108 : decode cX7_send 108 = .ok (.aload_n 0, 1) := by decide +kernel
theorem dX7_send_109 : decode cX7_send 109 = .ok (.getfield 12, 3) := by decide +kernel
theorem dX7_send_112 : decode cX7_send 112 = .ok (.getfield 163, 3) := by decide +kernel
theorem dX7_send_115 : decode cX7_send 115 = .ok (.isub, 1) := by decide +kernel
theorem dX7_send_116 : decode cX7_send 116 = .ok (.invokestatic 166, 3) := by decide +kernel
theorem dX7_send_119 : decode cX7_send 119 = .ok (.bipush 10, 2) := by decide +kernel
theorem dX7_send_121 : decode cX7_send 121 = .ok (.bipush 70, 2) := by decide +kernel
theorem dX7_send_123 : decode cX7_send 123 = .ok (.aload_n 0, 1) := by decide +kernel
theorem dX7_send_124 : decode cX7_send 124 = .ok (.getfield 12, 3) := by decide +kernel
theorem dX7_send_127 : decode cX7_send 127 = .ok (.getfield 163, 3) := by decide +kernel
theorem dX7_send_130 : decode cX7_send 130 = .ok (.bipush 10, 2) := by decide +kernel
theorem dX7_send_132 : decode cX7_send 132 = .ok (.idiv, 1) := by decide +kernel
theorem dX7_send_133 : decode cX7_send 133 = .ok (.isub, 1) := by decide +kernel
theorem dX7_send_134 : decode cX7_send 134 = .ok (.invokestatic 166, 3) := by decide +kernel
theorem dX7_send_137 : decode cX7_send 137 = .ok (.invokevirtual 155, 3) := by decide +kernel
theorem dX7_send_140 : decode cX7_send 140 = .ok (.iload_n 2, 1) := by decide +kernel
theorem dX7_send_141 : decode cX7_send 141 = .ok (.ifCond .ne 44, 3) := by decide +kernel
theorem dX7_send_144 : decode cX7_send 144 = .ok (.iconst 0, 1) := by decide +kernel
theorem dX7_send_145 : decode cX7_send 145 = .ok (.bipush 80, 2) := by decide +kernel
theorem dX7_send_147 : decode cX7_send 147 = .ok (.aload_n 0, 1) := by decide +kernel
theorem dX7_send_148 : decode cX7_send 148 = .ok (.getfield 12, 3) := by decide +kernel
theorem dX7_send_151 : decode cX7_send 151 = .ok (.getfield 163, 3) := by decide +kernel
theorem dX7_send_154 : decode cX7_send 154 = .ok (.iconst 5, 1) := by decide +kernel
theorem dX7_send_155 : decode cX7_send 155 = .ok (.idiv, 1) := by decide +kernel
theorem dX7_send_156 : decode cX7_send 156 = .ok (.isub, 1) := by decide +kernel
theorem dX7_send_157 : decode cX7_send 157 = .ok (.invokestatic 166, 3) := by decide +kernel
theorem dX7_send_160 : decode cX7_send 160 = .ok (.istore_n 3, 1) := by decide +kernel
theorem dX7_send_161 : decode cX7_send 161 = .ok (.aload_n 0, 1) := by decide +kernel
theorem dX7_send_162 : decode cX7_send 162 = .ok (.getfield 35, 3) := by decide +kernel
theorem dX7_send_165 : decode cX7_send 165 = .ok (.iconst 3, 1) := by decide +kernel
theorem dX7_send_166 : decode cX7_send 166 = .ok (.iload_n 1, 1) := by decide +kernel
theorem dX7_send_167 : decode cX7_send 167 = .ok (.iload_n 3, 1) := by decide +kernel
theorem dX7_send_168 : decode cX7_send 168 = .ok (.invokevirtual 155, 3) := by decide +kernel
theorem dX7_send_171 : decode cX7_send 171 = .ok (.aload_n 0, 1) := by decide +kernel
theorem dX7_send_172 : decode cX7_send 172 = .ok (.getfield 35, 3) := by decide +kernel
theorem dX7_send_175 : decode cX7_send 175 = .ok (.iconst 4, 1) := by decide +kernel
theorem dX7_send_176 : decode cX7_send 176 = .ok (.iconst 2, 1) := by decide +kernel
theorem dX7_send_177 : decode cX7_send 177 = .ok (.iload_n 1, 1) := by decide +kernel
theorem dX7_send_178 : decode cX7_send 178 = .ok (.imul, 1) := by decide +kernel
theorem dX7_send_179 : decode cX7_send 179 = .ok (.iload_n 3, 1) := by decide +kernel
theorem dX7_send_180 : decode cX7_send 180 = .ok (.iconst 2, 1) := by decide +kernel
theorem dX7_send_181 : decode cX7_send 181 = .ok (.idiv, 1) := by decide +kernel
theorem dX7_send_182 : decode cX7_send 182 = .ok (.invokevirtual 155, 3) := by decide +kernel
theorem dX7_send_185 : decode cX7_send 185 = .ok (.aload_n 0, 1) := by decide +kernel
theorem dX7_send_186 : decode cX7_send 186 = .ok (.getfield 35, 3) := by decide +kernel
theorem dX7_send_189 : decode cX7_send 189 = .ok (.aload_n 0, 1) := by decide +kernel
theorem dX7_send_190 : decode cX7_send 190 = .ok (.getfield 12, 3) := by decide +kernel
theorem dX7_send_193 : decode cX7_send 193 = .ok (.aload_n 0, 1) := by decide +kernel
theorem dX7_send_194 : decode cX7_send 194 = .ok (.getfield 21, 3) := by decide +kernel
theorem dX7_send_197 : decode cX7_send 197 = .ok (.iconst 0, 1) := by decide +kernel
theorem dX7_send_198 : decode cX7_send 198 = .ok (.invokevirtual 104, 3) := by decide +kernel
theorem dX7_send_201 : decode cX7_send 201 = .ok (.aload_n 0, 1) := by decide +kernel
theorem dX7_send_202 : decode cX7_send 202 = .ok (.getfield 21, 3) := by decide +kernel
theorem dX7_send_205 : decode cX7_send 205 = .ok (.iconst 1, 1) := by decide +kernel
theorem dX7_send_206 : decode cX7_send 206 = .ok (.invokevirtual 104, 3) := by decide +kernel
theorem dX7_send_209 : decode cX7_send 209 = .ok (.invokevirtual 171, 3) := by decide +kernel
theorem dX7_send_212 : decode cX7_send 212 = .ok (.return_, 1) := by decide +kernel
theorem dX7_sendBlades_0 : decode cX7_sendBlades 0 = .ok (.iconst 0, 1) := by decide +kernel
theorem dX7_sendBlades_1 : decode cX7_sendBlades 1 = .ok (.istore_n 2, 1) := by decide +kernel
theorem dX7_sendBlades_2 : decode cX7_sendBlades 2 = .ok (.iconst 0, 1) := by decide +kernel
theorem dX7_sendBlades_3 : decode cX7_sendBlades 3 = .ok (.istore_n 3, 1) := by decide +kernel
theorem dX7_sendBlades_4 : decode cX7_sendBlades 4 = .ok (.iload_n 3, 1) := by decide +kernel
theorem dX7_sendBlades_5 : decode cX7_sendBlades 5 = .ok (.aload_n 0, 1) := by decide +kernel
theorem dX7_sendBlades_6 : decode cX7_sendBlades 6 = .ok (.getfield 12, 3) := by decide +kernel
theorem dX7_sendBlades_9 : decode cX7_sendBlades 9 = .ok (.getfield 175, 3) := by decide +kernel
theorem dX7_sendBlades_12 : decode cX7_sendBlades 12 = .ok (.if_icmp .ge 65, 3) := by decide +kernel
theorem dX7_sendBlades_15 : decode cX7_sendBlades 15 = .ok (.iload_n 3, 1) := by decide +kernel
theorem dX7_sendBlades_16 : decode cX7_sendBlades 16 = .ok (.iconst 2, 1) := by decide +kernel
theorem dX7_sendBlades_17 : decode cX7_sendBlades 17 = .ok (.irem, 1) := by decide +kernel
theorem dX7_sendBlades_18 : decode cX7_sendBlades 18 = .ok (.ifCond .ne 13, 3) := by decide +kernel
theorem dX7_sendBlades_21 : decode cX7_sendBlades 21 = .ok (.aload_n 0, 1) := by decide +kernel
theorem dX7_sendBlades_22 : decode cX7_sendBlades 22 = .ok (.getfield 12, 3) := by decide +kernel
theorem dX7_sendBlades_25 : decode cX7_sendBlades 25 = .ok (.getfield 178, 3) := by decide +kernel
theorem dX7_sendBlades_28 : decode cX7_sendBlades 28 = .ok (.goto 10, 3) := by decide +kernel
theorem dX7_sendBlades_31 : decode cX7_sendBlades 31 = .ok (.aload_n 0, 1) := by decide +kernel
theorem dX7_sendBlades_32 : decode cX7_sendBlades 32 = .ok (.getfield 12, 3) := by decide +kernel
theorem dX7_sendBlades_35 : decode cX7_sendBlades 35 = .ok (.getfield 181, 3) := by decide +kernel
theorem dX7_sendBlades_38 : decode cX7_sendBlades 38 = .ok (.istore 4, 2) := by decide +kernel
theorem dX7_sendBlades_40 : decode cX7_sendBlades 40 = .ok (.aload_n 0, 1) := by decide +kernel
theorem dX7_sendBlades_41 : decode cX7_sendBlades 41 = .ok (.getfield 12, 3) := by decide +kernel
theorem dX7_sendBlades_44 : decode cX7_sendBlades 44 = .ok (.iload_n 3, 1) := by decide +kernel
theorem dX7_sendBlades_45 : decode cX7_sendBlades 45 = .ok (.invokevirtual 184, 3) := by decide +kernel
theorem dX7_sendBlades_48 : decode cX7_sendBlades 48 = .ok (.ifCond .eq 23, 3) := by decide +kernel
theorem dX7_sendBlades_51 : decode cX7_sendBlades 51 = .ok (.iload 4, 2) := by decide +kernel
theorem dX7_sendBlades_53 : decode cX7_sendBlades 53 = .ok (.iload_n 1, 1) := by decide +kernel
theorem dX7_sendBlades_54 : decode cX7_sendBlades 54 = .ok (.if_icmp .ge 17, 3) := by decide +kernel
theorem dX7_sendBlades_57 : decode cX7_sendBlades 57 = .ok (.aload_n 0, 1) := by decide +kernel
theorem dX7_sendBlades_58 : decode cX7_sendBlades 58 = .ok (.getfield 35, 3) := by decide +kernel
theorem dX7_sendBlades_61 : decode cX7_sendBlades 61 = .ok (.iconst 1, 1) := by decide +kernel
theorem dX7_sendBlades_62 : decode cX7_sendBlades 62 = .ok (.iload 4, 2) := by decide +kernel
theorem dX7_sendBlades_64 : decode cX7_sendBlades 64 = .ok (.bipush 60, 2) := by decide +kernel
theorem dX7_sendBlades_66 : decode cX7_sendBlades 66 = .ok (.invokevirtual 155, 3) := by decide +kernel
theorem dX7_sendBlades_69 : decode cX7_sendBlades 69 = .ok (.iconst 1, 1) := by decide +kernel
theorem dX7_sendBlades_70 : decode cX7_sendBlades 70 = .ok (.istore_n 2, 1) := by decide +kernel
theorem dX7_sendBlades_71 : decode cX7_sendBlades 71 = .ok (.iinc 3 1, 3) := by decide +kernel
theorem dX7_sendBlades_74 : decode cX7_sendBlades 74 = .ok (.goto (-70), 3) := by decide +kernel
theorem dX7_sendBlades_77 : decode cX7_sendBlades 77 = .ok (.iload_n 2, 1) := by decide +kernel
theorem dX7_sendBlades_78 : decode cX7_sendBlades 78 = .ok (.ireturn, 1) := by decide +kernel
theorem dX7_findCandidates_0 : decode cX7_findCandidates 0 = .ok (.iconst 0, 1) := by decide +kernel
theorem dX7_findCandidates_1 : decode cX7_findCandidates 1 = .ok (.istore_n 1, 1) := by decide +kernel
theorem dX7_findCandidates_2 : decode cX7_findCandidates 2 = .ok (.iload_n 1, 1) := by decide +kernel
theorem dX7_findCandidates_3 : decode cX7_findCandidates 3 = .ok (.aload_n 0, 1) := by decide +kernel
theorem dX7_findCandidates_4 : decode cX7_findCandidates 4 = .ok (.getfield 35, 3) := by decide +kernel
theorem dX7_findCandidates_7 : decode cX7_findCandidates 7 = .ok (.getfield 131, 3) := by decide +kernel
theorem dX7_findCandidates_10 : decode cX7_findCandidates 10 = .ok (.if_icmp .ge 68, 3) := by decide +kernel
theorem dX7_findCandidates_13 : decode cX7_findCandidates 13 = .ok (.aload_n 0, 1) := by decide +kernel
theorem dX7_findCandidates_14 : decode cX7_findCandidates 14 = .ok (.getfield 35, 3) := by decide +kernel
theorem dX7_findCandidates_17 : decode cX7_findCandidates 17 = .ok (.iload_n 1, 1) := by decide +kernel
theorem dX7_findCandidates_18 : decode cX7_findCandidates 18 = .ok (.invokevirtual 124, 3) := by decide +kernel
theorem dX7_findCandidates_21 : decode cX7_findCandidates 21 = .ok (.istore_n 2, 1) := by decide +kernel
theorem dX7_findCandidates_22 : decode cX7_findCandidates 22 = .ok (.iload_n 2, 1) := by decide +kernel
theorem dX7_findCandidates_23 : decode cX7_findCandidates 23 = .ok (.aload_n 0, 1) := by decide +kernel
theorem dX7_findCandidates_24 : decode cX7_findCandidates 24 = .ok (.getfield 12, 3) := by decide +kernel
theorem dX7_findCandidates_27 : decode cX7_findCandidates 27 = .ok (.getfield 82, 3) := by decide +kernel
theorem dX7_findCandidates_30 : decode cX7_findCandidates 30 = .ok (.if_icmp .gt 42, 3) := by decide +kernel
theorem dX7_findCandidates_33 : decode cX7_findCandidates 33 = .ok (.aload_n 0, 1) := by decide +kernel
theorem dX7_findCandidates_34 : decode cX7_findCandidates 34 = .ok (.getfield 28, 3) := by decide +kernel
theorem dX7_findCandidates_37 : decode cX7_findCandidates 37 = .ok (.iload_n 2, 1) := by decide +kernel
theorem dX7_findCandidates_38 : decode cX7_findCandidates 38 = .ok (.invokevirtual 187, 3) := by decide +kernel
theorem dX7_findCandidates_41 : decode cX7_findCandidates 41 = .ok (.ifCond .ne 31, 3) := by decide +kernel
theorem dX7_findCandidates_44 : decode cX7_findCandidates 44 = .ok (.aload_n 0, 1) := by decide +kernel
theorem dX7_findCandidates_45 : decode cX7_findCandidates 45 = .ok (.getfield 35, 3) := by decide +kernel
theorem dX7_findCandidates_48 : decode cX7_findCandidates 48 = .ok (.iload_n 1, 1) := by decide +kernel
theorem dX7_findCandidates_49 : decode cX7_findCandidates 49 = .ok (.invokevirtual 190, 3) := by decide +kernel
theorem dX7_findCandidates_52 : decode cX7_findCandidates 52 = .ok (.aload_n 0, 1) := by decide +kernel
theorem dX7_findCandidates_53 : decode cX7_findCandidates 53 = .ok (.getfield 21, 3) := by decide +kernel
theorem dX7_findCandidates_56 : decode cX7_findCandidates 56 = .ok (.iload_n 2, 1) := by decide +kernel
theorem dX7_findCandidates_57 : decode cX7_findCandidates 57 = .ok (.invokevirtual 193, 3) := by decide +kernel
theorem dX7_findCandidates_60 : decode cX7_findCandidates 60 = .ok (.if_icmp .lt 12, 3) := by decide +kernel
theorem dX7_findCandidates_63 : decode cX7_findCandidates 63 = .ok (.aload_n 0, 1) := by decide +kernel
theorem dX7_findCandidates_64 : decode cX7_findCandidates 64 = .ok (.getfield 35, 3) := by decide +kernel
theorem dX7_findCandidates_67 : decode cX7_findCandidates 67 = .ok (.iload_n 1, 1) := by decide +kernel
theorem dX7_findCandidates_68 : decode cX7_findCandidates 68 = .ok (.iconst 1, 1) := by decide +kernel
theorem dX7_findCandidates_69 : decode cX7_findCandidates 69 = .ok (.invokevirtual 118, 3) := by decide +kernel
theorem dX7_findCandidates_72 : decode cX7_findCandidates 72 = .ok (.iinc 1 1, 3) := by decide +kernel
theorem dX7_findCandidates_75 : decode cX7_findCandidates 75 = .ok (.goto (-73), 3) := by decide +kernel
theorem dX7_findCandidates_78 : decode cX7_findCandidates 78 = .ok (.return_, 1) := by decide +kernel
theorem dX7_dropBlades_0 : decode cX7_dropBlades 0 = .ok (.iconst 0, 1) := by decide +kernel
theorem dX7_dropBlades_1 : decode cX7_dropBlades 1 = .ok (.istore_n 1, 1) := by decide +kernel
theorem dX7_dropBlades_2 : decode cX7_dropBlades 2 = .ok (.iload_n 1, 1) := by decide +kernel
theorem dX7_dropBlades_3 : decode cX7_dropBlades 3 = .ok (.aload_n 0, 1) := by decide +kernel
theorem dX7_dropBlades_4 : decode cX7_dropBlades 4 = .ok (.getfield 35, 3) := by decide +kernel
theorem dX7_dropBlades_7 : decode cX7_dropBlades 7 = .ok (.getfield 131, 3) := by decide +kernel
theorem dX7_dropBlades_10 : decode cX7_dropBlades 10 = .ok (.if_icmp .ge 102, 3) := by decide +kernel
theorem dX7_dropBlades_13 : decode cX7_dropBlades 13 = .ok (.aload_n 0, 1) := by decide +kernel
theorem dX7_dropBlades_14 : decode cX7_dropBlades 14 = .ok (.getfield 35, 3) := by decide +kernel
theorem dX7_dropBlades_17 : decode cX7_dropBlades 17 = .ok (.iload_n 1, 1) := by decide +kernel
theorem dX7_dropBlades_18 : decode cX7_dropBlades 18 = .ok (.invokevirtual 124, 3) := by decide +kernel
theorem dX7_dropBlades_21 : decode cX7_dropBlades 21 = .ok (.istore_n 2, 1) := by decide +kernel
theorem dX7_dropBlades_22 : decode cX7_dropBlades 22 = .ok (.aload_n 0, 1) := by decide +kernel
theorem dX7_dropBlades_23 : decode cX7_dropBlades 23 = .ok (.getfield 35, 3) := by decide +kernel
theorem dX7_dropBlades_26 : decode cX7_dropBlades 26 = .ok (.iload_n 1, 1) := by decide +kernel
theorem dX7_dropBlades_27 : decode cX7_dropBlades 27 = .ok (.iconst 1, 1) := by decide +kernel
theorem dX7_dropBlades_28 : decode cX7_dropBlades 28 = .ok (.invokevirtual 196, 3) := by decide +kernel
theorem dX7_dropBlades_31 : decode cX7_dropBlades 31 = .ok (.ifCond .eq 75, 3) := by decide +kernel
theorem dX7_dropBlades_34 : decode cX7_dropBlades 34 = .ok (.iload_n 2, 1) := by decide +kernel
theorem dX7_dropBlades_35 : decode cX7_dropBlades 35 = .ok (.aload_n 0, 1) := by decide +kernel
theorem dX7_dropBlades_36 : decode cX7_dropBlades 36 = .ok (.getfield 12, 3) := by decide +kernel
theorem dX7_dropBlades_39 : decode cX7_dropBlades 39 = .ok (.getfield 178, 3) := by decide +kernel
theorem dX7_dropBlades_42 : decode cX7_dropBlades 42 = .ok (.bipush 40, 2) := by decide +kernel
theorem dX7_dropBlades_44 : decode cX7_dropBlades 44 = .ok (.isub, 1) := by decide +kernel
theorem dX7_dropBlades_45 : decode cX7_dropBlades 45 = .ok (.if_icmp .lt 61, 3) := by decide +kernel
theorem dX7_dropBlades_48 : decode cX7_dropBlades 48 = .ok (.iload_n 2, 1) := by decide +kernel
theorem dX7_dropBlades_49 : decode cX7_dropBlades 49 = .ok (.aload_n 0, 1) := by decide +kernel
theorem dX7_dropBlades_50 : decode cX7_dropBlades 50 = .ok (.getfield 12, 3) := by decide +kernel
theorem dX7_dropBlades_53 : decode cX7_dropBlades 53 = .ok (.getfield 181, 3) := by decide +kernel
theorem dX7_dropBlades_56 : decode cX7_dropBlades 56 = .ok (.bipush 40, 2) := by decide +kernel
theorem dX7_dropBlades_58 : decode cX7_dropBlades 58 = .ok (.iadd, 1) := by decide +kernel
theorem dX7_dropBlades_59 : decode cX7_dropBlades 59 = .ok (.if_icmp .gt 47, 3) := by decide +kernel
theorem dX7_dropBlades_62 : decode cX7_dropBlades 62 = .ok (.aload_n 0, 1) := by decide +kernel
theorem dX7_dropBlades_63 : decode cX7_dropBlades 63 = .ok (.getfield 49, 3) := by decide +kernel
theorem dX7_dropBlades_66 : decode cX7_dropBlades 66 = .ok (.iload_n 2, 1) := by decide +kernel
theorem dX7_dropBlades_67 : decode cX7_dropBlades 67 = .ok (.invokevirtual 200, 3) := by decide +kernel
theorem dX7_dropBlades_70 : decode cX7_dropBlades 70 = .ok (.ifCond .eq 14, 3) := by decide +kernel
theorem dX7_dropBlades_73 : decode cX7_dropBlades 73 = .ok (.aload_n 0, 1) := by decide +kernel
theorem dX7_dropBlades_74 : decode cX7_dropBlades 74 = .ok (.getfield 53, 3) := by decide +kernel
theorem dX7_dropBlades_77 : decode cX7_dropBlades 77 = .ok (.iload_n 2, 1) := by decide +kernel
theorem dX7_dropBlades_78 : decode cX7_dropBlades 78 = .ok (.invokevirtual 200, 3) := by decide +kernel
theorem dX7_dropBlades_81 : decode cX7_dropBlades 81 = .ok (.ifCond .ne 25, 3) := by decide +kernel
theorem dX7_dropBlades_84 : decode cX7_dropBlades 84 = .ok (.aload_n 0, 1) := by decide +kernel
theorem dX7_dropBlades_85 : decode cX7_dropBlades 85 = .ok (.getfield 35, 3) := by decide +kernel
theorem dX7_dropBlades_88 : decode cX7_dropBlades 88 = .ok (.iload_n 1, 1) := by decide +kernel
theorem dX7_dropBlades_89 : decode cX7_dropBlades 89 = .ok (.iconst 2, 1) := by decide +kernel
theorem dX7_dropBlades_90 : decode cX7_dropBlades 90 = .ok (.invokevirtual 118, 3) := by decide +kernel
theorem dX7_dropBlades_93 : decode cX7_dropBlades 93 = .ok (.aload_n 0, 1) := by decide +kernel
theorem dX7_dropBlades_94 : decode cX7_dropBlades 94 = .ok (.getfield 42, 3) := by decide +kernel
theorem dX7_dropBlades_97 : decode cX7_dropBlades 97 = .ok (.dup, 1) := by decide +kernel
theorem dX7_dropBlades_98 : decode cX7_dropBlades 98 = .ok (.getfield 203, 3) := by decide +kernel
theorem dX7_dropBlades_101 : decode cX7_dropBlades 101 = .ok (.iconst 1, 1) := by decide +kernel
theorem dX7_dropBlades_102 : decode cX7_dropBlades 102 = .ok (.iadd, 1) := by decide +kernel
theorem dX7_dropBlades_103 : decode cX7_dropBlades 103 = .ok (.putfield 203, 3) := by decide +kernel
theorem dX7_dropBlades_106 : decode cX7_dropBlades 106 = .ok (.iinc 1 1, 3) := by decide +kernel
theorem dX7_dropBlades_109 : decode cX7_dropBlades 109 = .ok (.goto (-107), 3) := by decide +kernel
theorem dX7_dropBlades_112 : decode cX7_dropBlades 112 = .ok (.return_, 1) := by decide +kernel
theorem dX8_init_0 : decode cX8_init 0 = .ok (.aload_n 0, 1) := by decide +kernel
theorem dX8_init_1 : decode cX8_init 1 = .ok (.invokespecial 3, 3) := by decide +kernel
theorem dX8_init_4 : decode cX8_init 4 = .ok (.aload_n 0, 1) := by decide +kernel
theorem dX8_init_5 : decode cX8_init 5 = .ok (.bipush 6, 2) := by decide +kernel
theorem dX8_init_7 : decode cX8_init 7 = .ok (.newarray .int, 2) := by decide +kernel
theorem dX8_init_9 : decode cX8_init 9 = .ok (.putfield 9, 3) := by decide +kernel
theorem dX8_init_12 : decode cX8_init 12 = .ok (.aload_n 0, 1) := by decide +kernel
theorem dX8_init_13 : decode cX8_init 13 = .ok (.bipush 6, 2) := by decide +kernel
theorem dX8_init_15 : decode cX8_init 15 = .ok (.newarray .int, 2) := by decide +kernel
theorem dX8_init_17 : decode cX8_init 17 = .ok (.putfield 15, 3) := by decide +kernel
theorem dX8_init_20 : decode cX8_init 20 = .ok (.aload_n 0, 1) := by decide +kernel
theorem dX8_init_21 : decode cX8_init 21 = .ok (.invokevirtual 18, 3) := by decide +kernel
theorem dX8_init_24 : decode cX8_init 24 = .ok (.return_, 1) := by decide +kernel
theorem dX8_reset_0 : decode cX8_reset 0 = .ok (.aload_n 0, 1) := by decide +kernel
theorem dX8_reset_1 : decode cX8_reset 1 = .ok (.sipush 2000, 3) := by decide +kernel
theorem dX8_reset_4 : decode cX8_reset 4 = .ok (.putfield 21, 3) := by decide +kernel
theorem dX8_reset_7 : decode cX8_reset 7 = .ok (.aload_n 0, 1) := by decide +kernel
theorem dX8_reset_8 : decode cX8_reset 8 = .ok (.sipush 500, 3) := by decide +kernel
theorem dX8_reset_11 : decode cX8_reset 11 = .ok (.putfield 25, 3) := by decide +kernel
theorem dX8_reset_14 : decode cX8_reset 14 = .ok (.aload_n 0, 1) := by decide +kernel
theorem dX8_reset_15 : decode cX8_reset 15 = .ok (.iconst 0, 1) := by decide +kernel
theorem dX8_reset_16 : decode cX8_reset 16 = .ok (.putfield 28, 3) := by decide +kernel
theorem dX8_reset_19 : decode cX8_reset 19 = .ok (.aload_n 0, 1) := by decide +kernel
theorem dX8_reset_20 : decode cX8_reset 20 = .ok (.iconst 0, 1) := by decide +kernel
theorem dX8_reset_21 : decode cX8_reset 21 = .ok (.putfield 31, 3) := by decide +kernel
theorem dX8_reset_24 : decode cX8_reset 24 = .ok (.aload_n 0, 1) := by decide +kernel
theorem dX8_reset_25 : decode cX8_reset 25 = .ok (.iconst 0, 1) := by decide +kernel
theorem dX8_reset_26 : decode cX8_reset 26 = .ok (.putfield 34, 3) := by decide +kernel
theorem dX8_reset_29 : decode cX8_reset 29 = .ok (.aload_n 0, 1) := by decide +kernel
theorem dX8_reset_30 : decode cX8_reset 30 = .ok (.iconst 0, 1) := by decide +kernel
theorem dX8_reset_31 : decode cX8_reset 31 = .ok (.putfield 37, 3) := by decide +kernel
theorem dX8_reset_34 : decode cX8_reset 34 = .ok (.aload_n 0, 1) := by decide +kernel
theorem dX8_reset_35 : decode cX8_reset 35 = .ok (.sipush 300, 3) := by decide +kernel
theorem dX8_reset_38 : decode cX8_reset 38 = .ok (.putfield 40, 3) := by decide +kernel
theorem dX8_reset_41 : decode cX8_reset 41 = .ok (.aload_n 0, 1) := by decide +kernel
theorem dX8_reset_42 : decode cX8_reset 42 = .ok (.sipush 600, 3) := by decide +kernel
theorem dX8_reset_45 : decode cX8_reset 45 = .ok (.putfield 43, 3) := by decide +kernel
theorem dX8_reset_48 : decode cX8_reset 48 = .ok (.aload_n 0, 1) := by decide +kernel
theorem dX8_reset_49 : decode cX8_reset 49 = .ok (.iconst 0, 1) := by decide +kernel
theorem dX8_reset_50 : decode cX8_reset 50 = .ok (.putfield 46, 3) := by decide +kernel
theorem dX8_reset_53 : decode cX8_reset 53 = .ok (.aload_n 0, 1) := by decide +kernel
theorem dX8_reset_54 : decode cX8_reset 54 = .ok (.bipush 47, 2) := by decide +kernel
theorem dX8_reset_56 : decode cX8_reset 56 = .ok (.putfield 49, 3) := by decide +kernel
theorem dX8_reset_59 : decode cX8_reset 59 = .ok (.aload_n 0, 1) := by decide +kernel
theorem dX8_reset_60 : decode cX8_reset 60 = .ok (.bipush 20, 2) := by decide +kernel
theorem dX8_reset_62 : decode cX8_reset 62 = .ok (.putfield 52, 3) := by decide +kernel
theorem dX8_reset_65 : decode cX8_reset 65 = .ok (.aload_n 0, 1) := by decide +kernel
theorem dX8_reset_66 : decode cX8_reset 66 = .ok (.iconst 1, 1) := by decide +kernel
theorem dX8_reset_67 : decode cX8_reset 67 = .ok (.putfield 55, 3) := by decide +kernel
theorem dX8_reset_70 : decode cX8_reset 70 = .ok (.return_, 1) := by decide +kernel
theorem dX8_copyFrom_0 : decode cX8_copyFrom 0 = .ok (.aload_n 0, 1) := by decide +kernel
theorem dX8_copyFrom_1 : decode cX8_copyFrom 1 = .ok (.aload_n 1, 1) := by decide +kernel
theorem dX8_copyFrom_2 : decode cX8_copyFrom 2 = .ok (.getfield 21, 3) := by decide +kernel
theorem dX8_copyFrom_5 : decode cX8_copyFrom 5 = .ok (.putfield 21, 3) := by decide +kernel
theorem dX8_copyFrom_8 : decode cX8_copyFrom 8 = .ok (.aload_n 0, 1) := by decide +kernel
theorem dX8_copyFrom_9 : decode cX8_copyFrom 9 = .ok (.aload_n 1, 1) := by decide +kernel
theorem dX8_copyFrom_10 : decode cX8_copyFrom 10 = .ok (.getfield 25, 3) := by decide +kernel
theorem dX8_copyFrom_13 : decode cX8_copyFrom 13 = .ok (.putfield 25, 3) := by decide +kernel
theorem dX8_copyFrom_16 : decode cX8_copyFrom 16 = .ok (.aload_n 0, 1) := by decide +kernel
theorem dX8_copyFrom_17 : decode cX8_copyFrom 17 = .ok (.aload_n 1, 1) := by decide +kernel
theorem dX8_copyFrom_18 : decode cX8_copyFrom 18 = .ok (.getfield 28, 3) := by decide +kernel
theorem dX8_copyFrom_21 : decode cX8_copyFrom 21 = .ok (.putfield 28, 3) := by decide +kernel
theorem dX8_copyFrom_24 : decode cX8_copyFrom 24 = .ok (.aload_n 0, 1) := by decide +kernel
theorem dX8_copyFrom_25 : decode cX8_copyFrom 25 = .ok (.aload_n 1, 1) := by decide +kernel
theorem dX8_copyFrom_26 : decode cX8_copyFrom 26 = .ok (.getfield 31, 3) := by decide +kernel
theorem dX8_copyFrom_29 : decode cX8_copyFrom 29 = .ok (.putfield 31, 3) := by decide +kernel
theorem dX8_copyFrom_32 : decode cX8_copyFrom 32 = .ok (.aload_n 0, 1) := by decide +kernel
theorem dX8_copyFrom_33 : decode cX8_copyFrom 33 = .ok (.aload_n 1, 1) := by decide +kernel
theorem dX8_copyFrom_34 : decode cX8_copyFrom 34 = .ok (.getfield 34, 3) := by decide +kernel
theorem dX8_copyFrom_37 : decode cX8_copyFrom 37 = .ok (.putfield 34, 3) := by decide +kernel
theorem dX8_copyFrom_40 : decode cX8_copyFrom 40 = .ok (.aload_n 1, 1) := by decide +kernel
theorem dX8_copyFrom_41 : decode cX8_copyFrom 41 = .ok (.getfield 9, 3) := by decide +kernel
theorem dX8_copyFrom_44 : decode cX8_copyFrom 44 = .ok (.aload_n 0, 1) := by decide +kernel
theorem dX8_copyFrom_45 : decode cX8_copyFrom 45 = .ok (.getfield 9, 3) := by decide +kernel
theorem dX8_copyFrom_48 : decode cX8_copyFrom 48 = .ok (.invokestatic 58, 3) := by decide +kernel
theorem dX8_copyFrom_51 : decode cX8_copyFrom 51 = .ok (.aload_n 1, 1) := by decide +kernel
theorem dX8_copyFrom_52 : decode cX8_copyFrom 52 = .ok (.getfield 15, 3) := by decide +kernel
theorem dX8_copyFrom_55 : decode cX8_copyFrom 55 = .ok (.aload_n 0, 1) := by decide +kernel
theorem dX8_copyFrom_56 : decode cX8_copyFrom 56 = .ok (.getfield 15, 3) := by decide +kernel
theorem dX8_copyFrom_59 : decode cX8_copyFrom 59 = .ok (.invokestatic 58, 3) := by decide +kernel
theorem dX8_copyFrom_62 : decode cX8_copyFrom 62 = .ok (.aload_n 0, 1) := by decide +kernel
theorem dX8_copyFrom_63 : decode cX8_copyFrom 63 = .ok (.aload_n 1, 1) := by decide +kernel
theorem dX8_copyFrom_64 : decode cX8_copyFrom 64 = .ok (.getfield 37, 3) := by decide +kernel
theorem dX8_copyFrom_67 : decode cX8_copyFrom 67 = .ok (.putfield 37, 3) := by decide +kernel
theorem dX8_copyFrom_70 : decode cX8_copyFrom 70 = .ok (.aload_n 0, 1) := by decide +kernel
theorem dX8_copyFrom_71 : decode cX8_copyFrom 71 = .ok (.aload_n 1, 1) := by decide +kernel
theorem dX8_copyFrom_72 : decode cX8_copyFrom 72 = .ok (.getfield 40, 3) := by decide +kernel
theorem dX8_copyFrom_75 : decode cX8_copyFrom 75 = .ok (.putfield 40, 3) := by decide +kernel
theorem dX8_copyFrom_78 : decode cX8_copyFrom 78 = .ok (.aload_n 0, 1) := by decide +kernel
theorem dX8_copyFrom_79 : decode cX8_copyFrom 79 = .ok (.aload_n 1, 1) := by decide +kernel
theorem dX8_copyFrom_80 : decode cX8_copyFrom 80 = .ok (.getfield 43, 3) := by decide +kernel
theorem dX8_copyFrom_83 : decode cX8_copyFrom 83 = .ok (.putfield 43, 3) := by decide +kernel
theorem dX8_copyFrom_86 : decode cX8_copyFrom 86 = .ok (.aload_n 0, 1) := by decide +kernel
theorem dX8_copyFrom_87 : decode cX8_copyFrom 87 = .ok (.aload_n 1, 1) := by decide +kernel
theorem dX8_copyFrom_88 : decode cX8_copyFrom 88 = .ok (.getfield 46, 3) := by decide +kernel
theorem dX8_copyFrom_91 : decode cX8_copyFrom 91 = .ok (.putfield 46, 3) := by decide +kernel
theorem dX8_copyFrom_94 : decode cX8_copyFrom 94 = .ok (.aload_n 0, 1) := by decide +kernel
theorem dX8_copyFrom_95 : decode cX8_copyFrom 95 = .ok (.aload_n 1, 1) := by decide +kernel
theorem dX8_copyFrom_96 : decode cX8_copyFrom 96 = .ok (.getfield 49, 3) := by decide +kernel
theorem dX8_copyFrom_99 : decode cX8_copyFrom 99 = .ok (.putfield 49, 3) := by decide +kernel
theorem dX8_copyFrom_102 : decode cX8_copyFrom 102 = .ok (.aload_n 0, 1) := by decide +kernel
theorem dX8_copyFrom_103 : decode cX8_copyFrom 103 = .ok (.aload_n 1, 1) := by decide +kernel
theorem dX8_copyFrom_104 : decode cX8_copyFrom 104 = .ok (.getfield 52, 3) := by decide +kernel
theorem dX8_copyFrom_107 : decode cX8_copyFrom 107 = .ok (.putfield 52, 3) := by decide +kernel
theorem dX8_copyFrom_110 : decode cX8_copyFrom 110 = .ok (.aload_n 0, 1) := by decide +kernel
theorem dX8_copyFrom_111 : decode cX8_copyFrom 111 = .ok (.aload_n 1, 1) := by decide +kernel
theorem dX8_copyFrom_112 : decode cX8_copyFrom 112 = .ok (.getfield 55, 3) := by decide +kernel
theorem dX8_copyFrom_115 : decode cX8_copyFrom 115 = .ok (.putfield 55, 3) := by decide +kernel
theorem dX8_copyFrom_118 : decode cX8_copyFrom 118 = .ok (.return_, 1) := by decide +kernel
theorem dX8_allowsDepth_0 : decode cX8_allowsDepth 0 = .ok (.iload_n 0, 1) := by decide +kernel
theorem dX8_allowsDepth_1 : decode cX8_allowsDepth 1 = .ok (.sipush 500, 3) := by decide +kernel
theorem dX8_allowsDepth_4 : decode cX8_allowsDepth 4 = .ok (.if_icmp .lt 14, 3) := by decide +kernel
theorem dX8_allowsDepth_7 : decode cX8_allowsDepth 7 = .ok (.iload_n 0, 1) := by decide +kernel
theorem dX8_allowsDepth_8 : decode cX8_allowsDepth 8 = .ok (.sipush 10000, 3) := by decide +kernel
theorem dX8_allowsDepth_11 : decode cX8_allowsDepth 11 = .ok (.if_icmp .gt 7, 3) := by decide +kernel
theorem dX8_allowsDepth_14 : decode cX8_allowsDepth 14 = .ok (.iconst 1, 1) := by decide +kernel
theorem dX8_allowsDepth_15 : decode cX8_allowsDepth 15 = .ok (.goto 4, 3) := by decide +kernel
theorem dX8_allowsDepth_18 : decode cX8_allowsDepth 18 = .ok (.iconst 0, 1) := by decide +kernel
theorem dX8_allowsDepth_19 : decode cX8_allowsDepth 19 = .ok (.ireturn, 1) := by decide +kernel
theorem dX8_allowsLevel_0 : decode cX8_allowsLevel 0 = .ok (.iload_n 1, 1) := by decide +kernel
theorem dX8_allowsLevel_1 : decode cX8_allowsLevel 1 = .ok (.ifCond .lt 15, 3) := by decide +kernel
theorem dX8_allowsLevel_4 : decode cX8_allowsLevel 4 = .ok (.iload_n 1, 1) := by decide +kernel
theorem dX8_allowsLevel_5 : decode cX8_allowsLevel 5 = .ok (.aload_n 0, 1) := by decide +kernel
theorem dX8_allowsLevel_6 : decode cX8_allowsLevel 6 = .ok (.getfield 21, 3) := by decide +kernel
theorem dX8_allowsLevel_9 : decode cX8_allowsLevel 9 = .ok (.if_icmp .gt 7, 3) := by decide +kernel
theorem dX8_allowsLevel_12 : decode cX8_allowsLevel 12 = .ok (.iconst 1, 1) := by decide +kernel
theorem dX8_allowsLevel_13 : decode cX8_allowsLevel 13 = .ok (.goto 4, 3) := by decide +kernel
theorem dX8_allowsLevel_16 : decode cX8_allowsLevel 16 = .ok (.iconst 0, 1) := by decide +kernel
theorem dX8_allowsLevel_17 : decode cX8_allowsLevel 17 = .ok (.ireturn, 1) := by decide +kernel
theorem dX8_allowsFlow_0 : decode cX8_allowsFlow 0 = .ok (.iload_n 0, 1) := by decide +kernel
theorem dX8_allowsFlow_1 : decode cX8_allowsFlow 1 = .ok (.sipush (-200), 3) := by decide +kernel
theorem dX8_allowsFlow_4 : decode cX8_allowsFlow 4 = .ok (.if_icmp .lt 14, 3) := by decide +kernel
theorem dX8_allowsFlow_7 : decode cX8_allowsFlow 7 = .ok (.iload_n 0, 1) := by decide +kernel
theorem dX8_allowsFlow_8 : decode cX8_allowsFlow 8 = .ok (.sipush 200, 3) := by decide +kernel
theorem dX8_allowsFlow_11 : decode cX8_allowsFlow 11 = .ok (.if_icmp .gt 7, 3) := by decide +kernel
theorem dX8_allowsFlow_14 : decode cX8_allowsFlow 14 = .ok (.iconst 1, 1) := by decide +kernel
theorem dX8_allowsFlow_15 : decode cX8_allowsFlow 15 = .ok (.goto 4, 3) := by decide +kernel
theorem dX8_allowsFlow_18 : decode cX8_allowsFlow 18 = .ok (.iconst 0, 1) := by decide +kernel
theorem dX8_allowsFlow_19 : decode cX8_allowsFlow 19 = .ok (.ireturn, 1) := by decide +kernel
theorem dX8_allowsFoam_0 : decode cX8_allowsFoam 0 = .ok (.iload_n 0, 1) := by decide +kernel
theorem dX8_allowsFoam_1 : decode cX8_allowsFoam 1 = .ok (.ifCond .lt 14, 3) := by decide +kernel
theorem dX8_allowsFoam_4 : decode cX8_allowsFoam 4 = .ok (.iload_n 0, 1) := by decide +kernel
theorem dX8_allowsFoam_5 : decode cX8_allowsFoam 5 = .ok (.sipush 500, 3) := by decide +kernel
theorem dX8_allowsFoam_8 : decode cX8_allowsFoam 8 = .ok (.if_icmp .gt 7, 3) := by decide +kernel
theorem dX8_allowsFoam_11 : decode cX8_allowsFoam 11 = .ok (.iconst 1, 1) := by decide +kernel
theorem dX8_allowsFoam_12 : decode cX8_allowsFoam 12 = .ok (.goto 4, 3) := by decide +kernel
theorem dX8_allowsFoam_15 : decode cX8_allowsFoam 15 = .ok (.iconst 0, 1) := by decide +kernel
theorem dX8_allowsFoam_16 : decode cX8_allowsFoam 16 = .ok (.ireturn, 1) := by decide +kernel
theorem dX8_allowsThing_0 : decode cX8_allowsThing 0 = .ok (.iload_n 0, 1) := by decide +kernel
theorem dX8_allowsThing_1 : decode cX8_allowsThing 1 = .ok (.invokestatic 62, 3) := by decide +kernel
theorem dX8_allowsThing_4 : decode cX8_allowsThing 4 = .ok (.ifCond .eq 18, 3) := by decide +kernel
theorem dX8_allowsThing_7 : decode cX8_allowsThing 7 = .ok (.iload_n 1, 1) := by decide +kernel
theorem dX8_allowsThing_8 : decode cX8_allowsThing 8 = .ok (.iconst 1, 1) := by decide +kernel
theorem dX8_allowsThing_9 : decode cX8_allowsThing 9 = .ok (.if_icmp .lt 13, 3) := by decide +kernel
theorem dX8_allowsThing_12 : decode cX8_allowsThing 12 = .ok (.iload_n 1, 1) := by decide +kernel
theorem dX8_allowsThing_13 : decode cX8_allowsThing 13 = .ok (.bipush 100, 2) := by decide +kernel
theorem dX8_allowsThing_15 : decode cX8_allowsThing 15 = .ok (.if_icmp .gt 7, 3) := by decide +kernel
theorem dX8_allowsThing_18 : decode cX8_allowsThing 18 = .ok (.iconst 1, 1) := by decide +kernel
theorem dX8_allowsThing_19 : decode cX8_allowsThing 19 = .ok (.goto 4, 3) := by decide +kernel
theorem dX8_allowsThing_22 : decode cX8_allowsThing 22 = .ok (.iconst 0, 1) := by decide +kernel
theorem dX8_allowsThing_23 : decode cX8_allowsThing 23 = .ok (.ireturn, 1) := by decide +kernel
theorem dX8_allowsStirrer_0 : decode cX8_allowsStirrer 0 = .ok (.iload_n 0, 1) := by decide +kernel
theorem dX8_allowsStirrer_1 : decode cX8_allowsStirrer 1 = .ok (.ifCond .lt 55, 3) := by decide +kernel
theorem dX8_allowsStirrer_4 : decode cX8_allowsStirrer 4 = .ok (.iload_n 0, 1) := by decide +kernel
theorem dX8_allowsStirrer_5 : decode cX8_allowsStirrer 5 = .ok (.bipush 6, 2) := by decide +kernel
theorem dX8_allowsStirrer_7 : decode cX8_allowsStirrer 7 = .ok (.if_icmp .gt 49, 3) := by decide +kernel
theorem dX8_allowsStirrer_10 : decode cX8_allowsStirrer 10 = .ok (.iload_n 1, 1) := by decide +kernel
theorem dX8_allowsStirrer_11 : decode cX8_allowsStirrer 11 = .ok (.invokestatic 62, 3) := by decide +kernel
theorem dX8_allowsStirrer_14 : decode cX8_allowsStirrer 14 = .ok (.ifCond .eq 42, 3) := by decide +kernel
theorem dX8_allowsStirrer_17 : decode cX8_allowsStirrer 17 = .ok (.iload_n 2, 1) := by decide +kernel
theorem dX8_allowsStirrer_18 : decode cX8_allowsStirrer 18 = .ok (.invokestatic 62, 3) := by decide +kernel
theorem dX8_allowsStirrer_21 : decode cX8_allowsStirrer 21 = .ok (.ifCond .eq 35, 3) := by decide +kernel
theorem dX8_allowsStirrer_24 : decode cX8_allowsStirrer 24 = .ok (.iload_n 1, 1) := by decide +kernel
theorem dX8_allowsStirrer_25 : decode cX8_allowsStirrer 25 = .ok (.iload_n 2, 1) := by decide +kernel
theorem dX8_allowsStirrer_26 : decode cX8_allowsStirrer 26 = .ok (.if_icmp .ge 30, 3) := by decide +kernel
theorem dX8_allowsStirrer_29 : decode cX8_allowsStirrer 29 = .ok (.iload_n 3, 1) := by decide +kernel
theorem dX8_allowsStirrer_30 : decode cX8_allowsStirrer 30 = .ok (.ifCond .lt 26, 3) := by decide +kernel
theorem dX8_allowsStirrer_33 : decode cX8_allowsStirrer 33 = .ok (.iload_n 3, 1) := by decide +kernel
theorem dX8_allowsStirrer_34 : decode cX8_allowsStirrer 34 = .ok (.sipush 359, 3) := by decide +kernel
theorem dX8_allowsStirrer_37 : decode cX8_allowsStirrer 37 = .ok (.if_icmp .gt 19, 3) := by decide +kernel
theorem dX8_allowsStirrer_40 : decode cX8_allowsStirrer 40 = .ok (.iload 4, 2) := by decide +kernel
theorem dX8_allowsStirrer_42 : decode cX8_allowsStirrer 42 = .ok (.ifCond .lt 14, 3) := by decide +kernel
theorem dX8_allowsStirrer_45 : decode cX8_allowsStirrer 45 = .ok (.iload 4, 2) := by decide +kernel
theorem dX8_allowsStirrer_47 : decode cX8_allowsStirrer 47 = .ok (.bipush 90, 2) := by decide +kernel
theorem dX8_allowsStirrer_49 : decode cX8_allowsStirrer 49 = .ok (.if_icmp .gt 7, 3) := by decide +kernel
theorem dX8_allowsStirrer_52 : decode cX8_allowsStirrer 52 = .ok (.iconst 1, 1) := by decide +kernel
theorem dX8_allowsStirrer_53 : decode cX8_allowsStirrer 53 = .ok (.goto 4, 3) := by decide +kernel
theorem dX8_allowsStirrer_56 : decode cX8_allowsStirrer 56 = .ok (.iconst 0, 1) := by decide +kernel
theorem dX8_allowsStirrer_57 : decode cX8_allowsStirrer 57 = .ok (.ireturn, 1) := by decide +kernel
theorem dX8_hasPlaceForThing_0 : decode cX8_hasPlaceForThing 0 = .ok (.aload_n 0, 1) := by decide +kernel
theorem dX8_hasPlaceForThing_1 : decode cX8_hasPlaceForThing 1 = .ok (.getfield 34, 3) := by decide +kernel
theorem dX8_hasPlaceForThing_4 : decode cX8_hasPlaceForThing 4 = .ok (.bipush 6, 2) := by decide +kernel
theorem dX8_hasPlaceForThing_6 : decode cX8_hasPlaceForThing 6 = .ok (.if_icmp .ge 7, 3) := by decide +kernel
theorem dX8_hasPlaceForThing_9 : decode cX8_hasPlaceForThing 9 = .ok (.iconst 1, 1) := by decide +kernel
theorem dX8_hasPlaceForThing_10 : decode cX8_hasPlaceForThing 10 = .ok (.goto 4, 3) := by decide +kernel
theorem dX8_hasPlaceForThing_13 : decode cX8_hasPlaceForThing 13 = .ok (.iconst 0, 1) := by decide +kernel
theorem dX8_hasPlaceForThing_14 : decode cX8_hasPlaceForThing 14 = .ok (.ireturn, 1) := by decide +kernel
theorem dX8_hasThing_0 : decode cX8_hasThing 0 = .ok (.iload_n 1, 1) := by decide +kernel
theorem dX8_hasThing_1 : decode cX8_hasThing 1 = .ok (.ifCond .lt 15, 3) := by decide +kernel
theorem dX8_hasThing_4 : decode cX8_hasThing 4 = .ok (.iload_n 1, 1) := by decide +kernel
theorem dX8_hasThing_5 : decode cX8_hasThing 5 = .ok (.aload_n 0, 1) := by decide +kernel
theorem dX8_hasThing_6 : decode cX8_hasThing 6 = .ok (.getfield 34, 3) := by decide +kernel
theorem dX8_hasThing_9 : decode cX8_hasThing 9 = .ok (.if_icmp .ge 7, 3) := by decide +kernel
theorem dX8_hasThing_12 : decode cX8_hasThing 12 = .ok (.iconst 1, 1) := by decide +kernel
theorem dX8_hasThing_13 : decode cX8_hasThing 13 = .ok (.goto 4, 3) := by decide +kernel
theorem dX8_hasThing_16 : decode cX8_hasThing 16 = .ok (.iconst 0, 1) := by decide +kernel
theorem dX8_hasThing_17 : decode cX8_hasThing 17 = .ok (.ireturn, 1) := by decide +kernel
theorem dX8_putThing_0 : decode cX8_putThing 0 = .ok (.aload_n 0, 1) := by decide +kernel
theorem dX8_putThing_1 : decode cX8_putThing 1 = .ok (.getfield 34, 3) := by decide +kernel
theorem dX8_putThing_4 : decode cX8_putThing 4 = .ok (.ifCond .lt 57, 3) := by decide +kernel
theorem dX8_putThing_7 : decode cX8_putThing 7 = .ok (.aload_n 0, 1) := by decide +kernel
theorem dX8_putThing_8 : decode cX8_putThing 8 = .ok (.getfield 34, 3) := by decide +kernel
theorem dX8_putThing_11 : decode cX8_putThing 11 = .ok (.aload_n 0, 1) := by decide +kernel
theorem dX8_putThing_12 : decode cX8_putThing 12 = .ok (.getfield 9, 3) := by decide +kernel
theorem dX8_putThing_15 : decode cX8_putThing 15 = .ok (.arraylength, 1) := by decide +kernel
theorem dX8_putThing_16 : decode cX8_putThing 16 = .ok (.if_icmp .ge 45, 3) := by decide +kernel
theorem dX8_putThing_19 : decode cX8_putThing 19 = .ok (.aload_n 0, 1) := by decide +kernel
theorem dX8_putThing_20 : decode cX8_putThing 20 = .ok (.getfield 34, 3) := by decide +kernel
theorem dX8_putThing_23 : decode cX8_putThing 23 = .ok (.aload_n 0, 1) := by decide +kernel
theorem dX8_putThing_24 : decode cX8_putThing 24 = .ok (.getfield 15, 3) := by decide +kernel
theorem dX8_putThing_27 : decode cX8_putThing 27 = .ok (.arraylength, 1) := by decide +kernel
theorem dX8_putThing_28 : decode cX8_putThing 28 = .ok (.if_icmp .ge 33, 3) := by decide +kernel
theorem dX8_putThing_31 : decode cX8_putThing 31 = .ok (.aload_n 0, 1) := by decide +kernel
theorem dX8_putThing_32 : decode cX8_putThing 32 = .ok (.getfield 9, 3) := by decide +kernel
theorem dX8_putThing_35 : decode cX8_putThing 35 = .ok (.aload_n 0, 1) := by decide +kernel
theorem dX8_putThing_36 : decode cX8_putThing 36 = .ok (.getfield 34, 3) := by decide +kernel
theorem dX8_putThing_39 : decode cX8_putThing 39 = .ok (.iload_n 1, 1) := by decide +kernel
theorem dX8_putThing_40 : decode cX8_putThing 40 = .ok (.iastore, 1) := by decide +kernel
theorem dX8_putThing_41 : decode cX8_putThing 41 = .ok (.aload_n 0, 1) := by decide +kernel
theorem dX8_putThing_42 : decode cX8_putThing 42 = .ok (.getfield 15, 3) := by decide +kernel
theorem dX8_putThing_45 : decode cX8_putThing 45 = .ok (.aload_n 0, 1) := by decide +kernel
theorem dX8_putThing_46 : decode cX8_putThing 46 = .ok (.getfield 34, 3) := by decide +kernel
theorem dX8_putThing_49 : decode cX8_putThing 49 = .ok (.iload_n 2, 1) := by decide +kernel
theorem dX8_putThing_50 : decode cX8_putThing 50 = .ok (.iastore, 1) := by decide +kernel
theorem dX8_putThing_51 : decode cX8_putThing 51 = .ok (.aload_n 0, 1) := by decide +kernel
theorem dX8_putThing_52 : decode cX8_putThing 52 = .ok (.dup, 1) := by decide +kernel
theorem dX8_putThing_53 : decode cX8_putThing 53 = .ok (.getfield 34, 3) := by decide +kernel
theorem dX8_putThing_56 : decode cX8_putThing 56 = .ok (.iconst 1, 1) := by decide +kernel
theorem dX8_putThing_57 : decode cX8_putThing 57 = .ok (.iadd, 1) := by decide +kernel
theorem dX8_putThing_58 : decode cX8_putThing 58 = .ok (.putfield 34, 3) := by decide +kernel
theorem dX8_putThing_61 : decode cX8_putThing 61 = .ok (.return_, 1) := by decide +kernel
theorem dX8_dropThing_0 : decode cX8_dropThing 0 = .ok (.aload_n 0, 1) := by decide +kernel
theorem dX8_dropThing_1 : decode cX8_dropThing 1 = .ok (.iload_n 1, 1) := by decide +kernel
theorem dX8_dropThing_2 : decode cX8_dropThing 2 = .ok (.invokevirtual 66, 3) := by decide +kernel
theorem dX8_dropThing_5 : decode cX8_dropThing 5 = .ok (.ifCond .ne 4, 3) := by decide +kernel
theorem dX8_dropThing_8 : decode cX8_dropThing 8 = .ok (.return_, 1) := by decide +kernel
theorem dX8_dropThing_9 : decode cX8_dropThing 9 = .ok (.iload_n 1, 1) := by decide +kernel
theorem dX8_dropThing_10 : decode cX8_dropThing 10 = .ok (.istore_n 2, 1) := by decide +kernel
theorem dX8_dropThing_11 : decode cX8_dropThing 11 = .ok (.iload_n 2, 1) := by decide +kernel
theorem dX8_dropThing_12 : decode cX8_dropThing 12 = .ok (.iconst 1, 1) := by decide +kernel
theorem dX8_dropThing_13 : decode cX8_dropThing 13 = .ok (.iadd, 1) := by decide +kernel
theorem dX8_dropThing_14 : decode cX8_dropThing 14 = .ok (.aload_n 0, 1) := by decide +kernel
theorem dX8_dropThing_15 : decode cX8_dropThing 15 = .ok (.getfield 34, 3) := by decide +kernel
theorem dX8_dropThing_18 : decode cX8_dropThing 18 = .ok (.if_icmp .ge 37, 3) := by decide +kernel
theorem dX8_dropThing_21 : decode cX8_dropThing 21 = .ok (.aload_n 0, 1) := by decide +kernel
theorem dX8_dropThing_22 : decode cX8_dropThing 22 = .ok (.getfield 9, 3) := by decide +kernel
theorem dX8_dropThing_25 : decode cX8_dropThing 25 = .ok (.iload_n 2, 1) := by decide +kernel
theorem dX8_dropThing_26 : decode cX8_dropThing 26 = .ok (.aload_n 0, 1) := by decide +kernel
theorem dX8_dropThing_27 : decode cX8_dropThing 27 = .ok (.getfield 9, 3) := by decide +kernel
theorem dX8_dropThing_30 : decode cX8_dropThing 30 = .ok (.iload_n 2, 1) := by decide +kernel
theorem dX8_dropThing_31 : decode cX8_dropThing 31 = .ok (.iconst 1, 1) := by decide +kernel
theorem dX8_dropThing_32 : decode cX8_dropThing 32 = .ok (.iadd, 1) := by decide +kernel
theorem dX8_dropThing_33 : decode cX8_dropThing 33 = .ok (.iaload, 1) := by decide +kernel
theorem dX8_dropThing_34 : decode cX8_dropThing 34 = .ok (.iastore, 1) := by decide +kernel
theorem dX8_dropThing_35 : decode cX8_dropThing 35 = .ok (.aload_n 0, 1) := by decide +kernel
theorem dX8_dropThing_36 : decode cX8_dropThing 36 = .ok (.getfield 15, 3) := by decide +kernel
theorem dX8_dropThing_39 : decode cX8_dropThing 39 = .ok (.iload_n 2, 1) := by decide +kernel
theorem dX8_dropThing_40 : decode cX8_dropThing 40 = .ok (.aload_n 0, 1) := by decide +kernel
theorem dX8_dropThing_41 : decode cX8_dropThing 41 = .ok (.getfield 15, 3) := by decide +kernel
theorem dX8_dropThing_44 : decode cX8_dropThing 44 = .ok (.iload_n 2, 1) := by decide +kernel
theorem dX8_dropThing_45 : decode cX8_dropThing 45 = .ok (.iconst 1, 1) := by decide +kernel
theorem dX8_dropThing_46 : decode cX8_dropThing 46 = .ok (.iadd, 1) := by decide +kernel
theorem dX8_dropThing_47 : decode cX8_dropThing 47 = .ok (.iaload, 1) := by decide +kernel
theorem dX8_dropThing_48 : decode cX8_dropThing 48 = .ok (.iastore, 1) := by decide +kernel
theorem dX8_dropThing_49 : decode cX8_dropThing 49 = .ok (.iinc 2 1, 3) := by decide +kernel
theorem dX8_dropThing_52 : decode cX8_dropThing 52 = .ok (.goto (-41), 3) := by decide +kernel
theorem dX8_dropThing_55 : decode cX8_dropThing 55 = .ok (.aload_n 0, 1) := by decide +kernel
theorem dX8_dropThing_56 : decode cX8_dropThing 56 = .ok (.dup, 1) := by decide +kernel
theorem dX8_dropThing_57 : decode cX8_dropThing 57 = .ok (.getfield 34, 3) := by decide +kernel
theorem dX8_dropThing_60 : decode cX8_dropThing 60 = .ok (.iconst 1, 1) := by decide +kernel
theorem dX8_dropThing_61 : decode cX8_dropThing 61 = .ok (.isub, 1) := by decide +kernel
theorem dX8_dropThing_62 : decode cX8_dropThing 62 = .ok (.putfield 34, 3) := by decide +kernel
theorem dX8_dropThing_65 : decode cX8_dropThing 65 = .ok (.return_, 1) := by decide +kernel
theorem dX8_thingDistance_0 : decode cX8_thingDistance 0 = .ok (.aload_n 0, 1) := by decide +kernel
theorem dX8_thingDistance_1 : decode cX8_thingDistance 1 = .ok (.iload_n 1, 1) := by decide +kernel
theorem dX8_thingDistance_2 : decode cX8_thingDistance 2 = .ok (.invokevirtual 66, 3) := by decide +kernel
theorem dX8_thingDistance_5 : decode cX8_thingDistance 5 = .ok (.ifCond .eq 12, 3) := by decide +kernel
theorem dX8_thingDistance_8 : decode cX8_thingDistance 8 = .ok (.aload_n 0, 1) := by decide +kernel
theorem dX8_thingDistance_9 : decode cX8_thingDistance 9 = .ok (.getfield 9, 3) := by decide +kernel
theorem dX8_thingDistance_12 : decode cX8_thingDistance 12 = .ok (.iload_n 1, 1) := by decide +kernel
theorem dX8_thingDistance_13 : decode cX8_thingDistance 13 = .ok (.iaload, 1) := by decide +kernel
theorem dX8_thingDistance_14 : decode cX8_thingDistance 14 = .ok (.goto 4, 3) := by decide +kernel
theorem dX8_thingDistance_17 : decode cX8_thingDistance 17 = .ok (.iconst (-1), 1) := by decide +kernel
theorem dX8_thingDistance_18 : decode cX8_thingDistance 18 = .ok (.ireturn, 1) := by decide +kernel
theorem dX8_thingStrength_0 : decode cX8_thingStrength 0 = .ok (.aload_n 0, 1) := by decide +kernel
theorem dX8_thingStrength_1 : decode cX8_thingStrength 1 = .ok (.iload_n 1, 1) := by decide +kernel
theorem dX8_thingStrength_2 : decode cX8_thingStrength 2 = .ok (.invokevirtual 66, 3) := by decide +kernel
theorem dX8_thingStrength_5 : decode cX8_thingStrength 5 = .ok (.ifCond .eq 12, 3) := by decide +kernel
theorem dX8_thingStrength_8 : decode cX8_thingStrength 8 = .ok (.aload_n 0, 1) := by decide +kernel
theorem dX8_thingStrength_9 : decode cX8_thingStrength 9 = .ok (.getfield 15, 3) := by decide +kernel
theorem dX8_thingStrength_12 : decode cX8_thingStrength 12 = .ok (.iload_n 1, 1) := by decide +kernel
theorem dX8_thingStrength_13 : decode cX8_thingStrength 13 = .ok (.iaload, 1) := by decide +kernel
theorem dX8_thingStrength_14 : decode cX8_thingStrength 14 = .ok (.goto 4, 3) := by decide +kernel
theorem dX8_thingStrength_17 : decode cX8_thingStrength 17 = .ok (.iconst (-1), 1) := by decide +kernel
theorem dX8_thingStrength_18 : decode cX8_thingStrength 18 = .ok (.ireturn, 1) := by decide +kernel
theorem dX8_putStirrer_0 : decode cX8_putStirrer 0 = .ok (.aload_n 0, 1) := by decide +kernel
theorem dX8_putStirrer_1 : decode cX8_putStirrer 1 = .ok (.iload_n 1, 1) := by decide +kernel
theorem dX8_putStirrer_2 : decode cX8_putStirrer 2 = .ok (.putfield 37, 3) := by decide +kernel
theorem dX8_putStirrer_5 : decode cX8_putStirrer 5 = .ok (.aload_n 0, 1) := by decide +kernel
theorem dX8_putStirrer_6 : decode cX8_putStirrer 6 = .ok (.iload_n 2, 1) := by decide +kernel
theorem dX8_putStirrer_7 : decode cX8_putStirrer 7 = .ok (.putfield 40, 3) := by decide +kernel
theorem dX8_putStirrer_10 : decode cX8_putStirrer 10 = .ok (.aload_n 0, 1) := by decide +kernel
theorem dX8_putStirrer_11 : decode cX8_putStirrer 11 = .ok (.iload_n 3, 1) := by decide +kernel
theorem dX8_putStirrer_12 : decode cX8_putStirrer 12 = .ok (.putfield 43, 3) := by decide +kernel
theorem dX8_putStirrer_15 : decode cX8_putStirrer 15 = .ok (.aload_n 0, 1) := by decide +kernel
theorem dX8_putStirrer_16 : decode cX8_putStirrer 16 = .ok (.iload 4, 2) := by decide +kernel
theorem dX8_putStirrer_18 : decode cX8_putStirrer 18 = .ok (.putfield 49, 3) := by decide +kernel
theorem dX8_putStirrer_21 : decode cX8_putStirrer 21 = .ok (.aload_n 0, 1) := by decide +kernel
theorem dX8_putStirrer_22 : decode cX8_putStirrer 22 = .ok (.iload 5, 2) := by decide +kernel
theorem dX8_putStirrer_24 : decode cX8_putStirrer 24 = .ok (.putfield 52, 3) := by decide +kernel
theorem dX8_putStirrer_27 : decode cX8_putStirrer 27 = .ok (.return_, 1) := by decide +kernel
theorem dX8_moveOn_0 : decode cX8_moveOn 0 = .ok (.aload_n 0, 1) := by decide +kernel
theorem dX8_moveOn_1 : decode cX8_moveOn 1 = .ok (.aload_n 0, 1) := by decide +kernel
theorem dX8_moveOn_2 : decode cX8_moveOn 2 = .ok (.getfield 21, 3) := by decide +kernel
theorem dX8_moveOn_5 : decode cX8_moveOn 5 = .ok (.iconst 0, 1) := by decide +kernel
theorem dX8_moveOn_6 : decode cX8_moveOn 6 = .ok (.aload_n 0, 1) := by decide +kernel
theorem dX8_moveOn_7 : decode cX8_moveOn 7 = .ok (.getfield 25, 3) := by decide +kernel
theorem dX8_moveOn_10 : decode cX8_moveOn 10 = .ok (.aload_n 0, 1) := by decide +kernel
theorem dX8_moveOn_11 : decode cX8_moveOn 11 = .ok (.getfield 28, 3) := by decide +kernel
theorem dX8_moveOn_14 : decode cX8_moveOn 14 = .ok (.iadd, 1) := by decide +kernel
theorem dX8_moveOn_15 : decode cX8_moveOn 15 = .ok (.invokestatic 69, 3) := by decide +kernel
theorem dX8_moveOn_18 : decode cX8_moveOn 18 = .ok (.invokestatic 75, 3) := by decide +kernel
theorem dX8_moveOn_21 : decode cX8_moveOn 21 = .ok (.putfield 25, 3) := by decide +kernel
theorem dX8_moveOn_24 : decode cX8_moveOn 24 = .ok (.aload_n 0, 1) := by decide +kernel
theorem dX8_moveOn_25 : decode cX8_moveOn 25 = .ok (.aload_n 0, 1) := by decide +kernel
theorem dX8_moveOn_26 : decode cX8_moveOn 26 = .ok (.getfield 46, 3) := by decide +kernel
theorem dX8_moveOn_29 : decode cX8_moveOn 29 = .ok (.aload_n 0, 1) := by decide +kernel
theorem dX8_moveOn_30 : decode cX8_moveOn 30 = .ok (.getfield 49, 3) := by decide +kernel
theorem dX8_moveOn_33 : decode cX8_moveOn 33 = .ok (.iadd, 1) := by decide +kernel
theorem dX8_moveOn_34 : decode cX8_moveOn 34 = .ok (.sipush 360, 3) := by decide +kernel
theorem dX8_moveOn_37 : decode cX8_moveOn 37 = .ok (.irem, 1) := by decide +kernel
theorem dX8_moveOn_38 : decode cX8_moveOn 38 = .ok (.putfield 46, 3) := by decide +kernel
theorem dX8_moveOn_41 : decode cX8_moveOn 41 = .ok (.return_, 1) := by decide +kernel
theorem dX8_bladeAngle_0 : decode cX8_bladeAngle 0 = .ok (.aload_n 0, 1) := by decide +kernel
theorem dX8_bladeAngle_1 : decode cX8_bladeAngle 1 = .ok (.getfield 37, 3) := by decide +kernel
theorem dX8_bladeAngle_4 : decode cX8_bladeAngle 4 = .ok (.ifCond .le 25, 3) := by decide +kernel
theorem dX8_bladeAngle_7 : decode cX8_bladeAngle 7 = .ok (.aload_n 0, 1) := by decide +kernel
theorem dX8_bladeAngle_8 : decode cX8_bladeAngle 8 = .ok (.getfield 46, 3) := by decide +kernel
theorem dX8_bladeAngle_11 : decode cX8_bladeAngle 11 = .ok (.sipush 360, 3) := by decide +kernel
theorem dX8_bladeAngle_14 : decode cX8_bladeAngle 14 = .ok (.iload_n 1, 1) := by decide +kernel
theorem dX8_bladeAngle_15 : decode cX8_bladeAngle 15 = .ok (.imul, 1) := by decide +kernel
theorem dX8_bladeAngle_16 : decode cX8_bladeAngle 16 = .ok (.aload_n 0, 1) := by decide +kernel
theorem dX8_bladeAngle_17 : decode cX8_bladeAngle 17 = .ok (.getfield 37, 3) := by decide +kernel
theorem dX8_bladeAngle_20 : decode cX8_bladeAngle 20 = .ok (.idiv, 1) := by decide +kernel
theorem dX8_bladeAngle_21 : decode cX8_bladeAngle 21 = .ok (.iadd, 1) := by decide +kernel
theorem dX8_bladeAngle_22 : decode cX8_bladeAngle 22 = .ok (.sipush 360, 3) := by decide +kernel
theorem dX8_bladeAngle_25 : decode cX8_bladeAngle 25 = .ok (.irem, 1) := by decide +kernel
theorem dX8_bladeAngle_26 : decode cX8_bladeAngle 26 = .ok (.goto 4, 3) := by decide +kernel
theorem dX8_bladeAngle_29 : decode cX8_bladeAngle 29 = .ok (.iconst (-1), 1) := by decide +kernel
theorem dX8_bladeAngle_30 : decode cX8_bladeAngle 30 = .ok (.ireturn, 1) := by decide +kernel
theorem dX8_isInBeam_0 : decode cX8_isInBeam 0 = .ok (.aload_n 0, 1) := by decide +kernel
theorem dX8_isInBeam_1 : decode cX8_isInBeam 1 = .ok (.iload_n 1, 1) := by decide +kernel
theorem dX8_isInBeam_2 : decode cX8_isInBeam 2 = .ok (.invokevirtual 78, 3) := by decide +kernel
theorem dX8_isInBeam_5 : decode cX8_isInBeam 5 = .ok (.istore_n 2, 1) := by decide +kernel
theorem dX8_isInBeam_6 : decode cX8_isInBeam 6 = .ok (.iload_n 2, 1) := by decide +kernel
theorem dX8_isInBeam_7 : decode cX8_isInBeam 7 = .ok (.aload_n 0, 1) := by decide +kernel
theorem dX8_isInBeam_8 : decode cX8_isInBeam 8 = .ok (.getfield 52, 3) := by decide +kernel
theorem dX8_isInBeam_11 : decode cX8_isInBeam 11 = .ok (.if_icmp .le 15, 3) := by decide +kernel
theorem dX8_isInBeam_14 : decode cX8_isInBeam 14 = .ok (.iload_n 2, 1) := by decide +kernel
theorem dX8_isInBeam_15 : decode cX8_isInBeam 15 = .ok (.sipush 360, 3) := by decide +kernel
theorem dX8_isInBeam_18 : decode cX8_isInBeam 18 = .ok (.aload_n 0, 1) := by decide +kernel
theorem dX8_isInBeam_19 : decode cX8_isInBeam 19 = .ok (.getfield 52, 3) := by decide +kernel
theorem dX8_isInBeam_22 : decode cX8_isInBeam 22 = .ok (.isub, 1) := by decide +kernel
theorem dX8_isInBeam_23 : decode cX8_isInBeam 23 = .ok (.if_icmp .lt 7, 3) := by decide +kernel
theorem dX8_isInBeam_26 : decode cX8_isInBeam 26 = .ok (.iconst 1, 1) := by decide +kernel
theorem dX8_isInBeam_27 : decode cX8_isInBeam 27 = .ok (.goto 4, 3) := by decide +kernel
theorem dX8_isInBeam_30 : decode cX8_isInBeam 30 = .ok (.iconst 0, 1) := by decide +kernel
theorem dX8_isInBeam_31 : decode cX8_isInBeam 31 = .ok (.ireturn, 1) := by decide +kernel
theorem dX8_draw_0 : decode cX8_draw 0 = .ok (.aload_n 0, 1) := by decide +kernel
theorem dX8_draw_1 : decode cX8_draw 1 = .ok (.ldc2_w 82, 3) := by decide +kernel
theorem dX8_draw_4 : decode cX8_draw 4 = .ok (.aload_n 0, 1) := by decide +kernel
theorem dX8_draw_5 : decode cX8_draw 5 = .ok (.getfield 55, 3) := by decide +kernel
theorem dX8_draw_8 : decode cX8_draw 8 = .ok (.i2l, 1) := by decide +kernel
theorem dX8_draw_9 : decode cX8_draw 9 = .ok (.lmul, 1) := by decide +kernel
theorem dX8_draw_10 : decode cX8_draw 10 = .ok (.ldc2_w 84, 3) := by decide +kernel
theorem dX8_draw_13 : decode cX8_draw 13 = .ok (.ladd, 1) := by decide +kernel
theorem dX8_draw_14 : decode cX8_draw 14 = .ok (.ldc2_w 86, 3) := by decide +kernel
theorem dX8_draw_17 : decode cX8_draw 17 = .ok (.lrem, 1) := by decide +kernel
theorem dX8_draw_18 : decode cX8_draw 18 = .ok (.l2i, 1) := by decide +kernel
theorem dX8_draw_19 : decode cX8_draw 19 = .ok (.putfield 55, 3) := by decide +kernel
theorem dX8_draw_22 : decode cX8_draw 22 = .ok (.iload_n 1, 1) := by decide +kernel
theorem dX8_draw_23 : decode cX8_draw 23 = .ok (.ifCond .le 15, 3) := by decide +kernel
theorem dX8_draw_26 : decode cX8_draw 26 = .ok (.aload_n 0, 1) := by decide +kernel
theorem dX8_draw_27 : decode cX8_draw 27 = .ok (.getfield 55, 3) := by decide +kernel
theorem dX8_draw_30 : decode cX8_draw 30 = .ok (.ldc 88, 2) := by decide +kernel
theorem dX8_draw_32 : decode cX8_draw 32 = .ok (.idiv, 1) := by decide +kernel
theorem dX8_draw_33 : decode cX8_draw 33 = .ok (.iload_n 1, 1) := by decide +kernel
theorem dX8_draw_34 : decode cX8_draw 34 = .ok (.irem, 1) := by decide +kernel
theorem dX8_draw_35 : decode cX8_draw 35 = .ok (.goto 4, 3) := by decide +kernel
theorem dX8_draw_38 : decode cX8_draw 38 = .ok (.iconst 0, 1) := by decide +kernel
theorem dX8_draw_39 : decode cX8_draw 39 = .ok (.ireturn, 1) := by decide +kernel
theorem dX8_addToDigest_0 : decode cX8_addToDigest 0 = .ok (.lload_n 1, 1) := by decide +kernel
theorem dX8_addToDigest_1 : decode cX8_addToDigest 1 = .ok (.lstore_n 3, 1) := by decide +kernel
theorem dX8_addToDigest_2 : decode cX8_addToDigest 2 = .ok (.iconst 0, 1) := by decide +kernel
theorem dX8_addToDigest_3 : decode cX8_addToDigest 3 = .ok (.istore 5, 2) := by decide +kernel
theorem dX8_addToDigest_5 : decode cX8_addToDigest 5 = .ok (.iload 5, 2) := by decide +kernel
theorem dX8_addToDigest_7 : decode cX8_addToDigest 7 = .ok (.aload_n 0, 1) := by decide +kernel
theorem dX8_addToDigest_8 : decode cX8_addToDigest 8 = .ok (.getfield 34, 3) := by decide +kernel
theorem dX8_addToDigest_11 : decode cX8_addToDigest 11 = .ok (.if_icmp .ge 37, 3) := by decide +kernel
theorem dX8_addToDigest_14 : decode cX8_addToDigest 14 = .ok (.ldc2_w 89, 3) := by decide +kernel
theorem dX8_addToDigest_17 : decode cX8_addToDigest 17 = .ok (.lload_n 3, 1) := by decide +kernel
theorem dX8_addToDigest_18 : decode cX8_addToDigest 18 = .ok (.lmul, 1) := by decide +kernel
theorem dX8_addToDigest_19 : decode cX8_addToDigest 19 = .ok (.aload_n 0, 1) := by decide +kernel
theorem dX8_addToDigest_20 : decode cX8_addToDigest 20 = .ok (.iload 5, 2) := by decide +kernel
theorem dX8_addToDigest_22 : decode cX8_addToDigest 22 = .ok (.invokevirtual 91, 3) := by decide +kernel
theorem dX8_addToDigest_25 : decode cX8_addToDigest 25 = .ok (.i2l, 1) := by decide +kernel
theorem dX8_addToDigest_26 : decode cX8_addToDigest 26 = .ok (.ladd, 1) := by decide +kernel
theorem dX8_addToDigest_27 : decode cX8_addToDigest 27 = .ok (.lstore_n 3, 1) := by decide +kernel
theorem dX8_addToDigest_28 : decode cX8_addToDigest 28 = .ok (.ldc2_w 89, 3) := by decide +kernel
theorem dX8_addToDigest_31 : decode cX8_addToDigest 31 = .ok (.lload_n 3, 1) := by decide +kernel
theorem dX8_addToDigest_32 : decode cX8_addToDigest 32 = .ok (.lmul, 1) := by decide +kernel
theorem dX8_addToDigest_33 : decode cX8_addToDigest 33 = .ok (.aload_n 0, 1) := by decide +kernel
theorem dX8_addToDigest_34 : decode cX8_addToDigest 34 = .ok (.iload 5, 2) := by decide +kernel
theorem dX8_addToDigest_36 : decode cX8_addToDigest 36 = .ok (.invokevirtual 94, 3) := by decide +kernel
theorem dX8_addToDigest_39 : decode cX8_addToDigest 39 = .ok (.i2l, 1) := by decide +kernel
theorem dX8_addToDigest_40 : decode cX8_addToDigest 40 = .ok (.ladd, 1) := by decide +kernel
theorem dX8_addToDigest_41 : decode cX8_addToDigest 41 = .ok (.lstore_n 3, 1) := by decide +kernel
theorem dX8_addToDigest_42 : decode cX8_addToDigest 42 = .ok (.iinc 5 1, 3) := by decide +kernel
theorem dX8_addToDigest_45 : decode cX8_addToDigest 45 = .ok (.goto (-40), 3) := by decide +kernel
theorem dX8_addToDigest_48 : decode cX8_addToDigest 48 = .ok (.iconst 0, 1) := by decide +kernel
theorem dX8_addToDigest_49 : decode cX8_addToDigest 49 = .ok (.istore 5, 2) := by decide +kernel
theorem dX8_addToDigest_51 : decode cX8_addToDigest 51 = .ok (.iload 5, 2) := by decide +kernel
theorem dX8_addToDigest_53 : decode cX8_addToDigest 53 = .ok (.aload_n 0, 1) := by decide +kernel
theorem dX8_addToDigest_54 : decode cX8_addToDigest 54 = .ok (.getfield 37, 3) := by decide +kernel
theorem dX8_addToDigest_57 : decode cX8_addToDigest 57 = .ok (.if_icmp .ge 23, 3) := by decide +kernel
theorem dX8_addToDigest_60 : decode cX8_addToDigest 60 = .ok (.ldc2_w 89, 3) := by decide +kernel
theorem dX8_addToDigest_63 : decode cX8_addToDigest 63 = .ok (.lload_n 3, 1) := by decide +kernel
theorem dX8_addToDigest_64 : decode cX8_addToDigest 64 = .ok (.lmul, 1) := by decide +kernel
theorem dX8_addToDigest_65 : decode cX8_addToDigest 65 = .ok (.aload_n 0, 1) := by decide +kernel
theorem dX8_addToDigest_66 : decode cX8_addToDigest 66 = .ok (.iload 5, 2) := by decide +kernel
theorem dX8_addToDigest_68 : decode cX8_addToDigest 68 = .ok (.invokevirtual 78, 3) := by decide +kernel
theorem dX8_addToDigest_71 : decode cX8_addToDigest 71 = .ok (.i2l, 1) := by decide +kernel
theorem dX8_addToDigest_72 : decode cX8_addToDigest 72 = .ok (.ladd, 1) := by decide +kernel
theorem dX8_addToDigest_73 : decode cX8_addToDigest 73 = .ok (.lstore_n 3, 1) := by decide +kernel
theorem dX8_addToDigest_74 : decode cX8_addToDigest 74 = .ok (.iinc 5 1, 3) := by decide +kernel
theorem dX8_addToDigest_77 : decode cX8_addToDigest 77 = .ok (.goto (-26), 3) := by decide +kernel
theorem dX8_addToDigest_80 : decode cX8_addToDigest 80 = .ok (.lload_n 3, 1) := by decide +kernel
theorem dX8_addToDigest_81 : decode cX8_addToDigest 81 = .ok (.lreturn, 1) := by decide +kernel
theorem dX10_init_0 : decode cX10_init 0 = .ok (.aload_n 0, 1) := by decide +kernel
theorem dX10_init_1 : decode cX10_init 1 = .ok (.invokespecial 3, 3) := by decide +kernel
theorem dX10_init_4 : decode cX10_init 4 = .ok (.aload_n 0, 1) := by decide +kernel
theorem dX10_init_5 : decode cX10_init 5 = .ok (.new 9, 3) := by decide +kernel
theorem dX10_init_8 : decode cX10_init 8 = .ok (.dup, 1) := by decide +kernel
theorem dX10_init_9 : decode cX10_init 9 = .ok (.invokespecial 11, 3) := by decide +kernel
theorem dX10_init_12 : decode cX10_init 12 = .ok (.putfield 12, 3) := by decide +kernel
theorem dX10_init_15 : decode cX10_init 15 = .ok (.aload_n 0, 1) := by decide +kernel
theorem dX10_init_16 : decode cX10_init 16 = .ok (.new 9, 3) := by decide +kernel
theorem dX10_init_19 : decode cX10_init 19 = .ok (.dup, 1) := by decide +kernel
theorem dX10_init_20 : decode cX10_init 20 = .ok (.invokespecial 11, 3) := by decide +kernel
theorem dX10_init_23 : decode cX10_init 23 = .ok (.putfield 16, 3) := by decide +kernel
theorem dX10_init_26 : decode cX10_init 26 = .ok (.aload_n 0, 1) := by decide +kernel
theorem dX10_init_27 : decode cX10_init 27 = .ok (.iconst 4, 1) := by decide +kernel
theorem dX10_init_28 : decode cX10_init 28 = .ok (.anewarray 9, 3) := by decide +kernel
theorem dX10_init_31 : decode cX10_init 31 = .ok (.putfield 19, 3) := by decide +kernel
theorem dX10_init_34 : decode cX10_init 34 = .ok (.aload_n 0, 1) := by decide +kernel
theorem dX10_init_35 : decode cX10_init 35 = .ok (.iconst 0, 1) := by decide +kernel
theorem dX10_init_36 : decode cX10_init 36 = .ok (.putfield 23, 3) := by decide +kernel
theorem dX10_init_39 : decode cX10_init 39 = .ok (.aload_n 0, 1) := by decide +kernel
theorem dX10_init_40 : decode cX10_init 40 = .ok (.iconst 0, 1) := by decide +kernel
theorem dX10_init_41 : decode cX10_init 41 = .ok (.putfield 27, 3) := by decide +kernel
theorem dX10_init_44 : decode cX10_init 44 = .ok (.aload_n 0, 1) := by decide +kernel
theorem dX10_init_45 : decode cX10_init 45 = .ok (.new 30, 3) := by decide +kernel
theorem dX10_init_48 : decode cX10_init 48 = .ok (.dup, 1) := by decide +kernel
theorem dX10_init_49 : decode cX10_init 49 = .ok (.invokespecial 32, 3) := by decide +kernel
theorem dX10_init_52 : decode cX10_init 52 = .ok (.putfield 33, 3) := by decide +kernel
theorem dX10_init_55 : decode cX10_init 55 = .ok (.iconst 0, 1) := by decide +kernel
theorem dX10_init_56 : decode cX10_init 56 = .ok (.istore_n 1, 1) := by decide +kernel
theorem dX10_init_57 : decode cX10_init 57 = .ok (.iload_n 1, 1) := by decide +kernel
theorem dX10_init_58 : decode cX10_init 58 = .ok (.aload_n 0, 1) := by decide +kernel
theorem dX10_init_59 : decode cX10_init 59 = .ok (.getfield 19, 3) := by decide +kernel
theorem dX10_init_62 : decode cX10_init 62 = .ok (.arraylength, 1) := by decide +kernel
theorem dX10_init_63 : decode cX10_init 63 = .ok (.if_icmp .ge 22, 3) := by decide +kernel
theorem dX10_init_66 : decode cX10_init 66 = .ok (.aload_n 0, 1) := by decide +kernel
theorem dX10_init_67 : decode cX10_init 67 = .ok (.getfield 19, 3) := by decide +kernel
theorem dX10_init_70 : decode cX10_init 70 = .ok (.iload_n 1, 1) := by decide +kernel
theorem dX10_init_71 : decode cX10_init 71 = .ok (.new 9, 3) := by decide +kernel
theorem dX10_init_74 : decode cX10_init 74 = .ok (.dup, 1) := by decide +kernel
theorem dX10_init_75 : decode cX10_init 75 = .ok (.invokespecial 11, 3) := by decide +kernel
theorem dX10_init_78 : decode cX10_init 78 = .ok (.aastore, 1) := by decide +kernel
theorem dX10_init_79 : decode cX10_init 79 = .ok (.iinc 1 1, 3) := by decide +kernel
theorem dX10_init_82 : decode cX10_init 82 = .ok (.goto (-25), 3) := by decide +kernel
theorem dX10_init_85 : decode cX10_init 85 = .ok (.return_, 1) := by decide +kernel
theorem dX10_begin_0 : decode cX10_begin 0 = .ok (.iload_n 1, 1) := by decide +kernel
theorem dX10_begin_1 : decode cX10_begin 1 = .ok (.invokestatic 37, 3) := by decide +kernel
theorem dX10_begin_4 : decode cX10_begin 4 = .ok (.ifCond .ne 13, 3) := by decide +kernel
theorem dX10_begin_7 : decode cX10_begin 7 = .ok (.new 43, 3) := by decide +kernel
theorem dX10_begin_10 : decode cX10_begin 10 = .ok (.dup, 1) := by decide +kernel
theorem dX10_begin_11 : decode cX10_begin 11 = .ok (.ldc 45, 2) := by decide +kernel
theorem dX10_begin_13 : decode cX10_begin 13 = .ok (.invokespecial 47, 3) := by decide +kernel
theorem dX10_begin_16 : decode cX10_begin 16 = .ok (.athrow, 1) := by decide +kernel
theorem dX10_begin_17 : decode cX10_begin 17 = .ok (.aload_n 0, 1) := by decide +kernel
theorem dX10_begin_18 : decode cX10_begin 18 = .ok (.invokevirtual 50, 3) := by decide +kernel
theorem dX10_begin_21 : decode cX10_begin 21 = .ok (.aload_n 0, 1) := by decide +kernel
theorem dX10_begin_22 : decode cX10_begin 22 = .ok (.getfield 12, 3) := by decide +kernel
theorem dX10_begin_25 : decode cX10_begin 25 = .ok (.getfield 53, 3) := by decide +kernel
theorem dX10_begin_28 : decode cX10_begin 28 = .ok (.getfield 57, 3) := by decide +kernel
theorem dX10_begin_31 : decode cX10_begin 31 = .ok (.istore_n 2, 1) := by decide +kernel
theorem dX10_begin_32 : decode cX10_begin 32 = .ok (.aload_n 0, 1) := by decide +kernel
theorem dX10_begin_33 : decode cX10_begin 33 = .ok (.getfield 12, 3) := by decide +kernel
theorem dX10_begin_36 : decode cX10_begin 36 = .ok (.iload_n 1, 1) := by decide +kernel
theorem dX10_begin_37 : decode cX10_begin 37 = .ok (.invokevirtual 62, 3) := by decide +kernel
theorem dX10_begin_40 : decode cX10_begin 40 = .ok (.iload_n 2, 1) := by decide +kernel
theorem dX10_begin_41 : decode cX10_begin 41 = .ok (.ireturn, 1) := by decide +kernel
theorem dX10_setLevel_0 : decode cX10_setLevel 0 = .ok (.aload_n 0, 1) := by decide +kernel
theorem dX10_setLevel_1 : decode cX10_setLevel 1 = .ok (.getfield 12, 3) := by decide +kernel
theorem dX10_setLevel_4 : decode cX10_setLevel 4 = .ok (.getfield 66, 3) := by decide +kernel
theorem dX10_setLevel_7 : decode cX10_setLevel 7 = .ok (.iload_n 1, 1) := by decide +kernel
theorem dX10_setLevel_8 : decode cX10_setLevel 8 = .ok (.invokevirtual 70, 3) := by decide +kernel
theorem dX10_setLevel_11 : decode cX10_setLevel 11 = .ok (.ifCond .ne 13, 3) := by decide +kernel
theorem dX10_setLevel_14 : decode cX10_setLevel 14 = .ok (.new 43, 3) := by decide +kernel
theorem dX10_setLevel_17 : decode cX10_setLevel 17 = .ok (.dup, 1) := by decide +kernel
theorem dX10_setLevel_18 : decode cX10_setLevel 18 = .ok (.ldc 73, 2) := by decide +kernel
theorem dX10_setLevel_20 : decode cX10_setLevel 20 = .ok (.invokespecial 47, 3) := by decide +kernel
theorem dX10_setLevel_23 : decode cX10_setLevel 23 = .ok (.athrow, 1) := by decide +kernel
theorem dX10_setLevel_24 : decode cX10_setLevel 24 = .ok (.aload_n 0, 1) := by decide +kernel
theorem dX10_setLevel_25 : decode cX10_setLevel 25 = .ok (.invokevirtual 50, 3) := by decide +kernel
theorem dX10_setLevel_28 : decode cX10_setLevel 28 = .ok (.aload_n 0, 1) := by decide +kernel
theorem dX10_setLevel_29 : decode cX10_setLevel 29 = .ok (.getfield 12, 3) := by decide +kernel
theorem dX10_setLevel_32 : decode cX10_setLevel 32 = .ok (.getfield 66, 3) := by decide +kernel
theorem dX10_setLevel_35 : decode cX10_setLevel 35 = .ok (.getfield 75, 3) := by decide +kernel
theorem dX10_setLevel_38 : decode cX10_setLevel 38 = .ok (.istore_n 2, 1) := by decide +kernel
theorem dX10_setLevel_39 : decode cX10_setLevel 39 = .ok (.aload_n 0, 1) := by decide +kernel
theorem dX10_setLevel_40 : decode cX10_setLevel 40 = .ok (.getfield 12, 3) := by decide +kernel
theorem dX10_setLevel_43 : decode cX10_setLevel 43 = .ok (.getfield 66, 3) := by decide +kernel
theorem dX10_setLevel_46 : decode cX10_setLevel 46 = .ok (.iload_n 1, 1) := by decide +kernel
theorem dX10_setLevel_47 : decode cX10_setLevel 47 = .ok (.putfield 75, 3) := by decide +kernel
theorem dX10_setLevel_50 : decode cX10_setLevel 50 = .ok (.iload_n 2, 1) := by decide +kernel
theorem dX10_setLevel_51 : decode cX10_setLevel 51 = .ok (.ireturn, 1) := by decide +kernel
theorem dX10_setFlow_0 : decode cX10_setFlow 0 = .ok (.iload_n 1, 1) := by decide +kernel
theorem dX10_setFlow_1 : decode cX10_setFlow 1 = .ok (.invokestatic 78, 3) := by decide +kernel
theorem dX10_setFlow_4 : decode cX10_setFlow 4 = .ok (.ifCond .ne 13, 3) := by decide +kernel
theorem dX10_setFlow_7 : decode cX10_setFlow 7 = .ok (.new 43, 3) := by decide +kernel
theorem dX10_setFlow_10 : decode cX10_setFlow 10 = .ok (.dup, 1) := by decide +kernel
theorem dX10_setFlow_11 : decode cX10_setFlow 11 = .ok (.ldc 81, 2) := by decide +kernel
theorem dX10_setFlow_13 : decode cX10_setFlow 13 = .ok (.invokespecial 47, 3) := by decide +kernel
theorem dX10_setFlow_16 : decode cX10_setFlow 16 = .ok (.athrow, 1) := by decide +kernel
theorem dX10_setFlow_17 : decode cX10_setFlow 17 = .ok (.aload_n 0, 1) := by decide +kernel
theorem dX10_setFlow_18 : decode cX10_setFlow 18 = .ok (.invokevirtual 50, 3) := by decide +kernel
theorem dX10_setFlow_21 : decode cX10_setFlow 21 = .ok (.aload_n 0, 1) := by decide +kernel
theorem dX10_setFlow_22 : decode cX10_setFlow 22 = .ok (.getfield 12, 3) := by decide +kernel
theorem dX10_setFlow_25 : decode cX10_setFlow 25 = .ok (.getfield 66, 3) := by decide +kernel
theorem dX10_setFlow_28 : decode cX10_setFlow 28 = .ok (.getfield 83, 3) := by decide +kernel
theorem dX10_setFlow_31 : decode cX10_setFlow 31 = .ok (.istore_n 2, 1) := by decide +kernel
theorem dX10_setFlow_32 : decode cX10_setFlow 32 = .ok (.aload_n 0, 1) := by decide +kernel
theorem dX10_setFlow_33 : decode cX10_setFlow 33 = .ok (.getfield 12, 3) := by decide +kernel
theorem dX10_setFlow_36 : decode cX10_setFlow 36 = .ok (.getfield 66, 3) := by decide +kernel
theorem dX10_setFlow_39 : decode cX10_setFlow 39 = .ok (.iload_n 1, 1) := by decide +kernel
theorem dX10_setFlow_40 : decode cX10_setFlow 40 = .ok (.putfield 83, 3) := by decide +kernel
theorem dX10_setFlow_43 : decode cX10_setFlow 43 = .ok (.iload_n 2, 1) := by decide +kernel
theorem dX10_setFlow_44 : decode cX10_setFlow 44 = .ok (.ireturn, 1) := by decide +kernel
theorem dX10_setFoam_0 : decode cX10_setFoam 0 = .ok (.iload_n 1, 1) := by decide +kernel
theorem dX10_setFoam_1 : decode cX10_setFoam 1 = .ok (.invokestatic 86, 3) := by decide +kernel
theorem dX10_setFoam_4 : decode cX10_setFoam 4 = .ok (.ifCond .ne 13, 3) := by decide +kernel
theorem dX10_setFoam_7 : decode cX10_setFoam 7 = .ok (.new 43, 3) := by decide +kernel
theorem dX10_setFoam_10 : decode cX10_setFoam 10 = .ok (.dup, 1) := by decide +kernel
theorem dX10_setFoam_11 : decode cX10_setFoam 11 = .ok (.ldc 89, 2) := by decide +kernel
theorem dX10_setFoam_13 : decode cX10_setFoam 13 = .ok (.invokespecial 47, 3) := by decide +kernel
theorem dX10_setFoam_16 : decode cX10_setFoam 16 = .ok (.athrow, 1) := by decide +kernel
theorem dX10_setFoam_17 : decode cX10_setFoam 17 = .ok (.aload_n 0, 1) := by decide +kernel
theorem dX10_setFoam_18 : decode cX10_setFoam 18 = .ok (.invokevirtual 50, 3) := by decide +kernel
theorem dX10_setFoam_21 : decode cX10_setFoam 21 = .ok (.aload_n 0, 1) := by decide +kernel
theorem dX10_setFoam_22 : decode cX10_setFoam 22 = .ok (.getfield 12, 3) := by decide +kernel
theorem dX10_setFoam_25 : decode cX10_setFoam 25 = .ok (.getfield 66, 3) := by decide +kernel
theorem dX10_setFoam_28 : decode cX10_setFoam 28 = .ok (.getfield 91, 3) := by decide +kernel
theorem dX10_setFoam_31 : decode cX10_setFoam 31 = .ok (.istore_n 2, 1) := by decide +kernel
theorem dX10_setFoam_32 : decode cX10_setFoam 32 = .ok (.aload_n 0, 1) := by decide +kernel
theorem dX10_setFoam_33 : decode cX10_setFoam 33 = .ok (.getfield 12, 3) := by decide +kernel
theorem dX10_setFoam_36 : decode cX10_setFoam 36 = .ok (.getfield 66, 3) := by decide +kernel
theorem dX10_setFoam_39 : decode cX10_setFoam 39 = .ok (.iload_n 1, 1) := by decide +kernel
theorem dX10_setFoam_40 : decode cX10_setFoam 40 = .ok (.putfield 91, 3) := by decide +kernel
theorem dX10_setFoam_43 : decode cX10_setFoam 43 = .ok (.iload_n 2, 1) := by decide +kernel
theorem dX10_setFoam_44 : decode cX10_setFoam 44 = .ok (.ireturn, 1) := by decide +kernel
theorem dX10_addThing_0 : decode cX10_addThing 0 = .ok (.iload_n 1, 1) := by decide +kernel
theorem dX10_addThing_1 : decode cX10_addThing 1 = .ok (.iload_n 2, 1) := by decide +kernel
theorem dX10_addThing_2 : decode cX10_addThing 2 = .ok (.invokestatic 94, 3) := by decide +kernel
theorem dX10_addThing_5 : decode cX10_addThing 5 = .ok (.ifCond .ne 13, 3) := by decide +kernel
theorem dX10_addThing_8 : decode cX10_addThing 8 = .ok (.new 43, 3) := by decide +kernel
theorem dX10_addThing_11 : decode cX10_addThing 11 = .ok (.dup, 1) := by decide +kernel
theorem dX10_addThing_12 : decode cX10_addThing 12 = .ok (.ldc 98, 2) := by decide +kernel
theorem dX10_addThing_14 : decode cX10_addThing 14 = .ok (.invokespecial 47, 3) := by decide +kernel
theorem dX10_addThing_17 : decode cX10_addThing 17 = .ok (.athrow, 1) := by decide +kernel
theorem dX10_addThing_18 : decode cX10_addThing 18 = .ok (.aload_n 0, 1) := by decide +kernel
theorem dX10_addThing_19 : decode cX10_addThing 19 = .ok (.getfield 12, 3) := by decide +kernel
theorem dX10_addThing_22 : decode cX10_addThing 22 = .ok (.getfield 66, 3) := by decide +kernel
theorem dX10_addThing_25 : decode cX10_addThing 25 = .ok (.invokevirtual 100, 3) := by decide +kernel
theorem dX10_addThing_28 : decode cX10_addThing 28 = .ok (.ifCond .ne 13, 3) := by decide +kernel
theorem dX10_addThing_31 : decode cX10_addThing 31 = .ok (.new 104, 3) := by decide +kernel
theorem dX10_addThing_34 : decode cX10_addThing 34 = .ok (.dup, 1) := by decide +kernel
theorem dX10_addThing_35 : decode cX10_addThing 35 = .ok (.ldc 106, 2) := by decide +kernel
theorem dX10_addThing_37 : decode cX10_addThing 37 = .ok (.invokespecial 108, 3) := by decide +kernel
theorem dX10_addThing_40 : decode cX10_addThing 40 = .ok (.athrow, 1) := by decide +kernel
theorem dX10_addThing_41 : decode cX10_addThing 41 = .ok (.aload_n 0, 1) := by decide +kernel
theorem dX10_addThing_42 : decode cX10_addThing 42 = .ok (.invokevirtual 50, 3) := by decide +kernel
theorem dX10_addThing_45 : decode cX10_addThing 45 = .ok (.aload_n 0, 1) := by decide +kernel
theorem dX10_addThing_46 : decode cX10_addThing 46 = .ok (.getfield 12, 3) := by decide +kernel
theorem dX10_addThing_49 : decode cX10_addThing 49 = .ok (.getfield 66, 3) := by decide +kernel
theorem dX10_addThing_52 : decode cX10_addThing 52 = .ok (.iload_n 1, 1) := by decide +kernel
theorem dX10_addThing_53 : decode cX10_addThing 53 = .ok (.iload_n 2, 1) := by decide +kernel
theorem dX10_addThing_54 : decode cX10_addThing 54 = .ok (.invokevirtual 109, 3) := by decide +kernel
theorem dX10_addThing_57 : decode cX10_addThing 57 = .ok (.aload_n 0, 1) := by decide +kernel
theorem dX10_addThing_58 : decode cX10_addThing 58 = .ok (.getfield 12, 3) := by decide +kernel
theorem dX10_addThing_61 : decode cX10_addThing 61 = .ok (.getfield 66, 3) := by decide +kernel
theorem dX10_addThing_64 : decode cX10_addThing 64 = .ok (.getfield 113, 3) := by decide +kernel
theorem dX10_addThing_67 : decode cX10_addThing 67 = .ok (.iconst 1, 1) := by decide +kernel
theorem dX10_addThing_68 : decode cX10_addThing 68 = .ok (.isub, 1) := by decide +kernel
theorem dX10_addThing_69 : decode cX10_addThing 69 = .ok (.ireturn, 1) := by decide +kernel
theorem dX10_removeThing_0 : decode cX10_removeThing 0 = .ok (.aload_n 0, 1) := by decide +kernel
theorem dX10_removeThing_1 : decode cX10_removeThing 1 = .ok (.getfield 12, 3) := by decide +kernel
theorem dX10_removeThing_4 : decode cX10_removeThing 4 = .ok (.getfield 66, 3) := by decide +kernel
theorem dX10_removeThing_7 : decode cX10_removeThing 7 = .ok (.iload_n 1, 1) := by decide +kernel
theorem dX10_removeThing_8 : decode cX10_removeThing 8 = .ok (.invokevirtual 116, 3) := by decide +kernel
theorem dX10_removeThing_11 : decode cX10_removeThing 11 = .ok (.ifCond .ne 13, 3) := by decide +kernel
theorem dX10_removeThing_14 : decode cX10_removeThing 14 = .ok (.new 119, 3) := by decide +kernel
theorem dX10_removeThing_17 : decode cX10_removeThing 17 = .ok (.dup, 1) := by decide +kernel
theorem dX10_removeThing_18 : decode cX10_removeThing 18 = .ok (.ldc 121, 2) := by decide +kernel
theorem dX10_removeThing_20 : decode cX10_removeThing 20 = .ok (.invokespecial 123, 3) := by decide +kernel
theorem dX10_removeThing_23 : decode cX10_removeThing 23 = .ok (.athrow, 1) := by decide +kernel
theorem dX10_removeThing_24 : decode cX10_removeThing 24 = .ok (.aload_n 0, 1) := by decide +kernel
theorem dX10_removeThing_25 : decode cX10_removeThing 25 = .ok (.invokevirtual 50, 3) := by decide +kernel
theorem dX10_removeThing_28 : decode cX10_removeThing 28 = .ok (.aload_n 0, 1) := by decide +kernel
theorem dX10_removeThing_29 : decode cX10_removeThing 29 = .ok (.getfield 12, 3) := by decide +kernel
theorem dX10_removeThing_32 : decode cX10_removeThing 32 = .ok (.getfield 66, 3) := by decide +kernel
theorem dX10_removeThing_35 : decode cX10_removeThing 35 = .ok (.iload_n 1, 1) := by decide +kernel
theorem dX10_removeThing_36 : decode cX10_removeThing 36 = .ok (.invokevirtual 124, 3) := by decide +kernel
theorem dX10_removeThing_39 : decode cX10_removeThing 39 = .ok (.aload_n 0, 1) := by decide +kernel
theorem dX10_removeThing_40 : decode cX10_removeThing 40 = .ok (.getfield 12, 3) := by decide +kernel
theorem dX10_removeThing_43 : decode cX10_removeThing 43 = .ok (.getfield 66, 3) := by decide +kernel
theorem dX10_removeThing_46 : decode cX10_removeThing 46 = .ok (.getfield 113, 3) := by decide +kernel
theorem dX10_removeThing_49 : decode cX10_removeThing 49 = .ok (.ireturn, 1) := by decide +kernel
theorem dX10_setStirrer_0 : decode cX10_setStirrer 0 = .ok (.iload_n 1, 1) := by decide +kernel
theorem dX10_setStirrer_1 : decode cX10_setStirrer 1 = .ok (.iload_n 2, 1) := by decide +kernel
theorem dX10_setStirrer_2 : decode cX10_setStirrer 2 = .ok (.iload_n 3, 1) := by decide +kernel
theorem dX10_setStirrer_3 : decode cX10_setStirrer 3 = .ok (.iload 4, 2) := by decide +kernel
theorem dX10_setStirrer_5 : decode cX10_setStirrer 5 = .ok (.iload 5, 2) := by decide +kernel
theorem dX10_setStirrer_7 : decode cX10_setStirrer 7 = .ok (.invokestatic 127, 3) := by decide +kernel
theorem dX10_setStirrer_10 : decode cX10_setStirrer 10 = .ok (.ifCond .ne 13, 3) := by decide +kernel
theorem dX10_setStirrer_13 : decode cX10_setStirrer 13 = .ok (.new 43, 3) := by decide +kernel
theorem dX10_setStirrer_16 : decode cX10_setStirrer 16 = .ok (.dup, 1) := by decide +kernel
theorem dX10_setStirrer_17 : decode cX10_setStirrer 17 = .ok (.ldc 131, 2) := by decide +kernel
theorem dX10_setStirrer_19 : decode cX10_setStirrer 19 = .ok (.invokespecial 47, 3) := by decide +kernel
theorem dX10_setStirrer_22 : decode cX10_setStirrer 22 = .ok (.athrow, 1) := by decide +kernel
theorem dX10_setStirrer_23 : decode cX10_setStirrer 23 = .ok (.aload_n 0, 1) := by decide +kernel
theorem dX10_setStirrer_24 : decode cX10_setStirrer 24 = .ok (.invokevirtual 50, 3) := by decide +kernel
theorem dX10_setStirrer_27 : decode cX10_setStirrer 27 = .ok (.aload_n 0, 1) := by decide +kernel
theorem dX10_setStirrer_28 : decode cX10_setStirrer 28 = .ok (.getfield 12, 3) := by decide +kernel
theorem dX10_setStirrer_31 : decode cX10_setStirrer 31 = .ok (.getfield 66, 3) := by decide +kernel
theorem dX10_setStirrer_34 : decode cX10_setStirrer 34 = .ok (.getfield 133, 3) := by decide +kernel
theorem dX10_setStirrer_37 : decode cX10_setStirrer 37 = .ok (.istore 6, 2) := by decide +kernel
theorem dX10_setStirrer_39 : decode cX10_setStirrer 39 = .ok (.aload_n 0, 1) := by decide +kernel
theorem dX10_setStirrer_40 : decode cX10_setStirrer 40 = .ok (.getfield 12, 3) := by decide +kernel
theorem dX10_setStirrer_43 : decode cX10_setStirrer 43 = .ok (.getfield 66, 3) := by decide +kernel
theorem dX10_setStirrer_46 : decode cX10_setStirrer 46 = .ok (.iload_n 1, 1) := by decide +kernel
theorem dX10_setStirrer_47 : decode cX10_setStirrer 47 = .ok (.iload_n 2, 1) := by decide +kernel
theorem dX10_setStirrer_48 : decode cX10_setStirrer 48 = .ok (.iload_n 3, 1) := by decide +kernel
theorem dX10_setStirrer_49 : decode cX10_setStirrer 49 = .ok (.iload 4, 2) := by decide +kernel
theorem dX10_setStirrer_51 : decode cX10_setStirrer 51 = .ok (.iload 5, 2) := by decide +kernel
theorem dX10_setStirrer_53 : decode cX10_setStirrer 53 = .ok (.invokevirtual 136, 3) := by decide +kernel
theorem dX10_setStirrer_56 : decode cX10_setStirrer 56 = .ok (.iload 6, 2) := by decide +kernel
theorem dX10_setStirrer_58 : decode cX10_setStirrer 58 = .ok (.ireturn, 1) := by decide +kernel
theorem dX10_set_0 : decode cX10_set 0 = .ok (.aload_n 0, 1) := by decide +kernel
theorem dX10_set_1 : decode cX10_set 1 = .ok (.getfield 12, 3) := by decide +kernel
theorem dX10_set_4 : decode cX10_set 4 = .ok (.getfield 140, 3) := by decide +kernel
theorem dX10_set_7 : decode cX10_set 7 = .ok (.iload_n 1, 1) := by decide +kernel
theorem dX10_set_8 : decode cX10_set 8 = .ok (.iload_n 2, 1) := by decide +kernel
theorem dX10_set_9 : decode cX10_set 9 = .ok (.invokevirtual 144, 3) := by decide +kernel
theorem dX10_set_12 : decode cX10_set 12 = .ok (.ifCond .ne 13, 3) := by decide +kernel
theorem dX10_set_15 : decode cX10_set 15 = .ok (.new 43, 3) := by decide +kernel
theorem dX10_set_18 : decode cX10_set 18 = .ok (.dup, 1) := by decide +kernel
theorem dX10_set_19 : decode cX10_set 19 = .ok (.ldc 149, 2) := by decide +kernel
theorem dX10_set_21 : decode cX10_set 21 = .ok (.invokespecial 47, 3) := by decide +kernel
theorem dX10_set_24 : decode cX10_set 24 = .ok (.athrow, 1) := by decide +kernel
theorem dX10_set_25 : decode cX10_set 25 = .ok (.aload_n 0, 1) := by decide +kernel
theorem dX10_set_26 : decode cX10_set 26 = .ok (.invokevirtual 50, 3) := by decide +kernel
theorem dX10_set_29 : decode cX10_set 29 = .ok (.aload_n 0, 1) := by decide +kernel
theorem dX10_set_30 : decode cX10_set 30 = .ok (.getfield 12, 3) := by decide +kernel
theorem dX10_set_33 : decode cX10_set 33 = .ok (.getfield 140, 3) := by decide +kernel
theorem dX10_set_36 : decode cX10_set 36 = .ok (.iload_n 1, 1) := by decide +kernel
theorem dX10_set_37 : decode cX10_set 37 = .ok (.invokevirtual 151, 3) := by decide +kernel
theorem dX10_set_40 : decode cX10_set 40 = .ok (.istore_n 3, 1) := by decide +kernel
theorem dX10_set_41 : decode cX10_set 41 = .ok (.aload_n 0, 1) := by decide +kernel
theorem dX10_set_42 : decode cX10_set 42 = .ok (.getfield 12, 3) := by decide +kernel
theorem dX10_set_45 : decode cX10_set 45 = .ok (.iload_n 1, 1) := by decide +kernel
theorem dX10_set_46 : decode cX10_set 46 = .ok (.iload_n 2, 1) := by decide +kernel
theorem dX10_set_47 : decode cX10_set 47 = .ok (.invokevirtual 155, 3) := by decide +kernel
theorem dX10_set_50 : decode cX10_set 50 = .ok (.iload_n 3, 1) := by decide +kernel
theorem dX10_set_51 : decode cX10_set 51 = .ok (.ireturn, 1) := by decide +kernel
theorem dX10_setS_0 : decode cX10_setS 0 = .ok (.iload_n 1, 1) := by decide +kernel
theorem dX10_setS_1 : decode cX10_setS 1 = .ok (.ifCond .ge 13, 3) := by decide +kernel
theorem dX10_setS_4 : decode cX10_setS 4 = .ok (.new 43, 3) := by decide +kernel
theorem dX10_setS_7 : decode cX10_setS 7 = .ok (.dup, 1) := by decide +kernel
theorem dX10_setS_8 : decode cX10_setS 8 = .ok (.ldc 158, 2) := by decide +kernel
theorem dX10_setS_10 : decode cX10_setS 10 = .ok (.invokespecial 47, 3) := by decide +kernel
theorem dX10_setS_13 : decode cX10_setS 13 = .ok (.athrow, 1) := by decide +kernel
theorem dX10_setS_14 : decode cX10_setS 14 = .ok (.aload_n 0, 1) := by decide +kernel
theorem dX10_setS_15 : decode cX10_setS 15 = .ok (.invokevirtual 50, 3) := by decide +kernel
theorem dX10_setS_18 : decode cX10_setS 18 = .ok (.aload_n 0, 1) := by decide +kernel
theorem dX10_setS_19 : decode cX10_setS 19 = .ok (.getfield 12, 3) := by decide +kernel
theorem dX10_setS_22 : decode cX10_setS 22 = .ok (.getfield 66, 3) := by decide +kernel
theorem dX10_setS_25 : decode cX10_setS 25 = .ok (.getfield 160, 3) := by decide +kernel
theorem dX10_setS_28 : decode cX10_setS 28 = .ok (.istore_n 2, 1) := by decide +kernel
theorem dX10_setS_29 : decode cX10_setS 29 = .ok (.aload_n 0, 1) := by decide +kernel
theorem dX10_setS_30 : decode cX10_setS 30 = .ok (.getfield 12, 3) := by decide +kernel
theorem dX10_setS_33 : decode cX10_setS 33 = .ok (.getfield 66, 3) := by decide +kernel
theorem dX10_setS_36 : decode cX10_setS 36 = .ok (.iload_n 1, 1) := by decide +kernel
theorem dX10_setS_37 : decode cX10_setS 37 = .ok (.putfield 160, 3) := by decide +kernel
theorem dX10_setS_40 : decode cX10_setS 40 = .ok (.iload_n 2, 1) := by decide +kernel
theorem dX10_setS_41 : decode cX10_setS 41 = .ok (.ireturn, 1) := by decide +kernel
theorem dX10_mask_0 : decode cX10_mask 0 = .ok (.iload_n 1, 1) := by decide +kernel
theorem dX10_mask_1 : decode cX10_mask 1 = .ok (.invokestatic 163, 3) := by decide +kernel
theorem dX10_mask_4 : decode cX10_mask 4 = .ok (.ifCond .ne 13, 3) := by decide +kernel
theorem dX10_mask_7 : decode cX10_mask 7 = .ok (.new 43, 3) := by decide +kernel
theorem dX10_mask_10 : decode cX10_mask 10 = .ok (.dup, 1) := by decide +kernel
theorem dX10_mask_11 : decode cX10_mask 11 = .ok (.ldc 166, 2) := by decide +kernel
theorem dX10_mask_13 : decode cX10_mask 13 = .ok (.invokespecial 47, 3) := by decide +kernel
theorem dX10_mask_16 : decode cX10_mask 16 = .ok (.athrow, 1) := by decide +kernel
theorem dX10_mask_17 : decode cX10_mask 17 = .ok (.aload_n 0, 1) := by decide +kernel
theorem dX10_mask_18 : decode cX10_mask 18 = .ok (.invokevirtual 50, 3) := by decide +kernel
theorem dX10_mask_21 : decode cX10_mask 21 = .ok (.aload_n 0, 1) := by decide +kernel
theorem dX10_mask_22 : decode cX10_mask 22 = .ok (.getfield 12, 3) := by decide +kernel
theorem dX10_mask_25 : decode cX10_mask 25 = .ok (.getfield 168, 3) := by decide +kernel
theorem dX10_mask_28 : decode cX10_mask 28 = .ok (.iload_n 1, 1) := by decide +kernel
theorem dX10_mask_29 : decode cX10_mask 29 = .ok (.invokevirtual 172, 3) := by decide +kernel
theorem dX10_mask_32 : decode cX10_mask 32 = .ok (.istore_n 3, 1) := by decide +kernel
theorem dX10_mask_33 : decode cX10_mask 33 = .ok (.aload_n 0, 1) := by decide +kernel
theorem dX10_mask_34 : decode cX10_mask 34 = .ok (.getfield 12, 3) := by decide +kernel
theorem dX10_mask_37 : decode cX10_mask 37 = .ok (.getfield 168, 3) := by decide +kernel
theorem dX10_mask_40 : decode cX10_mask 40 = .ok (.iload_n 1, 1) := by decide +kernel
theorem dX10_mask_41 : decode cX10_mask 41 = .ok (.iload_n 2, 1) := by decide +kernel
theorem dX10_mask_42 : decode cX10_mask 42 = .ok (.invokevirtual 177, 3) := by decide +kernel
theorem dX10_mask_45 : decode cX10_mask 45 = .ok (.iload_n 3, 1) := by decide +kernel
theorem dX10_mask_46 : decode cX10_mask 46 = .ok (.ifCond .eq 7, 3) := by decide +kernel
theorem dX10_mask_49 : decode cX10_mask 49 = .ok (.iconst 1, 1) := by decide +kernel
theorem dX10_mask_50 : decode cX10_mask 50 = .ok (.goto 4, 3) := by decide +kernel
theorem dX10_mask_53 : decode cX10_mask 53 = .ok (.iconst 0, 1) := by decide +kernel
theorem dX10_mask_54 : decode cX10_mask 54 = .ok (.ireturn, 1) := by decide +kernel
theorem dX10_learn_0 : decode cX10_learn 0 = .ok (.iload_n 1, 1) := by decide +kernel
theorem dX10_learn_1 : decode cX10_learn 1 = .ok (.invokestatic 181, 3) := by decide +kernel
theorem dX10_learn_4 : decode cX10_learn 4 = .ok (.ifCond .ne 13, 3) := by decide +kernel
theorem dX10_learn_7 : decode cX10_learn 7 = .ok (.new 43, 3) := by decide +kernel
theorem dX10_learn_10 : decode cX10_learn 10 = .ok (.dup, 1) := by decide +kernel
theorem dX10_learn_11 : decode cX10_learn 11 = .ok (.ldc 184, 2) := by decide +kernel
theorem dX10_learn_13 : decode cX10_learn 13 = .ok (.invokespecial 47, 3) := by decide +kernel
theorem dX10_learn_16 : decode cX10_learn 16 = .ok (.athrow, 1) := by decide +kernel
theorem dX10_learn_17 : decode cX10_learn 17 = .ok (.aload_n 0, 1) := by decide +kernel
theorem dX10_learn_18 : decode cX10_learn 18 = .ok (.invokevirtual 50, 3) := by decide +kernel
theorem dX10_learn_21 : decode cX10_learn 21 = .ok (.aload_n 0, 1) := by decide +kernel
theorem dX10_learn_22 : decode cX10_learn 22 = .ok (.getfield 12, 3) := by decide +kernel
theorem dX10_learn_25 : decode cX10_learn 25 = .ok (.iload_n 1, 1) := by decide +kernel
theorem dX10_learn_26 : decode cX10_learn 26 = .ok (.invokevirtual 186, 3) := by decide +kernel
theorem dX10_learn_29 : decode cX10_learn 29 = .ok (.aload_n 0, 1) := by decide +kernel
theorem dX10_learn_30 : decode cX10_learn 30 = .ok (.getfield 12, 3) := by decide +kernel
theorem dX10_learn_33 : decode cX10_learn 33 = .ok (.getfield 168, 3) := by decide +kernel
theorem dX10_learn_36 : decode cX10_learn 36 = .ok (.getfield 189, 3) := by decide +kernel
theorem dX10_learn_39 : decode cX10_learn 39 = .ok (.ireturn, 1) := by decide +kernel
theorem dX10_forget_0 : decode cX10_forget 0 = .ok (.aload_n 0, 1) := by decide +kernel
theorem dX10_forget_1 : decode cX10_forget 1 = .ok (.invokevirtual 50, 3) := by decide +kernel
theorem dX10_forget_4 : decode cX10_forget 4 = .ok (.aload_n 0, 1) := by decide +kernel
theorem dX10_forget_5 : decode cX10_forget 5 = .ok (.getfield 12, 3) := by decide +kernel
theorem dX10_forget_8 : decode cX10_forget 8 = .ok (.getfield 168, 3) := by decide +kernel
theorem dX10_forget_11 : decode cX10_forget 11 = .ok (.getfield 189, 3) := by decide +kernel
theorem dX10_forget_14 : decode cX10_forget 14 = .ok (.istore_n 1, 1) := by decide +kernel
theorem dX10_forget_15 : decode cX10_forget 15 = .ok (.aload_n 0, 1) := by decide +kernel
theorem dX10_forget_16 : decode cX10_forget 16 = .ok (.getfield 12, 3) := by decide +kernel
theorem dX10_forget_19 : decode cX10_forget 19 = .ok (.getfield 168, 3) := by decide +kernel
theorem dX10_forget_22 : decode cX10_forget 22 = .ok (.invokevirtual 192, 3) := by decide +kernel
theorem dX10_forget_25 : decode cX10_forget 25 = .ok (.iload_n 1, 1) := by decide +kernel
theorem dX10_forget_26 : decode cX10_forget 26 = .ok (.ireturn, 1) := by decide +kernel
theorem dX10_shoot_0 : decode cX10_shoot 0 = .ok (.iload_n 1, 1) := by decide +kernel
theorem dX10_shoot_1 : decode cX10_shoot 1 = .ok (.invokestatic 195, 3) := by decide +kernel
theorem dX10_shoot_4 : decode cX10_shoot 4 = .ok (.ifCond .ne 13, 3) := by decide +kernel
theorem dX10_shoot_7 : decode cX10_shoot 7 = .ok (.new 43, 3) := by decide +kernel
theorem dX10_shoot_10 : decode cX10_shoot 10 = .ok (.dup, 1) := by decide +kernel
theorem dX10_shoot_11 : decode cX10_shoot 11 = .ok (.ldc 184, 2) := by decide +kernel
theorem dX10_shoot_13 : decode cX10_shoot 13 = .ok (.invokespecial 47, 3) := by decide +kernel
theorem dX10_shoot_16 : decode cX10_shoot 16 = .ok (.athrow, 1) := by decide +kernel
theorem dX10_shoot_17 : decode cX10_shoot 17 = .ok (.aload_n 0, 1) := by decide +kernel
theorem dX10_shoot_18 : decode cX10_shoot 18 = .ok (.invokevirtual 50, 3) := by decide +kernel
theorem dX10_shoot_21 : decode cX10_shoot 21 = .ok (.aload_n 0, 1) := by decide +kernel
theorem dX10_shoot_22 : decode cX10_shoot 22 = .ok (.getfield 12, 3) := by decide +kernel
theorem dX10_shoot_25 : decode cX10_shoot 25 = .ok (.getfield 53, 3) := by decide +kernel
theorem dX10_shoot_28 : decode cX10_shoot 28 = .ok (.getfield 198, 3) := by decide +kernel
theorem dX10_shoot_31 : decode cX10_shoot 31 = .ok (.istore_n 2, 1) := by decide +kernel
theorem dX10_shoot_32 : decode cX10_shoot 32 = .ok (.aload_n 0, 1) := by decide +kernel
theorem dX10_shoot_33 : decode cX10_shoot 33 = .ok (.getfield 12, 3) := by decide +kernel
theorem dX10_shoot_36 : decode cX10_shoot 36 = .ok (.iload_n 1, 1) := by decide +kernel
theorem dX10_shoot_37 : decode cX10_shoot 37 = .ok (.invokevirtual 201, 3) := by decide +kernel
theorem dX10_shoot_40 : decode cX10_shoot 40 = .ok (.aload_n 0, 1) := by decide +kernel
theorem dX10_shoot_41 : decode cX10_shoot 41 = .ok (.getfield 12, 3) := by decide +kernel
theorem dX10_shoot_44 : decode cX10_shoot 44 = .ok (.getfield 53, 3) := by decide +kernel
theorem dX10_shoot_47 : decode cX10_shoot 47 = .ok (.getfield 198, 3) := by decide +kernel
theorem dX10_shoot_50 : decode cX10_shoot 50 = .ok (.iload_n 2, 1) := by decide +kernel
theorem dX10_shoot_51 : decode cX10_shoot 51 = .ok (.isub, 1) := by decide +kernel
theorem dX10_shoot_52 : decode cX10_shoot 52 = .ok (.ireturn, 1) := by decide +kernel
theorem dX10_echo_0 : decode cX10_echo 0 = .ok (.iload_n 1, 1) := by decide +kernel
theorem dX10_echo_1 : decode cX10_echo 1 = .ok (.ifCond .lt 13, 3) := by decide +kernel
theorem dX10_echo_4 : decode cX10_echo 4 = .ok (.iload_n 2, 1) := by decide +kernel
theorem dX10_echo_5 : decode cX10_echo 5 = .ok (.ifCond .lt 9, 3) := by decide +kernel
theorem dX10_echo_8 : decode cX10_echo 8 = .ok (.iload_n 2, 1) := by decide +kernel
theorem dX10_echo_9 : decode cX10_echo 9 = .ok (.bipush 6, 2) := by decide +kernel
theorem dX10_echo_11 : decode cX10_echo 11 = .ok (.if_icmp .lt 13, 3) := by decide +kernel
theorem dX10_echo_14 : decode cX10_echo 14 = .ok (.new 43, 3) := by decide +kernel
theorem dX10_echo_17 : decode cX10_echo 17 = .ok (.dup, 1) := by decide +kernel
theorem dX10_echo_18 : decode cX10_echo 18 = .ok (.ldc 204, 2) := by decide +kernel
theorem dX10_echo_20 : decode cX10_echo 20 = .ok (.invokespecial 47, 3) := by decide +kernel
theorem dX10_echo_23 : decode cX10_echo 23 = .ok (.athrow, 1) := by decide +kernel
theorem dX10_echo_24 : decode cX10_echo 24 = .ok (.aload_n 0, 1) := by decide +kernel
theorem dX10_echo_25 : decode cX10_echo 25 = .ok (.getfield 12, 3) := by decide +kernel
theorem dX10_echo_28 : decode cX10_echo 28 = .ok (.getfield 206, 3) := by decide +kernel
theorem dX10_echo_31 : decode cX10_echo 31 = .ok (.iload_n 1, 1) := by decide +kernel
theorem dX10_echo_32 : decode cX10_echo 32 = .ok (.iload_n 2, 1) := by decide +kernel
theorem dX10_echo_33 : decode cX10_echo 33 = .ok (.invokevirtual 210, 3) := by decide +kernel
theorem dX10_echo_36 : decode cX10_echo 36 = .ok (.ireturn, 1) := by decide +kernel
theorem dX10_pick_0 : decode cX10_pick 0 = .ok (.iload_n 1, 1) := by decide +kernel
theorem dX10_pick_1 : decode cX10_pick 1 = .ok (.ifCond .ge 13, 3) := by decide +kernel
theorem dX10_pick_4 : decode cX10_pick 4 = .ok (.new 43, 3) := by decide +kernel
theorem dX10_pick_7 : decode cX10_pick 7 = .ok (.dup, 1) := by decide +kernel
theorem dX10_pick_8 : decode cX10_pick 8 = .ok (.ldc 215, 2) := by decide +kernel
theorem dX10_pick_10 : decode cX10_pick 10 = .ok (.invokespecial 47, 3) := by decide +kernel
theorem dX10_pick_13 : decode cX10_pick 13 = .ok (.athrow, 1) := by decide +kernel
theorem dX10_pick_14 : decode cX10_pick 14 = .ok (.aload_n 0, 1) := by decide +kernel
theorem dX10_pick_15 : decode cX10_pick 15 = .ok (.getfield 12, 3) := by decide +kernel
theorem dX10_pick_18 : decode cX10_pick 18 = .ok (.getfield 53, 3) := by decide +kernel
theorem dX10_pick_21 : decode cX10_pick 21 = .ok (.iload_n 1, 1) := by decide +kernel
theorem dX10_pick_22 : decode cX10_pick 22 = .ok (.invokevirtual 217, 3) := by decide +kernel
theorem dX10_pick_25 : decode cX10_pick 25 = .ok (.ireturn, 1) := by decide +kernel
theorem dX10_isMasked_0 : decode cX10_isMasked 0 = .ok (.iload_n 1, 1) := by decide +kernel
theorem dX10_isMasked_1 : decode cX10_isMasked 1 = .ok (.invokestatic 163, 3) := by decide +kernel
theorem dX10_isMasked_4 : decode cX10_isMasked 4 = .ok (.ifCond .ne 13, 3) := by decide +kernel
theorem dX10_isMasked_7 : decode cX10_isMasked 7 = .ok (.new 43, 3) := by decide +kernel
theorem dX10_isMasked_10 : decode cX10_isMasked 10 = .ok (.dup, 1) := by decide +kernel
theorem dX10_isMasked_11 : decode cX10_isMasked 11 = .ok (.ldc 166, 2) := by decide +kernel
theorem dX10_isMasked_13 : decode cX10_isMasked 13 = .ok (.invokespecial 47, 3) := by decide +kernel
theorem dX10_isMasked_16 : decode cX10_isMasked 16 = .ok (.athrow, 1) := by decide +kernel
theorem dX10_isMasked_17 : decode cX10_isMasked 17 = .ok (.aload_n 0, 1) := by decide +kernel
theorem dX10_isMasked_18 : decode cX10_isMasked 18 = .ok (.getfield 12, 3) := by decide +kernel
theorem dX10_isMasked_21 : decode cX10_isMasked 21 = .ok (.getfield 168, 3) := by decide +kernel
theorem dX10_isMasked_24 : decode cX10_isMasked 24 = .ok (.iload_n 1, 1) := by decide +kernel
theorem dX10_isMasked_25 : decode cX10_isMasked 25 = .ok (.invokevirtual 172, 3) := by decide +kernel
theorem dX10_isMasked_28 : decode cX10_isMasked 28 = .ok (.ireturn, 1) := by decide +kernel
theorem dX10_need_0 : decode cX10_need 0 = .ok (.iload_n 1, 1) := by decide +kernel
theorem dX10_need_1 : decode cX10_need 1 = .ok (.invokestatic 163, 3) := by decide +kernel
theorem dX10_need_4 : decode cX10_need 4 = .ok (.ifCond .ne 13, 3) := by decide +kernel
theorem dX10_need_7 : decode cX10_need 7 = .ok (.new 43, 3) := by decide +kernel
theorem dX10_need_10 : decode cX10_need 10 = .ok (.dup, 1) := by decide +kernel
theorem dX10_need_11 : decode cX10_need 11 = .ok (.ldc 166, 2) := by decide +kernel
theorem dX10_need_13 : decode cX10_need 13 = .ok (.invokespecial 47, 3) := by decide +kernel
theorem dX10_need_16 : decode cX10_need 16 = .ok (.athrow, 1) := by decide +kernel
theorem dX10_need_17 : decode cX10_need 17 = .ok (.aload_n 0, 1) := by decide +kernel
theorem dX10_need_18 : decode cX10_need 18 = .ok (.getfield 12, 3) := by decide +kernel
theorem dX10_need_21 : decode cX10_need 21 = .ok (.getfield 140, 3) := by decide +kernel
theorem dX10_need_24 : decode cX10_need 24 = .ok (.iload_n 1, 1) := by decide +kernel
theorem dX10_need_25 : decode cX10_need 25 = .ok (.invokevirtual 220, 3) := by decide +kernel
theorem dX10_need_28 : decode cX10_need 28 = .ok (.ireturn, 1) := by decide +kernel
theorem dX10_thing_0 : decode cX10_thing 0 = .ok (.aload_n 0, 1) := by decide +kernel
theorem dX10_thing_1 : decode cX10_thing 1 = .ok (.getfield 12, 3) := by decide +kernel
theorem dX10_thing_4 : decode cX10_thing 4 = .ok (.getfield 66, 3) := by decide +kernel
theorem dX10_thing_7 : decode cX10_thing 7 = .ok (.iload_n 1, 1) := by decide +kernel
theorem dX10_thing_8 : decode cX10_thing 8 = .ok (.invokevirtual 116, 3) := by decide +kernel
theorem dX10_thing_11 : decode cX10_thing 11 = .ok (.ifCond .ne 13, 3) := by decide +kernel
theorem dX10_thing_14 : decode cX10_thing 14 = .ok (.new 119, 3) := by decide +kernel
theorem dX10_thing_17 : decode cX10_thing 17 = .ok (.dup, 1) := by decide +kernel
theorem dX10_thing_18 : decode cX10_thing 18 = .ok (.ldc 121, 2) := by decide +kernel
theorem dX10_thing_20 : decode cX10_thing 20 = .ok (.invokespecial 123, 3) := by decide +kernel
end
section
theorem dX10_thing_23 : decode cX10_thing 23 = .ok (.athrow, 1) := by decide +kernel
theorem dX10_thing_24 : decode cX10_thing 24 = .ok (.iload_n 2, 1) := by decide +kernel
theorem dX10_thing_25 : decode cX10_thing 25 = .ok (.ifCond .eq 18, 3) := by decide +kernel
theorem dX10_thing_28 : decode cX10_thing 28 = .ok (.iload_n 2, 1) := by decide +kernel
theorem dX10_thing_29 : decode cX10_thing 29 = .ok (.iconst 1, 1) := by decide +kernel
theorem dX10_thing_30 : decode cX10_thing 30 = .ok (.if_icmp .eq 13, 3) := by decide +kernel
theorem dX10_thing_33 : decode cX10_thing 33 = .ok (.new 43, 3) := by decide +kernel
theorem dX10_thing_36 : decode cX10_thing 36 = .ok (.dup, 1) := by decide +kernel
theorem dX10_thing_37 : decode cX10_thing 37 = .ok (.ldc 223, 2) := by decide +kernel
theorem dX10_thing_39 : decode cX10_thing 39 = .ok (.invokespecial 47, 3) := by decide +kernel
theorem dX10_thing_42 : decode cX10_thing 42 = .ok (.athrow, 1) := by decide +kernel
theorem dX10_thing_43 : decode cX10_thing 43 = .ok (.iload_n 2, 1) := by decide +kernel
theorem dX10_thing_44 : decode cX10_thing 44 = .ok (.ifCond .ne 17, 3) := by decide +kernel
theorem dX10_thing_47 : decode cX10_thing 47 = .ok (.aload_n 0, 1) := by decide +kernel
theorem dX10_thing_48 : decode cX10_thing 48 = .ok (.getfield 12, 3) := by decide +kernel
theorem dX10_thing_51 : decode cX10_thing 51 = .ok (.getfield 66, 3) := by decide +kernel
theorem dX10_thing_54 : decode cX10_thing 54 = .ok (.iload_n 1, 1) := by decide +kernel
theorem dX10_thing_55 : decode cX10_thing 55 = .ok (.invokevirtual 225, 3) := by decide +kernel
theorem dX10_thing_58 : decode cX10_thing 58 = .ok (.goto 14, 3) := by decide +kernel
theorem dX10_thing_61 : decode cX10_thing 61 = .ok (.aload_n 0, 1) := by decide +kernel
theorem dX10_thing_62 : decode cX10_thing 62 = .ok (.getfield 12, 3) := by decide +kernel
theorem dX10_thing_65 : decode cX10_thing 65 = .ok (.getfield 66, 3) := by decide +kernel
theorem dX10_thing_68 : decode cX10_thing 68 = .ok (.iload_n 1, 1) := by decide +kernel
theorem dX10_thing_69 : decode cX10_thing 69 = .ok (.invokevirtual 228, 3) := by decide +kernel
theorem dX10_thing_72 : decode cX10_thing 72 = .ok (.ireturn, 1) := by decide +kernel
theorem dX10_angle_0 : decode cX10_angle 0 = .ok (.iload_n 1, 1) := by decide +kernel
theorem dX10_angle_1 : decode cX10_angle 1 = .ok (.ifCond .lt 17, 3) := by decide +kernel
theorem dX10_angle_4 : decode cX10_angle 4 = .ok (.iload_n 1, 1) := by decide +kernel
theorem dX10_angle_5 : decode cX10_angle 5 = .ok (.aload_n 0, 1) := by decide +kernel
theorem dX10_angle_6 : decode cX10_angle 6 = .ok (.getfield 12, 3) := by decide +kernel
theorem dX10_angle_9 : decode cX10_angle 9 = .ok (.getfield 66, 3) := by decide +kernel
theorem dX10_angle_12 : decode cX10_angle 12 = .ok (.getfield 133, 3) := by decide +kernel
theorem dX10_angle_15 : decode cX10_angle 15 = .ok (.if_icmp .lt 13, 3) := by decide +kernel
theorem dX10_angle_18 : decode cX10_angle 18 = .ok (.new 119, 3) := by decide +kernel
theorem dX10_angle_21 : decode cX10_angle 21 = .ok (.dup, 1) := by decide +kernel
theorem dX10_angle_22 : decode cX10_angle 22 = .ok (.ldc 231, 2) := by decide +kernel
theorem dX10_angle_24 : decode cX10_angle 24 = .ok (.invokespecial 123, 3) := by decide +kernel
theorem dX10_angle_27 : decode cX10_angle 27 = .ok (.athrow, 1) := by decide +kernel
theorem dX10_angle_28 : decode cX10_angle 28 = .ok (.aload_n 0, 1) := by decide +kernel
theorem dX10_angle_29 : decode cX10_angle 29 = .ok (.getfield 12, 3) := by decide +kernel
theorem dX10_angle_32 : decode cX10_angle 32 = .ok (.getfield 66, 3) := by decide +kernel
theorem dX10_angle_35 : decode cX10_angle 35 = .ok (.iload_n 1, 1) := by decide +kernel
theorem dX10_angle_36 : decode cX10_angle 36 = .ok (.invokevirtual 233, 3) := by decide +kernel
theorem dX10_angle_39 : decode cX10_angle 39 = .ok (.ireturn, 1) := by decide +kernel
theorem dX10_tank_0 : decode cX10_tank 0 = .ok (.aload_n 0, 1) := by decide +kernel
theorem dX10_tank_1 : decode cX10_tank 1 = .ok (.getfield 12, 3) := by decide +kernel
theorem dX10_tank_4 : decode cX10_tank 4 = .ok (.getfield 66, 3) := by decide +kernel
theorem dX10_tank_7 : decode cX10_tank 7 = .ok (.astore_n 2, 1) := by decide +kernel
theorem dX10_tank_8 : decode cX10_tank 8 = .ok (.iload_n 1, 1) := by decide +kernel
theorem dX10_tank_9 : decode cX10_tank 9 = .ok (.tableswitch 123 0 11 #[63, 68, 73, 78, 83, 88, 93, 98, 103, 108, 113, 118], 63) := by decide +kernel
theorem dX10_tank_72 : decode cX10_tank 72 = .ok (.aload_n 2, 1) := by decide +kernel
theorem dX10_tank_73 : decode cX10_tank 73 = .ok (.getfield 236, 3) := by decide +kernel
theorem dX10_tank_76 : decode cX10_tank 76 = .ok (.ireturn, 1) := by decide +kernel
theorem dX10_tank_77 : decode cX10_tank 77 = .ok (.aload_n 2, 1) := by decide +kernel
theorem dX10_tank_78 : decode cX10_tank 78 = .ok (.getfield 75, 3) := by decide +kernel
theorem dX10_tank_81 : decode cX10_tank 81 = .ok (.ireturn, 1) := by decide +kernel
theorem dX10_tank_82 : decode cX10_tank 82 = .ok (.aload_n 2, 1) := by decide +kernel
theorem dX10_tank_83 : decode cX10_tank 83 = .ok (.getfield 83, 3) := by decide +kernel
theorem dX10_tank_86 : decode cX10_tank 86 = .ok (.ireturn, 1) := by decide +kernel
theorem dX10_tank_87 : decode cX10_tank 87 = .ok (.aload_n 2, 1) := by decide +kernel
theorem dX10_tank_88 : decode cX10_tank 88 = .ok (.getfield 91, 3) := by decide +kernel
theorem dX10_tank_91 : decode cX10_tank 91 = .ok (.ireturn, 1) := by decide +kernel
theorem dX10_tank_92 : decode cX10_tank 92 = .ok (.aload_n 2, 1) := by decide +kernel
theorem dX10_tank_93 : decode cX10_tank 93 = .ok (.getfield 113, 3) := by decide +kernel
theorem dX10_tank_96 : decode cX10_tank 96 = .ok (.ireturn, 1) := by decide +kernel
theorem dX10_tank_97 : decode cX10_tank 97 = .ok (.aload_n 2, 1) := by decide +kernel
theorem dX10_tank_98 : decode cX10_tank 98 = .ok (.getfield 133, 3) := by decide +kernel
theorem dX10_tank_101 : decode cX10_tank 101 = .ok (.ireturn, 1) := by decide +kernel
theorem dX10_tank_102 : decode cX10_tank 102 = .ok (.aload_n 2, 1) := by decide +kernel
theorem dX10_tank_103 : decode cX10_tank 103 = .ok (.getfield 239, 3) := by decide +kernel
theorem dX10_tank_106 : decode cX10_tank 106 = .ok (.ireturn, 1) := by decide +kernel
theorem dX10_tank_107 : decode cX10_tank 107 = .ok (.aload_n 2, 1) := by decide +kernel
theorem dX10_tank_108 : decode cX10_tank 108 = .ok (.getfield 242, 3) := by decide +kernel
theorem dX10_tank_111 : decode cX10_tank 111 = .ok (.ireturn, 1) := by decide +kernel
theorem dX10_tank_112 : decode cX10_tank 112 = .ok (.aload_n 2, 1) := by decide +kernel
theorem dX10_tank_113 : decode cX10_tank 113 = .ok (.getfield 245, 3) := by decide +kernel
theorem dX10_tank_116 : decode cX10_tank 116 = .ok (.ireturn, 1) := by decide +kernel
theorem dX10_tank_117 : decode cX10_tank 117 = .ok (.aload_n 2, 1) := by decide +kernel
theorem dX10_tank_118 : decode cX10_tank 118 = .ok (.getfield 248, 3) := by decide +kernel
theorem dX10_tank_121 : decode cX10_tank 121 = .ok (.ireturn, 1) := by decide +kernel
theorem dX10_tank_122 : decode cX10_tank 122 = .ok (.aload_n 2, 1) := by decide +kernel
theorem dX10_tank_123 : decode cX10_tank 123 = .ok (.getfield 251, 3) := by decide +kernel
theorem dX10_tank_126 : decode cX10_tank 126 = .ok (.ireturn, 1) := by decide +kernel
theorem dX10_tank_127 : decode cX10_tank 127 = .ok (.aload_n 2, 1) := by decide +kernel
theorem dX10_tank_128 : decode cX10_tank 128 = .ok (.getfield 160, 3) := by decide +kernel
theorem dX10_tank_131 : decode cX10_tank 131 = .ok (.ireturn, 1) := by decide +kernel
theorem dX10_tank_132 : decode cX10_tank 132 = .ok (.new 43, 3) := by decide +kernel
theorem dX10_tank_135 : decode cX10_tank 135 = .ok (.dup, 1) := by decide +kernel
theorem dX10_tank_136 : decode cX10_tank 136 = .ok (.ldc 223, 2) := by decide +kernel
theorem dX10_tank_138 : decode cX10_tank 138 = .ok (.invokespecial 47, 3) := by decide +kernel
theorem dX10_tank_141 : decode cX10_tank 141 = .ok (.athrow, 1) := by decide +kernel
theorem dX10_setting_0 : decode cX10_setting 0 = .ok (.iload_n 1, 1) := by decide +kernel
theorem dX10_setting_1 : decode cX10_setting 1 = .ok (.invokestatic 254, 3) := by decide +kernel
theorem dX10_setting_4 : decode cX10_setting 4 = .ok (.ifCond .ne 13, 3) := by decide +kernel
theorem dX10_setting_7 : decode cX10_setting 7 = .ok (.new 43, 3) := by decide +kernel
theorem dX10_setting_10 : decode cX10_setting 10 = .ok (.dup, 1) := by decide +kernel
theorem dX10_setting_11 : decode cX10_setting 11 = .ok (.ldc 223, 2) := by decide +kernel
theorem dX10_setting_13 : decode cX10_setting 13 = .ok (.invokespecial 47, 3) := by decide +kernel
theorem dX10_setting_16 : decode cX10_setting 16 = .ok (.athrow, 1) := by decide +kernel
theorem dX10_setting_17 : decode cX10_setting 17 = .ok (.aload_n 0, 1) := by decide +kernel
theorem dX10_setting_18 : decode cX10_setting 18 = .ok (.getfield 12, 3) := by decide +kernel
theorem dX10_setting_21 : decode cX10_setting 21 = .ok (.getfield 140, 3) := by decide +kernel
theorem dX10_setting_24 : decode cX10_setting 24 = .ok (.iload_n 1, 1) := by decide +kernel
theorem dX10_setting_25 : decode cX10_setting 25 = .ok (.invokevirtual 151, 3) := by decide +kernel
theorem dX10_setting_28 : decode cX10_setting 28 = .ok (.ireturn, 1) := by decide +kernel
theorem dX10_gauge_0 : decode cX10_gauge 0 = .ok (.aload_n 0, 1) := by decide +kernel
theorem dX10_gauge_1 : decode cX10_gauge 1 = .ok (.getfield 12, 3) := by decide +kernel
theorem dX10_gauge_4 : decode cX10_gauge 4 = .ok (.getfield 53, 3) := by decide +kernel
theorem dX10_gauge_7 : decode cX10_gauge 7 = .ok (.astore_n 2, 1) := by decide +kernel
theorem dX10_gauge_8 : decode cX10_gauge 8 = .ok (.iload_n 1, 1) := by decide +kernel
theorem dX10_gauge_9 : decode cX10_gauge 9 = .ok (.tableswitch 166 0 12 #[67, 72, 77, 82, 97, 102, 107, 118, 129, 134, 139, 156, 161], 67) := by decide +kernel
theorem dX10_gauge_76 : decode cX10_gauge 76 = .ok (.aload_n 2, 1) := by decide +kernel
theorem dX10_gauge_77 : decode cX10_gauge 77 = .ok (.getfield 57, 3) := by decide +kernel
theorem dX10_gauge_80 : decode cX10_gauge 80 = .ok (.ireturn, 1) := by decide +kernel
theorem dX10_gauge_81 : decode cX10_gauge 81 = .ok (.aload_n 2, 1) := by decide +kernel
theorem dX10_gauge_82 : decode cX10_gauge 82 = .ok (.getfield 198, 3) := by decide +kernel
theorem dX10_gauge_85 : decode cX10_gauge 85 = .ok (.ireturn, 1) := by decide +kernel
theorem dX10_gauge_86 : decode cX10_gauge 86 = .ok (.aload_n 2, 1) := by decide +kernel
theorem dX10_gauge_87 : decode cX10_gauge 87 = .ok (.getfield 257, 3) := by decide +kernel
theorem dX10_gauge_90 : decode cX10_gauge 90 = .ok (.ireturn, 1) := by decide +kernel
theorem dX10_gauge_91 : decode cX10_gauge 91 = .ok (.aload_n 2, 1) := by decide +kernel
theorem dX10_gauge_92 : decode cX10_gauge 92 = .ok (.aload_n 0, 1) := by decide +kernel
theorem dX10_gauge_93 : decode cX10_gauge 93 = .ok (.getfield 12, 3) := by decide +kernel
theorem dX10_gauge_96 : decode cX10_gauge 96 = .ok (.getfield 66, 3) := by decide +kernel
theorem dX10_gauge_99 : decode cX10_gauge 99 = .ok (.getfield 236, 3) := by decide +kernel
theorem dX10_gauge_102 : decode cX10_gauge 102 = .ok (.invokevirtual 260, 3) := by decide +kernel
theorem dX10_gauge_105 : decode cX10_gauge 105 = .ok (.ireturn, 1) := by decide +kernel
theorem dX10_gauge_106 : decode cX10_gauge 106 = .ok (.aload_n 2, 1) := by decide +kernel
theorem dX10_gauge_107 : decode cX10_gauge 107 = .ok (.getfield 263, 3) := by decide +kernel
theorem dX10_gauge_110 : decode cX10_gauge 110 = .ok (.ireturn, 1) := by decide +kernel
theorem dX10_gauge_111 : decode cX10_gauge 111 = .ok (.aload_n 2, 1) := by decide +kernel
theorem dX10_gauge_112 : decode cX10_gauge 112 = .ok (.getfield 266, 3) := by decide +kernel
theorem dX10_gauge_115 : decode cX10_gauge 115 = .ok (.ireturn, 1) := by decide +kernel
theorem dX10_gauge_116 : decode cX10_gauge 116 = .ok (.aload_n 0, 1) := by decide +kernel
theorem dX10_gauge_117 : decode cX10_gauge 117 = .ok (.getfield 12, 3) := by decide +kernel
theorem dX10_gauge_120 : decode cX10_gauge 120 = .ok (.getfield 168, 3) := by decide +kernel
theorem dX10_gauge_123 : decode cX10_gauge 123 = .ok (.getfield 189, 3) := by decide +kernel
theorem dX10_gauge_126 : decode cX10_gauge 126 = .ok (.ireturn, 1) := by decide +kernel
theorem dX10_gauge_127 : decode cX10_gauge 127 = .ok (.aload_n 0, 1) := by decide +kernel
theorem dX10_gauge_128 : decode cX10_gauge 128 = .ok (.getfield 12, 3) := by decide +kernel
theorem dX10_gauge_131 : decode cX10_gauge 131 = .ok (.getfield 206, 3) := by decide +kernel
theorem dX10_gauge_134 : decode cX10_gauge 134 = .ok (.getfield 269, 3) := by decide +kernel
theorem dX10_gauge_137 : decode cX10_gauge 137 = .ok (.ireturn, 1) := by decide +kernel
theorem dX10_gauge_138 : decode cX10_gauge 138 = .ok (.aload_n 2, 1) := by decide +kernel
theorem dX10_gauge_139 : decode cX10_gauge 139 = .ok (.getfield 270, 3) := by decide +kernel
theorem dX10_gauge_142 : decode cX10_gauge 142 = .ok (.ireturn, 1) := by decide +kernel
theorem dX10_gauge_143 : decode cX10_gauge 143 = .ok (.aload_n 2, 1) := by decide +kernel
theorem dX10_gauge_144 : decode cX10_gauge 144 = .ok (.invokevirtual 271, 3) := by decide +kernel
theorem dX10_gauge_147 : decode cX10_gauge 147 = .ok (.ireturn, 1) := by decide +kernel
theorem dX10_gauge_148 : decode cX10_gauge 148 = .ok (.aload_n 2, 1) := by decide +kernel
theorem dX10_gauge_149 : decode cX10_gauge 149 = .ok (.aload_n 0, 1) := by decide +kernel
theorem dX10_gauge_150 : decode cX10_gauge 150 = .ok (.getfield 12, 3) := by decide +kernel
theorem dX10_gauge_153 : decode cX10_gauge 153 = .ok (.getfield 140, 3) := by decide +kernel
theorem dX10_gauge_156 : decode cX10_gauge 156 = .ok (.bipush 6, 2) := by decide +kernel
theorem dX10_gauge_158 : decode cX10_gauge 158 = .ok (.invokevirtual 151, 3) := by decide +kernel
theorem dX10_gauge_161 : decode cX10_gauge 161 = .ok (.invokevirtual 275, 3) := by decide +kernel
theorem dX10_gauge_164 : decode cX10_gauge 164 = .ok (.ireturn, 1) := by decide +kernel
theorem dX10_gauge_165 : decode cX10_gauge 165 = .ok (.aload_n 2, 1) := by decide +kernel
theorem dX10_gauge_166 : decode cX10_gauge 166 = .ok (.getfield 278, 3) := by decide +kernel
theorem dX10_gauge_169 : decode cX10_gauge 169 = .ok (.ireturn, 1) := by decide +kernel
theorem dX10_gauge_170 : decode cX10_gauge 170 = .ok (.aload_n 2, 1) := by decide +kernel
theorem dX10_gauge_171 : decode cX10_gauge 171 = .ok (.getfield 281, 3) := by decide +kernel
theorem dX10_gauge_174 : decode cX10_gauge 174 = .ok (.ireturn, 1) := by decide +kernel
theorem dX10_gauge_175 : decode cX10_gauge 175 = .ok (.new 43, 3) := by decide +kernel
theorem dX10_gauge_178 : decode cX10_gauge 178 = .ok (.dup, 1) := by decide +kernel
theorem dX10_gauge_179 : decode cX10_gauge 179 = .ok (.ldc 223, 2) := by decide +kernel
theorem dX10_gauge_181 : decode cX10_gauge 181 = .ok (.invokespecial 47, 3) := by decide +kernel
theorem dX10_gauge_184 : decode cX10_gauge 184 = .ok (.athrow, 1) := by decide +kernel
theorem dX10_meanPick_0 : decode cX10_meanPick 0 = .ok (.aload_n 0, 1) := by decide +kernel
theorem dX10_meanPick_1 : decode cX10_meanPick 1 = .ok (.getfield 12, 3) := by decide +kernel
theorem dX10_meanPick_4 : decode cX10_meanPick 4 = .ok (.getfield 53, 3) := by decide +kernel
theorem dX10_meanPick_7 : decode cX10_meanPick 7 = .ok (.invokevirtual 271, 3) := by decide +kernel
theorem dX10_meanPick_10 : decode cX10_meanPick 10 = .ok (.istore_n 1, 1) := by decide +kernel
theorem dX10_meanPick_11 : decode cX10_meanPick 11 = .ok (.iload_n 1, 1) := by decide +kernel
theorem dX10_meanPick_12 : decode cX10_meanPick 12 = .ok (.ifCond .le 20, 3) := by decide +kernel
theorem dX10_meanPick_15 : decode cX10_meanPick 15 = .ok (.aload_n 0, 1) := by decide +kernel
theorem dX10_meanPick_16 : decode cX10_meanPick 16 = .ok (.getfield 12, 3) := by decide +kernel
theorem dX10_meanPick_19 : decode cX10_meanPick 19 = .ok (.getfield 53, 3) := by decide +kernel
theorem dX10_meanPick_22 : decode cX10_meanPick 22 = .ok (.invokevirtual 284, 3) := by decide +kernel
theorem dX10_meanPick_25 : decode cX10_meanPick 25 = .ok (.i2d, 1) := by decide +kernel
theorem dX10_meanPick_26 : decode cX10_meanPick 26 = .ok (.iload_n 1, 1) := by decide +kernel
theorem dX10_meanPick_27 : decode cX10_meanPick 27 = .ok (.i2d, 1) := by decide +kernel
theorem dX10_meanPick_28 : decode cX10_meanPick 28 = .ok (.ddiv, 1) := by decide +kernel
theorem dX10_meanPick_29 : decode cX10_meanPick 29 = .ok (.goto 6, 3) := by decide +kernel
theorem dX10_meanPick_32 : decode cX10_meanPick 32 = .ok (.ldc2_w 287, 3) := by decide +kernel
theorem dX10_meanPick_35 : decode cX10_meanPick 35 = .ok (.dreturn, 1) := by decide +kernel
theorem dX10_toldAfter_0 : decode cX10_toldAfter 0 = .ok (.iload_n 1, 1) := by decide +kernel
theorem dX10_toldAfter_1 : decode cX10_toldAfter 1 = .ok (.ifCond .lt 10, 3) := by decide +kernel
theorem dX10_toldAfter_4 : decode cX10_toldAfter 4 = .ok (.iload_n 1, 1) := by decide +kernel
theorem dX10_toldAfter_5 : decode cX10_toldAfter 5 = .ok (.sipush 500, 3) := by decide +kernel
theorem dX10_toldAfter_8 : decode cX10_toldAfter 8 = .ok (.if_icmp .le 14, 3) := by decide +kernel
theorem dX10_toldAfter_11 : decode cX10_toldAfter 11 = .ok (.new 43, 3) := by decide +kernel
theorem dX10_toldAfter_14 : decode cX10_toldAfter 14 = .ok (.dup, 1) := by decide +kernel
theorem dX10_toldAfter_15 : decode cX10_toldAfter 15 = .ok (.ldc_w 289, 3) := by decide +kernel
theorem dX10_toldAfter_18 : decode cX10_toldAfter 18 = .ok (.invokespecial 47, 3) := by decide +kernel
theorem dX10_toldAfter_21 : decode cX10_toldAfter 21 = .ok (.athrow, 1) := by decide +kernel
theorem dX10_toldAfter_22 : decode cX10_toldAfter 22 = .ok (.aload_n 0, 1) := by decide +kernel
theorem dX10_toldAfter_23 : decode cX10_toldAfter 23 = .ok (.getfield 16, 3) := by decide +kernel
theorem dX10_toldAfter_26 : decode cX10_toldAfter 26 = .ok (.aload_n 0, 1) := by decide +kernel
theorem dX10_toldAfter_27 : decode cX10_toldAfter 27 = .ok (.getfield 12, 3) := by decide +kernel
theorem dX10_toldAfter_30 : decode cX10_toldAfter 30 = .ok (.invokevirtual 291, 3) := by decide +kernel
theorem dX10_toldAfter_33 : decode cX10_toldAfter 33 = .ok (.iconst 0, 1) := by decide +kernel
theorem dX10_toldAfter_34 : decode cX10_toldAfter 34 = .ok (.istore_n 2, 1) := by decide +kernel
theorem dX10_toldAfter_35 : decode cX10_toldAfter 35 = .ok (.iload_n 2, 1) := by decide +kernel
theorem dX10_toldAfter_36 : decode cX10_toldAfter 36 = .ok (.iload_n 1, 1) := by decide +kernel
theorem dX10_toldAfter_37 : decode cX10_toldAfter 37 = .ok (.if_icmp .ge 31, 3) := by decide +kernel
theorem dX10_toldAfter_40 : decode cX10_toldAfter 40 = .ok (.aload_n 0, 1) := by decide +kernel
theorem dX10_toldAfter_41 : decode cX10_toldAfter 41 = .ok (.getfield 16, 3) := by decide +kernel
theorem dX10_toldAfter_44 : decode cX10_toldAfter 44 = .ok (.getfield 53, 3) := by decide +kernel
theorem dX10_toldAfter_47 : decode cX10_toldAfter 47 = .ok (.getfield 257, 3) := by decide +kernel
theorem dX10_toldAfter_50 : decode cX10_toldAfter 50 = .ok (.iconst (-1), 1) := by decide +kernel
theorem dX10_toldAfter_51 : decode cX10_toldAfter 51 = .ok (.if_icmp .ne 17, 3) := by decide +kernel
theorem dX10_toldAfter_54 : decode cX10_toldAfter 54 = .ok (.aload_n 0, 1) := by decide +kernel
theorem dX10_toldAfter_55 : decode cX10_toldAfter 55 = .ok (.getfield 16, 3) := by decide +kernel
theorem dX10_toldAfter_58 : decode cX10_toldAfter 58 = .ok (.iconst 1, 1) := by decide +kernel
theorem dX10_toldAfter_59 : decode cX10_toldAfter 59 = .ok (.invokevirtual 201, 3) := by decide +kernel
theorem dX10_toldAfter_62 : decode cX10_toldAfter 62 = .ok (.iinc 2 1, 3) := by decide +kernel
theorem dX10_toldAfter_65 : decode cX10_toldAfter 65 = .ok (.goto (-30), 3) := by decide +kernel
theorem dX10_toldAfter_68 : decode cX10_toldAfter 68 = .ok (.aload_n 0, 1) := by decide +kernel
theorem dX10_toldAfter_69 : decode cX10_toldAfter 69 = .ok (.getfield 16, 3) := by decide +kernel
theorem dX10_toldAfter_72 : decode cX10_toldAfter 72 = .ok (.getfield 53, 3) := by decide +kernel
theorem dX10_toldAfter_75 : decode cX10_toldAfter 75 = .ok (.getfield 257, 3) := by decide +kernel
theorem dX10_toldAfter_78 : decode cX10_toldAfter 78 = .ok (.iconst (-1), 1) := by decide +kernel
theorem dX10_toldAfter_79 : decode cX10_toldAfter 79 = .ok (.if_icmp .eq 7, 3) := by decide +kernel
theorem dX10_toldAfter_82 : decode cX10_toldAfter 82 = .ok (.iload_n 2, 1) := by decide +kernel
theorem dX10_toldAfter_83 : decode cX10_toldAfter 83 = .ok (.goto 4, 3) := by decide +kernel
theorem dX10_toldAfter_86 : decode cX10_toldAfter 86 = .ok (.iconst (-1), 1) := by decide +kernel
theorem dX10_toldAfter_87 : decode cX10_toldAfter 87 = .ok (.ireturn, 1) := by decide +kernel
theorem dX10_worstError_0 : decode cX10_worstError 0 = .ok (.iload_n 1, 1) := by decide +kernel
theorem dX10_worstError_1 : decode cX10_worstError 1 = .ok (.invokestatic 295, 3) := by decide +kernel
theorem dX10_worstError_4 : decode cX10_worstError 4 = .ok (.ifCond .ne 13, 3) := by decide +kernel
theorem dX10_worstError_7 : decode cX10_worstError 7 = .ok (.new 43, 3) := by decide +kernel
theorem dX10_worstError_10 : decode cX10_worstError 10 = .ok (.dup, 1) := by decide +kernel
theorem dX10_worstError_11 : decode cX10_worstError 11 = .ok (.ldc 184, 2) := by decide +kernel
theorem dX10_worstError_13 : decode cX10_worstError 13 = .ok (.invokespecial 47, 3) := by decide +kernel
theorem dX10_worstError_16 : decode cX10_worstError 16 = .ok (.athrow, 1) := by decide +kernel
theorem dX10_worstError_17 : decode cX10_worstError 17 = .ok (.aload_n 0, 1) := by decide +kernel
theorem dX10_worstError_18 : decode cX10_worstError 18 = .ok (.iload_n 1, 1) := by decide +kernel
theorem dX10_worstError_19 : decode cX10_worstError 19 = .ok (.aload_n 0, 1) := by decide +kernel
theorem dX10_worstError_20 : decode cX10_worstError 20 = .ok (.getfield 12, 3) := by decide +kernel
theorem dX10_worstError_23 : decode cX10_worstError 23 = .ok (.getfield 140, 3) := by decide +kernel
theorem dX10_worstError_26 : decode cX10_worstError 26 = .ok (.iconst 5, 1) := by decide +kernel
theorem dX10_worstError_27 : decode cX10_worstError 27 = .ok (.invokevirtual 151, 3) := by decide +kernel
theorem dX10_worstError_30 : decode cX10_worstError 30 = .ok (.invokevirtual 298, 3) := by decide +kernel
theorem dX10_worstError_33 : decode cX10_worstError 33 = .ok (.ireturn, 1) := by decide +kernel
theorem dX10_bestMode_0 : decode cX10_bestMode 0 = .ok (.iload_n 1, 1) := by decide +kernel
theorem dX10_bestMode_1 : decode cX10_bestMode 1 = .ok (.invokestatic 295, 3) := by decide +kernel
theorem dX10_bestMode_4 : decode cX10_bestMode 4 = .ok (.ifCond .ne 13, 3) := by decide +kernel
theorem dX10_bestMode_7 : decode cX10_bestMode 7 = .ok (.new 43, 3) := by decide +kernel
theorem dX10_bestMode_10 : decode cX10_bestMode 10 = .ok (.dup, 1) := by decide +kernel
theorem dX10_bestMode_11 : decode cX10_bestMode 11 = .ok (.ldc 184, 2) := by decide +kernel
theorem dX10_bestMode_13 : decode cX10_bestMode 13 = .ok (.invokespecial 47, 3) := by decide +kernel
theorem dX10_bestMode_16 : decode cX10_bestMode 16 = .ok (.athrow, 1) := by decide +kernel
theorem dX10_bestMode_17 : decode cX10_bestMode 17 = .ok (.iconst 0, 1) := by decide +kernel
theorem dX10_bestMode_18 : decode cX10_bestMode 18 = .ok (.istore_n 2, 1) := by decide +kernel
theorem dX10_bestMode_19 : decode cX10_bestMode 19 = .ok (.aload_n 0, 1) := by decide +kernel
theorem dX10_bestMode_20 : decode cX10_bestMode 20 = .ok (.iload_n 1, 1) := by decide +kernel
theorem dX10_bestMode_21 : decode cX10_bestMode 21 = .ok (.iconst 0, 1) := by decide +kernel
theorem dX10_bestMode_22 : decode cX10_bestMode 22 = .ok (.invokevirtual 298, 3) := by decide +kernel
theorem dX10_bestMode_25 : decode cX10_bestMode 25 = .ok (.istore_n 3, 1) := by decide +kernel
theorem dX10_bestMode_26 : decode cX10_bestMode 26 = .ok (.iconst 1, 1) := by decide +kernel
theorem dX10_bestMode_27 : decode cX10_bestMode 27 = .ok (.istore 4, 2) := by decide +kernel
theorem dX10_bestMode_29 : decode cX10_bestMode 29 = .ok (.iload 4, 2) := by decide +kernel
theorem dX10_bestMode_31 : decode cX10_bestMode 31 = .ok (.iconst 3, 1) := by decide +kernel
theorem dX10_bestMode_32 : decode cX10_bestMode 32 = .ok (.if_icmp .ge 30, 3) := by decide +kernel
theorem dX10_bestMode_35 : decode cX10_bestMode 35 = .ok (.aload_n 0, 1) := by decide +kernel
theorem dX10_bestMode_36 : decode cX10_bestMode 36 = .ok (.iload_n 1, 1) := by decide +kernel
theorem dX10_bestMode_37 : decode cX10_bestMode 37 = .ok (.iload 4, 2) := by decide +kernel
theorem dX10_bestMode_39 : decode cX10_bestMode 39 = .ok (.invokevirtual 298, 3) := by decide +kernel
theorem dX10_bestMode_42 : decode cX10_bestMode 42 = .ok (.istore 5, 2) := by decide +kernel
theorem dX10_bestMode_44 : decode cX10_bestMode 44 = .ok (.iload 5, 2) := by decide +kernel
theorem dX10_bestMode_46 : decode cX10_bestMode 46 = .ok (.iload_n 3, 1) := by decide +kernel
theorem dX10_bestMode_47 : decode cX10_bestMode 47 = .ok (.if_icmp .ge 9, 3) := by decide +kernel
theorem dX10_bestMode_50 : decode cX10_bestMode 50 = .ok (.iload 4, 2) := by decide +kernel
theorem dX10_bestMode_52 : decode cX10_bestMode 52 = .ok (.istore_n 2, 1) := by decide +kernel
theorem dX10_bestMode_53 : decode cX10_bestMode 53 = .ok (.iload 5, 2) := by decide +kernel
theorem dX10_bestMode_55 : decode cX10_bestMode 55 = .ok (.istore_n 3, 1) := by decide +kernel
theorem dX10_bestMode_56 : decode cX10_bestMode 56 = .ok (.iinc 4 1, 3) := by decide +kernel
theorem dX10_bestMode_59 : decode cX10_bestMode 59 = .ok (.goto (-30), 3) := by decide +kernel
theorem dX10_bestMode_62 : decode cX10_bestMode 62 = .ok (.iload_n 2, 1) := by decide +kernel
theorem dX10_bestMode_63 : decode cX10_bestMode 63 = .ok (.ireturn, 1) := by decide +kernel
theorem dX10_type_0 : decode cX10_type 0 = .ok (.iload_n 1, 1) := by decide +kernel
theorem dX10_type_1 : decode cX10_type 1 = .ok (.ifCond .lt 9, 3) := by decide +kernel
theorem dX10_type_4 : decode cX10_type 4 = .ok (.iload_n 1, 1) := by decide +kernel
theorem dX10_type_5 : decode cX10_type 5 = .ok (.bipush 127, 2) := by decide +kernel
theorem dX10_type_7 : decode cX10_type 7 = .ok (.if_icmp .le 14, 3) := by decide +kernel
theorem dX10_type_10 : decode cX10_type 10 = .ok (.new 43, 3) := by decide +kernel
theorem dX10_type_13 : decode cX10_type 13 = .ok (.dup, 1) := by decide +kernel
theorem dX10_type_14 : decode cX10_type 14 = .ok (.ldc_w 301, 3) := by decide +kernel
theorem dX10_type_17 : decode cX10_type 17 = .ok (.invokespecial 47, 3) := by decide +kernel
theorem dX10_type_20 : decode cX10_type 20 = .ok (.athrow, 1) := by decide +kernel
theorem dX10_type_21 : decode cX10_type 21 = .ok (.aload_n 0, 1) := by decide +kernel
theorem dX10_type_22 : decode cX10_type 22 = .ok (.getfield 33, 3) := by decide +kernel
theorem dX10_type_25 : decode cX10_type 25 = .ok (.invokevirtual 303, 3) := by decide +kernel
theorem dX10_type_28 : decode cX10_type 28 = .ok (.ifCond .eq 14, 3) := by decide +kernel
theorem dX10_type_31 : decode cX10_type 31 = .ok (.new 104, 3) := by decide +kernel
theorem dX10_type_34 : decode cX10_type 34 = .ok (.dup, 1) := by decide +kernel
theorem dX10_type_35 : decode cX10_type 35 = .ok (.ldc_w 306, 3) := by decide +kernel
theorem dX10_type_38 : decode cX10_type 38 = .ok (.invokespecial 108, 3) := by decide +kernel
theorem dX10_type_41 : decode cX10_type 41 = .ok (.athrow, 1) := by decide +kernel
theorem dX10_type_42 : decode cX10_type 42 = .ok (.aload_n 0, 1) := by decide +kernel
theorem dX10_type_43 : decode cX10_type 43 = .ok (.getfield 33, 3) := by decide +kernel
theorem dX10_type_46 : decode cX10_type 46 = .ok (.iload_n 1, 1) := by decide +kernel
theorem dX10_type_47 : decode cX10_type 47 = .ok (.invokevirtual 308, 3) := by decide +kernel
theorem dX10_type_50 : decode cX10_type 50 = .ok (.aload_n 0, 1) := by decide +kernel
theorem dX10_type_51 : decode cX10_type 51 = .ok (.getfield 33, 3) := by decide +kernel
theorem dX10_type_54 : decode cX10_type 54 = .ok (.getfield 311, 3) := by decide +kernel
theorem dX10_type_57 : decode cX10_type 57 = .ok (.ireturn, 1) := by decide +kernel
theorem dX10_clearCommands_0 : decode cX10_clearCommands 0 = .ok (.aload_n 0, 1) := by decide +kernel
theorem dX10_clearCommands_1 : decode cX10_clearCommands 1 = .ok (.getfield 33, 3) := by decide +kernel
theorem dX10_clearCommands_4 : decode cX10_clearCommands 4 = .ok (.getfield 311, 3) := by decide +kernel
theorem dX10_clearCommands_7 : decode cX10_clearCommands 7 = .ok (.istore_n 1, 1) := by decide +kernel
theorem dX10_clearCommands_8 : decode cX10_clearCommands 8 = .ok (.aload_n 0, 1) := by decide +kernel
theorem dX10_clearCommands_9 : decode cX10_clearCommands 9 = .ok (.getfield 33, 3) := by decide +kernel
theorem dX10_clearCommands_12 : decode cX10_clearCommands 12 = .ok (.iconst 0, 1) := by decide +kernel
theorem dX10_clearCommands_13 : decode cX10_clearCommands 13 = .ok (.putfield 311, 3) := by decide +kernel
theorem dX10_clearCommands_16 : decode cX10_clearCommands 16 = .ok (.iload_n 1, 1) := by decide +kernel
theorem dX10_clearCommands_17 : decode cX10_clearCommands 17 = .ok (.ireturn, 1) := by decide +kernel
theorem dX10_runCommands_0 : decode cX10_runCommands 0 = .ok (.aload_n 0, 1) := by decide +kernel
theorem dX10_runCommands_1 : decode cX10_runCommands 1 = .ok (.getfield 33, 3) := by decide +kernel
theorem dX10_runCommands_4 : decode cX10_runCommands 4 = .ok (.invokevirtual 314, 3) := by decide +kernel
theorem dX10_runCommands_7 : decode cX10_runCommands 7 = .ok (.istore_n 1, 1) := by decide +kernel
theorem dX10_runCommands_8 : decode cX10_runCommands 8 = .ok (.iload_n 1, 1) := by decide +kernel
theorem dX10_runCommands_9 : decode cX10_runCommands 9 = .ok (.iconst (-1), 1) := by decide +kernel
theorem dX10_runCommands_10 : decode cX10_runCommands 10 = .ok (.if_icmp .eq 8, 3) := by decide +kernel
theorem dX10_runCommands_13 : decode cX10_runCommands 13 = .ok (.bipush (-10), 2) := by decide +kernel
theorem dX10_runCommands_15 : decode cX10_runCommands 15 = .ok (.iload_n 1, 1) := by decide +kernel
theorem dX10_runCommands_16 : decode cX10_runCommands 16 = .ok (.isub, 1) := by decide +kernel
theorem dX10_runCommands_17 : decode cX10_runCommands 17 = .ok (.ireturn, 1) := by decide +kernel
theorem dX10_runCommands_18 : decode cX10_runCommands 18 = .ok (.aload_n 0, 1) := by decide +kernel
theorem dX10_runCommands_19 : decode cX10_runCommands 19 = .ok (.invokevirtual 50, 3) := by decide +kernel
theorem dX10_runCommands_22 : decode cX10_runCommands 22 = .ok (.iconst 0, 1) := by decide +kernel
theorem dX10_runCommands_23 : decode cX10_runCommands 23 = .ok (.istore_n 2, 1) := by decide +kernel
theorem dX10_runCommands_24 : decode cX10_runCommands 24 = .ok (.aload_n 0, 1) := by decide +kernel
theorem dX10_runCommands_25 : decode cX10_runCommands 25 = .ok (.getfield 33, 3) := by decide +kernel
theorem dX10_runCommands_28 : decode cX10_runCommands 28 = .ok (.invokevirtual 317, 3) := by decide +kernel
theorem dX10_runCommands_31 : decode cX10_runCommands 31 = .ok (.iload_n 2, 1) := by decide +kernel
theorem dX10_runCommands_32 : decode cX10_runCommands 32 = .ok (.sipush 150, 3) := by decide +kernel
theorem dX10_runCommands_35 : decode cX10_runCommands 35 = .ok (.if_icmp .ge 36, 3) := by decide +kernel
theorem dX10_runCommands_38 : decode cX10_runCommands 38 = .ok (.aload_n 0, 1) := by decide +kernel
theorem dX10_runCommands_39 : decode cX10_runCommands 39 = .ok (.getfield 33, 3) := by decide +kernel
theorem dX10_runCommands_42 : decode cX10_runCommands 42 = .ok (.invokevirtual 320, 3) := by decide +kernel
theorem dX10_runCommands_45 : decode cX10_runCommands 45 = .ok (.ifCond .eq 26, 3) := by decide +kernel
theorem dX10_runCommands_48 : decode cX10_runCommands 48 = .ok (.aload_n 0, 1) := by decide +kernel
theorem dX10_runCommands_49 : decode cX10_runCommands 49 = .ok (.getfield 33, 3) := by decide +kernel
theorem dX10_runCommands_52 : decode cX10_runCommands 52 = .ok (.invokevirtual 323, 3) := by decide +kernel
theorem dX10_runCommands_55 : decode cX10_runCommands 55 = .ok (.ifCond .eq 16, 3) := by decide +kernel
theorem dX10_runCommands_58 : decode cX10_runCommands 58 = .ok (.aload_n 0, 1) := by decide +kernel
theorem dX10_runCommands_59 : decode cX10_runCommands 59 = .ok (.invokevirtual 326, 3) := by decide +kernel
theorem dX10_runCommands_62 : decode cX10_runCommands 62 = .ok (.ifCond .eq 9, 3) := by decide +kernel
theorem dX10_runCommands_65 : decode cX10_runCommands 65 = .ok (.iinc 2 1, 3) := by decide +kernel
theorem dX10_runCommands_68 : decode cX10_runCommands 68 = .ok (.goto (-37), 3) := by decide +kernel
theorem dX10_runCommands_71 : decode cX10_runCommands 71 = .ok (.iload_n 2, 1) := by decide +kernel
theorem dX10_runCommands_72 : decode cX10_runCommands 72 = .ok (.ireturn, 1) := by decide +kernel
theorem dX10_undo_0 : decode cX10_undo 0 = .ok (.aload_n 0, 1) := by decide +kernel
theorem dX10_undo_1 : decode cX10_undo 1 = .ok (.getfield 27, 3) := by decide +kernel
theorem dX10_undo_4 : decode cX10_undo 4 = .ok (.iconst 1, 1) := by decide +kernel
theorem dX10_undo_5 : decode cX10_undo 5 = .ok (.if_icmp .ge 14, 3) := by decide +kernel
theorem dX10_undo_8 : decode cX10_undo 8 = .ok (.new 104, 3) := by decide +kernel
theorem dX10_undo_11 : decode cX10_undo 11 = .ok (.dup, 1) := by decide +kernel
theorem dX10_undo_12 : decode cX10_undo 12 = .ok (.ldc_w 329, 3) := by decide +kernel
theorem dX10_undo_15 : decode cX10_undo 15 = .ok (.invokespecial 108, 3) := by decide +kernel
theorem dX10_undo_18 : decode cX10_undo 18 = .ok (.athrow, 1) := by decide +kernel
theorem dX10_undo_19 : decode cX10_undo 19 = .ok (.aload_n 0, 1) := by decide +kernel
theorem dX10_undo_20 : decode cX10_undo 20 = .ok (.aload_n 0, 1) := by decide +kernel
theorem dX10_undo_21 : decode cX10_undo 21 = .ok (.getfield 23, 3) := by decide +kernel
theorem dX10_undo_24 : decode cX10_undo 24 = .ok (.invokevirtual 331, 3) := by decide +kernel
theorem dX10_undo_27 : decode cX10_undo 27 = .ok (.aload_n 0, 1) := by decide +kernel
theorem dX10_undo_28 : decode cX10_undo 28 = .ok (.getfield 12, 3) := by decide +kernel
theorem dX10_undo_31 : decode cX10_undo 31 = .ok (.invokestatic 335, 3) := by decide +kernel
theorem dX10_undo_34 : decode cX10_undo 34 = .ok (.aload_n 0, 1) := by decide +kernel
theorem dX10_undo_35 : decode cX10_undo 35 = .ok (.aload_n 0, 1) := by decide +kernel
theorem dX10_undo_36 : decode cX10_undo 36 = .ok (.getfield 23, 3) := by decide +kernel
theorem dX10_undo_39 : decode cX10_undo 39 = .ok (.ifCond .le 12, 3) := by decide +kernel
theorem dX10_undo_42 : decode cX10_undo 42 = .ok (.aload_n 0, 1) := by decide +kernel
theorem dX10_undo_43 : decode cX10_undo 43 = .ok (.getfield 23, 3) := by decide +kernel
theorem dX10_undo_46 : decode cX10_undo 46 = .ok (.iconst 1, 1) := by decide +kernel
theorem dX10_undo_47 : decode cX10_undo 47 = .ok (.isub, 1) := by decide +kernel
theorem dX10_undo_48 : decode cX10_undo 48 = .ok (.goto 10, 3) := by decide +kernel
theorem dX10_undo_51 : decode cX10_undo 51 = .ok (.aload_n 0, 1) := by decide +kernel
theorem dX10_undo_52 : decode cX10_undo 52 = .ok (.getfield 19, 3) := by decide +kernel
theorem dX10_undo_55 : decode cX10_undo 55 = .ok (.arraylength, 1) := by decide +kernel
theorem dX10_undo_56 : decode cX10_undo 56 = .ok (.iconst 1, 1) := by decide +kernel
theorem dX10_undo_57 : decode cX10_undo 57 = .ok (.isub, 1) := by decide +kernel
theorem dX10_undo_58 : decode cX10_undo 58 = .ok (.putfield 23, 3) := by decide +kernel
theorem dX10_undo_61 : decode cX10_undo 61 = .ok (.aload_n 0, 1) := by decide +kernel
theorem dX10_undo_62 : decode cX10_undo 62 = .ok (.dup, 1) := by decide +kernel
theorem dX10_undo_63 : decode cX10_undo 63 = .ok (.getfield 27, 3) := by decide +kernel
theorem dX10_undo_66 : decode cX10_undo 66 = .ok (.iconst 1, 1) := by decide +kernel
theorem dX10_undo_67 : decode cX10_undo 67 = .ok (.isub, 1) := by decide +kernel
theorem dX10_undo_68 : decode cX10_undo 68 = .ok (.putfield 27, 3) := by decide +kernel
theorem dX10_undo_71 : decode cX10_undo 71 = .ok (.aload_n 0, 1) := by decide +kernel
theorem dX10_undo_72 : decode cX10_undo 72 = .ok (.getfield 27, 3) := by decide +kernel
theorem dX10_undo_75 : decode cX10_undo 75 = .ok (.ireturn, 1) := by decide +kernel
theorem dX10_digest_0 : decode cX10_digest 0 = .ok (.ldc2_w 339, 3) := by decide +kernel
theorem dX10_digest_3 : decode cX10_digest 3 = .ok (.lstore_n 1, 1) := by decide +kernel
theorem dX10_digest_4 : decode cX10_digest 4 = .ok (.ldc2_w 341, 3) := by decide +kernel
theorem dX10_digest_7 : decode cX10_digest 7 = .ok (.lload_n 1, 1) := by decide +kernel
theorem dX10_digest_8 : decode cX10_digest 8 = .ok (.lmul, 1) := by decide +kernel
theorem dX10_digest_9 : decode cX10_digest 9 = .ok (.aload_n 0, 1) := by decide +kernel
theorem dX10_digest_10 : decode cX10_digest 10 = .ok (.getfield 27, 3) := by decide +kernel
theorem dX10_digest_13 : decode cX10_digest 13 = .ok (.i2l, 1) := by decide +kernel
theorem dX10_digest_14 : decode cX10_digest 14 = .ok (.ladd, 1) := by decide +kernel
theorem dX10_digest_15 : decode cX10_digest 15 = .ok (.lstore_n 1, 1) := by decide +kernel
theorem dX10_digest_16 : decode cX10_digest 16 = .ok (.ldc2_w 341, 3) := by decide +kernel
theorem dX10_digest_19 : decode cX10_digest 19 = .ok (.lload_n 1, 1) := by decide +kernel
theorem dX10_digest_20 : decode cX10_digest 20 = .ok (.lmul, 1) := by decide +kernel
theorem dX10_digest_21 : decode cX10_digest 21 = .ok (.aload_n 0, 1) := by decide +kernel
theorem dX10_digest_22 : decode cX10_digest 22 = .ok (.getfield 33, 3) := by decide +kernel
theorem dX10_digest_25 : decode cX10_digest 25 = .ok (.getfield 311, 3) := by decide +kernel
theorem dX10_digest_28 : decode cX10_digest 28 = .ok (.i2l, 1) := by decide +kernel
theorem dX10_digest_29 : decode cX10_digest 29 = .ok (.ladd, 1) := by decide +kernel
theorem dX10_digest_30 : decode cX10_digest 30 = .ok (.lstore_n 1, 1) := by decide +kernel
theorem dX10_digest_31 : decode cX10_digest 31 = .ok (.iconst 0, 1) := by decide +kernel
theorem dX10_digest_32 : decode cX10_digest 32 = .ok (.istore_n 3, 1) := by decide +kernel
theorem dX10_digest_33 : decode cX10_digest 33 = .ok (.iload_n 3, 1) := by decide +kernel
theorem dX10_digest_34 : decode cX10_digest 34 = .ok (.bipush 12, 2) := by decide +kernel
theorem dX10_digest_36 : decode cX10_digest 36 = .ok (.if_icmp .ge 22, 3) := by decide +kernel
theorem dX10_digest_39 : decode cX10_digest 39 = .ok (.ldc2_w 341, 3) := by decide +kernel
theorem dX10_digest_42 : decode cX10_digest 42 = .ok (.lload_n 1, 1) := by decide +kernel
theorem dX10_digest_43 : decode cX10_digest 43 = .ok (.lmul, 1) := by decide +kernel
theorem dX10_digest_44 : decode cX10_digest 44 = .ok (.aload_n 0, 1) := by decide +kernel
theorem dX10_digest_45 : decode cX10_digest 45 = .ok (.iload_n 3, 1) := by decide +kernel
theorem dX10_digest_46 : decode cX10_digest 46 = .ok (.invokevirtual 343, 3) := by decide +kernel
theorem dX10_digest_49 : decode cX10_digest 49 = .ok (.i2l, 1) := by decide +kernel
theorem dX10_digest_50 : decode cX10_digest 50 = .ok (.ladd, 1) := by decide +kernel
theorem dX10_digest_51 : decode cX10_digest 51 = .ok (.lstore_n 1, 1) := by decide +kernel
theorem dX10_digest_52 : decode cX10_digest 52 = .ok (.iinc 3 1, 3) := by decide +kernel
theorem dX10_digest_55 : decode cX10_digest 55 = .ok (.goto (-22), 3) := by decide +kernel
theorem dX10_digest_58 : decode cX10_digest 58 = .ok (.iconst 0, 1) := by decide +kernel
theorem dX10_digest_59 : decode cX10_digest 59 = .ok (.istore_n 3, 1) := by decide +kernel
theorem dX10_digest_60 : decode cX10_digest 60 = .ok (.iload_n 3, 1) := by decide +kernel
theorem dX10_digest_61 : decode cX10_digest 61 = .ok (.bipush 12, 2) := by decide +kernel
theorem dX10_digest_63 : decode cX10_digest 63 = .ok (.if_icmp .ge 22, 3) := by decide +kernel
theorem dX10_digest_66 : decode cX10_digest 66 = .ok (.ldc2_w 341, 3) := by decide +kernel
theorem dX10_digest_69 : decode cX10_digest 69 = .ok (.lload_n 1, 1) := by decide +kernel
theorem dX10_digest_70 : decode cX10_digest 70 = .ok (.lmul, 1) := by decide +kernel
theorem dX10_digest_71 : decode cX10_digest 71 = .ok (.aload_n 0, 1) := by decide +kernel
theorem dX10_digest_72 : decode cX10_digest 72 = .ok (.iload_n 3, 1) := by decide +kernel
theorem dX10_digest_73 : decode cX10_digest 73 = .ok (.invokevirtual 345, 3) := by decide +kernel
theorem dX10_digest_76 : decode cX10_digest 76 = .ok (.i2l, 1) := by decide +kernel
theorem dX10_digest_77 : decode cX10_digest 77 = .ok (.ladd, 1) := by decide +kernel
theorem dX10_digest_78 : decode cX10_digest 78 = .ok (.lstore_n 1, 1) := by decide +kernel
theorem dX10_digest_79 : decode cX10_digest 79 = .ok (.iinc 3 1, 3) := by decide +kernel
theorem dX10_digest_82 : decode cX10_digest 82 = .ok (.goto (-22), 3) := by decide +kernel
theorem dX10_digest_85 : decode cX10_digest 85 = .ok (.iconst 0, 1) := by decide +kernel
theorem dX10_digest_86 : decode cX10_digest 86 = .ok (.istore_n 3, 1) := by decide +kernel
theorem dX10_digest_87 : decode cX10_digest 87 = .ok (.iload_n 3, 1) := by decide +kernel
theorem dX10_digest_88 : decode cX10_digest 88 = .ok (.bipush 13, 2) := by decide +kernel
theorem dX10_digest_90 : decode cX10_digest 90 = .ok (.if_icmp .ge 22, 3) := by decide +kernel
theorem dX10_digest_93 : decode cX10_digest 93 = .ok (.ldc2_w 341, 3) := by decide +kernel
theorem dX10_digest_96 : decode cX10_digest 96 = .ok (.lload_n 1, 1) := by decide +kernel
theorem dX10_digest_97 : decode cX10_digest 97 = .ok (.lmul, 1) := by decide +kernel
theorem dX10_digest_98 : decode cX10_digest 98 = .ok (.aload_n 0, 1) := by decide +kernel
theorem dX10_digest_99 : decode cX10_digest 99 = .ok (.iload_n 3, 1) := by decide +kernel
theorem dX10_digest_100 : decode cX10_digest 100 = .ok (.invokevirtual 348, 3) := by decide +kernel
theorem dX10_digest_103 : decode cX10_digest 103 = .ok (.i2l, 1) := by decide +kernel
theorem dX10_digest_104 : decode cX10_digest 104 = .ok (.ladd, 1) := by decide +kernel
theorem dX10_digest_105 : decode cX10_digest 105 = .ok (.lstore_n 1, 1) := by decide +kernel
theorem dX10_digest_106 : decode cX10_digest 106 = .ok (.iinc 3 1, 3) := by decide +kernel
theorem dX10_digest_109 : decode cX10_digest 109 = .ok (.goto (-22), 3) := by decide +kernel
theorem dX10_digest_112 : decode cX10_digest 112 = .ok (.aload_n 0, 1) := by decide +kernel
theorem dX10_digest_113 : decode cX10_digest 113 = .ok (.getfield 12, 3) := by decide +kernel
theorem dX10_digest_116 : decode cX10_digest 116 = .ok (.getfield 66, 3) := by decide +kernel
theorem dX10_digest_119 : decode cX10_digest 119 = .ok (.lload_n 1, 1) := by decide +kernel
theorem dX10_digest_120 : decode cX10_digest 120 = .ok (.invokevirtual 351, 3) := by decide +kernel
theorem dX10_digest_123 : decode cX10_digest 123 = .ok (.lstore_n 1, 1) := by decide +kernel
theorem dX10_digest_124 : decode cX10_digest 124 = .ok (.aload_n 0, 1) := by decide +kernel
theorem dX10_digest_125 : decode cX10_digest 125 = .ok (.getfield 12, 3) := by decide +kernel
theorem dX10_digest_128 : decode cX10_digest 128 = .ok (.getfield 206, 3) := by decide +kernel
theorem dX10_digest_131 : decode cX10_digest 131 = .ok (.lload_n 1, 1) := by decide +kernel
theorem dX10_digest_132 : decode cX10_digest 132 = .ok (.invokevirtual 355, 3) := by decide +kernel
theorem dX10_digest_135 : decode cX10_digest 135 = .ok (.lstore_n 1, 1) := by decide +kernel
theorem dX10_digest_136 : decode cX10_digest 136 = .ok (.iconst 0, 1) := by decide +kernel
theorem dX10_digest_137 : decode cX10_digest 137 = .ok (.istore_n 3, 1) := by decide +kernel
theorem dX10_digest_138 : decode cX10_digest 138 = .ok (.iload_n 3, 1) := by decide +kernel
theorem dX10_digest_139 : decode cX10_digest 139 = .ok (.aload_n 0, 1) := by decide +kernel
theorem dX10_digest_140 : decode cX10_digest 140 = .ok (.getfield 12, 3) := by decide +kernel
theorem dX10_digest_143 : decode cX10_digest 143 = .ok (.getfield 140, 3) := by decide +kernel
theorem dX10_digest_146 : decode cX10_digest 146 = .ok (.bipush 6, 2) := by decide +kernel
theorem dX10_digest_148 : decode cX10_digest 148 = .ok (.invokevirtual 151, 3) := by decide +kernel
theorem dX10_digest_151 : decode cX10_digest 151 = .ok (.if_icmp .ge 22, 3) := by decide +kernel
theorem dX10_digest_154 : decode cX10_digest 154 = .ok (.ldc2_w 341, 3) := by decide +kernel
theorem dX10_digest_157 : decode cX10_digest 157 = .ok (.lload_n 1, 1) := by decide +kernel
theorem dX10_digest_158 : decode cX10_digest 158 = .ok (.lmul, 1) := by decide +kernel
theorem dX10_digest_159 : decode cX10_digest 159 = .ok (.aload_n 0, 1) := by decide +kernel
theorem dX10_digest_160 : decode cX10_digest 160 = .ok (.iload_n 3, 1) := by decide +kernel
theorem dX10_digest_161 : decode cX10_digest 161 = .ok (.invokevirtual 356, 3) := by decide +kernel
theorem dX10_digest_164 : decode cX10_digest 164 = .ok (.i2l, 1) := by decide +kernel
theorem dX10_digest_165 : decode cX10_digest 165 = .ok (.ladd, 1) := by decide +kernel
theorem dX10_digest_166 : decode cX10_digest 166 = .ok (.lstore_n 1, 1) := by decide +kernel
theorem dX10_digest_167 : decode cX10_digest 167 = .ok (.iinc 3 1, 3) := by decide +kernel
theorem dX10_digest_170 : decode cX10_digest 170 = .ok (.goto (-32), 3) := by decide +kernel
theorem dX10_digest_173 : decode cX10_digest 173 = .ok (.aload_n 0, 1) := by decide +kernel
theorem dX10_digest_174 : decode cX10_digest 174 = .ok (.getfield 12, 3) := by decide +kernel
theorem dX10_digest_177 : decode cX10_digest 177 = .ok (.getfield 168, 3) := by decide +kernel
theorem dX10_digest_180 : decode cX10_digest 180 = .ok (.lload_n 1, 1) := by decide +kernel
theorem dX10_digest_181 : decode cX10_digest 181 = .ok (.invokevirtual 359, 3) := by decide +kernel
theorem dX10_digest_184 : decode cX10_digest 184 = .ok (.lreturn, 1) := by decide +kernel
theorem dX10_allowsDistance_0 : decode cX10_allowsDistance 0 = .ok (.iload_n 0, 1) := by decide +kernel
theorem dX10_allowsDistance_1 : decode cX10_allowsDistance 1 = .ok (.ifCond .lt 14, 3) := by decide +kernel
theorem dX10_allowsDistance_4 : decode cX10_allowsDistance 4 = .ok (.iload_n 0, 1) := by decide +kernel
theorem dX10_allowsDistance_5 : decode cX10_allowsDistance 5 = .ok (.sipush 10000, 3) := by decide +kernel
theorem dX10_allowsDistance_8 : decode cX10_allowsDistance 8 = .ok (.if_icmp .gt 7, 3) := by decide +kernel
theorem dX10_allowsDistance_11 : decode cX10_allowsDistance 11 = .ok (.iconst 1, 1) := by decide +kernel
theorem dX10_allowsDistance_12 : decode cX10_allowsDistance 12 = .ok (.goto 4, 3) := by decide +kernel
theorem dX10_allowsDistance_15 : decode cX10_allowsDistance 15 = .ok (.iconst 0, 1) := by decide +kernel
theorem dX10_allowsDistance_16 : decode cX10_allowsDistance 16 = .ok (.ireturn, 1) := by decide +kernel
theorem dX10_allowsShooting_0 : decode cX10_allowsShooting 0 = .ok (.iload_n 0, 1) := by decide +kernel
theorem dX10_allowsShooting_1 : decode cX10_allowsShooting 1 = .ok (.iconst 1, 1) := by decide +kernel
theorem dX10_allowsShooting_2 : decode cX10_allowsShooting 2 = .ok (.if_icmp .lt 14, 3) := by decide +kernel
theorem dX10_allowsShooting_5 : decode cX10_allowsShooting 5 = .ok (.iload_n 0, 1) := by decide +kernel
theorem dX10_allowsShooting_6 : decode cX10_allowsShooting 6 = .ok (.sipush 500, 3) := by decide +kernel
theorem dX10_allowsShooting_9 : decode cX10_allowsShooting 9 = .ok (.if_icmp .gt 7, 3) := by decide +kernel
theorem dX10_allowsShooting_12 : decode cX10_allowsShooting 12 = .ok (.iconst 1, 1) := by decide +kernel
theorem dX10_allowsShooting_13 : decode cX10_allowsShooting 13 = .ok (.goto 4, 3) := by decide +kernel
theorem dX10_allowsShooting_16 : decode cX10_allowsShooting 16 = .ok (.iconst 0, 1) := by decide +kernel
theorem dX10_allowsShooting_17 : decode cX10_allowsShooting 17 = .ok (.ireturn, 1) := by decide +kernel
theorem dX10_allowsLearning_0 : decode cX10_allowsLearning 0 = .ok (.iload_n 0, 1) := by decide +kernel
theorem dX10_allowsLearning_1 : decode cX10_allowsLearning 1 = .ok (.iconst 1, 1) := by decide +kernel
theorem dX10_allowsLearning_2 : decode cX10_allowsLearning 2 = .ok (.if_icmp .lt 13, 3) := by decide +kernel
theorem dX10_allowsLearning_5 : decode cX10_allowsLearning 5 = .ok (.iload_n 0, 1) := by decide +kernel
theorem dX10_allowsLearning_6 : decode cX10_allowsLearning 6 = .ok (.bipush 50, 2) := by decide +kernel
theorem dX10_allowsLearning_8 : decode cX10_allowsLearning 8 = .ok (.if_icmp .gt 7, 3) := by decide +kernel
theorem dX10_allowsLearning_11 : decode cX10_allowsLearning 11 = .ok (.iconst 1, 1) := by decide +kernel
theorem dX10_allowsLearning_12 : decode cX10_allowsLearning 12 = .ok (.goto 4, 3) := by decide +kernel
theorem dX10_allowsLearning_15 : decode cX10_allowsLearning 15 = .ok (.iconst 0, 1) := by decide +kernel
theorem dX10_allowsLearning_16 : decode cX10_allowsLearning 16 = .ok (.ireturn, 1) := by decide +kernel
theorem dX10_allowsForecast_0 : decode cX10_allowsForecast 0 = .ok (.iload_n 0, 1) := by decide +kernel
theorem dX10_allowsForecast_1 : decode cX10_allowsForecast 1 = .ok (.iconst 1, 1) := by decide +kernel
theorem dX10_allowsForecast_2 : decode cX10_allowsForecast 2 = .ok (.if_icmp .lt 14, 3) := by decide +kernel
theorem dX10_allowsForecast_5 : decode cX10_allowsForecast 5 = .ok (.iload_n 0, 1) := by decide +kernel
theorem dX10_allowsForecast_6 : decode cX10_allowsForecast 6 = .ok (.sipush 200, 3) := by decide +kernel
theorem dX10_allowsForecast_9 : decode cX10_allowsForecast 9 = .ok (.if_icmp .gt 7, 3) := by decide +kernel
theorem dX10_allowsForecast_12 : decode cX10_allowsForecast 12 = .ok (.iconst 1, 1) := by decide +kernel
theorem dX10_allowsForecast_13 : decode cX10_allowsForecast 13 = .ok (.goto 4, 3) := by decide +kernel
theorem dX10_allowsForecast_16 : decode cX10_allowsForecast 16 = .ok (.iconst 0, 1) := by decide +kernel
theorem dX10_allowsForecast_17 : decode cX10_allowsForecast 17 = .ok (.ireturn, 1) := by decide +kernel
theorem dX10_copyRow_0 : decode cX10_copyRow 0 = .ok (.aload_n 0, 1) := by decide +kernel
theorem dX10_copyRow_1 : decode cX10_copyRow 1 = .ok (.iconst 0, 1) := by decide +kernel
theorem dX10_copyRow_2 : decode cX10_copyRow 2 = .ok (.aload_n 1, 1) := by decide +kernel
theorem dX10_copyRow_3 : decode cX10_copyRow 3 = .ok (.iconst 0, 1) := by decide +kernel
theorem dX10_copyRow_4 : decode cX10_copyRow 4 = .ok (.aload_n 0, 1) := by decide +kernel
theorem dX10_copyRow_5 : decode cX10_copyRow 5 = .ok (.arraylength, 1) := by decide +kernel
theorem dX10_copyRow_6 : decode cX10_copyRow 6 = .ok (.aload_n 1, 1) := by decide +kernel
theorem dX10_copyRow_7 : decode cX10_copyRow 7 = .ok (.arraylength, 1) := by decide +kernel
theorem dX10_copyRow_8 : decode cX10_copyRow 8 = .ok (.invokestatic 360, 3) := by decide +kernel
theorem dX10_copyRow_11 : decode cX10_copyRow 11 = .ok (.invokestatic 365, 3) := by decide +kernel
theorem dX10_copyRow_14 : decode cX10_copyRow 14 = .ok (.return_, 1) := by decide +kernel
theorem dX10_copyIfThere_0 : decode cX10_copyIfThere 0 = .ok (.aload_n 0, 1) := by decide +kernel
theorem dX10_copyIfThere_1 : decode cX10_copyIfThere 1 = .ok (.ifnull 12, 3) := by decide +kernel
theorem dX10_copyIfThere_4 : decode cX10_copyIfThere 4 = .ok (.aload_n 1, 1) := by decide +kernel
theorem dX10_copyIfThere_5 : decode cX10_copyIfThere 5 = .ok (.ifnull 8, 3) := by decide +kernel
theorem dX10_copyIfThere_8 : decode cX10_copyIfThere 8 = .ok (.aload_n 1, 1) := by decide +kernel
theorem dX10_copyIfThere_9 : decode cX10_copyIfThere 9 = .ok (.aload_n 0, 1) := by decide +kernel
theorem dX10_copyIfThere_10 : decode cX10_copyIfThere 10 = .ok (.invokevirtual 291, 3) := by decide +kernel
theorem dX10_copyIfThere_13 : decode cX10_copyIfThere 13 = .ok (.return_, 1) := by decide +kernel
theorem dX10_savedAt_0 : decode cX10_savedAt 0 = .ok (.iload_n 1, 1) := by decide +kernel
theorem dX10_savedAt_1 : decode cX10_savedAt 1 = .ok (.ifCond .lt 21, 3) := by decide +kernel
theorem dX10_savedAt_4 : decode cX10_savedAt 4 = .ok (.iload_n 1, 1) := by decide +kernel
theorem dX10_savedAt_5 : decode cX10_savedAt 5 = .ok (.aload_n 0, 1) := by decide +kernel
theorem dX10_savedAt_6 : decode cX10_savedAt 6 = .ok (.getfield 19, 3) := by decide +kernel
theorem dX10_savedAt_9 : decode cX10_savedAt 9 = .ok (.arraylength, 1) := by decide +kernel
theorem dX10_savedAt_10 : decode cX10_savedAt 10 = .ok (.if_icmp .ge 12, 3) := by decide +kernel
theorem dX10_savedAt_13 : decode cX10_savedAt 13 = .ok (.aload_n 0, 1) := by decide +kernel
theorem dX10_savedAt_14 : decode cX10_savedAt 14 = .ok (.getfield 19, 3) := by decide +kernel
theorem dX10_savedAt_17 : decode cX10_savedAt 17 = .ok (.iload_n 1, 1) := by decide +kernel
theorem dX10_savedAt_18 : decode cX10_savedAt 18 = .ok (.aaload, 1) := by decide +kernel
theorem dX10_savedAt_19 : decode cX10_savedAt 19 = .ok (.goto 4, 3) := by decide +kernel
theorem dX10_savedAt_22 : decode cX10_savedAt 22 = .ok (.aconst_null, 1) := by decide +kernel
theorem dX10_savedAt_23 : decode cX10_savedAt 23 = .ok (.areturn, 1) := by decide +kernel
theorem dX10_save_0 : decode cX10_save 0 = .ok (.aload_n 0, 1) := by decide +kernel
theorem dX10_save_1 : decode cX10_save 1 = .ok (.aload_n 0, 1) := by decide +kernel
theorem dX10_save_2 : decode cX10_save 2 = .ok (.getfield 23, 3) := by decide +kernel
theorem dX10_save_5 : decode cX10_save 5 = .ok (.iconst 1, 1) := by decide +kernel
theorem dX10_save_6 : decode cX10_save 6 = .ok (.iadd, 1) := by decide +kernel
theorem dX10_save_7 : decode cX10_save 7 = .ok (.aload_n 0, 1) := by decide +kernel
theorem dX10_save_8 : decode cX10_save 8 = .ok (.getfield 19, 3) := by decide +kernel
theorem dX10_save_11 : decode cX10_save 11 = .ok (.arraylength, 1) := by decide +kernel
theorem dX10_save_12 : decode cX10_save 12 = .ok (.if_icmp .ge 12, 3) := by decide +kernel
theorem dX10_save_15 : decode cX10_save 15 = .ok (.aload_n 0, 1) := by decide +kernel
theorem dX10_save_16 : decode cX10_save 16 = .ok (.getfield 23, 3) := by decide +kernel
theorem dX10_save_19 : decode cX10_save 19 = .ok (.iconst 1, 1) := by decide +kernel
theorem dX10_save_20 : decode cX10_save 20 = .ok (.iadd, 1) := by decide +kernel
theorem dX10_save_21 : decode cX10_save 21 = .ok (.goto 4, 3) := by decide +kernel
theorem dX10_save_24 : decode cX10_save 24 = .ok (.iconst 0, 1) := by decide +kernel
theorem dX10_save_25 : decode cX10_save 25 = .ok (.putfield 23, 3) := by decide +kernel
theorem dX10_save_28 : decode cX10_save 28 = .ok (.aload_n 0, 1) := by decide +kernel
theorem dX10_save_29 : decode cX10_save 29 = .ok (.getfield 12, 3) := by decide +kernel
theorem dX10_save_32 : decode cX10_save 32 = .ok (.aload_n 0, 1) := by decide +kernel
theorem dX10_save_33 : decode cX10_save 33 = .ok (.aload_n 0, 1) := by decide +kernel
theorem dX10_save_34 : decode cX10_save 34 = .ok (.getfield 23, 3) := by decide +kernel
theorem dX10_save_37 : decode cX10_save 37 = .ok (.invokevirtual 331, 3) := by decide +kernel
theorem dX10_save_40 : decode cX10_save 40 = .ok (.invokestatic 335, 3) := by decide +kernel
theorem dX10_save_43 : decode cX10_save 43 = .ok (.aload_n 0, 1) := by decide +kernel
theorem dX10_save_44 : decode cX10_save 44 = .ok (.getfield 27, 3) := by decide +kernel
theorem dX10_save_47 : decode cX10_save 47 = .ok (.aload_n 0, 1) := by decide +kernel
theorem dX10_save_48 : decode cX10_save 48 = .ok (.getfield 19, 3) := by decide +kernel
theorem dX10_save_51 : decode cX10_save 51 = .ok (.arraylength, 1) := by decide +kernel
theorem dX10_save_52 : decode cX10_save 52 = .ok (.if_icmp .ge 13, 3) := by decide +kernel
theorem dX10_save_55 : decode cX10_save 55 = .ok (.aload_n 0, 1) := by decide +kernel
theorem dX10_save_56 : decode cX10_save 56 = .ok (.dup, 1) := by decide +kernel
theorem dX10_save_57 : decode cX10_save 57 = .ok (.getfield 27, 3) := by decide +kernel
theorem dX10_save_60 : decode cX10_save 60 = .ok (.iconst 1, 1) := by decide +kernel
theorem dX10_save_61 : decode cX10_save 61 = .ok (.iadd, 1) := by decide +kernel
theorem dX10_save_62 : decode cX10_save 62 = .ok (.putfield 27, 3) := by decide +kernel
theorem dX10_save_65 : decode cX10_save 65 = .ok (.return_, 1) := by decide +kernel
theorem dX10_worstErrorByMode_0 : decode cX10_worstErrorByMode 0 = .ok (.aload_n 0, 1) := by decide +kernel
theorem dX10_worstErrorByMode_1 : decode cX10_worstErrorByMode 1 = .ok (.getfield 16, 3) := by decide +kernel
theorem dX10_worstErrorByMode_4 : decode cX10_worstErrorByMode 4 = .ok (.aload_n 0, 1) := by decide +kernel
theorem dX10_worstErrorByMode_5 : decode cX10_worstErrorByMode 5 = .ok (.getfield 12, 3) := by decide +kernel
theorem dX10_worstErrorByMode_8 : decode cX10_worstErrorByMode 8 = .ok (.invokevirtual 291, 3) := by decide +kernel
theorem dX10_worstErrorByMode_11 : decode cX10_worstErrorByMode 11 = .ok (.aload_n 0, 1) := by decide +kernel
theorem dX10_worstErrorByMode_12 : decode cX10_worstErrorByMode 12 = .ok (.getfield 16, 3) := by decide +kernel
theorem dX10_worstErrorByMode_15 : decode cX10_worstErrorByMode 15 = .ok (.iconst 5, 1) := by decide +kernel
theorem dX10_worstErrorByMode_16 : decode cX10_worstErrorByMode 16 = .ok (.iload_n 2, 1) := by decide +kernel
theorem dX10_worstErrorByMode_17 : decode cX10_worstErrorByMode 17 = .ok (.invokevirtual 155, 3) := by decide +kernel
theorem dX10_worstErrorByMode_20 : decode cX10_worstErrorByMode 20 = .ok (.iconst 0, 1) := by decide +kernel
theorem dX10_worstErrorByMode_21 : decode cX10_worstErrorByMode 21 = .ok (.istore_n 3, 1) := by decide +kernel
theorem dX10_worstErrorByMode_22 : decode cX10_worstErrorByMode 22 = .ok (.iconst 0, 1) := by decide +kernel
theorem dX10_worstErrorByMode_23 : decode cX10_worstErrorByMode 23 = .ok (.istore 4, 2) := by decide +kernel
theorem dX10_worstErrorByMode_25 : decode cX10_worstErrorByMode 25 = .ok (.iload 4, 2) := by decide +kernel
theorem dX10_worstErrorByMode_27 : decode cX10_worstErrorByMode 27 = .ok (.iload_n 1, 1) := by decide +kernel
theorem dX10_worstErrorByMode_28 : decode cX10_worstErrorByMode 28 = .ok (.if_icmp .ge 74, 3) := by decide +kernel
theorem dX10_worstErrorByMode_31 : decode cX10_worstErrorByMode 31 = .ok (.aload_n 0, 1) := by decide +kernel
theorem dX10_worstErrorByMode_32 : decode cX10_worstErrorByMode 32 = .ok (.getfield 16, 3) := by decide +kernel
theorem dX10_worstErrorByMode_35 : decode cX10_worstErrorByMode 35 = .ok (.iconst 1, 1) := by decide +kernel
theorem dX10_worstErrorByMode_36 : decode cX10_worstErrorByMode 36 = .ok (.invokevirtual 201, 3) := by decide +kernel
theorem dX10_worstErrorByMode_39 : decode cX10_worstErrorByMode 39 = .ok (.aload_n 0, 1) := by decide +kernel
theorem dX10_worstErrorByMode_40 : decode cX10_worstErrorByMode 40 = .ok (.getfield 16, 3) := by decide +kernel
theorem dX10_worstErrorByMode_43 : decode cX10_worstErrorByMode 43 = .ok (.getfield 53, 3) := by decide +kernel
theorem dX10_worstErrorByMode_46 : decode cX10_worstErrorByMode 46 = .ok (.getfield 257, 3) := by decide +kernel
theorem dX10_worstErrorByMode_49 : decode cX10_worstErrorByMode 49 = .ok (.iconst (-1), 1) := by decide +kernel
theorem dX10_worstErrorByMode_50 : decode cX10_worstErrorByMode 50 = .ok (.if_icmp .eq 46, 3) := by decide +kernel
theorem dX10_worstErrorByMode_53 : decode cX10_worstErrorByMode 53 = .ok (.aload_n 0, 1) := by decide +kernel
theorem dX10_worstErrorByMode_54 : decode cX10_worstErrorByMode 54 = .ok (.getfield 16, 3) := by decide +kernel
theorem dX10_worstErrorByMode_57 : decode cX10_worstErrorByMode 57 = .ok (.getfield 66, 3) := by decide +kernel
theorem dX10_worstErrorByMode_60 : decode cX10_worstErrorByMode 60 = .ok (.getfield 75, 3) := by decide +kernel
theorem dX10_worstErrorByMode_63 : decode cX10_worstErrorByMode 63 = .ok (.aload_n 0, 1) := by decide +kernel
theorem dX10_worstErrorByMode_64 : decode cX10_worstErrorByMode 64 = .ok (.getfield 16, 3) := by decide +kernel
theorem dX10_worstErrorByMode_67 : decode cX10_worstErrorByMode 67 = .ok (.getfield 53, 3) := by decide +kernel
theorem dX10_worstErrorByMode_70 : decode cX10_worstErrorByMode 70 = .ok (.aload_n 0, 1) := by decide +kernel
theorem dX10_worstErrorByMode_71 : decode cX10_worstErrorByMode 71 = .ok (.getfield 16, 3) := by decide +kernel
theorem dX10_worstErrorByMode_74 : decode cX10_worstErrorByMode 74 = .ok (.getfield 66, 3) := by decide +kernel
theorem dX10_worstErrorByMode_77 : decode cX10_worstErrorByMode 77 = .ok (.getfield 236, 3) := by decide +kernel
theorem dX10_worstErrorByMode_80 : decode cX10_worstErrorByMode 80 = .ok (.invokevirtual 260, 3) := by decide +kernel
theorem dX10_worstErrorByMode_83 : decode cX10_worstErrorByMode 83 = .ok (.isub, 1) := by decide +kernel
theorem dX10_worstErrorByMode_84 : decode cX10_worstErrorByMode 84 = .ok (.istore 5, 2) := by decide +kernel
theorem dX10_worstErrorByMode_86 : decode cX10_worstErrorByMode 86 = .ok (.iload_n 3, 1) := by decide +kernel
theorem dX10_worstErrorByMode_87 : decode cX10_worstErrorByMode 87 = .ok (.iload 5, 2) := by decide +kernel
theorem dX10_worstErrorByMode_89 : decode cX10_worstErrorByMode 89 = .ok (.invokestatic 371, 3) := by decide +kernel
theorem dX10_worstErrorByMode_92 : decode cX10_worstErrorByMode 92 = .ok (.invokestatic 374, 3) := by decide +kernel
theorem dX10_worstErrorByMode_95 : decode cX10_worstErrorByMode 95 = .ok (.istore_n 3, 1) := by decide +kernel
theorem dX10_worstErrorByMode_96 : decode cX10_worstErrorByMode 96 = .ok (.iinc 4 1, 3) := by decide +kernel
theorem dX10_worstErrorByMode_99 : decode cX10_worstErrorByMode 99 = .ok (.goto (-74), 3) := by decide +kernel
theorem dX10_worstErrorByMode_102 : decode cX10_worstErrorByMode 102 = .ok (.iload_n 3, 1) := by decide +kernel
theorem dX10_worstErrorByMode_103 : decode cX10_worstErrorByMode 103 = .ok (.ireturn, 1) := by decide +kernel
theorem dX10_carryOut_0 : decode cX10_carryOut 0 = .ok (.aload_n 0, 1) := by decide +kernel
theorem dX10_carryOut_1 : decode cX10_carryOut 1 = .ok (.getfield 33, 3) := by decide +kernel
theorem dX10_carryOut_4 : decode cX10_carryOut 4 = .ok (.getfield 377, 3) := by decide +kernel
theorem dX10_carryOut_7 : decode cX10_carryOut 7 = .ok (.astore_n 1, 1) := by decide +kernel
theorem dX10_carryOut_8 : decode cX10_carryOut 8 = .ok (.aload_n 1, 1) := by decide +kernel
theorem dX10_carryOut_9 : decode cX10_carryOut 9 = .ok (.ifnonnull 5, 3) := by decide +kernel
theorem dX10_carryOut_12 : decode cX10_carryOut 12 = .ok (.iconst 0, 1) := by decide +kernel
theorem dX10_carryOut_13 : decode cX10_carryOut 13 = .ok (.ireturn, 1) := by decide +kernel
theorem dX10_carryOut_14 : decode cX10_carryOut 14 = .ok (.aload_n 0, 1) := by decide +kernel
theorem dX10_carryOut_15 : decode cX10_carryOut 15 = .ok (.getfield 33, 3) := by decide +kernel
theorem dX10_carryOut_18 : decode cX10_carryOut 18 = .ok (.iconst 0, 1) := by decide +kernel
theorem dX10_carryOut_19 : decode cX10_carryOut 19 = .ok (.invokevirtual 381, 3) := by decide +kernel
theorem dX10_carryOut_22 : decode cX10_carryOut 22 = .ok (.istore_n 2, 1) := by decide +kernel
theorem dX10_carryOut_23 : decode cX10_carryOut 23 = .ok (.aload_n 0, 1) := by decide +kernel
theorem dX10_carryOut_24 : decode cX10_carryOut 24 = .ok (.getfield 33, 3) := by decide +kernel
theorem dX10_carryOut_27 : decode cX10_carryOut 27 = .ok (.iconst 1, 1) := by decide +kernel
theorem dX10_carryOut_28 : decode cX10_carryOut 28 = .ok (.invokevirtual 381, 3) := by decide +kernel
theorem dX10_carryOut_31 : decode cX10_carryOut 31 = .ok (.istore_n 3, 1) := by decide +kernel
theorem dX10_carryOut_32 : decode cX10_carryOut 32 = .ok (.aload_n 0, 1) := by decide +kernel
theorem dX10_carryOut_33 : decode cX10_carryOut 33 = .ok (.aload_n 1, 1) := by decide +kernel
theorem dX10_carryOut_34 : decode cX10_carryOut 34 = .ok (.iload_n 2, 1) := by decide +kernel
theorem dX10_carryOut_35 : decode cX10_carryOut 35 = .ok (.iload_n 3, 1) := by decide +kernel
theorem dX10_carryOut_36 : decode cX10_carryOut 36 = .ok (.invokevirtual 384, 3) := by decide +kernel
theorem dX10_carryOut_39 : decode cX10_carryOut 39 = .ok (.istore 4, 2) := by decide +kernel
theorem dX10_carryOut_41 : decode cX10_carryOut 41 = .ok (.iload 4, 2) := by decide +kernel
theorem dX10_carryOut_43 : decode cX10_carryOut 43 = .ok (.ifCond .eq 204, 3) := by decide +kernel
theorem dX10_carryOut_46 : decode cX10_carryOut 46 = .ok (.getstatic 388, 3) := by decide +kernel
theorem dX10_carryOut_49 : decode cX10_carryOut 49 = .ok (.aload_n 1, 1) := by decide +kernel
theorem dX10_carryOut_50 : decode cX10_carryOut 50 = .ok (.invokevirtual 394, 3) := by decide +kernel
theorem dX10_carryOut_53 : decode cX10_carryOut 53 = .ok (.iaload, 1) := by decide +kernel
theorem dX10_carryOut_54 : decode cX10_carryOut 54 = .ok (.tableswitch 191 1 9 #[50, 61, 75, 89, 103, 118, 157, 169, 180], 50) := by decide +kernel
theorem dX10_carryOut_104 : decode cX10_carryOut 104 = .ok (.aload_n 0, 1) := by decide +kernel
theorem dX10_carryOut_105 : decode cX10_carryOut 105 = .ok (.getfield 12, 3) := by decide +kernel
theorem dX10_carryOut_108 : decode cX10_carryOut 108 = .ok (.iload_n 2, 1) := by decide +kernel
theorem dX10_carryOut_109 : decode cX10_carryOut 109 = .ok (.invokevirtual 62, 3) := by decide +kernel
theorem dX10_carryOut_112 : decode cX10_carryOut 112 = .ok (.goto 135, 3) := by decide +kernel
theorem dX10_carryOut_115 : decode cX10_carryOut 115 = .ok (.aload_n 0, 1) := by decide +kernel
theorem dX10_carryOut_116 : decode cX10_carryOut 116 = .ok (.getfield 12, 3) := by decide +kernel
theorem dX10_carryOut_119 : decode cX10_carryOut 119 = .ok (.getfield 66, 3) := by decide +kernel
theorem dX10_carryOut_122 : decode cX10_carryOut 122 = .ok (.iload_n 2, 1) := by decide +kernel
theorem dX10_carryOut_123 : decode cX10_carryOut 123 = .ok (.putfield 75, 3) := by decide +kernel
theorem dX10_carryOut_126 : decode cX10_carryOut 126 = .ok (.goto 121, 3) := by decide +kernel
theorem dX10_carryOut_129 : decode cX10_carryOut 129 = .ok (.aload_n 0, 1) := by decide +kernel
theorem dX10_carryOut_130 : decode cX10_carryOut 130 = .ok (.getfield 12, 3) := by decide +kernel
theorem dX10_carryOut_133 : decode cX10_carryOut 133 = .ok (.getfield 66, 3) := by decide +kernel
theorem dX10_carryOut_136 : decode cX10_carryOut 136 = .ok (.iload_n 2, 1) := by decide +kernel
theorem dX10_carryOut_137 : decode cX10_carryOut 137 = .ok (.putfield 83, 3) := by decide +kernel
theorem dX10_carryOut_140 : decode cX10_carryOut 140 = .ok (.goto 107, 3) := by decide +kernel
theorem dX10_carryOut_143 : decode cX10_carryOut 143 = .ok (.aload_n 0, 1) := by decide +kernel
theorem dX10_carryOut_144 : decode cX10_carryOut 144 = .ok (.getfield 12, 3) := by decide +kernel
theorem dX10_carryOut_147 : decode cX10_carryOut 147 = .ok (.getfield 66, 3) := by decide +kernel
theorem dX10_carryOut_150 : decode cX10_carryOut 150 = .ok (.iload_n 2, 1) := by decide +kernel
theorem dX10_carryOut_151 : decode cX10_carryOut 151 = .ok (.putfield 91, 3) := by decide +kernel
theorem dX10_carryOut_154 : decode cX10_carryOut 154 = .ok (.goto 93, 3) := by decide +kernel
theorem dX10_carryOut_157 : decode cX10_carryOut 157 = .ok (.aload_n 0, 1) := by decide +kernel
theorem dX10_carryOut_158 : decode cX10_carryOut 158 = .ok (.getfield 12, 3) := by decide +kernel
theorem dX10_carryOut_161 : decode cX10_carryOut 161 = .ok (.getfield 66, 3) := by decide +kernel
theorem dX10_carryOut_164 : decode cX10_carryOut 164 = .ok (.iload_n 2, 1) := by decide +kernel
theorem dX10_carryOut_165 : decode cX10_carryOut 165 = .ok (.iload_n 3, 1) := by decide +kernel
theorem dX10_carryOut_166 : decode cX10_carryOut 166 = .ok (.invokevirtual 109, 3) := by decide +kernel
theorem dX10_carryOut_169 : decode cX10_carryOut 169 = .ok (.goto 78, 3) := by decide +kernel
theorem dX10_carryOut_172 : decode cX10_carryOut 172 = .ok (.aload_n 0, 1) := by decide +kernel
theorem dX10_carryOut_173 : decode cX10_carryOut 173 = .ok (.getfield 12, 3) := by decide +kernel
theorem dX10_carryOut_176 : decode cX10_carryOut 176 = .ok (.getfield 66, 3) := by decide +kernel
theorem dX10_carryOut_179 : decode cX10_carryOut 179 = .ok (.iload_n 2, 1) := by decide +kernel
theorem dX10_carryOut_180 : decode cX10_carryOut 180 = .ok (.iload_n 3, 1) := by decide +kernel
theorem dX10_carryOut_181 : decode cX10_carryOut 181 = .ok (.aload_n 0, 1) := by decide +kernel
theorem dX10_carryOut_182 : decode cX10_carryOut 182 = .ok (.getfield 33, 3) := by decide +kernel
theorem dX10_carryOut_185 : decode cX10_carryOut 185 = .ok (.iconst 2, 1) := by decide +kernel
theorem dX10_carryOut_186 : decode cX10_carryOut 186 = .ok (.invokevirtual 381, 3) := by decide +kernel
theorem dX10_carryOut_189 : decode cX10_carryOut 189 = .ok (.aload_n 0, 1) := by decide +kernel
theorem dX10_carryOut_190 : decode cX10_carryOut 190 = .ok (.getfield 33, 3) := by decide +kernel
theorem dX10_carryOut_193 : decode cX10_carryOut 193 = .ok (.iconst 3, 1) := by decide +kernel
theorem dX10_carryOut_194 : decode cX10_carryOut 194 = .ok (.invokevirtual 381, 3) := by decide +kernel
theorem dX10_carryOut_197 : decode cX10_carryOut 197 = .ok (.aload_n 0, 1) := by decide +kernel
theorem dX10_carryOut_198 : decode cX10_carryOut 198 = .ok (.getfield 33, 3) := by decide +kernel
theorem dX10_carryOut_201 : decode cX10_carryOut 201 = .ok (.iconst 4, 1) := by decide +kernel
theorem dX10_carryOut_202 : decode cX10_carryOut 202 = .ok (.invokevirtual 381, 3) := by decide +kernel
theorem dX10_carryOut_205 : decode cX10_carryOut 205 = .ok (.invokevirtual 136, 3) := by decide +kernel
theorem dX10_carryOut_208 : decode cX10_carryOut 208 = .ok (.goto 39, 3) := by decide +kernel
theorem dX10_carryOut_211 : decode cX10_carryOut 211 = .ok (.aload_n 0, 1) := by decide +kernel
theorem dX10_carryOut_212 : decode cX10_carryOut 212 = .ok (.getfield 12, 3) := by decide +kernel
theorem dX10_carryOut_215 : decode cX10_carryOut 215 = .ok (.iload_n 2, 1) := by decide +kernel
theorem dX10_carryOut_216 : decode cX10_carryOut 216 = .ok (.iload_n 3, 1) := by decide +kernel
theorem dX10_carryOut_217 : decode cX10_carryOut 217 = .ok (.invokevirtual 155, 3) := by decide +kernel
theorem dX10_carryOut_220 : decode cX10_carryOut 220 = .ok (.goto 27, 3) := by decide +kernel
theorem dX10_carryOut_223 : decode cX10_carryOut 223 = .ok (.aload_n 0, 1) := by decide +kernel
theorem dX10_carryOut_224 : decode cX10_carryOut 224 = .ok (.getfield 12, 3) := by decide +kernel
theorem dX10_carryOut_227 : decode cX10_carryOut 227 = .ok (.iload_n 2, 1) := by decide +kernel
theorem dX10_carryOut_228 : decode cX10_carryOut 228 = .ok (.invokevirtual 186, 3) := by decide +kernel
theorem dX10_carryOut_231 : decode cX10_carryOut 231 = .ok (.goto 16, 3) := by decide +kernel
theorem dX10_carryOut_234 : decode cX10_carryOut 234 = .ok (.aload_n 0, 1) := by decide +kernel
theorem dX10_carryOut_235 : decode cX10_carryOut 235 = .ok (.getfield 12, 3) := by decide +kernel
theorem dX10_carryOut_238 : decode cX10_carryOut 238 = .ok (.iload_n 2, 1) := by decide +kernel
theorem dX10_carryOut_239 : decode cX10_carryOut 239 = .ok (.invokevirtual 201, 3) := by decide +kernel
theorem dX10_carryOut_242 : decode cX10_carryOut 242 = .ok (.goto 5, 3) := by decide +kernel
theorem dX10_carryOut_245 : decode cX10_carryOut 245 = .ok (.iconst 0, 1) := by decide +kernel
theorem dX10_carryOut_246 : decode cX10_carryOut 246 = .ok (.ireturn, 1) := by decide +kernel
theorem dX10_carryOut_247 : decode cX10_carryOut 247 = .ok (.iload 4, 2) := by decide +kernel
theorem dX10_carryOut_249 : decode cX10_carryOut 249 = .ok (.ireturn, 1) := by decide +kernel
theorem dX10_mayCarryOut_0 : decode cX10_mayCarryOut 0 = .ok (.aload_n 1, 1) := by decide +kernel
theorem dX10_mayCarryOut_1 : decode cX10_mayCarryOut 1 = .ok (.ifnonnull 5, 3) := by decide +kernel
theorem dX10_mayCarryOut_4 : decode cX10_mayCarryOut 4 = .ok (.iconst 0, 1) := by decide +kernel
theorem dX10_mayCarryOut_5 : decode cX10_mayCarryOut 5 = .ok (.ireturn, 1) := by decide +kernel
theorem dX10_mayCarryOut_6 : decode cX10_mayCarryOut 6 = .ok (.getstatic 388, 3) := by decide +kernel
theorem dX10_mayCarryOut_9 : decode cX10_mayCarryOut 9 = .ok (.aload_n 1, 1) := by decide +kernel
theorem dX10_mayCarryOut_10 : decode cX10_mayCarryOut 10 = .ok (.invokevirtual 394, 3) := by decide +kernel
theorem dX10_mayCarryOut_13 : decode cX10_mayCarryOut 13 = .ok (.iaload, 1) := by decide +kernel
theorem dX10_mayCarryOut_14 : decode cX10_mayCarryOut 14 = .ok (.tableswitch 157 1 9 #[50, 55, 67, 72, 77, 104, 134, 147, 152], 50) := by decide +kernel
theorem dX10_mayCarryOut_64 : decode cX10_mayCarryOut 64 = .ok (.iload_n 2, 1) := by decide +kernel
theorem dX10_mayCarryOut_65 : decode cX10_mayCarryOut 65 = .ok (.invokestatic 37, 3) := by decide +kernel
theorem dX10_mayCarryOut_68 : decode cX10_mayCarryOut 68 = .ok (.ireturn, 1) := by decide +kernel
theorem dX10_mayCarryOut_69 : decode cX10_mayCarryOut 69 = .ok (.aload_n 0, 1) := by decide +kernel
theorem dX10_mayCarryOut_70 : decode cX10_mayCarryOut 70 = .ok (.getfield 12, 3) := by decide +kernel
theorem dX10_mayCarryOut_73 : decode cX10_mayCarryOut 73 = .ok (.getfield 66, 3) := by decide +kernel
theorem dX10_mayCarryOut_76 : decode cX10_mayCarryOut 76 = .ok (.iload_n 2, 1) := by decide +kernel
theorem dX10_mayCarryOut_77 : decode cX10_mayCarryOut 77 = .ok (.invokevirtual 70, 3) := by decide +kernel
theorem dX10_mayCarryOut_80 : decode cX10_mayCarryOut 80 = .ok (.ireturn, 1) := by decide +kernel
theorem dX10_mayCarryOut_81 : decode cX10_mayCarryOut 81 = .ok (.iload_n 2, 1) := by decide +kernel
theorem dX10_mayCarryOut_82 : decode cX10_mayCarryOut 82 = .ok (.invokestatic 78, 3) := by decide +kernel
theorem dX10_mayCarryOut_85 : decode cX10_mayCarryOut 85 = .ok (.ireturn, 1) := by decide +kernel
theorem dX10_mayCarryOut_86 : decode cX10_mayCarryOut 86 = .ok (.iload_n 2, 1) := by decide +kernel
theorem dX10_mayCarryOut_87 : decode cX10_mayCarryOut 87 = .ok (.invokestatic 86, 3) := by decide +kernel
theorem dX10_mayCarryOut_90 : decode cX10_mayCarryOut 90 = .ok (.ireturn, 1) := by decide +kernel
theorem dX10_mayCarryOut_91 : decode cX10_mayCarryOut 91 = .ok (.iload_n 2, 1) := by decide +kernel
theorem dX10_mayCarryOut_92 : decode cX10_mayCarryOut 92 = .ok (.iload_n 3, 1) := by decide +kernel
theorem dX10_mayCarryOut_93 : decode cX10_mayCarryOut 93 = .ok (.invokestatic 94, 3) := by decide +kernel
theorem dX10_mayCarryOut_96 : decode cX10_mayCarryOut 96 = .ok (.ifCond .eq 20, 3) := by decide +kernel
theorem dX10_mayCarryOut_99 : decode cX10_mayCarryOut 99 = .ok (.aload_n 0, 1) := by decide +kernel
theorem dX10_mayCarryOut_100 : decode cX10_mayCarryOut 100 = .ok (.getfield 12, 3) := by decide +kernel
theorem dX10_mayCarryOut_103 : decode cX10_mayCarryOut 103 = .ok (.getfield 66, 3) := by decide +kernel
theorem dX10_mayCarryOut_106 : decode cX10_mayCarryOut 106 = .ok (.invokevirtual 100, 3) := by decide +kernel
theorem dX10_mayCarryOut_109 : decode cX10_mayCarryOut 109 = .ok (.ifCond .eq 7, 3) := by decide +kernel
theorem dX10_mayCarryOut_112 : decode cX10_mayCarryOut 112 = .ok (.iconst 1, 1) := by decide +kernel
theorem dX10_mayCarryOut_113 : decode cX10_mayCarryOut 113 = .ok (.goto 4, 3) := by decide +kernel
theorem dX10_mayCarryOut_116 : decode cX10_mayCarryOut 116 = .ok (.iconst 0, 1) := by decide +kernel
theorem dX10_mayCarryOut_117 : decode cX10_mayCarryOut 117 = .ok (.ireturn, 1) := by decide +kernel
theorem dX10_mayCarryOut_118 : decode cX10_mayCarryOut 118 = .ok (.iload_n 2, 1) := by decide +kernel
theorem dX10_mayCarryOut_119 : decode cX10_mayCarryOut 119 = .ok (.iload_n 3, 1) := by decide +kernel
theorem dX10_mayCarryOut_120 : decode cX10_mayCarryOut 120 = .ok (.aload_n 0, 1) := by decide +kernel
theorem dX10_mayCarryOut_121 : decode cX10_mayCarryOut 121 = .ok (.getfield 33, 3) := by decide +kernel
theorem dX10_mayCarryOut_124 : decode cX10_mayCarryOut 124 = .ok (.iconst 2, 1) := by decide +kernel
theorem dX10_mayCarryOut_125 : decode cX10_mayCarryOut 125 = .ok (.invokevirtual 381, 3) := by decide +kernel
theorem dX10_mayCarryOut_128 : decode cX10_mayCarryOut 128 = .ok (.aload_n 0, 1) := by decide +kernel
theorem dX10_mayCarryOut_129 : decode cX10_mayCarryOut 129 = .ok (.getfield 33, 3) := by decide +kernel
theorem dX10_mayCarryOut_132 : decode cX10_mayCarryOut 132 = .ok (.iconst 3, 1) := by decide +kernel
theorem dX10_mayCarryOut_133 : decode cX10_mayCarryOut 133 = .ok (.invokevirtual 381, 3) := by decide +kernel
theorem dX10_mayCarryOut_136 : decode cX10_mayCarryOut 136 = .ok (.aload_n 0, 1) := by decide +kernel
theorem dX10_mayCarryOut_137 : decode cX10_mayCarryOut 137 = .ok (.getfield 33, 3) := by decide +kernel
theorem dX10_mayCarryOut_140 : decode cX10_mayCarryOut 140 = .ok (.iconst 4, 1) := by decide +kernel
theorem dX10_mayCarryOut_141 : decode cX10_mayCarryOut 141 = .ok (.invokevirtual 381, 3) := by decide +kernel
theorem dX10_mayCarryOut_144 : decode cX10_mayCarryOut 144 = .ok (.invokestatic 127, 3) := by decide +kernel
theorem dX10_mayCarryOut_147 : decode cX10_mayCarryOut 147 = .ok (.ireturn, 1) := by decide +kernel
theorem dX10_mayCarryOut_148 : decode cX10_mayCarryOut 148 = .ok (.aload_n 0, 1) := by decide +kernel
theorem dX10_mayCarryOut_149 : decode cX10_mayCarryOut 149 = .ok (.getfield 12, 3) := by decide +kernel
theorem dX10_mayCarryOut_152 : decode cX10_mayCarryOut 152 = .ok (.getfield 140, 3) := by decide +kernel
theorem dX10_mayCarryOut_155 : decode cX10_mayCarryOut 155 = .ok (.iload_n 2, 1) := by decide +kernel
theorem dX10_mayCarryOut_156 : decode cX10_mayCarryOut 156 = .ok (.iload_n 3, 1) := by decide +kernel
theorem dX10_mayCarryOut_157 : decode cX10_mayCarryOut 157 = .ok (.invokevirtual 144, 3) := by decide +kernel
theorem dX10_mayCarryOut_160 : decode cX10_mayCarryOut 160 = .ok (.ireturn, 1) := by decide +kernel
theorem dX10_mayCarryOut_161 : decode cX10_mayCarryOut 161 = .ok (.iload_n 2, 1) := by decide +kernel
theorem dX10_mayCarryOut_162 : decode cX10_mayCarryOut 162 = .ok (.invokestatic 181, 3) := by decide +kernel
theorem dX10_mayCarryOut_165 : decode cX10_mayCarryOut 165 = .ok (.ireturn, 1) := by decide +kernel
theorem dX10_mayCarryOut_166 : decode cX10_mayCarryOut 166 = .ok (.iload_n 2, 1) := by decide +kernel
theorem dX10_mayCarryOut_167 : decode cX10_mayCarryOut 167 = .ok (.invokestatic 195, 3) := by decide +kernel
theorem dX10_mayCarryOut_170 : decode cX10_mayCarryOut 170 = .ok (.ireturn, 1) := by decide +kernel
theorem dX10_mayCarryOut_171 : decode cX10_mayCarryOut 171 = .ok (.iconst 0, 1) := by decide +kernel
theorem dX10_mayCarryOut_172 : decode cX10_mayCarryOut 172 = .ok (.ireturn, 1) := by decide +kernel
theorem dX11_init_0 : decode cX11_init 0 = .ok (.aload_n 0, 1) := by decide +kernel
theorem dX11_init_1 : decode cX11_init 1 = .ok (.invokespecial 1, 3) := by decide +kernel
theorem dX11_init_4 : decode cX11_init 4 = .ok (.aload_n 0, 1) := by decide +kernel
theorem dX11_init_5 : decode cX11_init 5 = .ok (.sipush 647, 3) := by decide +kernel
theorem dX11_init_8 : decode cX11_init 8 = .ok (.newarray .int, 2) := by decide +kernel
theorem dX11_init_10 : decode cX11_init 10 = .ok (.putfield 7, 3) := by decide +kernel
theorem dX11_init_13 : decode cX11_init 13 = .ok (.aload_n 0, 1) := by decide +kernel
theorem dX11_init_14 : decode cX11_init 14 = .ok (.sipush 647, 3) := by decide +kernel
theorem dX11_init_17 : decode cX11_init 17 = .ok (.newarray .int, 2) := by decide +kernel
theorem dX11_init_19 : decode cX11_init 19 = .ok (.putfield 13, 3) := by decide +kernel
theorem dX11_init_22 : decode cX11_init 22 = .ok (.aload_n 0, 1) := by decide +kernel
theorem dX11_init_23 : decode cX11_init 23 = .ok (.sipush 2588, 3) := by decide +kernel
theorem dX11_init_26 : decode cX11_init 26 = .ok (.newarray .int, 2) := by decide +kernel
theorem dX11_init_28 : decode cX11_init 28 = .ok (.putfield 16, 3) := by decide +kernel
theorem dX11_init_31 : decode cX11_init 31 = .ok (.aload_n 0, 1) := by decide +kernel
theorem dX11_init_32 : decode cX11_init 32 = .ok (.sipush 150, 3) := by decide +kernel
theorem dX11_init_35 : decode cX11_init 35 = .ok (.newarray .byte, 2) := by decide +kernel
theorem dX11_init_37 : decode cX11_init 37 = .ok (.putfield 19, 3) := by decide +kernel
theorem dX11_init_40 : decode cX11_init 40 = .ok (.aload_n 0, 1) := by decide +kernel
theorem dX11_init_41 : decode cX11_init 41 = .ok (.iconst 5, 1) := by decide +kernel
theorem dX11_init_42 : decode cX11_init 42 = .ok (.newarray .int, 2) := by decide +kernel
theorem dX11_init_44 : decode cX11_init 44 = .ok (.putfield 23, 3) := by decide +kernel
theorem dX11_init_47 : decode cX11_init 47 = .ok (.aload_n 0, 1) := by decide +kernel
theorem dX11_init_48 : decode cX11_init 48 = .ok (.getfield 7, 3) := by decide +kernel
theorem dX11_init_51 : decode cX11_init 51 = .ok (.bipush 11, 2) := by decide +kernel
theorem dX11_init_53 : decode cX11_init 53 = .ok (.iconst 1, 1) := by decide +kernel
theorem dX11_init_54 : decode cX11_init 54 = .ok (.iastore, 1) := by decide +kernel
theorem dX11_init_55 : decode cX11_init 55 = .ok (.aload_n 0, 1) := by decide +kernel
theorem dX11_init_56 : decode cX11_init 56 = .ok (.sipush 2000, 3) := by decide +kernel
theorem dX11_init_59 : decode cX11_init 59 = .ok (.invokevirtual 26, 3) := by decide +kernel
theorem dX11_init_62 : decode cX11_init 62 = .ok (.return_, 1) := by decide +kernel
theorem dX11_thrown_0 : decode cX11_thrown 0 = .ok (.aload_n 0, 1) := by decide +kernel
theorem dX11_thrown_1 : decode cX11_thrown 1 = .ok (.getfield 30, 3) := by decide +kernel
theorem dX11_thrown_4 : decode cX11_thrown 4 = .ok (.ireturn, 1) := by decide +kernel
theorem dX11_in_0 : decode cX11_in 0 = .ok (.iload_n 0, 1) := by decide +kernel
theorem dX11_in_1 : decode cX11_in 1 = .ok (.iload_n 1, 1) := by decide +kernel
theorem dX11_in_2 : decode cX11_in 2 = .ok (.if_icmp .lt 12, 3) := by decide +kernel
theorem dX11_in_5 : decode cX11_in 5 = .ok (.iload_n 0, 1) := by decide +kernel
theorem dX11_in_6 : decode cX11_in 6 = .ok (.iload_n 2, 1) := by decide +kernel
theorem dX11_in_7 : decode cX11_in 7 = .ok (.if_icmp .gt 7, 3) := by decide +kernel
theorem dX11_in_10 : decode cX11_in 10 = .ok (.iconst 1, 1) := by decide +kernel
theorem dX11_in_11 : decode cX11_in 11 = .ok (.goto 4, 3) := by decide +kernel
theorem dX11_in_14 : decode cX11_in 14 = .ok (.iconst 0, 1) := by decide +kernel
theorem dX11_in_15 : decode cX11_in 15 = .ok (.ireturn, 1) := by decide +kernel
theorem dX11_greater_0 : decode cX11_greater 0 = .ok (.iload_n 0, 1) := by decide +kernel
theorem dX11_greater_1 : decode cX11_greater 1 = .ok (.iload_n 1, 1) := by decide +kernel
theorem dX11_greater_2 : decode cX11_greater 2 = .ok (.if_icmp .le 7, 3) := by decide +kernel
theorem dX11_greater_5 : decode cX11_greater 5 = .ok (.iload_n 0, 1) := by decide +kernel
theorem dX11_greater_6 : decode cX11_greater 6 = .ok (.goto 4, 3) := by decide +kernel
theorem dX11_greater_9 : decode cX11_greater 9 = .ok (.iload_n 1, 1) := by decide +kernel
theorem dX11_greater_10 : decode cX11_greater 10 = .ok (.ireturn, 1) := by decide +kernel
theorem dX11_apart_0 : decode cX11_apart 0 = .ok (.iload_n 0, 1) := by decide +kernel
theorem dX11_apart_1 : decode cX11_apart 1 = .ok (.iload_n 1, 1) := by decide +kernel
theorem dX11_apart_2 : decode cX11_apart 2 = .ok (.if_icmp .le 9, 3) := by decide +kernel
theorem dX11_apart_5 : decode cX11_apart 5 = .ok (.iload_n 0, 1) := by decide +kernel
theorem dX11_apart_6 : decode cX11_apart 6 = .ok (.iload_n 1, 1) := by decide +kernel
theorem dX11_apart_7 : decode cX11_apart 7 = .ok (.isub, 1) := by decide +kernel
theorem dX11_apart_8 : decode cX11_apart 8 = .ok (.goto 6, 3) := by decide +kernel
theorem dX11_apart_11 : decode cX11_apart 11 = .ok (.iload_n 1, 1) := by decide +kernel
theorem dX11_apart_12 : decode cX11_apart 12 = .ok (.iload_n 0, 1) := by decide +kernel
theorem dX11_apart_13 : decode cX11_apart 13 = .ok (.isub, 1) := by decide +kernel
theorem dX11_apart_14 : decode cX11_apart 14 = .ok (.ireturn, 1) := by decide +kernel
theorem dX11_holds_0 : decode cX11_holds 0 = .ok (.aload_n 0, 1) := by decide +kernel
theorem dX11_holds_1 : decode cX11_holds 1 = .ok (.iload_n 1, 1) := by decide +kernel
theorem dX11_holds_2 : decode cX11_holds 2 = .ok (.ifCond .eq 7, 3) := by decide +kernel
theorem dX11_holds_5 : decode cX11_holds 5 = .ok (.iconst 0, 1) := by decide +kernel
theorem dX11_holds_6 : decode cX11_holds 6 = .ok (.goto 4, 3) := by decide +kernel
theorem dX11_holds_9 : decode cX11_holds 9 = .ok (.iload_n 2, 1) := by decide +kernel
theorem dX11_holds_10 : decode cX11_holds 10 = .ok (.putfield 30, 3) := by decide +kernel
theorem dX11_holds_13 : decode cX11_holds 13 = .ok (.iload_n 1, 1) := by decide +kernel
theorem dX11_holds_14 : decode cX11_holds 14 = .ok (.ireturn, 1) := by decide +kernel
theorem dX11_save_0 : decode cX11_save 0 = .ok (.aload_n 0, 1) := by decide +kernel
theorem dX11_save_1 : decode cX11_save 1 = .ok (.getfield 34, 3) := by decide +kernel
theorem dX11_save_4 : decode cX11_save 4 = .ok (.iconst 4, 1) := by decide +kernel
theorem dX11_save_5 : decode cX11_save 5 = .ok (.if_icmp .ne 44, 3) := by decide +kernel
theorem dX11_save_8 : decode cX11_save 8 = .ok (.iconst 0, 1) := by decide +kernel
theorem dX11_save_9 : decode cX11_save 9 = .ok (.istore_n 1, 1) := by decide +kernel
theorem dX11_save_10 : decode cX11_save 10 = .ok (.iload_n 1, 1) := by decide +kernel
theorem dX11_save_11 : decode cX11_save 11 = .ok (.sipush 1941, 3) := by decide +kernel
theorem dX11_save_14 : decode cX11_save 14 = .ok (.if_icmp .ge 25, 3) := by decide +kernel
theorem dX11_save_17 : decode cX11_save 17 = .ok (.aload_n 0, 1) := by decide +kernel
theorem dX11_save_18 : decode cX11_save 18 = .ok (.getfield 16, 3) := by decide +kernel
theorem dX11_save_21 : decode cX11_save 21 = .ok (.iload_n 1, 1) := by decide +kernel
theorem dX11_save_22 : decode cX11_save 22 = .ok (.aload_n 0, 1) := by decide +kernel
theorem dX11_save_23 : decode cX11_save 23 = .ok (.getfield 16, 3) := by decide +kernel
theorem dX11_save_26 : decode cX11_save 26 = .ok (.iload_n 1, 1) := by decide +kernel
theorem dX11_save_27 : decode cX11_save 27 = .ok (.sipush 647, 3) := by decide +kernel
theorem dX11_save_30 : decode cX11_save 30 = .ok (.iadd, 1) := by decide +kernel
theorem dX11_save_31 : decode cX11_save 31 = .ok (.iaload, 1) := by decide +kernel
theorem dX11_save_32 : decode cX11_save 32 = .ok (.iastore, 1) := by decide +kernel
theorem dX11_save_33 : decode cX11_save 33 = .ok (.iinc 1 1, 3) := by decide +kernel
theorem dX11_save_36 : decode cX11_save 36 = .ok (.goto (-26), 3) := by decide +kernel
theorem dX11_save_39 : decode cX11_save 39 = .ok (.aload_n 0, 1) := by decide +kernel
theorem dX11_save_40 : decode cX11_save 40 = .ok (.dup, 1) := by decide +kernel
theorem dX11_save_41 : decode cX11_save 41 = .ok (.getfield 34, 3) := by decide +kernel
theorem dX11_save_44 : decode cX11_save 44 = .ok (.iconst 1, 1) := by decide +kernel
theorem dX11_save_45 : decode cX11_save 45 = .ok (.isub, 1) := by decide +kernel
theorem dX11_save_46 : decode cX11_save 46 = .ok (.putfield 34, 3) := by decide +kernel
theorem dX11_save_49 : decode cX11_save 49 = .ok (.iconst 0, 1) := by decide +kernel
theorem dX11_save_50 : decode cX11_save 50 = .ok (.istore_n 1, 1) := by decide +kernel
theorem dX11_save_51 : decode cX11_save 51 = .ok (.iload_n 1, 1) := by decide +kernel
theorem dX11_save_52 : decode cX11_save 52 = .ok (.sipush 647, 3) := by decide +kernel
theorem dX11_save_55 : decode cX11_save 55 = .ok (.if_icmp .ge 30, 3) := by decide +kernel
theorem dX11_save_58 : decode cX11_save 58 = .ok (.aload_n 0, 1) := by decide +kernel
theorem dX11_save_59 : decode cX11_save 59 = .ok (.getfield 16, 3) := by decide +kernel
theorem dX11_save_62 : decode cX11_save 62 = .ok (.sipush 647, 3) := by decide +kernel
theorem dX11_save_65 : decode cX11_save 65 = .ok (.aload_n 0, 1) := by decide +kernel
theorem dX11_save_66 : decode cX11_save 66 = .ok (.getfield 34, 3) := by decide +kernel
theorem dX11_save_69 : decode cX11_save 69 = .ok (.imul, 1) := by decide +kernel
theorem dX11_save_70 : decode cX11_save 70 = .ok (.iload_n 1, 1) := by decide +kernel
theorem dX11_save_71 : decode cX11_save 71 = .ok (.iadd, 1) := by decide +kernel
theorem dX11_save_72 : decode cX11_save 72 = .ok (.aload_n 0, 1) := by decide +kernel
theorem dX11_save_73 : decode cX11_save 73 = .ok (.getfield 7, 3) := by decide +kernel
theorem dX11_save_76 : decode cX11_save 76 = .ok (.iload_n 1, 1) := by decide +kernel
theorem dX11_save_77 : decode cX11_save 77 = .ok (.iaload, 1) := by decide +kernel
theorem dX11_save_78 : decode cX11_save 78 = .ok (.iastore, 1) := by decide +kernel
theorem dX11_save_79 : decode cX11_save 79 = .ok (.iinc 1 1, 3) := by decide +kernel
theorem dX11_save_82 : decode cX11_save 82 = .ok (.goto (-31), 3) := by decide +kernel
theorem dX11_save_85 : decode cX11_save 85 = .ok (.aload_n 0, 1) := by decide +kernel
theorem dX11_save_86 : decode cX11_save 86 = .ok (.dup, 1) := by decide +kernel
theorem dX11_save_87 : decode cX11_save 87 = .ok (.getfield 34, 3) := by decide +kernel
theorem dX11_save_90 : decode cX11_save 90 = .ok (.iconst 1, 1) := by decide +kernel
theorem dX11_save_91 : decode cX11_save 91 = .ok (.iadd, 1) := by decide +kernel
theorem dX11_save_92 : decode cX11_save 92 = .ok (.putfield 34, 3) := by decide +kernel
theorem dX11_save_95 : decode cX11_save 95 = .ok (.return_, 1) := by decide +kernel
theorem dX11_undo_0 : decode cX11_undo 0 = .ok (.aload_n 0, 1) := by decide +kernel
theorem dX11_undo_1 : decode cX11_undo 1 = .ok (.aload_n 0, 1) := by decide +kernel
theorem dX11_undo_2 : decode cX11_undo 2 = .ok (.getfield 34, 3) := by decide +kernel
theorem dX11_undo_5 : decode cX11_undo 5 = .ok (.ifCond .le 7, 3) := by decide +kernel
theorem dX11_undo_8 : decode cX11_undo 8 = .ok (.iconst 1, 1) := by decide +kernel
theorem dX11_undo_9 : decode cX11_undo 9 = .ok (.goto 4, 3) := by decide +kernel
theorem dX11_undo_12 : decode cX11_undo 12 = .ok (.iconst 0, 1) := by decide +kernel
theorem dX11_undo_13 : decode cX11_undo 13 = .ok (.iconst 1, 1) := by decide +kernel
theorem dX11_undo_14 : decode cX11_undo 14 = .ok (.invokevirtual 37, 3) := by decide +kernel
theorem dX11_undo_17 : decode cX11_undo 17 = .ok (.ifCond .ne 5, 3) := by decide +kernel
theorem dX11_undo_20 : decode cX11_undo 20 = .ok (.iconst 0, 1) := by decide +kernel
theorem dX11_undo_21 : decode cX11_undo 21 = .ok (.ireturn, 1) := by decide +kernel
theorem dX11_undo_22 : decode cX11_undo 22 = .ok (.aload_n 0, 1) := by decide +kernel
theorem dX11_undo_23 : decode cX11_undo 23 = .ok (.dup, 1) := by decide +kernel
theorem dX11_undo_24 : decode cX11_undo 24 = .ok (.getfield 34, 3) := by decide +kernel
theorem dX11_undo_27 : decode cX11_undo 27 = .ok (.iconst 1, 1) := by decide +kernel
theorem dX11_undo_28 : decode cX11_undo 28 = .ok (.isub, 1) := by decide +kernel
theorem dX11_undo_29 : decode cX11_undo 29 = .ok (.putfield 34, 3) := by decide +kernel
theorem dX11_undo_32 : decode cX11_undo 32 = .ok (.iconst 0, 1) := by decide +kernel
theorem dX11_undo_33 : decode cX11_undo 33 = .ok (.istore_n 1, 1) := by decide +kernel
theorem dX11_undo_34 : decode cX11_undo 34 = .ok (.iload_n 1, 1) := by decide +kernel
theorem dX11_undo_35 : decode cX11_undo 35 = .ok (.sipush 647, 3) := by decide +kernel
theorem dX11_undo_38 : decode cX11_undo 38 = .ok (.if_icmp .ge 30, 3) := by decide +kernel
theorem dX11_undo_41 : decode cX11_undo 41 = .ok (.aload_n 0, 1) := by decide +kernel
theorem dX11_undo_42 : decode cX11_undo 42 = .ok (.getfield 7, 3) := by decide +kernel
theorem dX11_undo_45 : decode cX11_undo 45 = .ok (.iload_n 1, 1) := by decide +kernel
theorem dX11_undo_46 : decode cX11_undo 46 = .ok (.aload_n 0, 1) := by decide +kernel
theorem dX11_undo_47 : decode cX11_undo 47 = .ok (.getfield 16, 3) := by decide +kernel
theorem dX11_undo_50 : decode cX11_undo 50 = .ok (.sipush 647, 3) := by decide +kernel
theorem dX11_undo_53 : decode cX11_undo 53 = .ok (.aload_n 0, 1) := by decide +kernel
theorem dX11_undo_54 : decode cX11_undo 54 = .ok (.getfield 34, 3) := by decide +kernel
theorem dX11_undo_57 : decode cX11_undo 57 = .ok (.imul, 1) := by decide +kernel
theorem dX11_undo_58 : decode cX11_undo 58 = .ok (.iload_n 1, 1) := by decide +kernel
theorem dX11_undo_59 : decode cX11_undo 59 = .ok (.iadd, 1) := by decide +kernel
theorem dX11_undo_60 : decode cX11_undo 60 = .ok (.iaload, 1) := by decide +kernel
theorem dX11_undo_61 : decode cX11_undo 61 = .ok (.iastore, 1) := by decide +kernel
theorem dX11_undo_62 : decode cX11_undo 62 = .ok (.iinc 1 1, 3) := by decide +kernel
theorem dX11_undo_65 : decode cX11_undo 65 = .ok (.goto (-31), 3) := by decide +kernel
theorem dX11_undo_68 : decode cX11_undo 68 = .ok (.aload_n 0, 1) := by decide +kernel
theorem dX11_undo_69 : decode cX11_undo 69 = .ok (.getfield 34, 3) := by decide +kernel
theorem dX11_undo_72 : decode cX11_undo 72 = .ok (.ireturn, 1) := by decide +kernel
theorem dX11_putAside_0 : decode cX11_putAside 0 = .ok (.iconst 0, 1) := by decide +kernel
theorem dX11_putAside_1 : decode cX11_putAside 1 = .ok (.istore_n 1, 1) := by decide +kernel
theorem dX11_putAside_2 : decode cX11_putAside 2 = .ok (.iload_n 1, 1) := by decide +kernel
theorem dX11_putAside_3 : decode cX11_putAside 3 = .ok (.sipush 647, 3) := by decide +kernel
theorem dX11_putAside_6 : decode cX11_putAside 6 = .ok (.if_icmp .ge 21, 3) := by decide +kernel
theorem dX11_putAside_9 : decode cX11_putAside 9 = .ok (.aload_n 0, 1) := by decide +kernel
theorem dX11_putAside_10 : decode cX11_putAside 10 = .ok (.getfield 13, 3) := by decide +kernel
theorem dX11_putAside_13 : decode cX11_putAside 13 = .ok (.iload_n 1, 1) := by decide +kernel
theorem dX11_putAside_14 : decode cX11_putAside 14 = .ok (.aload_n 0, 1) := by decide +kernel
theorem dX11_putAside_15 : decode cX11_putAside 15 = .ok (.getfield 7, 3) := by decide +kernel
theorem dX11_putAside_18 : decode cX11_putAside 18 = .ok (.iload_n 1, 1) := by decide +kernel
theorem dX11_putAside_19 : decode cX11_putAside 19 = .ok (.iaload, 1) := by decide +kernel
theorem dX11_putAside_20 : decode cX11_putAside 20 = .ok (.iastore, 1) := by decide +kernel
theorem dX11_putAside_21 : decode cX11_putAside 21 = .ok (.iinc 1 1, 3) := by decide +kernel
theorem dX11_putAside_24 : decode cX11_putAside 24 = .ok (.goto (-22), 3) := by decide +kernel
theorem dX11_putAside_27 : decode cX11_putAside 27 = .ok (.return_, 1) := by decide +kernel
theorem dX11_putBack_0 : decode cX11_putBack 0 = .ok (.iconst 0, 1) := by decide +kernel
theorem dX11_putBack_1 : decode cX11_putBack 1 = .ok (.istore_n 1, 1) := by decide +kernel
theorem dX11_putBack_2 : decode cX11_putBack 2 = .ok (.iload_n 1, 1) := by decide +kernel
theorem dX11_putBack_3 : decode cX11_putBack 3 = .ok (.sipush 647, 3) := by decide +kernel
theorem dX11_putBack_6 : decode cX11_putBack 6 = .ok (.if_icmp .ge 21, 3) := by decide +kernel
theorem dX11_putBack_9 : decode cX11_putBack 9 = .ok (.aload_n 0, 1) := by decide +kernel
theorem dX11_putBack_10 : decode cX11_putBack 10 = .ok (.getfield 7, 3) := by decide +kernel
theorem dX11_putBack_13 : decode cX11_putBack 13 = .ok (.iload_n 1, 1) := by decide +kernel
theorem dX11_putBack_14 : decode cX11_putBack 14 = .ok (.aload_n 0, 1) := by decide +kernel
theorem dX11_putBack_15 : decode cX11_putBack 15 = .ok (.getfield 13, 3) := by decide +kernel
theorem dX11_putBack_18 : decode cX11_putBack 18 = .ok (.iload_n 1, 1) := by decide +kernel
theorem dX11_putBack_19 : decode cX11_putBack 19 = .ok (.iaload, 1) := by decide +kernel
theorem dX11_putBack_20 : decode cX11_putBack 20 = .ok (.iastore, 1) := by decide +kernel
theorem dX11_putBack_21 : decode cX11_putBack 21 = .ok (.iinc 1 1, 3) := by decide +kernel
theorem dX11_putBack_24 : decode cX11_putBack 24 = .ok (.goto (-22), 3) := by decide +kernel
theorem dX11_putBack_27 : decode cX11_putBack 27 = .ok (.return_, 1) := by decide +kernel
theorem dX11_begins_0 : decode cX11_begins 0 = .ok (.aload_n 0, 1) := by decide +kernel
theorem dX11_begins_1 : decode cX11_begins 1 = .ok (.getfield 7, 3) := by decide +kernel
theorem dX11_begins_4 : decode cX11_begins 4 = .ok (.bipush 11, 2) := by decide +kernel
theorem dX11_begins_6 : decode cX11_begins 6 = .ok (.iaload, 1) := by decide +kernel
theorem dX11_begins_7 : decode cX11_begins 7 = .ok (.istore_n 2, 1) := by decide +kernel
theorem dX11_begins_8 : decode cX11_begins 8 = .ok (.iconst 0, 1) := by decide +kernel
theorem dX11_begins_9 : decode cX11_begins 9 = .ok (.istore_n 3, 1) := by decide +kernel
theorem dX11_begins_10 : decode cX11_begins 10 = .ok (.iload_n 3, 1) := by decide +kernel
theorem dX11_begins_11 : decode cX11_begins 11 = .ok (.sipush 647, 3) := by decide +kernel
theorem dX11_begins_14 : decode cX11_begins 14 = .ok (.if_icmp .ge 16, 3) := by decide +kernel
theorem dX11_begins_17 : decode cX11_begins 17 = .ok (.aload_n 0, 1) := by decide +kernel
theorem dX11_begins_18 : decode cX11_begins 18 = .ok (.getfield 7, 3) := by decide +kernel
theorem dX11_begins_21 : decode cX11_begins 21 = .ok (.iload_n 3, 1) := by decide +kernel
theorem dX11_begins_22 : decode cX11_begins 22 = .ok (.iconst 0, 1) := by decide +kernel
theorem dX11_begins_23 : decode cX11_begins 23 = .ok (.iastore, 1) := by decide +kernel
theorem dX11_begins_24 : decode cX11_begins 24 = .ok (.iinc 3 1, 3) := by decide +kernel
theorem dX11_begins_27 : decode cX11_begins 27 = .ok (.goto (-17), 3) := by decide +kernel
theorem dX11_begins_30 : decode cX11_begins 30 = .ok (.aload_n 0, 1) := by decide +kernel
theorem dX11_begins_31 : decode cX11_begins 31 = .ok (.getfield 7, 3) := by decide +kernel
theorem dX11_begins_34 : decode cX11_begins 34 = .ok (.bipush 11, 2) := by decide +kernel
theorem dX11_begins_36 : decode cX11_begins 36 = .ok (.iload_n 2, 1) := by decide +kernel
theorem dX11_begins_37 : decode cX11_begins 37 = .ok (.iastore, 1) := by decide +kernel
theorem dX11_begins_38 : decode cX11_begins 38 = .ok (.aload_n 0, 1) := by decide +kernel
theorem dX11_begins_39 : decode cX11_begins 39 = .ok (.getfield 7, 3) := by decide +kernel
theorem dX11_begins_42 : decode cX11_begins 42 = .ok (.iconst 0, 1) := by decide +kernel
theorem dX11_begins_43 : decode cX11_begins 43 = .ok (.iload_n 1, 1) := by decide +kernel
theorem dX11_begins_44 : decode cX11_begins 44 = .ok (.iastore, 1) := by decide +kernel
theorem dX11_begins_45 : decode cX11_begins 45 = .ok (.aload_n 0, 1) := by decide +kernel
theorem dX11_begins_46 : decode cX11_begins 46 = .ok (.getfield 7, 3) := by decide +kernel
theorem dX11_begins_49 : decode cX11_begins 49 = .ok (.iconst 1, 1) := by decide +kernel
theorem dX11_begins_50 : decode cX11_begins 50 = .ok (.sipush 500, 3) := by decide +kernel
theorem dX11_begins_53 : decode cX11_begins 53 = .ok (.iastore, 1) := by decide +kernel
theorem dX11_begins_54 : decode cX11_begins 54 = .ok (.aload_n 0, 1) := by decide +kernel
theorem dX11_begins_55 : decode cX11_begins 55 = .ok (.getfield 7, 3) := by decide +kernel
theorem dX11_begins_58 : decode cX11_begins 58 = .ok (.bipush 6, 2) := by decide +kernel
theorem dX11_begins_60 : decode cX11_begins 60 = .ok (.sipush 300, 3) := by decide +kernel
theorem dX11_begins_63 : decode cX11_begins 63 = .ok (.iastore, 1) := by decide +kernel
theorem dX11_begins_64 : decode cX11_begins 64 = .ok (.aload_n 0, 1) := by decide +kernel
theorem dX11_begins_65 : decode cX11_begins 65 = .ok (.getfield 7, 3) := by decide +kernel
theorem dX11_begins_68 : decode cX11_begins 68 = .ok (.bipush 7, 2) := by decide +kernel
theorem dX11_begins_70 : decode cX11_begins 70 = .ok (.sipush 600, 3) := by decide +kernel
theorem dX11_begins_73 : decode cX11_begins 73 = .ok (.iastore, 1) := by decide +kernel
theorem dX11_begins_74 : decode cX11_begins 74 = .ok (.aload_n 0, 1) := by decide +kernel
theorem dX11_begins_75 : decode cX11_begins 75 = .ok (.getfield 7, 3) := by decide +kernel
theorem dX11_begins_78 : decode cX11_begins 78 = .ok (.bipush 9, 2) := by decide +kernel
theorem dX11_begins_80 : decode cX11_begins 80 = .ok (.bipush 47, 2) := by decide +kernel
theorem dX11_begins_82 : decode cX11_begins 82 = .ok (.iastore, 1) := by decide +kernel
theorem dX11_begins_83 : decode cX11_begins 83 = .ok (.aload_n 0, 1) := by decide +kernel
theorem dX11_begins_84 : decode cX11_begins 84 = .ok (.getfield 7, 3) := by decide +kernel
theorem dX11_begins_87 : decode cX11_begins 87 = .ok (.bipush 10, 2) := by decide +kernel
theorem dX11_begins_89 : decode cX11_begins 89 = .ok (.bipush 20, 2) := by decide +kernel
theorem dX11_begins_91 : decode cX11_begins 91 = .ok (.iastore, 1) := by decide +kernel
theorem dX11_begins_92 : decode cX11_begins 92 = .ok (.aload_n 0, 1) := by decide +kernel
theorem dX11_begins_93 : decode cX11_begins 93 = .ok (.getfield 7, 3) := by decide +kernel
theorem dX11_begins_96 : decode cX11_begins 96 = .ok (.bipush 14, 2) := by decide +kernel
theorem dX11_begins_98 : decode cX11_begins 98 = .ok (.bipush 20, 2) := by decide +kernel
theorem dX11_begins_100 : decode cX11_begins 100 = .ok (.iastore, 1) := by decide +kernel
theorem dX11_begins_101 : decode cX11_begins 101 = .ok (.aload_n 0, 1) := by decide +kernel
theorem dX11_begins_102 : decode cX11_begins 102 = .ok (.getfield 7, 3) := by decide +kernel
theorem dX11_begins_105 : decode cX11_begins 105 = .ok (.bipush 15, 2) := by decide +kernel
theorem dX11_begins_107 : decode cX11_begins 107 = .ok (.iconst 2, 1) := by decide +kernel
theorem dX11_begins_108 : decode cX11_begins 108 = .ok (.iastore, 1) := by decide +kernel
theorem dX11_begins_109 : decode cX11_begins 109 = .ok (.aload_n 0, 1) := by decide +kernel
theorem dX11_begins_110 : decode cX11_begins 110 = .ok (.getfield 7, 3) := by decide +kernel
theorem dX11_begins_113 : decode cX11_begins 113 = .ok (.bipush 18, 2) := by decide +kernel
theorem dX11_begins_115 : decode cX11_begins 115 = .ok (.iconst 5, 1) := by decide +kernel
theorem dX11_begins_116 : decode cX11_begins 116 = .ok (.iastore, 1) := by decide +kernel
theorem dX11_begins_117 : decode cX11_begins 117 = .ok (.aload_n 0, 1) := by decide +kernel
theorem dX11_begins_118 : decode cX11_begins 118 = .ok (.getfield 7, 3) := by decide +kernel
theorem dX11_begins_121 : decode cX11_begins 121 = .ok (.bipush 19, 2) := by decide +kernel
theorem dX11_begins_123 : decode cX11_begins 123 = .ok (.iconst 4, 1) := by decide +kernel
theorem dX11_begins_124 : decode cX11_begins 124 = .ok (.iastore, 1) := by decide +kernel
theorem dX11_begins_125 : decode cX11_begins 125 = .ok (.aload_n 0, 1) := by decide +kernel
theorem dX11_begins_126 : decode cX11_begins 126 = .ok (.getfield 7, 3) := by decide +kernel
theorem dX11_begins_129 : decode cX11_begins 129 = .ok (.bipush 20, 2) := by decide +kernel
theorem dX11_begins_131 : decode cX11_begins 131 = .ok (.bipush 10, 2) := by decide +kernel
theorem dX11_begins_133 : decode cX11_begins 133 = .ok (.iastore, 1) := by decide +kernel
theorem dX11_begins_134 : decode cX11_begins 134 = .ok (.aload_n 0, 1) := by decide +kernel
theorem dX11_begins_135 : decode cX11_begins 135 = .ok (.getfield 7, 3) := by decide +kernel
theorem dX11_begins_138 : decode cX11_begins 138 = .ok (.bipush 21, 2) := by decide +kernel
theorem dX11_begins_140 : decode cX11_begins 140 = .ok (.sipush 200, 3) := by decide +kernel
theorem dX11_begins_143 : decode cX11_begins 143 = .ok (.iastore, 1) := by decide +kernel
theorem dX11_begins_144 : decode cX11_begins 144 = .ok (.aload_n 0, 1) := by decide +kernel
theorem dX11_begins_145 : decode cX11_begins 145 = .ok (.getfield 7, 3) := by decide +kernel
theorem dX11_begins_148 : decode cX11_begins 148 = .ok (.bipush 22, 2) := by decide +kernel
theorem dX11_begins_150 : decode cX11_begins 150 = .ok (.sipush 1800, 3) := by decide +kernel
theorem dX11_begins_153 : decode cX11_begins 153 = .ok (.iastore, 1) := by decide +kernel
theorem dX11_begins_154 : decode cX11_begins 154 = .ok (.aload_n 0, 1) := by decide +kernel
theorem dX11_begins_155 : decode cX11_begins 155 = .ok (.getfield 7, 3) := by decide +kernel
theorem dX11_begins_158 : decode cX11_begins 158 = .ok (.bipush 23, 2) := by decide +kernel
theorem dX11_begins_160 : decode cX11_begins 160 = .ok (.bipush 20, 2) := by decide +kernel
theorem dX11_begins_162 : decode cX11_begins 162 = .ok (.iastore, 1) := by decide +kernel
theorem dX11_begins_163 : decode cX11_begins 163 = .ok (.aload_n 0, 1) := by decide +kernel
theorem dX11_begins_164 : decode cX11_begins 164 = .ok (.getfield 7, 3) := by decide +kernel
theorem dX11_begins_167 : decode cX11_begins 167 = .ok (.bipush 26, 2) := by decide +kernel
theorem dX11_begins_169 : decode cX11_begins 169 = .ok (.iconst (-1), 1) := by decide +kernel
theorem dX11_begins_170 : decode cX11_begins 170 = .ok (.iastore, 1) := by decide +kernel
theorem dX11_begins_171 : decode cX11_begins 171 = .ok (.return_, 1) := by decide +kernel
theorem dX11_draw_0 : decode cX11_draw 0 = .ok (.aload_n 0, 1) := by decide +kernel
theorem dX11_draw_1 : decode cX11_draw 1 = .ok (.getfield 7, 3) := by decide +kernel
theorem dX11_draw_4 : decode cX11_draw 4 = .ok (.bipush 11, 2) := by decide +kernel
theorem dX11_draw_6 : decode cX11_draw 6 = .ok (.ldc2_w 41, 3) := by decide +kernel
theorem dX11_draw_9 : decode cX11_draw 9 = .ok (.aload_n 0, 1) := by decide +kernel
theorem dX11_draw_10 : decode cX11_draw 10 = .ok (.getfield 7, 3) := by decide +kernel
theorem dX11_draw_13 : decode cX11_draw 13 = .ok (.bipush 11, 2) := by decide +kernel
theorem dX11_draw_15 : decode cX11_draw 15 = .ok (.iaload, 1) := by decide +kernel
theorem dX11_draw_16 : decode cX11_draw 16 = .ok (.i2l, 1) := by decide +kernel
theorem dX11_draw_17 : decode cX11_draw 17 = .ok (.lmul, 1) := by decide +kernel
theorem dX11_draw_18 : decode cX11_draw 18 = .ok (.ldc2_w 43, 3) := by decide +kernel
theorem dX11_draw_21 : decode cX11_draw 21 = .ok (.ladd, 1) := by decide +kernel
theorem dX11_draw_22 : decode cX11_draw 22 = .ok (.ldc2_w 45, 3) := by decide +kernel
theorem dX11_draw_25 : decode cX11_draw 25 = .ok (.lrem, 1) := by decide +kernel
theorem dX11_draw_26 : decode cX11_draw 26 = .ok (.l2i, 1) := by decide +kernel
theorem dX11_draw_27 : decode cX11_draw 27 = .ok (.iastore, 1) := by decide +kernel
theorem dX11_draw_28 : decode cX11_draw 28 = .ok (.aload_n 0, 1) := by decide +kernel
theorem dX11_draw_29 : decode cX11_draw 29 = .ok (.getfield 7, 3) := by decide +kernel
theorem dX11_draw_32 : decode cX11_draw 32 = .ok (.bipush 11, 2) := by decide +kernel
theorem dX11_draw_34 : decode cX11_draw 34 = .ok (.iaload, 1) := by decide +kernel
theorem dX11_draw_35 : decode cX11_draw 35 = .ok (.ldc 47, 2) := by decide +kernel
theorem dX11_draw_37 : decode cX11_draw 37 = .ok (.idiv, 1) := by decide +kernel
theorem dX11_draw_38 : decode cX11_draw 38 = .ok (.iload_n 1, 1) := by decide +kernel
theorem dX11_draw_39 : decode cX11_draw 39 = .ok (.irem, 1) := by decide +kernel
theorem dX11_draw_40 : decode cX11_draw 40 = .ok (.ireturn, 1) := by decide +kernel
theorem dX11_surface_0 : decode cX11_surface 0 = .ok (.aload_n 0, 1) := by decide +kernel
theorem dX11_surface_1 : decode cX11_surface 1 = .ok (.getfield 7, 3) := by decide +kernel
theorem dX11_surface_4 : decode cX11_surface 4 = .ok (.iconst 0, 1) := by decide +kernel
theorem dX11_surface_5 : decode cX11_surface 5 = .ok (.iaload, 1) := by decide +kernel
theorem dX11_surface_6 : decode cX11_surface 6 = .ok (.aload_n 0, 1) := by decide +kernel
theorem dX11_surface_7 : decode cX11_surface 7 = .ok (.getfield 7, 3) := by decide +kernel
theorem dX11_surface_10 : decode cX11_surface 10 = .ok (.iconst 1, 1) := by decide +kernel
theorem dX11_surface_11 : decode cX11_surface 11 = .ok (.iaload, 1) := by decide +kernel
theorem dX11_surface_12 : decode cX11_surface 12 = .ok (.isub, 1) := by decide +kernel
theorem dX11_surface_13 : decode cX11_surface 13 = .ok (.ireturn, 1) := by decide +kernel
theorem dX11_angleOf_0 : decode cX11_angleOf 0 = .ok (.aload_n 0, 1) := by decide +kernel
theorem dX11_angleOf_1 : decode cX11_angleOf 1 = .ok (.getfield 7, 3) := by decide +kernel
theorem dX11_angleOf_4 : decode cX11_angleOf 4 = .ok (.bipush 8, 2) := by decide +kernel
theorem dX11_angleOf_6 : decode cX11_angleOf 6 = .ok (.iaload, 1) := by decide +kernel
theorem dX11_angleOf_7 : decode cX11_angleOf 7 = .ok (.sipush 360, 3) := by decide +kernel
theorem dX11_angleOf_10 : decode cX11_angleOf 10 = .ok (.iload_n 1, 1) := by decide +kernel
theorem dX11_angleOf_11 : decode cX11_angleOf 11 = .ok (.imul, 1) := by decide +kernel
theorem dX11_angleOf_12 : decode cX11_angleOf 12 = .ok (.aload_n 0, 1) := by decide +kernel
theorem dX11_angleOf_13 : decode cX11_angleOf 13 = .ok (.getfield 7, 3) := by decide +kernel
theorem dX11_angleOf_16 : decode cX11_angleOf 16 = .ok (.iconst 5, 1) := by decide +kernel
theorem dX11_angleOf_17 : decode cX11_angleOf 17 = .ok (.iaload, 1) := by decide +kernel
theorem dX11_angleOf_18 : decode cX11_angleOf 18 = .ok (.idiv, 1) := by decide +kernel
theorem dX11_angleOf_19 : decode cX11_angleOf 19 = .ok (.iadd, 1) := by decide +kernel
theorem dX11_angleOf_20 : decode cX11_angleOf 20 = .ok (.sipush 360, 3) := by decide +kernel
theorem dX11_angleOf_23 : decode cX11_angleOf 23 = .ok (.irem, 1) := by decide +kernel
theorem dX11_angleOf_24 : decode cX11_angleOf 24 = .ok (.ireturn, 1) := by decide +kernel
theorem dX11_makes_0 : decode cX11_makes 0 = .ok (.bipush 42, 2) := by decide +kernel
theorem dX11_makes_2 : decode cX11_makes 2 = .ok (.iconst 4, 1) := by decide +kernel
theorem dX11_makes_3 : decode cX11_makes 3 = .ok (.aload_n 0, 1) := by decide +kernel
theorem dX11_makes_4 : decode cX11_makes 4 = .ok (.getfield 7, 3) := by decide +kernel
theorem dX11_makes_7 : decode cX11_makes 7 = .ok (.bipush 41, 2) := by decide +kernel
theorem dX11_makes_9 : decode cX11_makes 9 = .ok (.iaload, 1) := by decide +kernel
theorem dX11_makes_10 : decode cX11_makes 10 = .ok (.imul, 1) := by decide +kernel
theorem dX11_makes_11 : decode cX11_makes 11 = .ok (.iadd, 1) := by decide +kernel
theorem dX11_makes_12 : decode cX11_makes 12 = .ok (.istore 4, 2) := by decide +kernel
theorem dX11_makes_14 : decode cX11_makes 14 = .ok (.aload_n 0, 1) := by decide +kernel
theorem dX11_makes_15 : decode cX11_makes 15 = .ok (.getfield 7, 3) := by decide +kernel
theorem dX11_makes_18 : decode cX11_makes 18 = .ok (.iload 4, 2) := by decide +kernel
theorem dX11_makes_20 : decode cX11_makes 20 = .ok (.iload_n 1, 1) := by decide +kernel
theorem dX11_makes_21 : decode cX11_makes 21 = .ok (.iastore, 1) := by decide +kernel
theorem dX11_makes_22 : decode cX11_makes 22 = .ok (.aload_n 0, 1) := by decide +kernel
theorem dX11_makes_23 : decode cX11_makes 23 = .ok (.getfield 7, 3) := by decide +kernel
theorem dX11_makes_26 : decode cX11_makes 26 = .ok (.iload 4, 2) := by decide +kernel
theorem dX11_makes_28 : decode cX11_makes 28 = .ok (.iconst 1, 1) := by decide +kernel
theorem dX11_makes_29 : decode cX11_makes 29 = .ok (.iadd, 1) := by decide +kernel
theorem dX11_makes_30 : decode cX11_makes 30 = .ok (.iload_n 2, 1) := by decide +kernel
theorem dX11_makes_31 : decode cX11_makes 31 = .ok (.iastore, 1) := by decide +kernel
theorem dX11_makes_32 : decode cX11_makes 32 = .ok (.aload_n 0, 1) := by decide +kernel
theorem dX11_makes_33 : decode cX11_makes 33 = .ok (.getfield 7, 3) := by decide +kernel
theorem dX11_makes_36 : decode cX11_makes 36 = .ok (.iload 4, 2) := by decide +kernel
theorem dX11_makes_38 : decode cX11_makes 38 = .ok (.iconst 2, 1) := by decide +kernel
theorem dX11_makes_39 : decode cX11_makes 39 = .ok (.iadd, 1) := by decide +kernel
theorem dX11_makes_40 : decode cX11_makes 40 = .ok (.iload_n 3, 1) := by decide +kernel
theorem dX11_makes_41 : decode cX11_makes 41 = .ok (.iastore, 1) := by decide +kernel
theorem dX11_makes_42 : decode cX11_makes 42 = .ok (.aload_n 0, 1) := by decide +kernel
theorem dX11_makes_43 : decode cX11_makes 43 = .ok (.getfield 7, 3) := by decide +kernel
theorem dX11_makes_46 : decode cX11_makes 46 = .ok (.iload 4, 2) := by decide +kernel
theorem dX11_makes_48 : decode cX11_makes 48 = .ok (.iconst 3, 1) := by decide +kernel
theorem dX11_makes_49 : decode cX11_makes 49 = .ok (.iadd, 1) := by decide +kernel
theorem dX11_makes_50 : decode cX11_makes 50 = .ok (.iconst 0, 1) := by decide +kernel
theorem dX11_makes_51 : decode cX11_makes 51 = .ok (.iastore, 1) := by decide +kernel
theorem dX11_makes_52 : decode cX11_makes 52 = .ok (.aload_n 0, 1) := by decide +kernel
theorem dX11_makes_53 : decode cX11_makes 53 = .ok (.getfield 7, 3) := by decide +kernel
theorem dX11_makes_56 : decode cX11_makes 56 = .ok (.bipush 41, 2) := by decide +kernel
theorem dX11_makes_58 : decode cX11_makes 58 = .ok (.dup2, 1) := by decide +kernel
theorem dX11_makes_59 : decode cX11_makes 59 = .ok (.iaload, 1) := by decide +kernel
theorem dX11_makes_60 : decode cX11_makes 60 = .ok (.iconst 1, 1) := by decide +kernel
theorem dX11_makes_61 : decode cX11_makes 61 = .ok (.iadd, 1) := by decide +kernel
theorem dX11_makes_62 : decode cX11_makes 62 = .ok (.iastore, 1) := by decide +kernel
theorem dX11_makes_63 : decode cX11_makes 63 = .ok (.return_, 1) := by decide +kernel
theorem dX11_echoes_0 : decode cX11_echoes 0 = .ok (.aload_n 0, 1) := by decide +kernel
theorem dX11_echoes_1 : decode cX11_echoes 1 = .ok (.invokevirtual 48, 3) := by decide +kernel
theorem dX11_echoes_4 : decode cX11_echoes 4 = .ok (.istore_n 1, 1) := by decide +kernel
theorem dX11_echoes_5 : decode cX11_echoes 5 = .ok (.aload_n 0, 1) := by decide +kernel
theorem dX11_echoes_6 : decode cX11_echoes 6 = .ok (.getfield 7, 3) := by decide +kernel
theorem dX11_echoes_9 : decode cX11_echoes 9 = .ok (.bipush 41, 2) := by decide +kernel
theorem dX11_echoes_11 : decode cX11_echoes 11 = .ok (.iconst 0, 1) := by decide +kernel
theorem dX11_echoes_12 : decode cX11_echoes 12 = .ok (.iastore, 1) := by decide +kernel
theorem dX11_echoes_13 : decode cX11_echoes 13 = .ok (.iconst 0, 1) := by decide +kernel
theorem dX11_echoes_14 : decode cX11_echoes 14 = .ok (.istore_n 2, 1) := by decide +kernel
theorem dX11_echoes_15 : decode cX11_echoes 15 = .ok (.iload_n 2, 1) := by decide +kernel
theorem dX11_echoes_16 : decode cX11_echoes 16 = .ok (.aload_n 0, 1) := by decide +kernel
theorem dX11_echoes_17 : decode cX11_echoes 17 = .ok (.getfield 7, 3) := by decide +kernel
theorem dX11_echoes_20 : decode cX11_echoes 20 = .ok (.iconst 4, 1) := by decide +kernel
theorem dX11_echoes_21 : decode cX11_echoes 21 = .ok (.iaload, 1) := by decide +kernel
theorem dX11_echoes_22 : decode cX11_echoes 22 = .ok (.if_icmp .ge 56, 3) := by decide +kernel
theorem dX11_echoes_25 : decode cX11_echoes 25 = .ok (.aload_n 0, 1) := by decide +kernel
theorem dX11_echoes_26 : decode cX11_echoes 26 = .ok (.getfield 7, 3) := by decide +kernel
theorem dX11_echoes_29 : decode cX11_echoes 29 = .ok (.sipush 134, 3) := by decide +kernel
theorem dX11_echoes_32 : decode cX11_echoes 32 = .ok (.iconst 2, 1) := by decide +kernel
theorem dX11_echoes_33 : decode cX11_echoes 33 = .ok (.iload_n 2, 1) := by decide +kernel
theorem dX11_echoes_34 : decode cX11_echoes 34 = .ok (.imul, 1) := by decide +kernel
theorem dX11_echoes_35 : decode cX11_echoes 35 = .ok (.iadd, 1) := by decide +kernel
theorem dX11_echoes_36 : decode cX11_echoes 36 = .ok (.iaload, 1) := by decide +kernel
theorem dX11_echoes_37 : decode cX11_echoes 37 = .ok (.iload_n 1, 1) := by decide +kernel
theorem dX11_echoes_38 : decode cX11_echoes 38 = .ok (.if_icmp .ge 34, 3) := by decide +kernel
theorem dX11_echoes_41 : decode cX11_echoes 41 = .ok (.aload_n 0, 1) := by decide +kernel
theorem dX11_echoes_42 : decode cX11_echoes 42 = .ok (.iconst 0, 1) := by decide +kernel
theorem dX11_echoes_43 : decode cX11_echoes 43 = .ok (.aload_n 0, 1) := by decide +kernel
theorem dX11_echoes_44 : decode cX11_echoes 44 = .ok (.getfield 7, 3) := by decide +kernel
theorem dX11_echoes_47 : decode cX11_echoes 47 = .ok (.sipush 134, 3) := by decide +kernel
theorem dX11_echoes_50 : decode cX11_echoes 50 = .ok (.iconst 2, 1) := by decide +kernel
theorem dX11_echoes_51 : decode cX11_echoes 51 = .ok (.iload_n 2, 1) := by decide +kernel
theorem dX11_echoes_52 : decode cX11_echoes 52 = .ok (.imul, 1) := by decide +kernel
theorem dX11_echoes_53 : decode cX11_echoes 53 = .ok (.iadd, 1) := by decide +kernel
theorem dX11_echoes_54 : decode cX11_echoes 54 = .ok (.iaload, 1) := by decide +kernel
theorem dX11_echoes_55 : decode cX11_echoes 55 = .ok (.aload_n 0, 1) := by decide +kernel
theorem dX11_echoes_56 : decode cX11_echoes 56 = .ok (.getfield 7, 3) := by decide +kernel
theorem dX11_echoes_59 : decode cX11_echoes 59 = .ok (.sipush 134, 3) := by decide +kernel
theorem dX11_echoes_62 : decode cX11_echoes 62 = .ok (.iconst 2, 1) := by decide +kernel
theorem dX11_echoes_63 : decode cX11_echoes 63 = .ok (.iload_n 2, 1) := by decide +kernel
theorem dX11_echoes_64 : decode cX11_echoes 64 = .ok (.imul, 1) := by decide +kernel
theorem dX11_echoes_65 : decode cX11_echoes 65 = .ok (.iadd, 1) := by decide +kernel
theorem dX11_echoes_66 : decode cX11_echoes 66 = .ok (.iconst 1, 1) := by decide +kernel
theorem dX11_echoes_67 : decode cX11_echoes 67 = .ok (.iadd, 1) := by decide +kernel
theorem dX11_echoes_68 : decode cX11_echoes 68 = .ok (.iaload, 1) := by decide +kernel
theorem dX11_echoes_69 : decode cX11_echoes 69 = .ok (.invokevirtual 52, 3) := by decide +kernel
theorem dX11_echoes_72 : decode cX11_echoes 72 = .ok (.iinc 2 1, 3) := by decide +kernel
theorem dX11_echoes_75 : decode cX11_echoes 75 = .ok (.goto (-60), 3) := by decide +kernel
theorem dX11_echoes_78 : decode cX11_echoes 78 = .ok (.iconst 0, 1) := by decide +kernel
theorem dX11_echoes_79 : decode cX11_echoes 79 = .ok (.istore_n 2, 1) := by decide +kernel
theorem dX11_echoes_80 : decode cX11_echoes 80 = .ok (.iconst 0, 1) := by decide +kernel
theorem dX11_echoes_81 : decode cX11_echoes 81 = .ok (.istore_n 3, 1) := by decide +kernel
theorem dX11_echoes_82 : decode cX11_echoes 82 = .ok (.iload_n 3, 1) := by decide +kernel
theorem dX11_echoes_83 : decode cX11_echoes 83 = .ok (.aload_n 0, 1) := by decide +kernel
theorem dX11_echoes_84 : decode cX11_echoes 84 = .ok (.getfield 7, 3) := by decide +kernel
theorem dX11_echoes_87 : decode cX11_echoes 87 = .ok (.iconst 5, 1) := by decide +kernel
theorem dX11_echoes_88 : decode cX11_echoes 88 = .ok (.iaload, 1) := by decide +kernel
theorem dX11_echoes_89 : decode cX11_echoes 89 = .ok (.if_icmp .ge 97, 3) := by decide +kernel
theorem dX11_echoes_92 : decode cX11_echoes 92 = .ok (.iload_n 3, 1) := by decide +kernel
theorem dX11_echoes_93 : decode cX11_echoes 93 = .ok (.iconst 2, 1) := by decide +kernel
theorem dX11_echoes_94 : decode cX11_echoes 94 = .ok (.irem, 1) := by decide +kernel
theorem dX11_echoes_95 : decode cX11_echoes 95 = .ok (.ifCond .ne 13, 3) := by decide +kernel
theorem dX11_echoes_98 : decode cX11_echoes 98 = .ok (.aload_n 0, 1) := by decide +kernel
theorem dX11_echoes_99 : decode cX11_echoes 99 = .ok (.getfield 7, 3) := by decide +kernel
theorem dX11_echoes_102 : decode cX11_echoes 102 = .ok (.bipush 6, 2) := by decide +kernel
theorem dX11_echoes_104 : decode cX11_echoes 104 = .ok (.iaload, 1) := by decide +kernel
theorem dX11_echoes_105 : decode cX11_echoes 105 = .ok (.goto 10, 3) := by decide +kernel
theorem dX11_echoes_108 : decode cX11_echoes 108 = .ok (.aload_n 0, 1) := by decide +kernel
theorem dX11_echoes_109 : decode cX11_echoes 109 = .ok (.getfield 7, 3) := by decide +kernel
theorem dX11_echoes_112 : decode cX11_echoes 112 = .ok (.bipush 7, 2) := by decide +kernel
theorem dX11_echoes_114 : decode cX11_echoes 114 = .ok (.iaload, 1) := by decide +kernel
theorem dX11_echoes_115 : decode cX11_echoes 115 = .ok (.istore 4, 2) := by decide +kernel
theorem dX11_echoes_117 : decode cX11_echoes 117 = .ok (.aload_n 0, 1) := by decide +kernel
theorem dX11_echoes_118 : decode cX11_echoes 118 = .ok (.iload_n 3, 1) := by decide +kernel
theorem dX11_echoes_119 : decode cX11_echoes 119 = .ok (.invokevirtual 56, 3) := by decide +kernel
theorem dX11_echoes_122 : decode cX11_echoes 122 = .ok (.aload_n 0, 1) := by decide +kernel
theorem dX11_echoes_123 : decode cX11_echoes 123 = .ok (.getfield 7, 3) := by decide +kernel
theorem dX11_echoes_126 : decode cX11_echoes 126 = .ok (.bipush 10, 2) := by decide +kernel
theorem dX11_echoes_128 : decode cX11_echoes 128 = .ok (.iaload, 1) := by decide +kernel
theorem dX11_echoes_129 : decode cX11_echoes 129 = .ok (.if_icmp .le 22, 3) := by decide +kernel
theorem dX11_echoes_132 : decode cX11_echoes 132 = .ok (.aload_n 0, 1) := by decide +kernel
theorem dX11_echoes_133 : decode cX11_echoes 133 = .ok (.iload_n 3, 1) := by decide +kernel
theorem dX11_echoes_134 : decode cX11_echoes 134 = .ok (.invokevirtual 56, 3) := by decide +kernel
theorem dX11_echoes_137 : decode cX11_echoes 137 = .ok (.sipush 360, 3) := by decide +kernel
theorem dX11_echoes_140 : decode cX11_echoes 140 = .ok (.aload_n 0, 1) := by decide +kernel
theorem dX11_echoes_141 : decode cX11_echoes 141 = .ok (.getfield 7, 3) := by decide +kernel
theorem dX11_echoes_144 : decode cX11_echoes 144 = .ok (.bipush 10, 2) := by decide +kernel
theorem dX11_echoes_146 : decode cX11_echoes 146 = .ok (.iaload, 1) := by decide +kernel
theorem dX11_echoes_147 : decode cX11_echoes 147 = .ok (.isub, 1) := by decide +kernel
theorem dX11_echoes_148 : decode cX11_echoes 148 = .ok (.if_icmp .lt 7, 3) := by decide +kernel
theorem dX11_echoes_151 : decode cX11_echoes 151 = .ok (.iconst 1, 1) := by decide +kernel
theorem dX11_echoes_152 : decode cX11_echoes 152 = .ok (.goto 4, 3) := by decide +kernel
theorem dX11_echoes_155 : decode cX11_echoes 155 = .ok (.iconst 0, 1) := by decide +kernel
theorem dX11_echoes_156 : decode cX11_echoes 156 = .ok (.istore 5, 2) := by decide +kernel
theorem dX11_echoes_158 : decode cX11_echoes 158 = .ok (.iload 5, 2) := by decide +kernel
theorem dX11_echoes_160 : decode cX11_echoes 160 = .ok (.ifCond .eq 20, 3) := by decide +kernel
theorem dX11_echoes_163 : decode cX11_echoes 163 = .ok (.iload 4, 2) := by decide +kernel
theorem dX11_echoes_165 : decode cX11_echoes 165 = .ok (.iload_n 1, 1) := by decide +kernel
theorem dX11_echoes_166 : decode cX11_echoes 166 = .ok (.if_icmp .ge 14, 3) := by decide +kernel
theorem dX11_echoes_169 : decode cX11_echoes 169 = .ok (.aload_n 0, 1) := by decide +kernel
theorem dX11_echoes_170 : decode cX11_echoes 170 = .ok (.iconst 1, 1) := by decide +kernel
theorem dX11_echoes_171 : decode cX11_echoes 171 = .ok (.iload 4, 2) := by decide +kernel
theorem dX11_echoes_173 : decode cX11_echoes 173 = .ok (.bipush 60, 2) := by decide +kernel
theorem dX11_echoes_175 : decode cX11_echoes 175 = .ok (.invokevirtual 52, 3) := by decide +kernel
theorem dX11_echoes_178 : decode cX11_echoes 178 = .ok (.iconst 1, 1) := by decide +kernel
theorem dX11_echoes_179 : decode cX11_echoes 179 = .ok (.istore_n 2, 1) := by decide +kernel
theorem dX11_echoes_180 : decode cX11_echoes 180 = .ok (.iinc 3 1, 3) := by decide +kernel
theorem dX11_echoes_183 : decode cX11_echoes 183 = .ok (.goto (-101), 3) := by decide +kernel
theorem dX11_echoes_186 : decode cX11_echoes 186 = .ok (.aload_n 0, 1) := by decide +kernel
theorem dX11_echoes_187 : decode cX11_echoes 187 = .ok (.getfield 7, 3) := by decide +kernel
theorem dX11_echoes_190 : decode cX11_echoes 190 = .ok (.iconst 3, 1) := by decide +kernel
theorem dX11_echoes_191 : decode cX11_echoes 191 = .ok (.iaload, 1) := by decide +kernel
theorem dX11_echoes_192 : decode cX11_echoes 192 = .ok (.ifCond .le 37, 3) := by decide +kernel
theorem dX11_echoes_195 : decode cX11_echoes 195 = .ok (.aload_n 0, 1) := by decide +kernel
theorem dX11_echoes_196 : decode cX11_echoes 196 = .ok (.iconst 2, 1) := by decide +kernel
theorem dX11_echoes_197 : decode cX11_echoes 197 = .ok (.iconst 0, 1) := by decide +kernel
theorem dX11_echoes_198 : decode cX11_echoes 198 = .ok (.iload_n 1, 1) := by decide +kernel
theorem dX11_echoes_199 : decode cX11_echoes 199 = .ok (.aload_n 0, 1) := by decide +kernel
theorem dX11_echoes_200 : decode cX11_echoes 200 = .ok (.getfield 7, 3) := by decide +kernel
theorem dX11_echoes_203 : decode cX11_echoes 203 = .ok (.iconst 3, 1) := by decide +kernel
theorem dX11_echoes_204 : decode cX11_echoes 204 = .ok (.iaload, 1) := by decide +kernel
theorem dX11_echoes_205 : decode cX11_echoes 205 = .ok (.isub, 1) := by decide +kernel
theorem dX11_echoes_206 : decode cX11_echoes 206 = .ok (.invokestatic 60, 3) := by decide +kernel
theorem dX11_echoes_209 : decode cX11_echoes 209 = .ok (.bipush 10, 2) := by decide +kernel
theorem dX11_echoes_211 : decode cX11_echoes 211 = .ok (.bipush 70, 2) := by decide +kernel
theorem dX11_echoes_213 : decode cX11_echoes 213 = .ok (.aload_n 0, 1) := by decide +kernel
theorem dX11_echoes_214 : decode cX11_echoes 214 = .ok (.getfield 7, 3) := by decide +kernel
theorem dX11_echoes_217 : decode cX11_echoes 217 = .ok (.iconst 3, 1) := by decide +kernel
theorem dX11_echoes_218 : decode cX11_echoes 218 = .ok (.iaload, 1) := by decide +kernel
theorem dX11_echoes_219 : decode cX11_echoes 219 = .ok (.bipush 10, 2) := by decide +kernel
theorem dX11_echoes_221 : decode cX11_echoes 221 = .ok (.idiv, 1) := by decide +kernel
theorem dX11_echoes_222 : decode cX11_echoes 222 = .ok (.isub, 1) := by decide +kernel
theorem dX11_echoes_223 : decode cX11_echoes 223 = .ok (.invokestatic 60, 3) := by decide +kernel
theorem dX11_echoes_226 : decode cX11_echoes 226 = .ok (.invokevirtual 52, 3) := by decide +kernel
theorem dX11_echoes_229 : decode cX11_echoes 229 = .ok (.iload_n 2, 1) := by decide +kernel
theorem dX11_echoes_230 : decode cX11_echoes 230 = .ok (.ifCond .ne 37, 3) := by decide +kernel
theorem dX11_echoes_233 : decode cX11_echoes 233 = .ok (.iconst 0, 1) := by decide +kernel
theorem dX11_echoes_234 : decode cX11_echoes 234 = .ok (.bipush 80, 2) := by decide +kernel
theorem dX11_echoes_236 : decode cX11_echoes 236 = .ok (.aload_n 0, 1) := by decide +kernel
theorem dX11_echoes_237 : decode cX11_echoes 237 = .ok (.getfield 7, 3) := by decide +kernel
theorem dX11_echoes_240 : decode cX11_echoes 240 = .ok (.iconst 3, 1) := by decide +kernel
theorem dX11_echoes_241 : decode cX11_echoes 241 = .ok (.iaload, 1) := by decide +kernel
theorem dX11_echoes_242 : decode cX11_echoes 242 = .ok (.iconst 5, 1) := by decide +kernel
theorem dX11_echoes_243 : decode cX11_echoes 243 = .ok (.idiv, 1) := by decide +kernel
theorem dX11_echoes_244 : decode cX11_echoes 244 = .ok (.isub, 1) := by decide +kernel
theorem dX11_echoes_245 : decode cX11_echoes 245 = .ok (.invokestatic 60, 3) := by decide +kernel
theorem dX11_echoes_248 : decode cX11_echoes 248 = .ok (.istore_n 3, 1) := by decide +kernel
theorem dX11_echoes_249 : decode cX11_echoes 249 = .ok (.aload_n 0, 1) := by decide +kernel
theorem dX11_echoes_250 : decode cX11_echoes 250 = .ok (.iconst 3, 1) := by decide +kernel
theorem dX11_echoes_251 : decode cX11_echoes 251 = .ok (.iload_n 1, 1) := by decide +kernel
theorem dX11_echoes_252 : decode cX11_echoes 252 = .ok (.iload_n 3, 1) := by decide +kernel
theorem dX11_echoes_253 : decode cX11_echoes 253 = .ok (.invokevirtual 52, 3) := by decide +kernel
theorem dX11_echoes_256 : decode cX11_echoes 256 = .ok (.aload_n 0, 1) := by decide +kernel
theorem dX11_echoes_257 : decode cX11_echoes 257 = .ok (.iconst 4, 1) := by decide +kernel
theorem dX11_echoes_258 : decode cX11_echoes 258 = .ok (.iconst 2, 1) := by decide +kernel
theorem dX11_echoes_259 : decode cX11_echoes 259 = .ok (.iload_n 1, 1) := by decide +kernel
theorem dX11_echoes_260 : decode cX11_echoes 260 = .ok (.imul, 1) := by decide +kernel
theorem dX11_echoes_261 : decode cX11_echoes 261 = .ok (.iload_n 3, 1) := by decide +kernel
theorem dX11_echoes_262 : decode cX11_echoes 262 = .ok (.iconst 2, 1) := by decide +kernel
theorem dX11_echoes_263 : decode cX11_echoes 263 = .ok (.idiv, 1) := by decide +kernel
theorem dX11_echoes_264 : decode cX11_echoes 264 = .ok (.invokevirtual 52, 3) := by decide +kernel
theorem dX11_echoes_267 : decode cX11_echoes 267 = .ok (.return_, 1) := by decide +kernel
theorem dX11_chance_0 : decode cX11_chance 0 = .ok (.iconst 0, 1) := by decide +kernel
theorem dX11_chance_1 : decode cX11_chance 1 = .ok (.istore_n 1, 1) := by decide +kernel
theorem dX11_chance_2 : decode cX11_chance 2 = .ok (.iconst 0, 1) := by decide +kernel
theorem dX11_chance_3 : decode cX11_chance 3 = .ok (.istore_n 2, 1) := by decide +kernel
theorem dX11_chance_4 : decode cX11_chance 4 = .ok (.iload_n 2, 1) := by decide +kernel
theorem dX11_chance_5 : decode cX11_chance 5 = .ok (.aload_n 0, 1) := by decide +kernel
theorem dX11_chance_6 : decode cX11_chance 6 = .ok (.getfield 7, 3) := by decide +kernel
theorem dX11_chance_9 : decode cX11_chance 9 = .ok (.bipush 41, 2) := by decide +kernel
theorem dX11_chance_11 : decode cX11_chance 11 = .ok (.iaload, 1) := by decide +kernel
theorem dX11_chance_12 : decode cX11_chance 12 = .ok (.if_icmp .ge 157, 3) := by decide +kernel
theorem dX11_chance_15 : decode cX11_chance 15 = .ok (.aload_n 0, 1) := by decide +kernel
theorem dX11_chance_16 : decode cX11_chance 16 = .ok (.bipush 100, 2) := by decide +kernel
theorem dX11_chance_18 : decode cX11_chance 18 = .ok (.invokevirtual 64, 3) := by decide +kernel
theorem dX11_chance_21 : decode cX11_chance 21 = .ok (.aload_n 0, 1) := by decide +kernel
theorem dX11_chance_22 : decode cX11_chance 22 = .ok (.getfield 7, 3) := by decide +kernel
theorem dX11_chance_25 : decode cX11_chance 25 = .ok (.bipush 12, 2) := by decide +kernel
theorem dX11_chance_27 : decode cX11_chance 27 = .ok (.iaload, 1) := by decide +kernel
theorem dX11_chance_28 : decode cX11_chance 28 = .ok (.if_icmp .ge 7, 3) := by decide +kernel
theorem dX11_chance_31 : decode cX11_chance 31 = .ok (.iconst 1, 1) := by decide +kernel
theorem dX11_chance_32 : decode cX11_chance 32 = .ok (.goto 4, 3) := by decide +kernel
theorem dX11_chance_35 : decode cX11_chance 35 = .ok (.iconst 0, 1) := by decide +kernel
theorem dX11_chance_36 : decode cX11_chance 36 = .ok (.istore_n 3, 1) := by decide +kernel
theorem dX11_chance_37 : decode cX11_chance 37 = .ok (.iload_n 3, 1) := by decide +kernel
theorem dX11_chance_38 : decode cX11_chance 38 = .ok (.ifCond .ne 125, 3) := by decide +kernel
theorem dX11_chance_41 : decode cX11_chance 41 = .ok (.aload_n 0, 1) := by decide +kernel
theorem dX11_chance_42 : decode cX11_chance 42 = .ok (.getfield 7, 3) := by decide +kernel
theorem dX11_chance_45 : decode cX11_chance 45 = .ok (.bipush 42, 2) := by decide +kernel
theorem dX11_chance_47 : decode cX11_chance 47 = .ok (.iconst 4, 1) := by decide +kernel
theorem dX11_chance_48 : decode cX11_chance 48 = .ok (.iload_n 2, 1) := by decide +kernel
theorem dX11_chance_49 : decode cX11_chance 49 = .ok (.imul, 1) := by decide +kernel
theorem dX11_chance_50 : decode cX11_chance 50 = .ok (.iadd, 1) := by decide +kernel
theorem dX11_chance_51 : decode cX11_chance 51 = .ok (.iconst 1, 1) := by decide +kernel
theorem dX11_chance_52 : decode cX11_chance 52 = .ok (.iadd, 1) := by decide +kernel
theorem dX11_chance_53 : decode cX11_chance 53 = .ok (.iaload, 1) := by decide +kernel
theorem dX11_chance_54 : decode cX11_chance 54 = .ok (.istore 4, 2) := by decide +kernel
theorem dX11_chance_56 : decode cX11_chance 56 = .ok (.aload_n 0, 1) := by decide +kernel
theorem dX11_chance_57 : decode cX11_chance 57 = .ok (.getfield 7, 3) := by decide +kernel
theorem dX11_chance_60 : decode cX11_chance 60 = .ok (.bipush 13, 2) := by decide +kernel
theorem dX11_chance_62 : decode cX11_chance 62 = .ok (.iaload, 1) := by decide +kernel
theorem dX11_chance_63 : decode cX11_chance 63 = .ok (.ifCond .le 39, 3) := by decide +kernel
theorem dX11_chance_66 : decode cX11_chance 66 = .ok (.aload_n 0, 1) := by decide +kernel
theorem dX11_chance_67 : decode cX11_chance 67 = .ok (.iconst 2, 1) := by decide +kernel
theorem dX11_chance_68 : decode cX11_chance 68 = .ok (.aload_n 0, 1) := by decide +kernel
theorem dX11_chance_69 : decode cX11_chance 69 = .ok (.getfield 7, 3) := by decide +kernel
theorem dX11_chance_72 : decode cX11_chance 72 = .ok (.bipush 13, 2) := by decide +kernel
theorem dX11_chance_74 : decode cX11_chance 74 = .ok (.iaload, 1) := by decide +kernel
theorem dX11_chance_75 : decode cX11_chance 75 = .ok (.imul, 1) := by decide +kernel
theorem dX11_chance_76 : decode cX11_chance 76 = .ok (.iconst 1, 1) := by decide +kernel
theorem dX11_chance_77 : decode cX11_chance 77 = .ok (.iadd, 1) := by decide +kernel
theorem dX11_chance_78 : decode cX11_chance 78 = .ok (.invokevirtual 64, 3) := by decide +kernel
theorem dX11_chance_81 : decode cX11_chance 81 = .ok (.istore 5, 2) := by decide +kernel
theorem dX11_chance_83 : decode cX11_chance 83 = .ok (.iconst 0, 1) := by decide +kernel
theorem dX11_chance_84 : decode cX11_chance 84 = .ok (.iload 4, 2) := by decide +kernel
theorem dX11_chance_86 : decode cX11_chance 86 = .ok (.iload 5, 2) := by decide +kernel
theorem dX11_chance_88 : decode cX11_chance 88 = .ok (.iadd, 1) := by decide +kernel
theorem dX11_chance_89 : decode cX11_chance 89 = .ok (.aload_n 0, 1) := by decide +kernel
theorem dX11_chance_90 : decode cX11_chance 90 = .ok (.getfield 7, 3) := by decide +kernel
theorem dX11_chance_93 : decode cX11_chance 93 = .ok (.bipush 13, 2) := by decide +kernel
theorem dX11_chance_95 : decode cX11_chance 95 = .ok (.iaload, 1) := by decide +kernel
theorem dX11_chance_96 : decode cX11_chance 96 = .ok (.isub, 1) := by decide +kernel
theorem dX11_chance_97 : decode cX11_chance 97 = .ok (.invokestatic 60, 3) := by decide +kernel
theorem dX11_chance_100 : decode cX11_chance 100 = .ok (.istore 4, 2) := by decide +kernel
theorem dX11_chance_102 : decode cX11_chance 102 = .ok (.iconst 0, 1) := by decide +kernel
theorem dX11_chance_103 : decode cX11_chance 103 = .ok (.istore 5, 2) := by decide +kernel
theorem dX11_chance_105 : decode cX11_chance 105 = .ok (.iload 5, 2) := by decide +kernel
theorem dX11_chance_107 : decode cX11_chance 107 = .ok (.iconst 4, 1) := by decide +kernel
theorem dX11_chance_108 : decode cX11_chance 108 = .ok (.if_icmp .ge 37, 3) := by decide +kernel
theorem dX11_chance_111 : decode cX11_chance 111 = .ok (.aload_n 0, 1) := by decide +kernel
theorem dX11_chance_112 : decode cX11_chance 112 = .ok (.getfield 7, 3) := by decide +kernel
theorem dX11_chance_115 : decode cX11_chance 115 = .ok (.bipush 42, 2) := by decide +kernel
theorem dX11_chance_117 : decode cX11_chance 117 = .ok (.iconst 4, 1) := by decide +kernel
theorem dX11_chance_118 : decode cX11_chance 118 = .ok (.iload_n 1, 1) := by decide +kernel
theorem dX11_chance_119 : decode cX11_chance 119 = .ok (.imul, 1) := by decide +kernel
theorem dX11_chance_120 : decode cX11_chance 120 = .ok (.iadd, 1) := by decide +kernel
theorem dX11_chance_121 : decode cX11_chance 121 = .ok (.iload 5, 2) := by decide +kernel
theorem dX11_chance_123 : decode cX11_chance 123 = .ok (.iadd, 1) := by decide +kernel
theorem dX11_chance_124 : decode cX11_chance 124 = .ok (.aload_n 0, 1) := by decide +kernel
theorem dX11_chance_125 : decode cX11_chance 125 = .ok (.getfield 7, 3) := by decide +kernel
theorem dX11_chance_128 : decode cX11_chance 128 = .ok (.bipush 42, 2) := by decide +kernel
theorem dX11_chance_130 : decode cX11_chance 130 = .ok (.iconst 4, 1) := by decide +kernel
theorem dX11_chance_131 : decode cX11_chance 131 = .ok (.iload_n 2, 1) := by decide +kernel
theorem dX11_chance_132 : decode cX11_chance 132 = .ok (.imul, 1) := by decide +kernel
theorem dX11_chance_133 : decode cX11_chance 133 = .ok (.iadd, 1) := by decide +kernel
theorem dX11_chance_134 : decode cX11_chance 134 = .ok (.iload 5, 2) := by decide +kernel
theorem dX11_chance_136 : decode cX11_chance 136 = .ok (.iadd, 1) := by decide +kernel
theorem dX11_chance_137 : decode cX11_chance 137 = .ok (.iaload, 1) := by decide +kernel
theorem dX11_chance_138 : decode cX11_chance 138 = .ok (.iastore, 1) := by decide +kernel
theorem dX11_chance_139 : decode cX11_chance 139 = .ok (.iinc 5 1, 3) := by decide +kernel
theorem dX11_chance_142 : decode cX11_chance 142 = .ok (.goto (-37), 3) := by decide +kernel
theorem dX11_chance_145 : decode cX11_chance 145 = .ok (.aload_n 0, 1) := by decide +kernel
theorem dX11_chance_146 : decode cX11_chance 146 = .ok (.getfield 7, 3) := by decide +kernel
theorem dX11_chance_149 : decode cX11_chance 149 = .ok (.bipush 42, 2) := by decide +kernel
theorem dX11_chance_151 : decode cX11_chance 151 = .ok (.iconst 4, 1) := by decide +kernel
theorem dX11_chance_152 : decode cX11_chance 152 = .ok (.iload_n 1, 1) := by decide +kernel
theorem dX11_chance_153 : decode cX11_chance 153 = .ok (.imul, 1) := by decide +kernel
theorem dX11_chance_154 : decode cX11_chance 154 = .ok (.iadd, 1) := by decide +kernel
theorem dX11_chance_155 : decode cX11_chance 155 = .ok (.iconst 1, 1) := by decide +kernel
theorem dX11_chance_156 : decode cX11_chance 156 = .ok (.iadd, 1) := by decide +kernel
theorem dX11_chance_157 : decode cX11_chance 157 = .ok (.iload 4, 2) := by decide +kernel
theorem dX11_chance_159 : decode cX11_chance 159 = .ok (.iastore, 1) := by decide +kernel
theorem dX11_chance_160 : decode cX11_chance 160 = .ok (.iinc 1 1, 3) := by decide +kernel
theorem dX11_chance_163 : decode cX11_chance 163 = .ok (.iinc 2 1, 3) := by decide +kernel
theorem dX11_chance_166 : decode cX11_chance 166 = .ok (.goto (-162), 3) := by decide +kernel
theorem dX11_chance_169 : decode cX11_chance 169 = .ok (.aload_n 0, 1) := by decide +kernel
theorem dX11_chance_170 : decode cX11_chance 170 = .ok (.getfield 7, 3) := by decide +kernel
theorem dX11_chance_173 : decode cX11_chance 173 = .ok (.bipush 41, 2) := by decide +kernel
theorem dX11_chance_175 : decode cX11_chance 175 = .ok (.iload_n 1, 1) := by decide +kernel
theorem dX11_chance_176 : decode cX11_chance 176 = .ok (.iastore, 1) := by decide +kernel
theorem dX11_chance_177 : decode cX11_chance 177 = .ok (.return_, 1) := by decide +kernel
theorem dX11_isAhead_0 : decode cX11_isAhead 0 = .ok (.aload_n 0, 1) := by decide +kernel
theorem dX11_isAhead_1 : decode cX11_isAhead 1 = .ok (.getfield 7, 3) := by decide +kernel
theorem dX11_isAhead_4 : decode cX11_isAhead 4 = .ok (.iload_n 1, 1) := by decide +kernel
theorem dX11_isAhead_5 : decode cX11_isAhead 5 = .ok (.iconst 1, 1) := by decide +kernel
theorem dX11_isAhead_6 : decode cX11_isAhead 6 = .ok (.iadd, 1) := by decide +kernel
theorem dX11_isAhead_7 : decode cX11_isAhead 7 = .ok (.iaload, 1) := by decide +kernel
theorem dX11_isAhead_8 : decode cX11_isAhead 8 = .ok (.aload_n 0, 1) := by decide +kernel
theorem dX11_isAhead_9 : decode cX11_isAhead 9 = .ok (.getfield 7, 3) := by decide +kernel
theorem dX11_isAhead_12 : decode cX11_isAhead 12 = .ok (.iload_n 1, 1) := by decide +kernel
theorem dX11_isAhead_13 : decode cX11_isAhead 13 = .ok (.iconst 3, 1) := by decide +kernel
theorem dX11_isAhead_14 : decode cX11_isAhead 14 = .ok (.isub, 1) := by decide +kernel
theorem dX11_isAhead_15 : decode cX11_isAhead 15 = .ok (.iaload, 1) := by decide +kernel
theorem dX11_isAhead_16 : decode cX11_isAhead 16 = .ok (.if_icmp .eq 28, 3) := by decide +kernel
theorem dX11_isAhead_19 : decode cX11_isAhead 19 = .ok (.aload_n 0, 1) := by decide +kernel
theorem dX11_isAhead_20 : decode cX11_isAhead 20 = .ok (.getfield 7, 3) := by decide +kernel
theorem dX11_isAhead_23 : decode cX11_isAhead 23 = .ok (.iload_n 1, 1) := by decide +kernel
theorem dX11_isAhead_24 : decode cX11_isAhead 24 = .ok (.iconst 1, 1) := by decide +kernel
theorem dX11_isAhead_25 : decode cX11_isAhead 25 = .ok (.iadd, 1) := by decide +kernel
theorem dX11_isAhead_26 : decode cX11_isAhead 26 = .ok (.iaload, 1) := by decide +kernel
theorem dX11_isAhead_27 : decode cX11_isAhead 27 = .ok (.aload_n 0, 1) := by decide +kernel
theorem dX11_isAhead_28 : decode cX11_isAhead 28 = .ok (.getfield 7, 3) := by decide +kernel
theorem dX11_isAhead_31 : decode cX11_isAhead 31 = .ok (.iload_n 1, 1) := by decide +kernel
theorem dX11_isAhead_32 : decode cX11_isAhead 32 = .ok (.iconst 3, 1) := by decide +kernel
theorem dX11_isAhead_33 : decode cX11_isAhead 33 = .ok (.isub, 1) := by decide +kernel
theorem dX11_isAhead_34 : decode cX11_isAhead 34 = .ok (.iaload, 1) := by decide +kernel
theorem dX11_isAhead_35 : decode cX11_isAhead 35 = .ok (.if_icmp .ge 7, 3) := by decide +kernel
theorem dX11_isAhead_38 : decode cX11_isAhead 38 = .ok (.iconst 1, 1) := by decide +kernel
theorem dX11_isAhead_39 : decode cX11_isAhead 39 = .ok (.goto 4, 3) := by decide +kernel
theorem dX11_isAhead_42 : decode cX11_isAhead 42 = .ok (.iconst 0, 1) := by decide +kernel
theorem dX11_isAhead_43 : decode cX11_isAhead 43 = .ok (.ireturn, 1) := by decide +kernel
theorem dX11_isAhead_44 : decode cX11_isAhead 44 = .ok (.aload_n 0, 1) := by decide +kernel
theorem dX11_isAhead_45 : decode cX11_isAhead 45 = .ok (.getfield 7, 3) := by decide +kernel
theorem dX11_isAhead_48 : decode cX11_isAhead 48 = .ok (.iload_n 1, 1) := by decide +kernel
theorem dX11_isAhead_49 : decode cX11_isAhead 49 = .ok (.iconst 2, 1) := by decide +kernel
theorem dX11_isAhead_50 : decode cX11_isAhead 50 = .ok (.iadd, 1) := by decide +kernel
theorem dX11_isAhead_51 : decode cX11_isAhead 51 = .ok (.iaload, 1) := by decide +kernel
theorem dX11_isAhead_52 : decode cX11_isAhead 52 = .ok (.aload_n 0, 1) := by decide +kernel
theorem dX11_isAhead_53 : decode cX11_isAhead 53 = .ok (.getfield 7, 3) := by decide +kernel
theorem dX11_isAhead_56 : decode cX11_isAhead 56 = .ok (.iload_n 1, 1) := by decide +kernel
theorem dX11_isAhead_57 : decode cX11_isAhead 57 = .ok (.iconst 2, 1) := by decide +kernel
theorem dX11_isAhead_58 : decode cX11_isAhead 58 = .ok (.isub, 1) := by decide +kernel
theorem dX11_isAhead_59 : decode cX11_isAhead 59 = .ok (.iaload, 1) := by decide +kernel
theorem dX11_isAhead_60 : decode cX11_isAhead 60 = .ok (.if_icmp .ne 28, 3) := by decide +kernel
theorem dX11_isAhead_63 : decode cX11_isAhead 63 = .ok (.aload_n 0, 1) := by decide +kernel
theorem dX11_isAhead_64 : decode cX11_isAhead 64 = .ok (.getfield 7, 3) := by decide +kernel
theorem dX11_isAhead_67 : decode cX11_isAhead 67 = .ok (.iload_n 1, 1) := by decide +kernel
theorem dX11_isAhead_68 : decode cX11_isAhead 68 = .ok (.iaload, 1) := by decide +kernel
theorem dX11_isAhead_69 : decode cX11_isAhead 69 = .ok (.aload_n 0, 1) := by decide +kernel
theorem dX11_isAhead_70 : decode cX11_isAhead 70 = .ok (.getfield 7, 3) := by decide +kernel
theorem dX11_isAhead_73 : decode cX11_isAhead 73 = .ok (.iload_n 1, 1) := by decide +kernel
theorem dX11_isAhead_74 : decode cX11_isAhead 74 = .ok (.iconst 4, 1) := by decide +kernel
theorem dX11_isAhead_75 : decode cX11_isAhead 75 = .ok (.isub, 1) := by decide +kernel
theorem dX11_isAhead_76 : decode cX11_isAhead 76 = .ok (.iaload, 1) := by decide +kernel
theorem dX11_isAhead_77 : decode cX11_isAhead 77 = .ok (.if_icmp .ge 7, 3) := by decide +kernel
theorem dX11_isAhead_80 : decode cX11_isAhead 80 = .ok (.iconst 1, 1) := by decide +kernel
theorem dX11_isAhead_81 : decode cX11_isAhead 81 = .ok (.goto 31, 3) := by decide +kernel
theorem dX11_isAhead_84 : decode cX11_isAhead 84 = .ok (.iconst 0, 1) := by decide +kernel
theorem dX11_isAhead_85 : decode cX11_isAhead 85 = .ok (.goto 27, 3) := by decide +kernel
theorem dX11_isAhead_88 : decode cX11_isAhead 88 = .ok (.aload_n 0, 1) := by decide +kernel
theorem dX11_isAhead_89 : decode cX11_isAhead 89 = .ok (.getfield 7, 3) := by decide +kernel
theorem dX11_isAhead_92 : decode cX11_isAhead 92 = .ok (.iload_n 1, 1) := by decide +kernel
theorem dX11_isAhead_93 : decode cX11_isAhead 93 = .ok (.iconst 2, 1) := by decide +kernel
theorem dX11_isAhead_94 : decode cX11_isAhead 94 = .ok (.iadd, 1) := by decide +kernel
theorem dX11_isAhead_95 : decode cX11_isAhead 95 = .ok (.iaload, 1) := by decide +kernel
theorem dX11_isAhead_96 : decode cX11_isAhead 96 = .ok (.aload_n 0, 1) := by decide +kernel
theorem dX11_isAhead_97 : decode cX11_isAhead 97 = .ok (.getfield 7, 3) := by decide +kernel
theorem dX11_isAhead_100 : decode cX11_isAhead 100 = .ok (.iload_n 1, 1) := by decide +kernel
theorem dX11_isAhead_101 : decode cX11_isAhead 101 = .ok (.iconst 2, 1) := by decide +kernel
theorem dX11_isAhead_102 : decode cX11_isAhead 102 = .ok (.isub, 1) := by decide +kernel
theorem dX11_isAhead_103 : decode cX11_isAhead 103 = .ok (.iaload, 1) := by decide +kernel
theorem dX11_isAhead_104 : decode cX11_isAhead 104 = .ok (.if_icmp .le 7, 3) := by decide +kernel
theorem dX11_isAhead_107 : decode cX11_isAhead 107 = .ok (.iconst 1, 1) := by decide +kernel
theorem dX11_isAhead_108 : decode cX11_isAhead 108 = .ok (.goto 4, 3) := by decide +kernel
theorem dX11_isAhead_111 : decode cX11_isAhead 111 = .ok (.iconst 0, 1) := by decide +kernel
theorem dX11_isAhead_112 : decode cX11_isAhead 112 = .ok (.ireturn, 1) := by decide +kernel
theorem dX11_orders_0 : decode cX11_orders 0 = .ok (.iconst 1, 1) := by decide +kernel
theorem dX11_orders_1 : decode cX11_orders 1 = .ok (.istore_n 1, 1) := by decide +kernel
theorem dX11_orders_2 : decode cX11_orders 2 = .ok (.iload_n 1, 1) := by decide +kernel
theorem dX11_orders_3 : decode cX11_orders 3 = .ok (.aload_n 0, 1) := by decide +kernel
theorem dX11_orders_4 : decode cX11_orders 4 = .ok (.getfield 7, 3) := by decide +kernel
theorem dX11_orders_7 : decode cX11_orders 7 = .ok (.bipush 41, 2) := by decide +kernel
theorem dX11_orders_9 : decode cX11_orders 9 = .ok (.iaload, 1) := by decide +kernel
theorem dX11_orders_10 : decode cX11_orders 10 = .ok (.if_icmp .ge 89, 3) := by decide +kernel
theorem dX11_orders_13 : decode cX11_orders 13 = .ok (.bipush 42, 2) := by decide +kernel
theorem dX11_orders_15 : decode cX11_orders 15 = .ok (.iconst 4, 1) := by decide +kernel
theorem dX11_orders_16 : decode cX11_orders 16 = .ok (.iload_n 1, 1) := by decide +kernel
theorem dX11_orders_17 : decode cX11_orders 17 = .ok (.imul, 1) := by decide +kernel
theorem dX11_orders_18 : decode cX11_orders 18 = .ok (.iadd, 1) := by decide +kernel
theorem dX11_orders_19 : decode cX11_orders 19 = .ok (.istore_n 2, 1) := by decide +kernel
theorem dX11_orders_20 : decode cX11_orders 20 = .ok (.iload_n 2, 1) := by decide +kernel
theorem dX11_orders_21 : decode cX11_orders 21 = .ok (.bipush 42, 2) := by decide +kernel
theorem dX11_orders_23 : decode cX11_orders 23 = .ok (.if_icmp .le 70, 3) := by decide +kernel
theorem dX11_orders_26 : decode cX11_orders 26 = .ok (.aload_n 0, 1) := by decide +kernel
theorem dX11_orders_27 : decode cX11_orders 27 = .ok (.iload_n 2, 1) := by decide +kernel
theorem dX11_orders_28 : decode cX11_orders 28 = .ok (.invokevirtual 67, 3) := by decide +kernel
theorem dX11_orders_31 : decode cX11_orders 31 = .ok (.ifCond .eq 62, 3) := by decide +kernel
theorem dX11_orders_34 : decode cX11_orders 34 = .ok (.iconst 0, 1) := by decide +kernel
theorem dX11_orders_35 : decode cX11_orders 35 = .ok (.istore_n 3, 1) := by decide +kernel
theorem dX11_orders_36 : decode cX11_orders 36 = .ok (.iload_n 3, 1) := by decide +kernel
theorem dX11_orders_37 : decode cX11_orders 37 = .ok (.iconst 4, 1) := by decide +kernel
theorem dX11_orders_38 : decode cX11_orders 38 = .ok (.if_icmp .ge 49, 3) := by decide +kernel
theorem dX11_orders_41 : decode cX11_orders 41 = .ok (.aload_n 0, 1) := by decide +kernel
theorem dX11_orders_42 : decode cX11_orders 42 = .ok (.getfield 7, 3) := by decide +kernel
theorem dX11_orders_45 : decode cX11_orders 45 = .ok (.iload_n 2, 1) := by decide +kernel
theorem dX11_orders_46 : decode cX11_orders 46 = .ok (.iload_n 3, 1) := by decide +kernel
theorem dX11_orders_47 : decode cX11_orders 47 = .ok (.iadd, 1) := by decide +kernel
theorem dX11_orders_48 : decode cX11_orders 48 = .ok (.iaload, 1) := by decide +kernel
theorem dX11_orders_49 : decode cX11_orders 49 = .ok (.istore 4, 2) := by decide +kernel
theorem dX11_orders_51 : decode cX11_orders 51 = .ok (.aload_n 0, 1) := by decide +kernel
theorem dX11_orders_52 : decode cX11_orders 52 = .ok (.getfield 7, 3) := by decide +kernel
theorem dX11_orders_55 : decode cX11_orders 55 = .ok (.iload_n 2, 1) := by decide +kernel
theorem dX11_orders_56 : decode cX11_orders 56 = .ok (.iload_n 3, 1) := by decide +kernel
theorem dX11_orders_57 : decode cX11_orders 57 = .ok (.iadd, 1) := by decide +kernel
theorem dX11_orders_58 : decode cX11_orders 58 = .ok (.aload_n 0, 1) := by decide +kernel
theorem dX11_orders_59 : decode cX11_orders 59 = .ok (.getfield 7, 3) := by decide +kernel
theorem dX11_orders_62 : decode cX11_orders 62 = .ok (.iload_n 2, 1) := by decide +kernel
theorem dX11_orders_63 : decode cX11_orders 63 = .ok (.iload_n 3, 1) := by decide +kernel
theorem dX11_orders_64 : decode cX11_orders 64 = .ok (.iadd, 1) := by decide +kernel
theorem dX11_orders_65 : decode cX11_orders 65 = .ok (.iconst 4, 1) := by decide +kernel
theorem dX11_orders_66 : decode cX11_orders 66 = .ok (.isub, 1) := by decide +kernel
theorem dX11_orders_67 : decode cX11_orders 67 = .ok (.iaload, 1) := by decide +kernel
theorem dX11_orders_68 : decode cX11_orders 68 = .ok (.iastore, 1) := by decide +kernel
theorem dX11_orders_69 : decode cX11_orders 69 = .ok (.aload_n 0, 1) := by decide +kernel
theorem dX11_orders_70 : decode cX11_orders 70 = .ok (.getfield 7, 3) := by decide +kernel
theorem dX11_orders_73 : decode cX11_orders 73 = .ok (.iload_n 2, 1) := by decide +kernel
theorem dX11_orders_74 : decode cX11_orders 74 = .ok (.iload_n 3, 1) := by decide +kernel
theorem dX11_orders_75 : decode cX11_orders 75 = .ok (.iadd, 1) := by decide +kernel
theorem dX11_orders_76 : decode cX11_orders 76 = .ok (.iconst 4, 1) := by decide +kernel
theorem dX11_orders_77 : decode cX11_orders 77 = .ok (.isub, 1) := by decide +kernel
theorem dX11_orders_78 : decode cX11_orders 78 = .ok (.iload 4, 2) := by decide +kernel
theorem dX11_orders_80 : decode cX11_orders 80 = .ok (.iastore, 1) := by decide +kernel
theorem dX11_orders_81 : decode cX11_orders 81 = .ok (.iinc 3 1, 3) := by decide +kernel
theorem dX11_orders_84 : decode cX11_orders 84 = .ok (.goto (-48), 3) := by decide +kernel
theorem dX11_orders_87 : decode cX11_orders 87 = .ok (.iinc 2 (-4), 3) := by decide +kernel
theorem dX11_orders_90 : decode cX11_orders 90 = .ok (.goto (-70), 3) := by decide +kernel
theorem dX11_orders_93 : decode cX11_orders 93 = .ok (.iinc 1 1, 3) := by decide +kernel
theorem dX11_orders_96 : decode cX11_orders 96 = .ok (.goto (-94), 3) := by decide +kernel
theorem dX11_orders_99 : decode cX11_orders 99 = .ok (.return_, 1) := by decide +kernel
theorem dX11_fires_0 : decode cX11_fires 0 = .ok (.aload_n 0, 1) := by decide +kernel
theorem dX11_fires_1 : decode cX11_fires 1 = .ok (.getfield 7, 3) := by decide +kernel
theorem dX11_fires_4 : decode cX11_fires 4 = .ok (.iconst 1, 1) := by decide +kernel
theorem dX11_fires_5 : decode cX11_fires 5 = .ok (.iaload, 1) := by decide +kernel
theorem dX11_fires_6 : decode cX11_fires 6 = .ok (.aload_n 0, 1) := by decide +kernel
theorem dX11_fires_7 : decode cX11_fires 7 = .ok (.getfield 7, 3) := by decide +kernel
theorem dX11_fires_10 : decode cX11_fires 10 = .ok (.iconst 2, 1) := by decide +kernel
theorem dX11_fires_11 : decode cX11_fires 11 = .ok (.iaload, 1) := by decide +kernel
theorem dX11_fires_12 : decode cX11_fires 12 = .ok (.iadd, 1) := by decide +kernel
theorem dX11_fires_13 : decode cX11_fires 13 = .ok (.istore_n 1, 1) := by decide +kernel
theorem dX11_fires_14 : decode cX11_fires 14 = .ok (.aload_n 0, 1) := by decide +kernel
theorem dX11_fires_15 : decode cX11_fires 15 = .ok (.getfield 7, 3) := by decide +kernel
theorem dX11_fires_18 : decode cX11_fires 18 = .ok (.iconst 1, 1) := by decide +kernel
theorem dX11_fires_19 : decode cX11_fires 19 = .ok (.iload_n 1, 1) := by decide +kernel
theorem dX11_fires_20 : decode cX11_fires 20 = .ok (.ifCond .ge 7, 3) := by decide +kernel
theorem dX11_fires_23 : decode cX11_fires 23 = .ok (.iconst 0, 1) := by decide +kernel
theorem dX11_fires_24 : decode cX11_fires 24 = .ok (.goto 23, 3) := by decide +kernel
theorem dX11_fires_27 : decode cX11_fires 27 = .ok (.iload_n 1, 1) := by decide +kernel
theorem dX11_fires_28 : decode cX11_fires 28 = .ok (.aload_n 0, 1) := by decide +kernel
theorem dX11_fires_29 : decode cX11_fires 29 = .ok (.getfield 7, 3) := by decide +kernel
theorem dX11_fires_32 : decode cX11_fires 32 = .ok (.iconst 0, 1) := by decide +kernel
theorem dX11_fires_33 : decode cX11_fires 33 = .ok (.iaload, 1) := by decide +kernel
theorem dX11_fires_34 : decode cX11_fires 34 = .ok (.if_icmp .le 12, 3) := by decide +kernel
theorem dX11_fires_37 : decode cX11_fires 37 = .ok (.aload_n 0, 1) := by decide +kernel
theorem dX11_fires_38 : decode cX11_fires 38 = .ok (.getfield 7, 3) := by decide +kernel
theorem dX11_fires_41 : decode cX11_fires 41 = .ok (.iconst 0, 1) := by decide +kernel
theorem dX11_fires_42 : decode cX11_fires 42 = .ok (.iaload, 1) := by decide +kernel
theorem dX11_fires_43 : decode cX11_fires 43 = .ok (.goto 4, 3) := by decide +kernel
theorem dX11_fires_46 : decode cX11_fires 46 = .ok (.iload_n 1, 1) := by decide +kernel
theorem dX11_fires_47 : decode cX11_fires 47 = .ok (.iastore, 1) := by decide +kernel
theorem dX11_fires_48 : decode cX11_fires 48 = .ok (.aload_n 0, 1) := by decide +kernel
theorem dX11_fires_49 : decode cX11_fires 49 = .ok (.getfield 7, 3) := by decide +kernel
theorem dX11_fires_52 : decode cX11_fires 52 = .ok (.bipush 8, 2) := by decide +kernel
theorem dX11_fires_54 : decode cX11_fires 54 = .ok (.aload_n 0, 1) := by decide +kernel
theorem dX11_fires_55 : decode cX11_fires 55 = .ok (.getfield 7, 3) := by decide +kernel
theorem dX11_fires_58 : decode cX11_fires 58 = .ok (.bipush 8, 2) := by decide +kernel
theorem dX11_fires_60 : decode cX11_fires 60 = .ok (.iaload, 1) := by decide +kernel
theorem dX11_fires_61 : decode cX11_fires 61 = .ok (.aload_n 0, 1) := by decide +kernel
theorem dX11_fires_62 : decode cX11_fires 62 = .ok (.getfield 7, 3) := by decide +kernel
theorem dX11_fires_65 : decode cX11_fires 65 = .ok (.bipush 9, 2) := by decide +kernel
theorem dX11_fires_67 : decode cX11_fires 67 = .ok (.iaload, 1) := by decide +kernel
theorem dX11_fires_68 : decode cX11_fires 68 = .ok (.iadd, 1) := by decide +kernel
theorem dX11_fires_69 : decode cX11_fires 69 = .ok (.sipush 360, 3) := by decide +kernel
theorem dX11_fires_72 : decode cX11_fires 72 = .ok (.irem, 1) := by decide +kernel
theorem dX11_fires_73 : decode cX11_fires 73 = .ok (.iastore, 1) := by decide +kernel
theorem dX11_fires_74 : decode cX11_fires 74 = .ok (.aload_n 0, 1) := by decide +kernel
theorem dX11_fires_75 : decode cX11_fires 75 = .ok (.invokevirtual 71, 3) := by decide +kernel
theorem dX11_fires_78 : decode cX11_fires 78 = .ok (.aload_n 0, 1) := by decide +kernel
theorem dX11_fires_79 : decode cX11_fires 79 = .ok (.invokevirtual 74, 3) := by decide +kernel
theorem dX11_fires_82 : decode cX11_fires 82 = .ok (.aload_n 0, 1) := by decide +kernel
theorem dX11_fires_83 : decode cX11_fires 83 = .ok (.invokevirtual 77, 3) := by decide +kernel
theorem dX11_fires_86 : decode cX11_fires 86 = .ok (.return_, 1) := by decide +kernel
theorem dX11_needOf_0 : decode cX11_needOf 0 = .ok (.iconst 1, 1) := by decide +kernel
theorem dX11_needOf_1 : decode cX11_needOf 1 = .ok (.aload_n 0, 1) := by decide +kernel
theorem dX11_needOf_2 : decode cX11_needOf 2 = .ok (.getfield 7, 3) := by decide +kernel
theorem dX11_needOf_5 : decode cX11_needOf 5 = .ok (.bipush 14, 2) := by decide +kernel
theorem dX11_needOf_7 : decode cX11_needOf 7 = .ok (.iaload, 1) := by decide +kernel
theorem dX11_needOf_8 : decode cX11_needOf 8 = .ok (.iload_n 1, 1) := by decide +kernel
theorem dX11_needOf_9 : decode cX11_needOf 9 = .ok (.aload_n 0, 1) := by decide +kernel
theorem dX11_needOf_10 : decode cX11_needOf 10 = .ok (.getfield 7, 3) := by decide +kernel
theorem dX11_needOf_13 : decode cX11_needOf 13 = .ok (.bipush 15, 2) := by decide +kernel
theorem dX11_needOf_15 : decode cX11_needOf 15 = .ok (.iaload, 1) := by decide +kernel
theorem dX11_needOf_16 : decode cX11_needOf 16 = .ok (.imul, 1) := by decide +kernel
theorem dX11_needOf_17 : decode cX11_needOf 17 = .ok (.sipush 1000, 3) := by decide +kernel
theorem dX11_needOf_20 : decode cX11_needOf 20 = .ok (.idiv, 1) := by decide +kernel
theorem dX11_needOf_21 : decode cX11_needOf 21 = .ok (.isub, 1) := by decide +kernel
theorem dX11_needOf_22 : decode cX11_needOf 22 = .ok (.invokestatic 60, 3) := by decide +kernel
theorem dX11_needOf_25 : decode cX11_needOf 25 = .ok (.ireturn, 1) := by decide +kernel
theorem dX11_isCandidate_0 : decode cX11_isCandidate 0 = .ok (.aload_n 0, 1) := by decide +kernel
theorem dX11_isCandidate_1 : decode cX11_isCandidate 1 = .ok (.getfield 7, 3) := by decide +kernel
theorem dX11_isCandidate_4 : decode cX11_isCandidate 4 = .ok (.iload_n 1, 1) := by decide +kernel
theorem dX11_isCandidate_5 : decode cX11_isCandidate 5 = .ok (.iconst 1, 1) := by decide +kernel
theorem dX11_isCandidate_6 : decode cX11_isCandidate 6 = .ok (.iadd, 1) := by decide +kernel
theorem dX11_isCandidate_7 : decode cX11_isCandidate 7 = .ok (.iaload, 1) := by decide +kernel
theorem dX11_isCandidate_8 : decode cX11_isCandidate 8 = .ok (.aload_n 0, 1) := by decide +kernel
theorem dX11_isCandidate_9 : decode cX11_isCandidate 9 = .ok (.getfield 7, 3) := by decide +kernel
theorem dX11_isCandidate_12 : decode cX11_isCandidate 12 = .ok (.iconst 0, 1) := by decide +kernel
theorem dX11_isCandidate_13 : decode cX11_isCandidate 13 = .ok (.iaload, 1) := by decide +kernel
theorem dX11_isCandidate_14 : decode cX11_isCandidate 14 = .ok (.if_icmp .gt 53, 3) := by decide +kernel
theorem dX11_isCandidate_17 : decode cX11_isCandidate 17 = .ok (.aload_n 0, 1) := by decide +kernel
theorem dX11_isCandidate_18 : decode cX11_isCandidate 18 = .ok (.getfield 7, 3) := by decide +kernel
theorem dX11_isCandidate_21 : decode cX11_isCandidate 21 = .ok (.sipush 146, 3) := by decide +kernel
theorem dX11_isCandidate_24 : decode cX11_isCandidate 24 = .ok (.aload_n 0, 1) := by decide +kernel
theorem dX11_isCandidate_25 : decode cX11_isCandidate 25 = .ok (.getfield 7, 3) := by decide +kernel
theorem dX11_isCandidate_28 : decode cX11_isCandidate 28 = .ok (.iload_n 1, 1) := by decide +kernel
theorem dX11_isCandidate_29 : decode cX11_isCandidate 29 = .ok (.iconst 1, 1) := by decide +kernel
theorem dX11_isCandidate_30 : decode cX11_isCandidate 30 = .ok (.iadd, 1) := by decide +kernel
theorem dX11_isCandidate_31 : decode cX11_isCandidate 31 = .ok (.iaload, 1) := by decide +kernel
theorem dX11_isCandidate_32 : decode cX11_isCandidate 32 = .ok (.bipush 20, 2) := by decide +kernel
theorem dX11_isCandidate_34 : decode cX11_isCandidate 34 = .ok (.idiv, 1) := by decide +kernel
theorem dX11_isCandidate_35 : decode cX11_isCandidate 35 = .ok (.iadd, 1) := by decide +kernel
theorem dX11_isCandidate_36 : decode cX11_isCandidate 36 = .ok (.iaload, 1) := by decide +kernel
theorem dX11_isCandidate_37 : decode cX11_isCandidate 37 = .ok (.ifCond .ne 30, 3) := by decide +kernel
theorem dX11_isCandidate_40 : decode cX11_isCandidate 40 = .ok (.aload_n 0, 1) := by decide +kernel
theorem dX11_isCandidate_41 : decode cX11_isCandidate 41 = .ok (.getfield 7, 3) := by decide +kernel
theorem dX11_isCandidate_44 : decode cX11_isCandidate 44 = .ok (.iload_n 1, 1) := by decide +kernel
theorem dX11_isCandidate_45 : decode cX11_isCandidate 45 = .ok (.iconst 2, 1) := by decide +kernel
theorem dX11_isCandidate_46 : decode cX11_isCandidate 46 = .ok (.iadd, 1) := by decide +kernel
theorem dX11_isCandidate_47 : decode cX11_isCandidate 47 = .ok (.iaload, 1) := by decide +kernel
theorem dX11_isCandidate_48 : decode cX11_isCandidate 48 = .ok (.aload_n 0, 1) := by decide +kernel
theorem dX11_isCandidate_49 : decode cX11_isCandidate 49 = .ok (.aload_n 0, 1) := by decide +kernel
theorem dX11_isCandidate_50 : decode cX11_isCandidate 50 = .ok (.getfield 7, 3) := by decide +kernel
theorem dX11_isCandidate_53 : decode cX11_isCandidate 53 = .ok (.iload_n 1, 1) := by decide +kernel
theorem dX11_isCandidate_54 : decode cX11_isCandidate 54 = .ok (.iconst 1, 1) := by decide +kernel
theorem dX11_isCandidate_55 : decode cX11_isCandidate 55 = .ok (.iadd, 1) := by decide +kernel
theorem dX11_isCandidate_56 : decode cX11_isCandidate 56 = .ok (.iaload, 1) := by decide +kernel
theorem dX11_isCandidate_57 : decode cX11_isCandidate 57 = .ok (.invokevirtual 80, 3) := by decide +kernel
theorem dX11_isCandidate_60 : decode cX11_isCandidate 60 = .ok (.if_icmp .lt 7, 3) := by decide +kernel
theorem dX11_isCandidate_63 : decode cX11_isCandidate 63 = .ok (.iconst 1, 1) := by decide +kernel
theorem dX11_isCandidate_64 : decode cX11_isCandidate 64 = .ok (.goto 4, 3) := by decide +kernel
theorem dX11_isCandidate_67 : decode cX11_isCandidate 67 = .ok (.iconst 0, 1) := by decide +kernel
theorem dX11_isCandidate_68 : decode cX11_isCandidate 68 = .ok (.ireturn, 1) := by decide +kernel
theorem dX11_hadNear_0 : decode cX11_hadNear 0 = .ok (.bipush 102, 2) := by decide +kernel
theorem dX11_hadNear_2 : decode cX11_hadNear 2 = .ok (.bipush 16, 2) := by decide +kernel
theorem dX11_hadNear_4 : decode cX11_hadNear 4 = .ok (.iload_n 1, 1) := by decide +kernel
theorem dX11_hadNear_5 : decode cX11_hadNear 5 = .ok (.imul, 1) := by decide +kernel
theorem dX11_hadNear_6 : decode cX11_hadNear 6 = .ok (.iadd, 1) := by decide +kernel
theorem dX11_hadNear_7 : decode cX11_hadNear 7 = .ok (.istore_n 3, 1) := by decide +kernel
theorem dX11_hadNear_8 : decode cX11_hadNear 8 = .ok (.iconst 0, 1) := by decide +kernel
theorem dX11_hadNear_9 : decode cX11_hadNear 9 = .ok (.istore 4, 2) := by decide +kernel
theorem dX11_hadNear_11 : decode cX11_hadNear 11 = .ok (.iconst 0, 1) := by decide +kernel
theorem dX11_hadNear_12 : decode cX11_hadNear 12 = .ok (.istore 5, 2) := by decide +kernel
theorem dX11_hadNear_14 : decode cX11_hadNear 14 = .ok (.iload 5, 2) := by decide +kernel
theorem dX11_hadNear_16 : decode cX11_hadNear 16 = .ok (.aload_n 0, 1) := by decide +kernel
theorem dX11_hadNear_17 : decode cX11_hadNear 17 = .ok (.getfield 7, 3) := by decide +kernel
theorem dX11_hadNear_20 : decode cX11_hadNear 20 = .ok (.iload_n 3, 1) := by decide +kernel
theorem dX11_hadNear_21 : decode cX11_hadNear 21 = .ok (.iaload, 1) := by decide +kernel
theorem dX11_hadNear_22 : decode cX11_hadNear 22 = .ok (.if_icmp .ge 41, 3) := by decide +kernel
theorem dX11_hadNear_25 : decode cX11_hadNear 25 = .ok (.iload 4, 2) := by decide +kernel
theorem dX11_hadNear_27 : decode cX11_hadNear 27 = .ok (.ifCond .ne 23, 3) := by decide +kernel
theorem dX11_hadNear_30 : decode cX11_hadNear 30 = .ok (.aload_n 0, 1) := by decide +kernel
theorem dX11_hadNear_31 : decode cX11_hadNear 31 = .ok (.getfield 7, 3) := by decide +kernel
theorem dX11_hadNear_34 : decode cX11_hadNear 34 = .ok (.iload_n 3, 1) := by decide +kernel
theorem dX11_hadNear_35 : decode cX11_hadNear 35 = .ok (.iconst 1, 1) := by decide +kernel
theorem dX11_hadNear_36 : decode cX11_hadNear 36 = .ok (.iadd, 1) := by decide +kernel
theorem dX11_hadNear_37 : decode cX11_hadNear 37 = .ok (.iload 5, 2) := by decide +kernel
theorem dX11_hadNear_39 : decode cX11_hadNear 39 = .ok (.iadd, 1) := by decide +kernel
theorem dX11_hadNear_40 : decode cX11_hadNear 40 = .ok (.iaload, 1) := by decide +kernel
theorem dX11_hadNear_41 : decode cX11_hadNear 41 = .ok (.iload_n 2, 1) := by decide +kernel
theorem dX11_hadNear_42 : decode cX11_hadNear 42 = .ok (.invokestatic 83, 3) := by decide +kernel
theorem dX11_hadNear_45 : decode cX11_hadNear 45 = .ok (.bipush 15, 2) := by decide +kernel
theorem dX11_hadNear_47 : decode cX11_hadNear 47 = .ok (.if_icmp .gt 7, 3) := by decide +kernel
theorem dX11_hadNear_50 : decode cX11_hadNear 50 = .ok (.iconst 1, 1) := by decide +kernel
theorem dX11_hadNear_51 : decode cX11_hadNear 51 = .ok (.goto 4, 3) := by decide +kernel
theorem dX11_hadNear_54 : decode cX11_hadNear 54 = .ok (.iconst 0, 1) := by decide +kernel
theorem dX11_hadNear_55 : decode cX11_hadNear 55 = .ok (.istore 4, 2) := by decide +kernel
theorem dX11_hadNear_57 : decode cX11_hadNear 57 = .ok (.iinc 5 1, 3) := by decide +kernel
theorem dX11_hadNear_60 : decode cX11_hadNear 60 = .ok (.goto (-46), 3) := by decide +kernel
theorem dX11_hadNear_63 : decode cX11_hadNear 63 = .ok (.iload 4, 2) := by decide +kernel
theorem dX11_hadNear_65 : decode cX11_hadNear 65 = .ok (.ireturn, 1) := by decide +kernel
theorem dX11_looks_0 : decode cX11_looks 0 = .ok (.iconst 0, 1) := by decide +kernel
theorem dX11_looks_1 : decode cX11_looks 1 = .ok (.istore_n 1, 1) := by decide +kernel
theorem dX11_looks_2 : decode cX11_looks 2 = .ok (.iload_n 1, 1) := by decide +kernel
theorem dX11_looks_3 : decode cX11_looks 3 = .ok (.aload_n 0, 1) := by decide +kernel
theorem dX11_looks_4 : decode cX11_looks 4 = .ok (.getfield 7, 3) := by decide +kernel
theorem dX11_looks_7 : decode cX11_looks 7 = .ok (.bipush 41, 2) := by decide +kernel
theorem dX11_looks_9 : decode cX11_looks 9 = .ok (.iaload, 1) := by decide +kernel
theorem dX11_looks_10 : decode cX11_looks 10 = .ok (.if_icmp .ge 146, 3) := by decide +kernel
theorem dX11_looks_13 : decode cX11_looks 13 = .ok (.bipush 42, 2) := by decide +kernel
theorem dX11_looks_15 : decode cX11_looks 15 = .ok (.iconst 4, 1) := by decide +kernel
theorem dX11_looks_16 : decode cX11_looks 16 = .ok (.iload_n 1, 1) := by decide +kernel
theorem dX11_looks_17 : decode cX11_looks 17 = .ok (.imul, 1) := by decide +kernel
theorem dX11_looks_18 : decode cX11_looks 18 = .ok (.iadd, 1) := by decide +kernel
theorem dX11_looks_19 : decode cX11_looks 19 = .ok (.istore_n 2, 1) := by decide +kernel
theorem dX11_looks_20 : decode cX11_looks 20 = .ok (.aload_n 0, 1) := by decide +kernel
theorem dX11_looks_21 : decode cX11_looks 21 = .ok (.iload_n 2, 1) := by decide +kernel
theorem dX11_looks_22 : decode cX11_looks 22 = .ok (.invokevirtual 86, 3) := by decide +kernel
theorem dX11_looks_25 : decode cX11_looks 25 = .ok (.ifCond .eq 125, 3) := by decide +kernel
theorem dX11_looks_28 : decode cX11_looks 28 = .ok (.aload_n 0, 1) := by decide +kernel
theorem dX11_looks_29 : decode cX11_looks 29 = .ok (.getfield 7, 3) := by decide +kernel
theorem dX11_looks_32 : decode cX11_looks 32 = .ok (.iload_n 2, 1) := by decide +kernel
theorem dX11_looks_33 : decode cX11_looks 33 = .ok (.iconst 1, 1) := by decide +kernel
theorem dX11_looks_34 : decode cX11_looks 34 = .ok (.iadd, 1) := by decide +kernel
theorem dX11_looks_35 : decode cX11_looks 35 = .ok (.iaload, 1) := by decide +kernel
theorem dX11_looks_36 : decode cX11_looks 36 = .ok (.istore_n 3, 1) := by decide +kernel
theorem dX11_looks_37 : decode cX11_looks 37 = .ok (.aload_n 0, 1) := by decide +kernel
theorem dX11_looks_38 : decode cX11_looks 38 = .ok (.getfield 7, 3) := by decide +kernel
theorem dX11_looks_41 : decode cX11_looks 41 = .ok (.bipush 16, 2) := by decide +kernel
theorem dX11_looks_43 : decode cX11_looks 43 = .ok (.iaload, 1) := by decide +kernel
theorem dX11_looks_44 : decode cX11_looks 44 = .ok (.iconst 1, 1) := by decide +kernel
theorem dX11_looks_45 : decode cX11_looks 45 = .ok (.if_icmp .ne 34, 3) := by decide +kernel
theorem dX11_looks_48 : decode cX11_looks 48 = .ok (.iload_n 3, 1) := by decide +kernel
theorem dX11_looks_49 : decode cX11_looks 49 = .ok (.aload_n 0, 1) := by decide +kernel
theorem dX11_looks_50 : decode cX11_looks 50 = .ok (.getfield 7, 3) := by decide +kernel
theorem dX11_looks_53 : decode cX11_looks 53 = .ok (.bipush 6, 2) := by decide +kernel
theorem dX11_looks_55 : decode cX11_looks 55 = .ok (.iaload, 1) := by decide +kernel
theorem dX11_looks_56 : decode cX11_looks 56 = .ok (.bipush 40, 2) := by decide +kernel
theorem dX11_looks_58 : decode cX11_looks 58 = .ok (.isub, 1) := by decide +kernel
theorem dX11_looks_59 : decode cX11_looks 59 = .ok (.aload_n 0, 1) := by decide +kernel
theorem dX11_looks_60 : decode cX11_looks 60 = .ok (.getfield 7, 3) := by decide +kernel
theorem dX11_looks_63 : decode cX11_looks 63 = .ok (.bipush 7, 2) := by decide +kernel
theorem dX11_looks_65 : decode cX11_looks 65 = .ok (.iaload, 1) := by decide +kernel
theorem dX11_looks_66 : decode cX11_looks 66 = .ok (.bipush 40, 2) := by decide +kernel
theorem dX11_looks_68 : decode cX11_looks 68 = .ok (.iadd, 1) := by decide +kernel
theorem dX11_looks_69 : decode cX11_looks 69 = .ok (.invokestatic 89, 3) := by decide +kernel
theorem dX11_looks_72 : decode cX11_looks 72 = .ok (.ifCond .eq 7, 3) := by decide +kernel
theorem dX11_looks_75 : decode cX11_looks 75 = .ok (.iconst 1, 1) := by decide +kernel
theorem dX11_looks_76 : decode cX11_looks 76 = .ok (.goto 4, 3) := by decide +kernel
theorem dX11_looks_79 : decode cX11_looks 79 = .ok (.iconst 0, 1) := by decide +kernel
theorem dX11_looks_80 : decode cX11_looks 80 = .ok (.istore 4, 2) := by decide +kernel
theorem dX11_looks_82 : decode cX11_looks 82 = .ok (.iload 4, 2) := by decide +kernel
theorem dX11_looks_84 : decode cX11_looks 84 = .ok (.ifCond .eq 25, 3) := by decide +kernel
theorem dX11_looks_87 : decode cX11_looks 87 = .ok (.aload_n 0, 1) := by decide +kernel
theorem dX11_looks_88 : decode cX11_looks 88 = .ok (.iconst 0, 1) := by decide +kernel
theorem dX11_looks_89 : decode cX11_looks 89 = .ok (.iload_n 3, 1) := by decide +kernel
theorem dX11_looks_90 : decode cX11_looks 90 = .ok (.invokevirtual 93, 3) := by decide +kernel
theorem dX11_looks_93 : decode cX11_looks 93 = .ok (.ifCond .eq 12, 3) := by decide +kernel
theorem dX11_looks_96 : decode cX11_looks 96 = .ok (.aload_n 0, 1) := by decide +kernel
theorem dX11_looks_97 : decode cX11_looks 97 = .ok (.iconst 1, 1) := by decide +kernel
theorem dX11_looks_98 : decode cX11_looks 98 = .ok (.iload_n 3, 1) := by decide +kernel
theorem dX11_looks_99 : decode cX11_looks 99 = .ok (.invokevirtual 93, 3) := by decide +kernel
theorem dX11_looks_102 : decode cX11_looks 102 = .ok (.ifCond .ne 7, 3) := by decide +kernel
theorem dX11_looks_105 : decode cX11_looks 105 = .ok (.iconst 1, 1) := by decide +kernel
theorem dX11_looks_106 : decode cX11_looks 106 = .ok (.goto 4, 3) := by decide +kernel
theorem dX11_looks_109 : decode cX11_looks 109 = .ok (.iconst 0, 1) := by decide +kernel
theorem dX11_looks_110 : decode cX11_looks 110 = .ok (.istore 5, 2) := by decide +kernel
theorem dX11_looks_112 : decode cX11_looks 112 = .ok (.aload_n 0, 1) := by decide +kernel
theorem dX11_looks_113 : decode cX11_looks 113 = .ok (.getfield 7, 3) := by decide +kernel
theorem dX11_looks_116 : decode cX11_looks 116 = .ok (.iload_n 2, 1) := by decide +kernel
theorem dX11_looks_117 : decode cX11_looks 117 = .ok (.iconst 3, 1) := by decide +kernel
theorem dX11_looks_118 : decode cX11_looks 118 = .ok (.iadd, 1) := by decide +kernel
theorem dX11_looks_119 : decode cX11_looks 119 = .ok (.iload 5, 2) := by decide +kernel
theorem dX11_looks_121 : decode cX11_looks 121 = .ok (.ifCond .eq 7, 3) := by decide +kernel
theorem dX11_looks_124 : decode cX11_looks 124 = .ok (.iconst 3, 1) := by decide +kernel
theorem dX11_looks_125 : decode cX11_looks 125 = .ok (.goto 4, 3) := by decide +kernel
theorem dX11_looks_128 : decode cX11_looks 128 = .ok (.iconst 1, 1) := by decide +kernel
theorem dX11_looks_129 : decode cX11_looks 129 = .ok (.iastore, 1) := by decide +kernel
theorem dX11_looks_130 : decode cX11_looks 130 = .ok (.aload_n 0, 1) := by decide +kernel
theorem dX11_looks_131 : decode cX11_looks 131 = .ok (.getfield 7, 3) := by decide +kernel
theorem dX11_looks_134 : decode cX11_looks 134 = .ok (.bipush 29, 2) := by decide +kernel
theorem dX11_looks_136 : decode cX11_looks 136 = .ok (.dup2, 1) := by decide +kernel
theorem dX11_looks_137 : decode cX11_looks 137 = .ok (.iaload, 1) := by decide +kernel
theorem dX11_looks_138 : decode cX11_looks 138 = .ok (.iload 5, 2) := by decide +kernel
theorem dX11_looks_140 : decode cX11_looks 140 = .ok (.ifCond .eq 7, 3) := by decide +kernel
theorem dX11_looks_143 : decode cX11_looks 143 = .ok (.iconst 1, 1) := by decide +kernel
theorem dX11_looks_144 : decode cX11_looks 144 = .ok (.goto 4, 3) := by decide +kernel
theorem dX11_looks_147 : decode cX11_looks 147 = .ok (.iconst 0, 1) := by decide +kernel
theorem dX11_looks_148 : decode cX11_looks 148 = .ok (.iadd, 1) := by decide +kernel
theorem dX11_looks_149 : decode cX11_looks 149 = .ok (.iastore, 1) := by decide +kernel
theorem dX11_looks_150 : decode cX11_looks 150 = .ok (.iinc 1 1, 3) := by decide +kernel
theorem dX11_looks_153 : decode cX11_looks 153 = .ok (.goto (-151), 3) := by decide +kernel
theorem dX11_looks_156 : decode cX11_looks 156 = .ok (.return_, 1) := by decide +kernel
theorem dX11_remembers_0 : decode cX11_remembers 0 = .ok (.iconst 0, 1) := by decide +kernel
theorem dX11_remembers_1 : decode cX11_remembers 1 = .ok (.istore_n 1, 1) := by decide +kernel
theorem dX11_remembers_2 : decode cX11_remembers 2 = .ok (.iload_n 1, 1) := by decide +kernel
theorem dX11_remembers_3 : decode cX11_remembers 3 = .ok (.bipush 16, 2) := by decide +kernel
theorem dX11_remembers_5 : decode cX11_remembers 5 = .ok (.if_icmp .ge 37, 3) := by decide +kernel
theorem dX11_remembers_8 : decode cX11_remembers 8 = .ok (.aload_n 0, 1) := by decide +kernel
theorem dX11_remembers_9 : decode cX11_remembers 9 = .ok (.getfield 7, 3) := by decide +kernel
theorem dX11_remembers_12 : decode cX11_remembers 12 = .ok (.bipush 118, 2) := by decide +kernel
theorem dX11_remembers_14 : decode cX11_remembers 14 = .ok (.iload_n 1, 1) := by decide +kernel
theorem dX11_remembers_15 : decode cX11_remembers 15 = .ok (.iadd, 1) := by decide +kernel
theorem dX11_remembers_16 : decode cX11_remembers 16 = .ok (.aload_n 0, 1) := by decide +kernel
theorem dX11_remembers_17 : decode cX11_remembers 17 = .ok (.getfield 7, 3) := by decide +kernel
theorem dX11_remembers_20 : decode cX11_remembers 20 = .ok (.bipush 102, 2) := by decide +kernel
theorem dX11_remembers_22 : decode cX11_remembers 22 = .ok (.iload_n 1, 1) := by decide +kernel
theorem dX11_remembers_23 : decode cX11_remembers 23 = .ok (.iadd, 1) := by decide +kernel
theorem dX11_remembers_24 : decode cX11_remembers 24 = .ok (.iaload, 1) := by decide +kernel
theorem dX11_remembers_25 : decode cX11_remembers 25 = .ok (.iastore, 1) := by decide +kernel
theorem dX11_remembers_26 : decode cX11_remembers 26 = .ok (.aload_n 0, 1) := by decide +kernel
theorem dX11_remembers_27 : decode cX11_remembers 27 = .ok (.getfield 7, 3) := by decide +kernel
theorem dX11_remembers_30 : decode cX11_remembers 30 = .ok (.bipush 102, 2) := by decide +kernel
theorem dX11_remembers_32 : decode cX11_remembers 32 = .ok (.iload_n 1, 1) := by decide +kernel
theorem dX11_remembers_33 : decode cX11_remembers 33 = .ok (.iadd, 1) := by decide +kernel
theorem dX11_remembers_34 : decode cX11_remembers 34 = .ok (.iconst 0, 1) := by decide +kernel
theorem dX11_remembers_35 : decode cX11_remembers 35 = .ok (.iastore, 1) := by decide +kernel
theorem dX11_remembers_36 : decode cX11_remembers 36 = .ok (.iinc 1 1, 3) := by decide +kernel
theorem dX11_remembers_39 : decode cX11_remembers 39 = .ok (.goto (-37), 3) := by decide +kernel
theorem dX11_remembers_42 : decode cX11_remembers 42 = .ok (.iconst 0, 1) := by decide +kernel
theorem dX11_remembers_43 : decode cX11_remembers 43 = .ok (.istore_n 1, 1) := by decide +kernel
theorem dX11_remembers_44 : decode cX11_remembers 44 = .ok (.iload_n 1, 1) := by decide +kernel
theorem dX11_remembers_45 : decode cX11_remembers 45 = .ok (.aload_n 0, 1) := by decide +kernel
theorem dX11_remembers_46 : decode cX11_remembers 46 = .ok (.getfield 7, 3) := by decide +kernel
theorem dX11_remembers_49 : decode cX11_remembers 49 = .ok (.bipush 41, 2) := by decide +kernel
theorem dX11_remembers_51 : decode cX11_remembers 51 = .ok (.iaload, 1) := by decide +kernel
theorem dX11_remembers_52 : decode cX11_remembers 52 = .ok (.if_icmp .ge 61, 3) := by decide +kernel
theorem dX11_remembers_55 : decode cX11_remembers 55 = .ok (.bipush 42, 2) := by decide +kernel
theorem dX11_remembers_57 : decode cX11_remembers 57 = .ok (.iconst 4, 1) := by decide +kernel
theorem dX11_remembers_58 : decode cX11_remembers 58 = .ok (.iload_n 1, 1) := by decide +kernel
theorem dX11_remembers_59 : decode cX11_remembers 59 = .ok (.imul, 1) := by decide +kernel
theorem dX11_remembers_60 : decode cX11_remembers 60 = .ok (.iadd, 1) := by decide +kernel
theorem dX11_remembers_61 : decode cX11_remembers 61 = .ok (.istore_n 2, 1) := by decide +kernel
theorem dX11_remembers_62 : decode cX11_remembers 62 = .ok (.aload_n 0, 1) := by decide +kernel
theorem dX11_remembers_63 : decode cX11_remembers 63 = .ok (.getfield 7, 3) := by decide +kernel
theorem dX11_remembers_66 : decode cX11_remembers 66 = .ok (.iload_n 2, 1) := by decide +kernel
theorem dX11_remembers_67 : decode cX11_remembers 67 = .ok (.iconst 3, 1) := by decide +kernel
theorem dX11_remembers_68 : decode cX11_remembers 68 = .ok (.iadd, 1) := by decide +kernel
theorem dX11_remembers_69 : decode cX11_remembers 69 = .ok (.iaload, 1) := by decide +kernel
theorem dX11_remembers_70 : decode cX11_remembers 70 = .ok (.ifCond .eq 37, 3) := by decide +kernel
theorem dX11_remembers_73 : decode cX11_remembers 73 = .ok (.aload_n 0, 1) := by decide +kernel
theorem dX11_remembers_74 : decode cX11_remembers 74 = .ok (.getfield 7, 3) := by decide +kernel
theorem dX11_remembers_77 : decode cX11_remembers 77 = .ok (.bipush 103, 2) := by decide +kernel
theorem dX11_remembers_79 : decode cX11_remembers 79 = .ok (.aload_n 0, 1) := by decide +kernel
theorem dX11_remembers_80 : decode cX11_remembers 80 = .ok (.getfield 7, 3) := by decide +kernel
theorem dX11_remembers_83 : decode cX11_remembers 83 = .ok (.bipush 102, 2) := by decide +kernel
theorem dX11_remembers_85 : decode cX11_remembers 85 = .ok (.iaload, 1) := by decide +kernel
theorem dX11_remembers_86 : decode cX11_remembers 86 = .ok (.iadd, 1) := by decide +kernel
theorem dX11_remembers_87 : decode cX11_remembers 87 = .ok (.aload_n 0, 1) := by decide +kernel
theorem dX11_remembers_88 : decode cX11_remembers 88 = .ok (.getfield 7, 3) := by decide +kernel
theorem dX11_remembers_91 : decode cX11_remembers 91 = .ok (.iload_n 2, 1) := by decide +kernel
theorem dX11_remembers_92 : decode cX11_remembers 92 = .ok (.iconst 1, 1) := by decide +kernel
theorem dX11_remembers_93 : decode cX11_remembers 93 = .ok (.iadd, 1) := by decide +kernel
theorem dX11_remembers_94 : decode cX11_remembers 94 = .ok (.iaload, 1) := by decide +kernel
theorem dX11_remembers_95 : decode cX11_remembers 95 = .ok (.iastore, 1) := by decide +kernel
theorem dX11_remembers_96 : decode cX11_remembers 96 = .ok (.aload_n 0, 1) := by decide +kernel
theorem dX11_remembers_97 : decode cX11_remembers 97 = .ok (.getfield 7, 3) := by decide +kernel
theorem dX11_remembers_100 : decode cX11_remembers 100 = .ok (.bipush 102, 2) := by decide +kernel
theorem dX11_remembers_102 : decode cX11_remembers 102 = .ok (.dup2, 1) := by decide +kernel
theorem dX11_remembers_103 : decode cX11_remembers 103 = .ok (.iaload, 1) := by decide +kernel
theorem dX11_remembers_104 : decode cX11_remembers 104 = .ok (.iconst 1, 1) := by decide +kernel
theorem dX11_remembers_105 : decode cX11_remembers 105 = .ok (.iadd, 1) := by decide +kernel
theorem dX11_remembers_106 : decode cX11_remembers 106 = .ok (.iastore, 1) := by decide +kernel
theorem dX11_remembers_107 : decode cX11_remembers 107 = .ok (.iinc 1 1, 3) := by decide +kernel
theorem dX11_remembers_110 : decode cX11_remembers 110 = .ok (.goto (-66), 3) := by decide +kernel
theorem dX11_remembers_113 : decode cX11_remembers 113 = .ok (.return_, 1) := by decide +kernel
theorem dX11_isBetter_0 : decode cX11_isBetter 0 = .ok (.aload_n 0, 1) := by decide +kernel
theorem dX11_isBetter_1 : decode cX11_isBetter 1 = .ok (.getfield 7, 3) := by decide +kernel
theorem dX11_isBetter_4 : decode cX11_isBetter 4 = .ok (.bipush 17, 2) := by decide +kernel
theorem dX11_isBetter_6 : decode cX11_isBetter 6 = .ok (.iaload, 1) := by decide +kernel
theorem dX11_isBetter_7 : decode cX11_isBetter 7 = .ok (.iconst 1, 1) := by decide +kernel
theorem dX11_isBetter_8 : decode cX11_isBetter 8 = .ok (.if_icmp .ne 28, 3) := by decide +kernel
theorem dX11_isBetter_11 : decode cX11_isBetter 11 = .ok (.aload_n 0, 1) := by decide +kernel
theorem dX11_isBetter_12 : decode cX11_isBetter 12 = .ok (.getfield 7, 3) := by decide +kernel
theorem dX11_isBetter_15 : decode cX11_isBetter 15 = .ok (.iload_n 1, 1) := by decide +kernel
theorem dX11_isBetter_16 : decode cX11_isBetter 16 = .ok (.iconst 2, 1) := by decide +kernel
theorem dX11_isBetter_17 : decode cX11_isBetter 17 = .ok (.iadd, 1) := by decide +kernel
theorem dX11_isBetter_18 : decode cX11_isBetter 18 = .ok (.iaload, 1) := by decide +kernel
theorem dX11_isBetter_19 : decode cX11_isBetter 19 = .ok (.aload_n 0, 1) := by decide +kernel
theorem dX11_isBetter_20 : decode cX11_isBetter 20 = .ok (.getfield 7, 3) := by decide +kernel
theorem dX11_isBetter_23 : decode cX11_isBetter 23 = .ok (.iload_n 2, 1) := by decide +kernel
theorem dX11_isBetter_24 : decode cX11_isBetter 24 = .ok (.iconst 2, 1) := by decide +kernel
theorem dX11_isBetter_25 : decode cX11_isBetter 25 = .ok (.iadd, 1) := by decide +kernel
theorem dX11_isBetter_26 : decode cX11_isBetter 26 = .ok (.iaload, 1) := by decide +kernel
theorem dX11_isBetter_27 : decode cX11_isBetter 27 = .ok (.if_icmp .le 7, 3) := by decide +kernel
theorem dX11_isBetter_30 : decode cX11_isBetter 30 = .ok (.iconst 1, 1) := by decide +kernel
theorem dX11_isBetter_31 : decode cX11_isBetter 31 = .ok (.goto 4, 3) := by decide +kernel
theorem dX11_isBetter_34 : decode cX11_isBetter 34 = .ok (.iconst 0, 1) := by decide +kernel
theorem dX11_isBetter_35 : decode cX11_isBetter 35 = .ok (.ireturn, 1) := by decide +kernel
theorem dX11_isBetter_36 : decode cX11_isBetter 36 = .ok (.aload_n 0, 1) := by decide +kernel
theorem dX11_isBetter_37 : decode cX11_isBetter 37 = .ok (.getfield 7, 3) := by decide +kernel
theorem dX11_isBetter_40 : decode cX11_isBetter 40 = .ok (.bipush 17, 2) := by decide +kernel
theorem dX11_isBetter_42 : decode cX11_isBetter 42 = .ok (.iaload, 1) := by decide +kernel
theorem dX11_isBetter_43 : decode cX11_isBetter 43 = .ok (.iconst 2, 1) := by decide +kernel
theorem dX11_isBetter_44 : decode cX11_isBetter 44 = .ok (.if_icmp .ne 57, 3) := by decide +kernel
theorem dX11_isBetter_47 : decode cX11_isBetter 47 = .ok (.aload_n 0, 1) := by decide +kernel
theorem dX11_isBetter_48 : decode cX11_isBetter 48 = .ok (.getfield 7, 3) := by decide +kernel
theorem dX11_isBetter_51 : decode cX11_isBetter 51 = .ok (.bipush 26, 2) := by decide +kernel
theorem dX11_isBetter_53 : decode cX11_isBetter 53 = .ok (.iaload, 1) := by decide +kernel
theorem dX11_isBetter_54 : decode cX11_isBetter 54 = .ok (.iconst (-1), 1) := by decide +kernel
theorem dX11_isBetter_55 : decode cX11_isBetter 55 = .ok (.if_icmp .eq 46, 3) := by decide +kernel
theorem dX11_isBetter_58 : decode cX11_isBetter 58 = .ok (.aload_n 0, 1) := by decide +kernel
theorem dX11_isBetter_59 : decode cX11_isBetter 59 = .ok (.getfield 7, 3) := by decide +kernel
theorem dX11_isBetter_62 : decode cX11_isBetter 62 = .ok (.iload_n 1, 1) := by decide +kernel
theorem dX11_isBetter_63 : decode cX11_isBetter 63 = .ok (.iconst 1, 1) := by decide +kernel
theorem dX11_isBetter_64 : decode cX11_isBetter 64 = .ok (.iadd, 1) := by decide +kernel
theorem dX11_isBetter_65 : decode cX11_isBetter 65 = .ok (.iaload, 1) := by decide +kernel
theorem dX11_isBetter_66 : decode cX11_isBetter 66 = .ok (.aload_n 0, 1) := by decide +kernel
theorem dX11_isBetter_67 : decode cX11_isBetter 67 = .ok (.getfield 7, 3) := by decide +kernel
theorem dX11_isBetter_70 : decode cX11_isBetter 70 = .ok (.bipush 26, 2) := by decide +kernel
theorem dX11_isBetter_72 : decode cX11_isBetter 72 = .ok (.iaload, 1) := by decide +kernel
theorem dX11_isBetter_73 : decode cX11_isBetter 73 = .ok (.invokestatic 83, 3) := by decide +kernel
theorem dX11_isBetter_76 : decode cX11_isBetter 76 = .ok (.aload_n 0, 1) := by decide +kernel
theorem dX11_isBetter_77 : decode cX11_isBetter 77 = .ok (.getfield 7, 3) := by decide +kernel
theorem dX11_isBetter_80 : decode cX11_isBetter 80 = .ok (.iload_n 2, 1) := by decide +kernel
theorem dX11_isBetter_81 : decode cX11_isBetter 81 = .ok (.iconst 1, 1) := by decide +kernel
theorem dX11_isBetter_82 : decode cX11_isBetter 82 = .ok (.iadd, 1) := by decide +kernel
theorem dX11_isBetter_83 : decode cX11_isBetter 83 = .ok (.iaload, 1) := by decide +kernel
theorem dX11_isBetter_84 : decode cX11_isBetter 84 = .ok (.aload_n 0, 1) := by decide +kernel
theorem dX11_isBetter_85 : decode cX11_isBetter 85 = .ok (.getfield 7, 3) := by decide +kernel
theorem dX11_isBetter_88 : decode cX11_isBetter 88 = .ok (.bipush 26, 2) := by decide +kernel
theorem dX11_isBetter_90 : decode cX11_isBetter 90 = .ok (.iaload, 1) := by decide +kernel
theorem dX11_isBetter_91 : decode cX11_isBetter 91 = .ok (.invokestatic 83, 3) := by decide +kernel
theorem dX11_isBetter_94 : decode cX11_isBetter 94 = .ok (.if_icmp .ge 7, 3) := by decide +kernel
theorem dX11_isBetter_97 : decode cX11_isBetter 97 = .ok (.iconst 1, 1) := by decide +kernel
theorem dX11_isBetter_98 : decode cX11_isBetter 98 = .ok (.goto 4, 3) := by decide +kernel
theorem dX11_isBetter_101 : decode cX11_isBetter 101 = .ok (.iconst 0, 1) := by decide +kernel
theorem dX11_isBetter_102 : decode cX11_isBetter 102 = .ok (.ireturn, 1) := by decide +kernel
theorem dX11_picks_0 : decode cX11_picks 0 = .ok (.iconst (-1), 1) := by decide +kernel
theorem dX11_picks_1 : decode cX11_picks 1 = .ok (.istore_n 1, 1) := by decide +kernel
theorem dX11_picks_2 : decode cX11_picks 2 = .ok (.iconst 0, 1) := by decide +kernel
theorem dX11_picks_3 : decode cX11_picks 3 = .ok (.istore_n 2, 1) := by decide +kernel
theorem dX11_picks_4 : decode cX11_picks 4 = .ok (.iload_n 2, 1) := by decide +kernel
theorem dX11_picks_5 : decode cX11_picks 5 = .ok (.aload_n 0, 1) := by decide +kernel
theorem dX11_picks_6 : decode cX11_picks 6 = .ok (.getfield 7, 3) := by decide +kernel
theorem dX11_picks_9 : decode cX11_picks 9 = .ok (.bipush 41, 2) := by decide +kernel
theorem dX11_picks_11 : decode cX11_picks 11 = .ok (.iaload, 1) := by decide +kernel
theorem dX11_picks_12 : decode cX11_picks 12 = .ok (.if_icmp .ge 48, 3) := by decide +kernel
theorem dX11_picks_15 : decode cX11_picks 15 = .ok (.bipush 42, 2) := by decide +kernel
theorem dX11_picks_17 : decode cX11_picks 17 = .ok (.iconst 4, 1) := by decide +kernel
theorem dX11_picks_18 : decode cX11_picks 18 = .ok (.iload_n 2, 1) := by decide +kernel
theorem dX11_picks_19 : decode cX11_picks 19 = .ok (.imul, 1) := by decide +kernel
theorem dX11_picks_20 : decode cX11_picks 20 = .ok (.iadd, 1) := by decide +kernel
theorem dX11_picks_21 : decode cX11_picks 21 = .ok (.istore_n 3, 1) := by decide +kernel
theorem dX11_picks_22 : decode cX11_picks 22 = .ok (.aload_n 0, 1) := by decide +kernel
theorem dX11_picks_23 : decode cX11_picks 23 = .ok (.getfield 7, 3) := by decide +kernel
theorem dX11_picks_26 : decode cX11_picks 26 = .ok (.iload_n 3, 1) := by decide +kernel
theorem dX11_picks_27 : decode cX11_picks 27 = .ok (.iconst 3, 1) := by decide +kernel
theorem dX11_picks_28 : decode cX11_picks 28 = .ok (.iadd, 1) := by decide +kernel
theorem dX11_picks_29 : decode cX11_picks 29 = .ok (.iaload, 1) := by decide +kernel
theorem dX11_picks_30 : decode cX11_picks 30 = .ok (.iconst 1, 1) := by decide +kernel
theorem dX11_picks_31 : decode cX11_picks 31 = .ok (.if_icmp .ne 21, 3) := by decide +kernel
theorem dX11_picks_34 : decode cX11_picks 34 = .ok (.iload_n 1, 1) := by decide +kernel
theorem dX11_picks_35 : decode cX11_picks 35 = .ok (.iconst (-1), 1) := by decide +kernel
theorem dX11_picks_36 : decode cX11_picks 36 = .ok (.if_icmp .eq 12, 3) := by decide +kernel
theorem dX11_picks_39 : decode cX11_picks 39 = .ok (.aload_n 0, 1) := by decide +kernel
theorem dX11_picks_40 : decode cX11_picks 40 = .ok (.iload_n 3, 1) := by decide +kernel
theorem dX11_picks_41 : decode cX11_picks 41 = .ok (.iload_n 1, 1) := by decide +kernel
theorem dX11_picks_42 : decode cX11_picks 42 = .ok (.invokevirtual 97, 3) := by decide +kernel
theorem dX11_picks_45 : decode cX11_picks 45 = .ok (.ifCond .eq 7, 3) := by decide +kernel
theorem dX11_picks_48 : decode cX11_picks 48 = .ok (.iload_n 3, 1) := by decide +kernel
theorem dX11_picks_49 : decode cX11_picks 49 = .ok (.goto 4, 3) := by decide +kernel
theorem dX11_picks_52 : decode cX11_picks 52 = .ok (.iload_n 1, 1) := by decide +kernel
theorem dX11_picks_53 : decode cX11_picks 53 = .ok (.istore_n 1, 1) := by decide +kernel
theorem dX11_picks_54 : decode cX11_picks 54 = .ok (.iinc 2 1, 3) := by decide +kernel
theorem dX11_picks_57 : decode cX11_picks 57 = .ok (.goto (-53), 3) := by decide +kernel
theorem dX11_picks_60 : decode cX11_picks 60 = .ok (.iload_n 1, 1) := by decide +kernel
theorem dX11_picks_61 : decode cX11_picks 61 = .ok (.iconst (-1), 1) := by decide +kernel
theorem dX11_picks_62 : decode cX11_picks 62 = .ok (.if_icmp .ne 5, 3) := by decide +kernel
theorem dX11_picks_65 : decode cX11_picks 65 = .ok (.iconst (-1), 1) := by decide +kernel
theorem dX11_picks_66 : decode cX11_picks 66 = .ok (.ireturn, 1) := by decide +kernel
theorem dX11_picks_67 : decode cX11_picks 67 = .ok (.aload_n 0, 1) := by decide +kernel
theorem dX11_picks_68 : decode cX11_picks 68 = .ok (.getfield 7, 3) := by decide +kernel
theorem dX11_picks_71 : decode cX11_picks 71 = .ok (.iload_n 1, 1) := by decide +kernel
theorem dX11_picks_72 : decode cX11_picks 72 = .ok (.iconst 3, 1) := by decide +kernel
theorem dX11_picks_73 : decode cX11_picks 73 = .ok (.iadd, 1) := by decide +kernel
theorem dX11_picks_74 : decode cX11_picks 74 = .ok (.iconst 5, 1) := by decide +kernel
theorem dX11_picks_75 : decode cX11_picks 75 = .ok (.iastore, 1) := by decide +kernel
theorem dX11_picks_76 : decode cX11_picks 76 = .ok (.aload_n 0, 1) := by decide +kernel
theorem dX11_picks_77 : decode cX11_picks 77 = .ok (.getfield 7, 3) := by decide +kernel
theorem dX11_picks_80 : decode cX11_picks 80 = .ok (.iload_n 1, 1) := by decide +kernel
theorem dX11_picks_81 : decode cX11_picks 81 = .ok (.iconst 1, 1) := by decide +kernel
theorem dX11_picks_82 : decode cX11_picks 82 = .ok (.iadd, 1) := by decide +kernel
theorem dX11_picks_83 : decode cX11_picks 83 = .ok (.iaload, 1) := by decide +kernel
theorem dX11_picks_84 : decode cX11_picks 84 = .ok (.ireturn, 1) := by decide +kernel
theorem dX11_keeps_0 : decode cX11_keeps 0 = .ok (.bipush 8, 2) := by decide +kernel
theorem dX11_keeps_2 : decode cX11_keeps 2 = .ok (.istore_n 2, 1) := by decide +kernel
theorem dX11_keeps_3 : decode cX11_keeps 3 = .ok (.iload_n 2, 1) := by decide +kernel
theorem dX11_keeps_4 : decode cX11_keeps 4 = .ok (.ifCond .le 29, 3) := by decide +kernel
theorem dX11_keeps_7 : decode cX11_keeps 7 = .ok (.aload_n 0, 1) := by decide +kernel
theorem dX11_keeps_8 : decode cX11_keeps 8 = .ok (.getfield 7, 3) := by decide +kernel
theorem dX11_keeps_11 : decode cX11_keeps 11 = .ok (.bipush 32, 2) := by decide +kernel
theorem dX11_keeps_13 : decode cX11_keeps 13 = .ok (.iload_n 2, 1) := by decide +kernel
theorem dX11_keeps_14 : decode cX11_keeps 14 = .ok (.iadd, 1) := by decide +kernel
theorem dX11_keeps_15 : decode cX11_keeps 15 = .ok (.aload_n 0, 1) := by decide +kernel
theorem dX11_keeps_16 : decode cX11_keeps 16 = .ok (.getfield 7, 3) := by decide +kernel
theorem dX11_keeps_19 : decode cX11_keeps 19 = .ok (.bipush 32, 2) := by decide +kernel
theorem dX11_keeps_21 : decode cX11_keeps 21 = .ok (.iload_n 2, 1) := by decide +kernel
theorem dX11_keeps_22 : decode cX11_keeps 22 = .ok (.iadd, 1) := by decide +kernel
theorem dX11_keeps_23 : decode cX11_keeps 23 = .ok (.iconst 1, 1) := by decide +kernel
theorem dX11_keeps_24 : decode cX11_keeps 24 = .ok (.isub, 1) := by decide +kernel
theorem dX11_keeps_25 : decode cX11_keeps 25 = .ok (.iaload, 1) := by decide +kernel
theorem dX11_keeps_26 : decode cX11_keeps 26 = .ok (.iastore, 1) := by decide +kernel
theorem dX11_keeps_27 : decode cX11_keeps 27 = .ok (.iinc 2 (-1), 3) := by decide +kernel
theorem dX11_keeps_30 : decode cX11_keeps 30 = .ok (.goto (-27), 3) := by decide +kernel
theorem dX11_keeps_33 : decode cX11_keeps 33 = .ok (.aload_n 0, 1) := by decide +kernel
theorem dX11_keeps_34 : decode cX11_keeps 34 = .ok (.getfield 7, 3) := by decide +kernel
theorem dX11_keeps_37 : decode cX11_keeps 37 = .ok (.bipush 32, 2) := by decide +kernel
theorem dX11_keeps_39 : decode cX11_keeps 39 = .ok (.iload_n 1, 1) := by decide +kernel
theorem dX11_keeps_40 : decode cX11_keeps 40 = .ok (.iastore, 1) := by decide +kernel
theorem dX11_keeps_41 : decode cX11_keeps 41 = .ok (.aload_n 0, 1) := by decide +kernel
theorem dX11_keeps_42 : decode cX11_keeps 42 = .ok (.getfield 7, 3) := by decide +kernel
theorem dX11_keeps_45 : decode cX11_keeps 45 = .ok (.bipush 31, 2) := by decide +kernel
theorem dX11_keeps_47 : decode cX11_keeps 47 = .ok (.aload_n 0, 1) := by decide +kernel
theorem dX11_keeps_48 : decode cX11_keeps 48 = .ok (.getfield 7, 3) := by decide +kernel
theorem dX11_keeps_51 : decode cX11_keeps 51 = .ok (.bipush 31, 2) := by decide +kernel
theorem dX11_keeps_53 : decode cX11_keeps 53 = .ok (.iaload, 1) := by decide +kernel
theorem dX11_keeps_54 : decode cX11_keeps 54 = .ok (.aload_n 0, 1) := by decide +kernel
theorem dX11_keeps_55 : decode cX11_keeps 55 = .ok (.getfield 7, 3) := by decide +kernel
theorem dX11_keeps_58 : decode cX11_keeps 58 = .ok (.bipush 18, 2) := by decide +kernel
theorem dX11_keeps_60 : decode cX11_keeps 60 = .ok (.iaload, 1) := by decide +kernel
theorem dX11_keeps_61 : decode cX11_keeps 61 = .ok (.if_icmp .ge 15, 3) := by decide +kernel
theorem dX11_keeps_64 : decode cX11_keeps 64 = .ok (.aload_n 0, 1) := by decide +kernel
theorem dX11_keeps_65 : decode cX11_keeps 65 = .ok (.getfield 7, 3) := by decide +kernel
theorem dX11_keeps_68 : decode cX11_keeps 68 = .ok (.bipush 31, 2) := by decide +kernel
theorem dX11_keeps_70 : decode cX11_keeps 70 = .ok (.iaload, 1) := by decide +kernel
theorem dX11_keeps_71 : decode cX11_keeps 71 = .ok (.iconst 1, 1) := by decide +kernel
theorem dX11_keeps_72 : decode cX11_keeps 72 = .ok (.iadd, 1) := by decide +kernel
theorem dX11_keeps_73 : decode cX11_keeps 73 = .ok (.goto 10, 3) := by decide +kernel
theorem dX11_keeps_76 : decode cX11_keeps 76 = .ok (.aload_n 0, 1) := by decide +kernel
theorem dX11_keeps_77 : decode cX11_keeps 77 = .ok (.getfield 7, 3) := by decide +kernel
theorem dX11_keeps_80 : decode cX11_keeps 80 = .ok (.bipush 18, 2) := by decide +kernel
theorem dX11_keeps_82 : decode cX11_keeps 82 = .ok (.iaload, 1) := by decide +kernel
theorem dX11_keeps_83 : decode cX11_keeps 83 = .ok (.iastore, 1) := by decide +kernel
theorem dX11_keeps_84 : decode cX11_keeps 84 = .ok (.return_, 1) := by decide +kernel
theorem dX11_kept_0 : decode cX11_kept 0 = .ok (.iconst 0, 1) := by decide +kernel
theorem dX11_kept_1 : decode cX11_kept 1 = .ok (.istore_n 1, 1) := by decide +kernel
theorem dX11_kept_2 : decode cX11_kept 2 = .ok (.iconst 0, 1) := by decide +kernel
theorem dX11_kept_3 : decode cX11_kept 3 = .ok (.istore_n 2, 1) := by decide +kernel
theorem dX11_kept_4 : decode cX11_kept 4 = .ok (.iload_n 2, 1) := by decide +kernel
theorem dX11_kept_5 : decode cX11_kept 5 = .ok (.aload_n 0, 1) := by decide +kernel
theorem dX11_kept_6 : decode cX11_kept 6 = .ok (.getfield 7, 3) := by decide +kernel
theorem dX11_kept_9 : decode cX11_kept 9 = .ok (.bipush 31, 2) := by decide +kernel
theorem dX11_kept_11 : decode cX11_kept 11 = .ok (.iaload, 1) := by decide +kernel
theorem dX11_kept_12 : decode cX11_kept 12 = .ok (.if_icmp .ge 30, 3) := by decide +kernel
theorem dX11_kept_15 : decode cX11_kept 15 = .ok (.iload_n 1, 1) := by decide +kernel
theorem dX11_kept_16 : decode cX11_kept 16 = .ok (.aload_n 0, 1) := by decide +kernel
theorem dX11_kept_17 : decode cX11_kept 17 = .ok (.getfield 7, 3) := by decide +kernel
theorem dX11_kept_20 : decode cX11_kept 20 = .ok (.bipush 32, 2) := by decide +kernel
theorem dX11_kept_22 : decode cX11_kept 22 = .ok (.iload_n 2, 1) := by decide +kernel
theorem dX11_kept_23 : decode cX11_kept 23 = .ok (.iadd, 1) := by decide +kernel
theorem dX11_kept_24 : decode cX11_kept 24 = .ok (.iaload, 1) := by decide +kernel
theorem dX11_kept_25 : decode cX11_kept 25 = .ok (.iconst (-1), 1) := by decide +kernel
theorem dX11_kept_26 : decode cX11_kept 26 = .ok (.if_icmp .eq 7, 3) := by decide +kernel
theorem dX11_kept_29 : decode cX11_kept 29 = .ok (.iconst 1, 1) := by decide +kernel
theorem dX11_kept_30 : decode cX11_kept 30 = .ok (.goto 4, 3) := by decide +kernel
theorem dX11_kept_33 : decode cX11_kept 33 = .ok (.iconst 0, 1) := by decide +kernel
theorem dX11_kept_34 : decode cX11_kept 34 = .ok (.iadd, 1) := by decide +kernel
theorem dX11_kept_35 : decode cX11_kept 35 = .ok (.istore_n 1, 1) := by decide +kernel
theorem dX11_kept_36 : decode cX11_kept 36 = .ok (.iinc 2 1, 3) := by decide +kernel
theorem dX11_kept_39 : decode cX11_kept 39 = .ok (.goto (-35), 3) := by decide +kernel
theorem dX11_kept_42 : decode cX11_kept 42 = .ok (.iload_n 1, 1) := by decide +kernel
theorem dX11_kept_43 : decode cX11_kept 43 = .ok (.ireturn, 1) := by decide +kernel
theorem dX11_median_0 : decode cX11_median 0 = .ok (.aload_n 0, 1) := by decide +kernel
theorem dX11_median_1 : decode cX11_median 1 = .ok (.invokevirtual 100, 3) := by decide +kernel
theorem dX11_median_4 : decode cX11_median 4 = .ok (.istore_n 1, 1) := by decide +kernel
theorem dX11_median_5 : decode cX11_median 5 = .ok (.iconst 2, 1) := by decide +kernel
theorem dX11_median_6 : decode cX11_median 6 = .ok (.iload_n 1, 1) := by decide +kernel
theorem dX11_median_7 : decode cX11_median 7 = .ok (.imul, 1) := by decide +kernel
theorem dX11_median_8 : decode cX11_median 8 = .ok (.aload_n 0, 1) := by decide +kernel
theorem dX11_median_9 : decode cX11_median 9 = .ok (.getfield 7, 3) := by decide +kernel
theorem dX11_median_12 : decode cX11_median 12 = .ok (.bipush 18, 2) := by decide +kernel
theorem dX11_median_14 : decode cX11_median 14 = .ok (.iaload, 1) := by decide +kernel
theorem dX11_median_15 : decode cX11_median 15 = .ok (.if_icmp .ge 5, 3) := by decide +kernel
theorem dX11_median_18 : decode cX11_median 18 = .ok (.iconst (-1), 1) := by decide +kernel
theorem dX11_median_19 : decode cX11_median 19 = .ok (.ireturn, 1) := by decide +kernel
theorem dX11_median_20 : decode cX11_median 20 = .ok (.iconst 0, 1) := by decide +kernel
theorem dX11_median_21 : decode cX11_median 21 = .ok (.istore_n 2, 1) := by decide +kernel
theorem dX11_median_22 : decode cX11_median 22 = .ok (.iload_n 2, 1) := by decide +kernel
theorem dX11_median_23 : decode cX11_median 23 = .ok (.aload_n 0, 1) := by decide +kernel
theorem dX11_median_24 : decode cX11_median 24 = .ok (.getfield 7, 3) := by decide +kernel
theorem dX11_median_27 : decode cX11_median 27 = .ok (.bipush 31, 2) := by decide +kernel
theorem dX11_median_29 : decode cX11_median 29 = .ok (.iaload, 1) := by decide +kernel
theorem dX11_median_30 : decode cX11_median 30 = .ok (.if_icmp .ge 156, 3) := by decide +kernel
theorem dX11_median_33 : decode cX11_median 33 = .ok (.iconst 0, 1) := by decide +kernel
theorem dX11_median_34 : decode cX11_median 34 = .ok (.istore_n 3, 1) := by decide +kernel
theorem dX11_median_35 : decode cX11_median 35 = .ok (.iconst 0, 1) := by decide +kernel
theorem dX11_median_36 : decode cX11_median 36 = .ok (.istore 4, 2) := by decide +kernel
theorem dX11_median_38 : decode cX11_median 38 = .ok (.iconst 0, 1) := by decide +kernel
theorem dX11_median_39 : decode cX11_median 39 = .ok (.istore 5, 2) := by decide +kernel
theorem dX11_median_41 : decode cX11_median 41 = .ok (.iload 5, 2) := by decide +kernel
theorem dX11_median_43 : decode cX11_median 43 = .ok (.aload_n 0, 1) := by decide +kernel
theorem dX11_median_44 : decode cX11_median 44 = .ok (.getfield 7, 3) := by decide +kernel
theorem dX11_median_47 : decode cX11_median 47 = .ok (.bipush 31, 2) := by decide +kernel
theorem dX11_median_49 : decode cX11_median 49 = .ok (.iaload, 1) := by decide +kernel
theorem dX11_median_50 : decode cX11_median 50 = .ok (.if_icmp .ge 85, 3) := by decide +kernel
theorem dX11_median_53 : decode cX11_median 53 = .ok (.iload_n 3, 1) := by decide +kernel
theorem dX11_median_54 : decode cX11_median 54 = .ok (.aload_n 0, 1) := by decide +kernel
theorem dX11_median_55 : decode cX11_median 55 = .ok (.getfield 7, 3) := by decide +kernel
theorem dX11_median_58 : decode cX11_median 58 = .ok (.bipush 32, 2) := by decide +kernel
theorem dX11_median_60 : decode cX11_median 60 = .ok (.iload 5, 2) := by decide +kernel
theorem dX11_median_62 : decode cX11_median 62 = .ok (.iadd, 1) := by decide +kernel
theorem dX11_median_63 : decode cX11_median 63 = .ok (.iaload, 1) := by decide +kernel
theorem dX11_median_64 : decode cX11_median 64 = .ok (.iconst (-1), 1) := by decide +kernel
theorem dX11_median_65 : decode cX11_median 65 = .ok (.if_icmp .eq 29, 3) := by decide +kernel
theorem dX11_median_68 : decode cX11_median 68 = .ok (.aload_n 0, 1) := by decide +kernel
theorem dX11_median_69 : decode cX11_median 69 = .ok (.getfield 7, 3) := by decide +kernel
theorem dX11_median_72 : decode cX11_median 72 = .ok (.bipush 32, 2) := by decide +kernel
theorem dX11_median_74 : decode cX11_median 74 = .ok (.iload 5, 2) := by decide +kernel
theorem dX11_median_76 : decode cX11_median 76 = .ok (.iadd, 1) := by decide +kernel
theorem dX11_median_77 : decode cX11_median 77 = .ok (.iaload, 1) := by decide +kernel
theorem dX11_median_78 : decode cX11_median 78 = .ok (.aload_n 0, 1) := by decide +kernel
theorem dX11_median_79 : decode cX11_median 79 = .ok (.getfield 7, 3) := by decide +kernel
theorem dX11_median_82 : decode cX11_median 82 = .ok (.bipush 32, 2) := by decide +kernel
theorem dX11_median_84 : decode cX11_median 84 = .ok (.iload_n 2, 1) := by decide +kernel
theorem dX11_median_85 : decode cX11_median 85 = .ok (.iadd, 1) := by decide +kernel
theorem dX11_median_86 : decode cX11_median 86 = .ok (.iaload, 1) := by decide +kernel
theorem dX11_median_87 : decode cX11_median 87 = .ok (.if_icmp .ge 7, 3) := by decide +kernel
theorem dX11_median_90 : decode cX11_median 90 = .ok (.iconst 1, 1) := by decide +kernel
theorem dX11_median_91 : decode cX11_median 91 = .ok (.goto 4, 3) := by decide +kernel
theorem dX11_median_94 : decode cX11_median 94 = .ok (.iconst 0, 1) := by decide +kernel
theorem dX11_median_95 : decode cX11_median 95 = .ok (.iadd, 1) := by decide +kernel
theorem dX11_median_96 : decode cX11_median 96 = .ok (.istore_n 3, 1) := by decide +kernel
theorem dX11_median_97 : decode cX11_median 97 = .ok (.iload 4, 2) := by decide +kernel
theorem dX11_median_99 : decode cX11_median 99 = .ok (.aload_n 0, 1) := by decide +kernel
theorem dX11_median_100 : decode cX11_median 100 = .ok (.getfield 7, 3) := by decide +kernel
theorem dX11_median_103 : decode cX11_median 103 = .ok (.bipush 32, 2) := by decide +kernel
theorem dX11_median_105 : decode cX11_median 105 = .ok (.iload 5, 2) := by decide +kernel
theorem dX11_median_107 : decode cX11_median 107 = .ok (.iadd, 1) := by decide +kernel
theorem dX11_median_108 : decode cX11_median 108 = .ok (.iaload, 1) := by decide +kernel
theorem dX11_median_109 : decode cX11_median 109 = .ok (.aload_n 0, 1) := by decide +kernel
theorem dX11_median_110 : decode cX11_median 110 = .ok (.getfield 7, 3) := by decide +kernel
theorem dX11_median_113 : decode cX11_median 113 = .ok (.bipush 32, 2) := by decide +kernel
theorem dX11_median_115 : decode cX11_median 115 = .ok (.iload_n 2, 1) := by decide +kernel
theorem dX11_median_116 : decode cX11_median 116 = .ok (.iadd, 1) := by decide +kernel
theorem dX11_median_117 : decode cX11_median 117 = .ok (.iaload, 1) := by decide +kernel
theorem dX11_median_118 : decode cX11_median 118 = .ok (.if_icmp .ne 7, 3) := by decide +kernel
theorem dX11_median_121 : decode cX11_median 121 = .ok (.iconst 1, 1) := by decide +kernel
theorem dX11_median_122 : decode cX11_median 122 = .ok (.goto 4, 3) := by decide +kernel
theorem dX11_median_125 : decode cX11_median 125 = .ok (.iconst 0, 1) := by decide +kernel
theorem dX11_median_126 : decode cX11_median 126 = .ok (.iadd, 1) := by decide +kernel
theorem dX11_median_127 : decode cX11_median 127 = .ok (.istore 4, 2) := by decide +kernel
theorem dX11_median_129 : decode cX11_median 129 = .ok (.iinc 5 1, 3) := by decide +kernel
theorem dX11_median_132 : decode cX11_median 132 = .ok (.goto (-91), 3) := by decide +kernel
theorem dX11_median_135 : decode cX11_median 135 = .ok (.iload_n 1, 1) := by decide +kernel
theorem dX11_median_136 : decode cX11_median 136 = .ok (.iconst 1, 1) := by decide +kernel
theorem dX11_median_137 : decode cX11_median 137 = .ok (.isub, 1) := by decide +kernel
theorem dX11_median_138 : decode cX11_median 138 = .ok (.iconst 2, 1) := by decide +kernel
theorem dX11_median_139 : decode cX11_median 139 = .ok (.idiv, 1) := by decide +kernel
theorem dX11_median_140 : decode cX11_median 140 = .ok (.istore 5, 2) := by decide +kernel
theorem dX11_median_142 : decode cX11_median 142 = .ok (.aload_n 0, 1) := by decide +kernel
theorem dX11_median_143 : decode cX11_median 143 = .ok (.getfield 7, 3) := by decide +kernel
theorem dX11_median_146 : decode cX11_median 146 = .ok (.bipush 32, 2) := by decide +kernel
theorem dX11_median_148 : decode cX11_median 148 = .ok (.iload_n 2, 1) := by decide +kernel
theorem dX11_median_149 : decode cX11_median 149 = .ok (.iadd, 1) := by decide +kernel
theorem dX11_median_150 : decode cX11_median 150 = .ok (.iaload, 1) := by decide +kernel
theorem dX11_median_151 : decode cX11_median 151 = .ok (.iconst (-1), 1) := by decide +kernel
theorem dX11_median_152 : decode cX11_median 152 = .ok (.if_icmp .eq 28, 3) := by decide +kernel
theorem dX11_median_155 : decode cX11_median 155 = .ok (.iload_n 3, 1) := by decide +kernel
theorem dX11_median_156 : decode cX11_median 156 = .ok (.iload 5, 2) := by decide +kernel
theorem dX11_median_158 : decode cX11_median 158 = .ok (.if_icmp .gt 22, 3) := by decide +kernel
theorem dX11_median_161 : decode cX11_median 161 = .ok (.iload 5, 2) := by decide +kernel
theorem dX11_median_163 : decode cX11_median 163 = .ok (.iload_n 3, 1) := by decide +kernel
theorem dX11_median_164 : decode cX11_median 164 = .ok (.iload 4, 2) := by decide +kernel
theorem dX11_median_166 : decode cX11_median 166 = .ok (.iadd, 1) := by decide +kernel
theorem dX11_median_167 : decode cX11_median 167 = .ok (.if_icmp .ge 13, 3) := by decide +kernel
theorem dX11_median_170 : decode cX11_median 170 = .ok (.aload_n 0, 1) := by decide +kernel
theorem dX11_median_171 : decode cX11_median 171 = .ok (.getfield 7, 3) := by decide +kernel
theorem dX11_median_174 : decode cX11_median 174 = .ok (.bipush 32, 2) := by decide +kernel
theorem dX11_median_176 : decode cX11_median 176 = .ok (.iload_n 2, 1) := by decide +kernel
theorem dX11_median_177 : decode cX11_median 177 = .ok (.iadd, 1) := by decide +kernel
theorem dX11_median_178 : decode cX11_median 178 = .ok (.iaload, 1) := by decide +kernel
theorem dX11_median_179 : decode cX11_median 179 = .ok (.ireturn, 1) := by decide +kernel
theorem dX11_median_180 : decode cX11_median 180 = .ok (.iinc 2 1, 3) := by decide +kernel
theorem dX11_median_183 : decode cX11_median 183 = .ok (.goto (-161), 3) := by decide +kernel
theorem dX11_median_186 : decode cX11_median 186 = .ok (.iconst (-1), 1) := by decide +kernel
theorem dX11_median_187 : decode cX11_median 187 = .ok (.ireturn, 1) := by decide +kernel
theorem dX11_tells_0 : decode cX11_tells 0 = .ok (.aload_n 0, 1) := by decide +kernel
theorem dX11_tells_1 : decode cX11_tells 1 = .ok (.invokevirtual 103, 3) := by decide +kernel
theorem dX11_tells_4 : decode cX11_tells 4 = .ok (.istore_n 1, 1) := by decide +kernel
theorem dX11_tells_5 : decode cX11_tells 5 = .ok (.iload_n 1, 1) := by decide +kernel
theorem dX11_tells_6 : decode cX11_tells 6 = .ok (.iconst (-1), 1) := by decide +kernel
theorem dX11_tells_7 : decode cX11_tells 7 = .ok (.if_icmp .ne 64, 3) := by decide +kernel
theorem dX11_tells_10 : decode cX11_tells 10 = .ok (.aload_n 0, 1) := by decide +kernel
theorem dX11_tells_11 : decode cX11_tells 11 = .ok (.getfield 7, 3) := by decide +kernel
theorem dX11_tells_14 : decode cX11_tells 14 = .ok (.bipush 27, 2) := by decide +kernel
theorem dX11_tells_16 : decode cX11_tells 16 = .ok (.dup2, 1) := by decide +kernel
theorem dX11_tells_17 : decode cX11_tells 17 = .ok (.iaload, 1) := by decide +kernel
theorem dX11_tells_18 : decode cX11_tells 18 = .ok (.iconst 1, 1) := by decide +kernel
theorem dX11_tells_19 : decode cX11_tells 19 = .ok (.iadd, 1) := by decide +kernel
theorem dX11_tells_20 : decode cX11_tells 20 = .ok (.iastore, 1) := by decide +kernel
theorem dX11_tells_21 : decode cX11_tells 21 = .ok (.aload_n 0, 1) := by decide +kernel
theorem dX11_tells_22 : decode cX11_tells 22 = .ok (.getfield 7, 3) := by decide +kernel
theorem dX11_tells_25 : decode cX11_tells 25 = .ok (.bipush 27, 2) := by decide +kernel
theorem dX11_tells_27 : decode cX11_tells 27 = .ok (.iaload, 1) := by decide +kernel
theorem dX11_tells_28 : decode cX11_tells 28 = .ok (.aload_n 0, 1) := by decide +kernel
theorem dX11_tells_29 : decode cX11_tells 29 = .ok (.getfield 7, 3) := by decide +kernel
theorem dX11_tells_32 : decode cX11_tells 32 = .ok (.bipush 20, 2) := by decide +kernel
theorem dX11_tells_34 : decode cX11_tells 34 = .ok (.iaload, 1) := by decide +kernel
theorem dX11_tells_35 : decode cX11_tells 35 = .ok (.if_icmp .ne 35, 3) := by decide +kernel
theorem dX11_tells_38 : decode cX11_tells 38 = .ok (.aload_n 0, 1) := by decide +kernel
theorem dX11_tells_39 : decode cX11_tells 39 = .ok (.getfield 7, 3) := by decide +kernel
theorem dX11_tells_42 : decode cX11_tells 42 = .ok (.bipush 26, 2) := by decide +kernel
theorem dX11_tells_44 : decode cX11_tells 44 = .ok (.iconst (-1), 1) := by decide +kernel
theorem dX11_tells_45 : decode cX11_tells 45 = .ok (.iastore, 1) := by decide +kernel
theorem dX11_tells_46 : decode cX11_tells 46 = .ok (.iconst 0, 1) := by decide +kernel
theorem dX11_tells_47 : decode cX11_tells 47 = .ok (.istore_n 2, 1) := by decide +kernel
theorem dX11_tells_48 : decode cX11_tells 48 = .ok (.iload_n 2, 1) := by decide +kernel
theorem dX11_tells_49 : decode cX11_tells 49 = .ok (.bipush 9, 2) := by decide +kernel
theorem dX11_tells_51 : decode cX11_tells 51 = .ok (.if_icmp .ge 19, 3) := by decide +kernel
theorem dX11_tells_54 : decode cX11_tells 54 = .ok (.aload_n 0, 1) := by decide +kernel
theorem dX11_tells_55 : decode cX11_tells 55 = .ok (.getfield 7, 3) := by decide +kernel
theorem dX11_tells_58 : decode cX11_tells 58 = .ok (.bipush 32, 2) := by decide +kernel
theorem dX11_tells_60 : decode cX11_tells 60 = .ok (.iload_n 2, 1) := by decide +kernel
theorem dX11_tells_61 : decode cX11_tells 61 = .ok (.iadd, 1) := by decide +kernel
theorem dX11_tells_62 : decode cX11_tells 62 = .ok (.iconst (-1), 1) := by decide +kernel
theorem dX11_tells_63 : decode cX11_tells 63 = .ok (.iastore, 1) := by decide +kernel
theorem dX11_tells_64 : decode cX11_tells 64 = .ok (.iinc 2 1, 3) := by decide +kernel
theorem dX11_tells_67 : decode cX11_tells 67 = .ok (.goto (-19), 3) := by decide +kernel
theorem dX11_tells_70 : decode cX11_tells 70 = .ok (.return_, 1) := by decide +kernel
theorem dX11_tells_71 : decode cX11_tells 71 = .ok (.aload_n 0, 1) := by decide +kernel
theorem dX11_tells_72 : decode cX11_tells 72 = .ok (.getfield 7, 3) := by decide +kernel
theorem dX11_tells_75 : decode cX11_tells 75 = .ok (.bipush 27, 2) := by decide +kernel
theorem dX11_tells_77 : decode cX11_tells 77 = .ok (.iconst 0, 1) := by decide +kernel
theorem dX11_tells_78 : decode cX11_tells 78 = .ok (.iastore, 1) := by decide +kernel
theorem dX11_tells_79 : decode cX11_tells 79 = .ok (.aload_n 0, 1) := by decide +kernel
theorem dX11_tells_80 : decode cX11_tells 80 = .ok (.getfield 7, 3) := by decide +kernel
theorem dX11_tells_83 : decode cX11_tells 83 = .ok (.bipush 26, 2) := by decide +kernel
theorem dX11_tells_85 : decode cX11_tells 85 = .ok (.iaload, 1) := by decide +kernel
theorem dX11_tells_86 : decode cX11_tells 86 = .ok (.iconst (-1), 1) := by decide +kernel
theorem dX11_tells_87 : decode cX11_tells 87 = .ok (.if_icmp .ne 7, 3) := by decide +kernel
theorem dX11_tells_90 : decode cX11_tells 90 = .ok (.iload_n 1, 1) := by decide +kernel
theorem dX11_tells_91 : decode cX11_tells 91 = .ok (.goto 28, 3) := by decide +kernel
theorem dX11_tells_94 : decode cX11_tells 94 = .ok (.aload_n 0, 1) := by decide +kernel
theorem dX11_tells_95 : decode cX11_tells 95 = .ok (.getfield 7, 3) := by decide +kernel
theorem dX11_tells_98 : decode cX11_tells 98 = .ok (.bipush 26, 2) := by decide +kernel
theorem dX11_tells_100 : decode cX11_tells 100 = .ok (.iaload, 1) := by decide +kernel
theorem dX11_tells_101 : decode cX11_tells 101 = .ok (.iload_n 1, 1) := by decide +kernel
theorem dX11_tells_102 : decode cX11_tells 102 = .ok (.aload_n 0, 1) := by decide +kernel
theorem dX11_tells_103 : decode cX11_tells 103 = .ok (.getfield 7, 3) := by decide +kernel
theorem dX11_tells_106 : decode cX11_tells 106 = .ok (.bipush 26, 2) := by decide +kernel
theorem dX11_tells_108 : decode cX11_tells 108 = .ok (.iaload, 1) := by decide +kernel
theorem dX11_tells_109 : decode cX11_tells 109 = .ok (.isub, 1) := by decide +kernel
theorem dX11_tells_110 : decode cX11_tells 110 = .ok (.aload_n 0, 1) := by decide +kernel
theorem dX11_tells_111 : decode cX11_tells 111 = .ok (.getfield 7, 3) := by decide +kernel
theorem dX11_tells_114 : decode cX11_tells 114 = .ok (.bipush 19, 2) := by decide +kernel
theorem dX11_tells_116 : decode cX11_tells 116 = .ok (.iaload, 1) := by decide +kernel
theorem dX11_tells_117 : decode cX11_tells 117 = .ok (.idiv, 1) := by decide +kernel
theorem dX11_tells_118 : decode cX11_tells 118 = .ok (.iadd, 1) := by decide +kernel
theorem dX11_tells_119 : decode cX11_tells 119 = .ok (.istore_n 2, 1) := by decide +kernel
theorem dX11_tells_120 : decode cX11_tells 120 = .ok (.aload_n 0, 1) := by decide +kernel
theorem dX11_tells_121 : decode cX11_tells 121 = .ok (.getfield 7, 3) := by decide +kernel
theorem dX11_tells_124 : decode cX11_tells 124 = .ok (.bipush 26, 2) := by decide +kernel
theorem dX11_tells_126 : decode cX11_tells 126 = .ok (.iload_n 2, 1) := by decide +kernel
theorem dX11_tells_127 : decode cX11_tells 127 = .ok (.aload_n 0, 1) := by decide +kernel
theorem dX11_tells_128 : decode cX11_tells 128 = .ok (.getfield 7, 3) := by decide +kernel
theorem dX11_tells_131 : decode cX11_tells 131 = .ok (.bipush 26, 2) := by decide +kernel
theorem dX11_tells_133 : decode cX11_tells 133 = .ok (.iaload, 1) := by decide +kernel
theorem dX11_tells_134 : decode cX11_tells 134 = .ok (.if_icmp .ne 7, 3) := by decide +kernel
theorem dX11_tells_137 : decode cX11_tells 137 = .ok (.iload_n 1, 1) := by decide +kernel
theorem dX11_tells_138 : decode cX11_tells 138 = .ok (.goto 4, 3) := by decide +kernel
theorem dX11_tells_141 : decode cX11_tells 141 = .ok (.iload_n 2, 1) := by decide +kernel
theorem dX11_tells_142 : decode cX11_tells 142 = .ok (.iastore, 1) := by decide +kernel
theorem dX11_tells_143 : decode cX11_tells 143 = .ok (.return_, 1) := by decide +kernel
theorem dX11_alarms_0 : decode cX11_alarms 0 = .ok (.aload_n 0, 1) := by decide +kernel
theorem dX11_alarms_1 : decode cX11_alarms 1 = .ok (.getfield 7, 3) := by decide +kernel
theorem dX11_alarms_4 : decode cX11_alarms 4 = .ok (.bipush 28, 2) := by decide +kernel
theorem dX11_alarms_6 : decode cX11_alarms 6 = .ok (.iaload, 1) := by decide +kernel
theorem dX11_alarms_7 : decode cX11_alarms 7 = .ok (.istore_n 1, 1) := by decide +kernel
theorem dX11_alarms_8 : decode cX11_alarms 8 = .ok (.aload_n 0, 1) := by decide +kernel
theorem dX11_alarms_9 : decode cX11_alarms 9 = .ok (.getfield 7, 3) := by decide +kernel
theorem dX11_alarms_12 : decode cX11_alarms 12 = .ok (.iconst 0, 1) := by decide +kernel
theorem dX11_alarms_13 : decode cX11_alarms 13 = .ok (.iaload, 1) := by decide +kernel
theorem dX11_alarms_14 : decode cX11_alarms 14 = .ok (.aload_n 0, 1) := by decide +kernel
theorem dX11_alarms_15 : decode cX11_alarms 15 = .ok (.getfield 7, 3) := by decide +kernel
theorem dX11_alarms_18 : decode cX11_alarms 18 = .ok (.bipush 26, 2) := by decide +kernel
theorem dX11_alarms_20 : decode cX11_alarms 20 = .ok (.iaload, 1) := by decide +kernel
theorem dX11_alarms_21 : decode cX11_alarms 21 = .ok (.isub, 1) := by decide +kernel
theorem dX11_alarms_22 : decode cX11_alarms 22 = .ok (.istore_n 2, 1) := by decide +kernel
theorem dX11_alarms_23 : decode cX11_alarms 23 = .ok (.aload_n 0, 1) := by decide +kernel
theorem dX11_alarms_24 : decode cX11_alarms 24 = .ok (.getfield 7, 3) := by decide +kernel
theorem dX11_alarms_27 : decode cX11_alarms 27 = .ok (.bipush 26, 2) := by decide +kernel
theorem dX11_alarms_29 : decode cX11_alarms 29 = .ok (.iaload, 1) := by decide +kernel
theorem dX11_alarms_30 : decode cX11_alarms 30 = .ok (.iconst (-1), 1) := by decide +kernel
theorem dX11_alarms_31 : decode cX11_alarms 31 = .ok (.if_icmp .ne 14, 3) := by decide +kernel
theorem dX11_alarms_34 : decode cX11_alarms 34 = .ok (.aload_n 0, 1) := by decide +kernel
theorem dX11_alarms_35 : decode cX11_alarms 35 = .ok (.getfield 7, 3) := by decide +kernel
theorem dX11_alarms_38 : decode cX11_alarms 38 = .ok (.bipush 28, 2) := by decide +kernel
theorem dX11_alarms_40 : decode cX11_alarms 40 = .ok (.iconst 0, 1) := by decide +kernel
theorem dX11_alarms_41 : decode cX11_alarms 41 = .ok (.iastore, 1) := by decide +kernel
theorem dX11_alarms_42 : decode cX11_alarms 42 = .ok (.goto 103, 3) := by decide +kernel
theorem dX11_alarms_45 : decode cX11_alarms 45 = .ok (.iload_n 2, 1) := by decide +kernel
theorem dX11_alarms_46 : decode cX11_alarms 46 = .ok (.aload_n 0, 1) := by decide +kernel
theorem dX11_alarms_47 : decode cX11_alarms 47 = .ok (.getfield 7, 3) := by decide +kernel
theorem dX11_alarms_50 : decode cX11_alarms 50 = .ok (.bipush 21, 2) := by decide +kernel
theorem dX11_alarms_52 : decode cX11_alarms 52 = .ok (.iaload, 1) := by decide +kernel
theorem dX11_alarms_53 : decode cX11_alarms 53 = .ok (.if_icmp .gt 14, 3) := by decide +kernel
theorem dX11_alarms_56 : decode cX11_alarms 56 = .ok (.aload_n 0, 1) := by decide +kernel
theorem dX11_alarms_57 : decode cX11_alarms 57 = .ok (.getfield 7, 3) := by decide +kernel
theorem dX11_alarms_60 : decode cX11_alarms 60 = .ok (.bipush 28, 2) := by decide +kernel
theorem dX11_alarms_62 : decode cX11_alarms 62 = .ok (.iconst 1, 1) := by decide +kernel
theorem dX11_alarms_63 : decode cX11_alarms 63 = .ok (.iastore, 1) := by decide +kernel
theorem dX11_alarms_64 : decode cX11_alarms 64 = .ok (.goto 81, 3) := by decide +kernel
theorem dX11_alarms_67 : decode cX11_alarms 67 = .ok (.iload_n 2, 1) := by decide +kernel
theorem dX11_alarms_68 : decode cX11_alarms 68 = .ok (.aload_n 0, 1) := by decide +kernel
theorem dX11_alarms_69 : decode cX11_alarms 69 = .ok (.getfield 7, 3) := by decide +kernel
theorem dX11_alarms_72 : decode cX11_alarms 72 = .ok (.bipush 22, 2) := by decide +kernel
theorem dX11_alarms_74 : decode cX11_alarms 74 = .ok (.iaload, 1) := by decide +kernel
theorem dX11_alarms_75 : decode cX11_alarms 75 = .ok (.if_icmp .lt 14, 3) := by decide +kernel
theorem dX11_alarms_78 : decode cX11_alarms 78 = .ok (.aload_n 0, 1) := by decide +kernel
theorem dX11_alarms_79 : decode cX11_alarms 79 = .ok (.getfield 7, 3) := by decide +kernel
theorem dX11_alarms_82 : decode cX11_alarms 82 = .ok (.bipush 28, 2) := by decide +kernel
theorem dX11_alarms_84 : decode cX11_alarms 84 = .ok (.iconst 2, 1) := by decide +kernel
theorem dX11_alarms_85 : decode cX11_alarms 85 = .ok (.iastore, 1) := by decide +kernel
theorem dX11_alarms_86 : decode cX11_alarms 86 = .ok (.goto 59, 3) := by decide +kernel
theorem dX11_alarms_89 : decode cX11_alarms 89 = .ok (.iload_n 1, 1) := by decide +kernel
theorem dX11_alarms_90 : decode cX11_alarms 90 = .ok (.iconst 1, 1) := by decide +kernel
theorem dX11_alarms_91 : decode cX11_alarms 91 = .ok (.if_icmp .ne 22, 3) := by decide +kernel
theorem dX11_alarms_94 : decode cX11_alarms 94 = .ok (.iload_n 2, 1) := by decide +kernel
theorem dX11_alarms_95 : decode cX11_alarms 95 = .ok (.aload_n 0, 1) := by decide +kernel
theorem dX11_alarms_96 : decode cX11_alarms 96 = .ok (.getfield 7, 3) := by decide +kernel
theorem dX11_alarms_99 : decode cX11_alarms 99 = .ok (.bipush 21, 2) := by decide +kernel
theorem dX11_alarms_101 : decode cX11_alarms 101 = .ok (.iaload, 1) := by decide +kernel
theorem dX11_alarms_102 : decode cX11_alarms 102 = .ok (.aload_n 0, 1) := by decide +kernel
theorem dX11_alarms_103 : decode cX11_alarms 103 = .ok (.getfield 7, 3) := by decide +kernel
theorem dX11_alarms_106 : decode cX11_alarms 106 = .ok (.bipush 23, 2) := by decide +kernel
theorem dX11_alarms_108 : decode cX11_alarms 108 = .ok (.iaload, 1) := by decide +kernel
theorem dX11_alarms_109 : decode cX11_alarms 109 = .ok (.iadd, 1) := by decide +kernel
theorem dX11_alarms_110 : decode cX11_alarms 110 = .ok (.if_icmp .gt 27, 3) := by decide +kernel
theorem dX11_alarms_113 : decode cX11_alarms 113 = .ok (.iload_n 1, 1) := by decide +kernel
theorem dX11_alarms_114 : decode cX11_alarms 114 = .ok (.iconst 2, 1) := by decide +kernel
theorem dX11_alarms_115 : decode cX11_alarms 115 = .ok (.if_icmp .ne 30, 3) := by decide +kernel
theorem dX11_alarms_118 : decode cX11_alarms 118 = .ok (.iload_n 2, 1) := by decide +kernel
theorem dX11_alarms_119 : decode cX11_alarms 119 = .ok (.aload_n 0, 1) := by decide +kernel
theorem dX11_alarms_120 : decode cX11_alarms 120 = .ok (.getfield 7, 3) := by decide +kernel
theorem dX11_alarms_123 : decode cX11_alarms 123 = .ok (.bipush 22, 2) := by decide +kernel
theorem dX11_alarms_125 : decode cX11_alarms 125 = .ok (.iaload, 1) := by decide +kernel
theorem dX11_alarms_126 : decode cX11_alarms 126 = .ok (.aload_n 0, 1) := by decide +kernel
theorem dX11_alarms_127 : decode cX11_alarms 127 = .ok (.getfield 7, 3) := by decide +kernel
theorem dX11_alarms_130 : decode cX11_alarms 130 = .ok (.bipush 23, 2) := by decide +kernel
theorem dX11_alarms_132 : decode cX11_alarms 132 = .ok (.iaload, 1) := by decide +kernel
theorem dX11_alarms_133 : decode cX11_alarms 133 = .ok (.isub, 1) := by decide +kernel
theorem dX11_alarms_134 : decode cX11_alarms 134 = .ok (.if_icmp .ge 11, 3) := by decide +kernel
theorem dX11_alarms_137 : decode cX11_alarms 137 = .ok (.aload_n 0, 1) := by decide +kernel
theorem dX11_alarms_138 : decode cX11_alarms 138 = .ok (.getfield 7, 3) := by decide +kernel
theorem dX11_alarms_141 : decode cX11_alarms 141 = .ok (.bipush 28, 2) := by decide +kernel
theorem dX11_alarms_143 : decode cX11_alarms 143 = .ok (.iconst 0, 1) := by decide +kernel
theorem dX11_alarms_144 : decode cX11_alarms 144 = .ok (.iastore, 1) := by decide +kernel
theorem dX11_alarms_145 : decode cX11_alarms 145 = .ok (.aload_n 0, 1) := by decide +kernel
theorem dX11_alarms_146 : decode cX11_alarms 146 = .ok (.getfield 7, 3) := by decide +kernel
theorem dX11_alarms_149 : decode cX11_alarms 149 = .ok (.bipush 30, 2) := by decide +kernel
theorem dX11_alarms_151 : decode cX11_alarms 151 = .ok (.dup2, 1) := by decide +kernel
theorem dX11_alarms_152 : decode cX11_alarms 152 = .ok (.iaload, 1) := by decide +kernel
theorem dX11_alarms_153 : decode cX11_alarms 153 = .ok (.aload_n 0, 1) := by decide +kernel
theorem dX11_alarms_154 : decode cX11_alarms 154 = .ok (.getfield 7, 3) := by decide +kernel
theorem dX11_alarms_157 : decode cX11_alarms 157 = .ok (.bipush 28, 2) := by decide +kernel
theorem dX11_alarms_159 : decode cX11_alarms 159 = .ok (.iaload, 1) := by decide +kernel
theorem dX11_alarms_160 : decode cX11_alarms 160 = .ok (.ifCond .eq 18, 3) := by decide +kernel
theorem dX11_alarms_163 : decode cX11_alarms 163 = .ok (.aload_n 0, 1) := by decide +kernel
theorem dX11_alarms_164 : decode cX11_alarms 164 = .ok (.getfield 7, 3) := by decide +kernel
theorem dX11_alarms_167 : decode cX11_alarms 167 = .ok (.bipush 28, 2) := by decide +kernel
theorem dX11_alarms_169 : decode cX11_alarms 169 = .ok (.iaload, 1) := by decide +kernel
theorem dX11_alarms_170 : decode cX11_alarms 170 = .ok (.iload_n 1, 1) := by decide +kernel
theorem dX11_alarms_171 : decode cX11_alarms 171 = .ok (.if_icmp .eq 7, 3) := by decide +kernel
theorem dX11_alarms_174 : decode cX11_alarms 174 = .ok (.iconst 1, 1) := by decide +kernel
theorem dX11_alarms_175 : decode cX11_alarms 175 = .ok (.goto 4, 3) := by decide +kernel
theorem dX11_alarms_178 : decode cX11_alarms 178 = .ok (.iconst 0, 1) := by decide +kernel
theorem dX11_alarms_179 : decode cX11_alarms 179 = .ok (.iadd, 1) := by decide +kernel
theorem dX11_alarms_180 : decode cX11_alarms 180 = .ok (.iastore, 1) := by decide +kernel
theorem dX11_alarms_181 : decode cX11_alarms 181 = .ok (.return_, 1) := by decide +kernel
theorem dX11_shot_0 : decode cX11_shot 0 = .ok (.aload_n 0, 1) := by decide +kernel
theorem dX11_shot_1 : decode cX11_shot 1 = .ok (.invokevirtual 106, 3) := by decide +kernel
theorem dX11_shot_4 : decode cX11_shot 4 = .ok (.aload_n 0, 1) := by decide +kernel
theorem dX11_shot_5 : decode cX11_shot 5 = .ok (.invokevirtual 109, 3) := by decide +kernel
theorem dX11_shot_8 : decode cX11_shot 8 = .ok (.aload_n 0, 1) := by decide +kernel
theorem dX11_shot_9 : decode cX11_shot 9 = .ok (.invokevirtual 112, 3) := by decide +kernel
theorem dX11_shot_12 : decode cX11_shot 12 = .ok (.aload_n 0, 1) := by decide +kernel
theorem dX11_shot_13 : decode cX11_shot 13 = .ok (.invokevirtual 115, 3) := by decide +kernel
theorem dX11_shot_16 : decode cX11_shot 16 = .ok (.istore_n 1, 1) := by decide +kernel
theorem dX11_shot_17 : decode cX11_shot 17 = .ok (.aload_n 0, 1) := by decide +kernel
theorem dX11_shot_18 : decode cX11_shot 18 = .ok (.getfield 7, 3) := by decide +kernel
theorem dX11_shot_21 : decode cX11_shot 21 = .ok (.bipush 24, 2) := by decide +kernel
theorem dX11_shot_23 : decode cX11_shot 23 = .ok (.dup2, 1) := by decide +kernel
theorem dX11_shot_24 : decode cX11_shot 24 = .ok (.iaload, 1) := by decide +kernel
theorem dX11_shot_25 : decode cX11_shot 25 = .ok (.iconst 1, 1) := by decide +kernel
theorem dX11_shot_26 : decode cX11_shot 26 = .ok (.iadd, 1) := by decide +kernel
theorem dX11_shot_27 : decode cX11_shot 27 = .ok (.iastore, 1) := by decide +kernel
theorem dX11_shot_28 : decode cX11_shot 28 = .ok (.aload_n 0, 1) := by decide +kernel
theorem dX11_shot_29 : decode cX11_shot 29 = .ok (.getfield 7, 3) := by decide +kernel
theorem dX11_shot_32 : decode cX11_shot 32 = .ok (.bipush 25, 2) := by decide +kernel
theorem dX11_shot_34 : decode cX11_shot 34 = .ok (.dup2, 1) := by decide +kernel
theorem dX11_shot_35 : decode cX11_shot 35 = .ok (.iaload, 1) := by decide +kernel
theorem dX11_shot_36 : decode cX11_shot 36 = .ok (.iload_n 1, 1) := by decide +kernel
theorem dX11_shot_37 : decode cX11_shot 37 = .ok (.iconst (-1), 1) := by decide +kernel
theorem dX11_shot_38 : decode cX11_shot 38 = .ok (.if_icmp .eq 7, 3) := by decide +kernel
theorem dX11_shot_41 : decode cX11_shot 41 = .ok (.iconst 1, 1) := by decide +kernel
theorem dX11_shot_42 : decode cX11_shot 42 = .ok (.goto 4, 3) := by decide +kernel
theorem dX11_shot_45 : decode cX11_shot 45 = .ok (.iconst 0, 1) := by decide +kernel
theorem dX11_shot_46 : decode cX11_shot 46 = .ok (.iadd, 1) := by decide +kernel
theorem dX11_shot_47 : decode cX11_shot 47 = .ok (.iastore, 1) := by decide +kernel
theorem dX11_shot_48 : decode cX11_shot 48 = .ok (.aload_n 0, 1) := by decide +kernel
theorem dX11_shot_49 : decode cX11_shot 49 = .ok (.iload_n 1, 1) := by decide +kernel
theorem dX11_shot_50 : decode cX11_shot 50 = .ok (.invokevirtual 118, 3) := by decide +kernel
theorem dX11_shot_53 : decode cX11_shot 53 = .ok (.aload_n 0, 1) := by decide +kernel
theorem dX11_shot_54 : decode cX11_shot 54 = .ok (.invokevirtual 121, 3) := by decide +kernel
theorem dX11_shot_57 : decode cX11_shot 57 = .ok (.aload_n 0, 1) := by decide +kernel
theorem dX11_shot_58 : decode cX11_shot 58 = .ok (.invokevirtual 124, 3) := by decide +kernel
theorem dX11_shot_61 : decode cX11_shot 61 = .ok (.iload_n 1, 1) := by decide +kernel
theorem dX11_shot_62 : decode cX11_shot 62 = .ok (.iconst (-1), 1) := by decide +kernel
theorem dX11_shot_63 : decode cX11_shot 63 = .ok (.if_icmp .eq 7, 3) := by decide +kernel
theorem dX11_shot_66 : decode cX11_shot 66 = .ok (.iconst 1, 1) := by decide +kernel
theorem dX11_shot_67 : decode cX11_shot 67 = .ok (.goto 4, 3) := by decide +kernel
theorem dX11_shot_70 : decode cX11_shot 70 = .ok (.iconst 0, 1) := by decide +kernel
theorem dX11_shot_71 : decode cX11_shot 71 = .ok (.ireturn, 1) := by decide +kernel
theorem dX11_canBegin_0 : decode cX11_canBegin 0 = .ok (.iload_n 1, 1) := by decide +kernel
theorem dX11_canBegin_1 : decode cX11_canBegin 1 = .ok (.sipush 500, 3) := by decide +kernel
theorem dX11_canBegin_4 : decode cX11_canBegin 4 = .ok (.sipush 10000, 3) := by decide +kernel
theorem dX11_canBegin_7 : decode cX11_canBegin 7 = .ok (.invokestatic 89, 3) := by decide +kernel
theorem dX11_canBegin_10 : decode cX11_canBegin 10 = .ok (.ireturn, 1) := by decide +kernel
theorem dX11_begin_0 : decode cX11_begin 0 = .ok (.aload_n 0, 1) := by decide +kernel
theorem dX11_begin_1 : decode cX11_begin 1 = .ok (.aload_n 0, 1) := by decide +kernel
theorem dX11_begin_2 : decode cX11_begin 2 = .ok (.iload_n 1, 1) := by decide +kernel
theorem dX11_begin_3 : decode cX11_begin 3 = .ok (.invokevirtual 127, 3) := by decide +kernel
theorem dX11_begin_6 : decode cX11_begin 6 = .ok (.iconst 1, 1) := by decide +kernel
theorem dX11_begin_7 : decode cX11_begin 7 = .ok (.invokevirtual 37, 3) := by decide +kernel
theorem dX11_begin_10 : decode cX11_begin 10 = .ok (.ifCond .ne 5, 3) := by decide +kernel
theorem dX11_begin_13 : decode cX11_begin 13 = .ok (.iconst 0, 1) := by decide +kernel
theorem dX11_begin_14 : decode cX11_begin 14 = .ok (.ireturn, 1) := by decide +kernel
theorem dX11_begin_15 : decode cX11_begin 15 = .ok (.aload_n 0, 1) := by decide +kernel
theorem dX11_begin_16 : decode cX11_begin 16 = .ok (.invokevirtual 130, 3) := by decide +kernel
theorem dX11_begin_19 : decode cX11_begin 19 = .ok (.aload_n 0, 1) := by decide +kernel
theorem dX11_begin_20 : decode cX11_begin 20 = .ok (.getfield 7, 3) := by decide +kernel
theorem dX11_begin_23 : decode cX11_begin 23 = .ok (.bipush 24, 2) := by decide +kernel
theorem dX11_begin_25 : decode cX11_begin 25 = .ok (.iaload, 1) := by decide +kernel
theorem dX11_begin_26 : decode cX11_begin 26 = .ok (.istore_n 2, 1) := by decide +kernel
theorem dX11_begin_27 : decode cX11_begin 27 = .ok (.aload_n 0, 1) := by decide +kernel
theorem dX11_begin_28 : decode cX11_begin 28 = .ok (.iload_n 1, 1) := by decide +kernel
theorem dX11_begin_29 : decode cX11_begin 29 = .ok (.invokevirtual 26, 3) := by decide +kernel
theorem dX11_begin_32 : decode cX11_begin 32 = .ok (.iload_n 2, 1) := by decide +kernel
theorem dX11_begin_33 : decode cX11_begin 33 = .ok (.ireturn, 1) := by decide +kernel
theorem dX11_put_0 : decode cX11_put 0 = .ok (.aload_n 0, 1) := by decide +kernel
theorem dX11_put_1 : decode cX11_put 1 = .ok (.invokevirtual 130, 3) := by decide +kernel
theorem dX11_put_4 : decode cX11_put 4 = .ok (.aload_n 0, 1) := by decide +kernel
theorem dX11_put_5 : decode cX11_put 5 = .ok (.getfield 7, 3) := by decide +kernel
theorem dX11_put_8 : decode cX11_put 8 = .ok (.iload_n 1, 1) := by decide +kernel
theorem dX11_put_9 : decode cX11_put 9 = .ok (.iaload, 1) := by decide +kernel
theorem dX11_put_10 : decode cX11_put 10 = .ok (.istore_n 3, 1) := by decide +kernel
theorem dX11_put_11 : decode cX11_put 11 = .ok (.aload_n 0, 1) := by decide +kernel
theorem dX11_put_12 : decode cX11_put 12 = .ok (.getfield 7, 3) := by decide +kernel
theorem dX11_put_15 : decode cX11_put 15 = .ok (.iload_n 1, 1) := by decide +kernel
theorem dX11_put_16 : decode cX11_put 16 = .ok (.iload_n 2, 1) := by decide +kernel
theorem dX11_put_17 : decode cX11_put 17 = .ok (.iastore, 1) := by decide +kernel
theorem dX11_put_18 : decode cX11_put 18 = .ok (.iload_n 3, 1) := by decide +kernel
theorem dX11_put_19 : decode cX11_put 19 = .ok (.ireturn, 1) := by decide +kernel
theorem dX11_canLevel_0 : decode cX11_canLevel 0 = .ok (.iload_n 1, 1) := by decide +kernel
theorem dX11_canLevel_1 : decode cX11_canLevel 1 = .ok (.iconst 0, 1) := by decide +kernel
theorem dX11_canLevel_2 : decode cX11_canLevel 2 = .ok (.aload_n 0, 1) := by decide +kernel
theorem dX11_canLevel_3 : decode cX11_canLevel 3 = .ok (.getfield 7, 3) := by decide +kernel
theorem dX11_canLevel_6 : decode cX11_canLevel 6 = .ok (.iconst 0, 1) := by decide +kernel
theorem dX11_canLevel_7 : decode cX11_canLevel 7 = .ok (.iaload, 1) := by decide +kernel
theorem dX11_canLevel_8 : decode cX11_canLevel 8 = .ok (.invokestatic 89, 3) := by decide +kernel
theorem dX11_canLevel_11 : decode cX11_canLevel 11 = .ok (.ireturn, 1) := by decide +kernel
theorem dX11_setLevel_0 : decode cX11_setLevel 0 = .ok (.aload_n 0, 1) := by decide +kernel
theorem dX11_setLevel_1 : decode cX11_setLevel 1 = .ok (.aload_n 0, 1) := by decide +kernel
theorem dX11_setLevel_2 : decode cX11_setLevel 2 = .ok (.iload_n 1, 1) := by decide +kernel
theorem dX11_setLevel_3 : decode cX11_setLevel 3 = .ok (.invokevirtual 133, 3) := by decide +kernel
theorem dX11_setLevel_6 : decode cX11_setLevel 6 = .ok (.iconst 1, 1) := by decide +kernel
theorem dX11_setLevel_7 : decode cX11_setLevel 7 = .ok (.invokevirtual 37, 3) := by decide +kernel
theorem dX11_setLevel_10 : decode cX11_setLevel 10 = .ok (.ifCond .eq 12, 3) := by decide +kernel
theorem dX11_setLevel_13 : decode cX11_setLevel 13 = .ok (.aload_n 0, 1) := by decide +kernel
theorem dX11_setLevel_14 : decode cX11_setLevel 14 = .ok (.iconst 1, 1) := by decide +kernel
theorem dX11_setLevel_15 : decode cX11_setLevel 15 = .ok (.iload_n 1, 1) := by decide +kernel
theorem dX11_setLevel_16 : decode cX11_setLevel 16 = .ok (.invokevirtual 136, 3) := by decide +kernel
theorem dX11_setLevel_19 : decode cX11_setLevel 19 = .ok (.goto 4, 3) := by decide +kernel
theorem dX11_setLevel_22 : decode cX11_setLevel 22 = .ok (.iconst 0, 1) := by decide +kernel
theorem dX11_setLevel_23 : decode cX11_setLevel 23 = .ok (.ireturn, 1) := by decide +kernel
theorem dX11_canFlow_0 : decode cX11_canFlow 0 = .ok (.iload_n 1, 1) := by decide +kernel
theorem dX11_canFlow_1 : decode cX11_canFlow 1 = .ok (.sipush (-200), 3) := by decide +kernel
theorem dX11_canFlow_4 : decode cX11_canFlow 4 = .ok (.sipush 200, 3) := by decide +kernel
theorem dX11_canFlow_7 : decode cX11_canFlow 7 = .ok (.invokestatic 89, 3) := by decide +kernel
theorem dX11_canFlow_10 : decode cX11_canFlow 10 = .ok (.ireturn, 1) := by decide +kernel
theorem dX11_setFlow_0 : decode cX11_setFlow 0 = .ok (.aload_n 0, 1) := by decide +kernel
theorem dX11_setFlow_1 : decode cX11_setFlow 1 = .ok (.aload_n 0, 1) := by decide +kernel
theorem dX11_setFlow_2 : decode cX11_setFlow 2 = .ok (.iload_n 1, 1) := by decide +kernel
theorem dX11_setFlow_3 : decode cX11_setFlow 3 = .ok (.invokevirtual 139, 3) := by decide +kernel
theorem dX11_setFlow_6 : decode cX11_setFlow 6 = .ok (.iconst 1, 1) := by decide +kernel
theorem dX11_setFlow_7 : decode cX11_setFlow 7 = .ok (.invokevirtual 37, 3) := by decide +kernel
theorem dX11_setFlow_10 : decode cX11_setFlow 10 = .ok (.ifCond .eq 12, 3) := by decide +kernel
theorem dX11_setFlow_13 : decode cX11_setFlow 13 = .ok (.aload_n 0, 1) := by decide +kernel
theorem dX11_setFlow_14 : decode cX11_setFlow 14 = .ok (.iconst 2, 1) := by decide +kernel
theorem dX11_setFlow_15 : decode cX11_setFlow 15 = .ok (.iload_n 1, 1) := by decide +kernel
theorem dX11_setFlow_16 : decode cX11_setFlow 16 = .ok (.invokevirtual 136, 3) := by decide +kernel
theorem dX11_setFlow_19 : decode cX11_setFlow 19 = .ok (.goto 4, 3) := by decide +kernel
theorem dX11_setFlow_22 : decode cX11_setFlow 22 = .ok (.iconst 0, 1) := by decide +kernel
theorem dX11_setFlow_23 : decode cX11_setFlow 23 = .ok (.ireturn, 1) := by decide +kernel
theorem dX11_canFoam_0 : decode cX11_canFoam 0 = .ok (.iload_n 1, 1) := by decide +kernel
theorem dX11_canFoam_1 : decode cX11_canFoam 1 = .ok (.iconst 0, 1) := by decide +kernel
theorem dX11_canFoam_2 : decode cX11_canFoam 2 = .ok (.sipush 500, 3) := by decide +kernel
theorem dX11_canFoam_5 : decode cX11_canFoam 5 = .ok (.invokestatic 89, 3) := by decide +kernel
theorem dX11_canFoam_8 : decode cX11_canFoam 8 = .ok (.ireturn, 1) := by decide +kernel
theorem dX11_setFoam_0 : decode cX11_setFoam 0 = .ok (.aload_n 0, 1) := by decide +kernel
theorem dX11_setFoam_1 : decode cX11_setFoam 1 = .ok (.aload_n 0, 1) := by decide +kernel
theorem dX11_setFoam_2 : decode cX11_setFoam 2 = .ok (.iload_n 1, 1) := by decide +kernel
theorem dX11_setFoam_3 : decode cX11_setFoam 3 = .ok (.invokevirtual 142, 3) := by decide +kernel
theorem dX11_setFoam_6 : decode cX11_setFoam 6 = .ok (.iconst 1, 1) := by decide +kernel
theorem dX11_setFoam_7 : decode cX11_setFoam 7 = .ok (.invokevirtual 37, 3) := by decide +kernel
theorem dX11_setFoam_10 : decode cX11_setFoam 10 = .ok (.ifCond .eq 12, 3) := by decide +kernel
theorem dX11_setFoam_13 : decode cX11_setFoam 13 = .ok (.aload_n 0, 1) := by decide +kernel
theorem dX11_setFoam_14 : decode cX11_setFoam 14 = .ok (.iconst 3, 1) := by decide +kernel
theorem dX11_setFoam_15 : decode cX11_setFoam 15 = .ok (.iload_n 1, 1) := by decide +kernel
theorem dX11_setFoam_16 : decode cX11_setFoam 16 = .ok (.invokevirtual 136, 3) := by decide +kernel
theorem dX11_setFoam_19 : decode cX11_setFoam 19 = .ok (.goto 4, 3) := by decide +kernel
theorem dX11_setFoam_22 : decode cX11_setFoam 22 = .ok (.iconst 0, 1) := by decide +kernel
theorem dX11_setFoam_23 : decode cX11_setFoam 23 = .ok (.ireturn, 1) := by decide +kernel
theorem dX11_canThing_0 : decode cX11_canThing 0 = .ok (.iload_n 1, 1) := by decide +kernel
theorem dX11_canThing_1 : decode cX11_canThing 1 = .ok (.iconst 0, 1) := by decide +kernel
theorem dX11_canThing_2 : decode cX11_canThing 2 = .ok (.sipush 10000, 3) := by decide +kernel
theorem dX11_canThing_5 : decode cX11_canThing 5 = .ok (.invokestatic 89, 3) := by decide +kernel
theorem dX11_canThing_8 : decode cX11_canThing 8 = .ok (.ifCond .eq 17, 3) := by decide +kernel
theorem dX11_canThing_11 : decode cX11_canThing 11 = .ok (.iload_n 2, 1) := by decide +kernel
theorem dX11_canThing_12 : decode cX11_canThing 12 = .ok (.iconst 1, 1) := by decide +kernel
theorem dX11_canThing_13 : decode cX11_canThing 13 = .ok (.bipush 100, 2) := by decide +kernel
theorem dX11_canThing_15 : decode cX11_canThing 15 = .ok (.invokestatic 89, 3) := by decide +kernel
theorem dX11_canThing_18 : decode cX11_canThing 18 = .ok (.ifCond .eq 7, 3) := by decide +kernel
theorem dX11_canThing_21 : decode cX11_canThing 21 = .ok (.iconst 1, 1) := by decide +kernel
theorem dX11_canThing_22 : decode cX11_canThing 22 = .ok (.goto 4, 3) := by decide +kernel
theorem dX11_canThing_25 : decode cX11_canThing 25 = .ok (.iconst 0, 1) := by decide +kernel
theorem dX11_canThing_26 : decode cX11_canThing 26 = .ok (.ireturn, 1) := by decide +kernel
theorem dX11_adds_0 : decode cX11_adds 0 = .ok (.aload_n 0, 1) := by decide +kernel
theorem dX11_adds_1 : decode cX11_adds 1 = .ok (.getfield 7, 3) := by decide +kernel
theorem dX11_adds_4 : decode cX11_adds 4 = .ok (.sipush 134, 3) := by decide +kernel
theorem dX11_adds_7 : decode cX11_adds 7 = .ok (.iconst 2, 1) := by decide +kernel
theorem dX11_adds_8 : decode cX11_adds 8 = .ok (.aload_n 0, 1) := by decide +kernel
theorem dX11_adds_9 : decode cX11_adds 9 = .ok (.getfield 7, 3) := by decide +kernel
theorem dX11_adds_12 : decode cX11_adds 12 = .ok (.iconst 4, 1) := by decide +kernel
theorem dX11_adds_13 : decode cX11_adds 13 = .ok (.iaload, 1) := by decide +kernel
theorem dX11_adds_14 : decode cX11_adds 14 = .ok (.imul, 1) := by decide +kernel
theorem dX11_adds_15 : decode cX11_adds 15 = .ok (.iadd, 1) := by decide +kernel
theorem dX11_adds_16 : decode cX11_adds 16 = .ok (.iload_n 1, 1) := by decide +kernel
theorem dX11_adds_17 : decode cX11_adds 17 = .ok (.iastore, 1) := by decide +kernel
theorem dX11_adds_18 : decode cX11_adds 18 = .ok (.aload_n 0, 1) := by decide +kernel
theorem dX11_adds_19 : decode cX11_adds 19 = .ok (.getfield 7, 3) := by decide +kernel
theorem dX11_adds_22 : decode cX11_adds 22 = .ok (.sipush 134, 3) := by decide +kernel
theorem dX11_adds_25 : decode cX11_adds 25 = .ok (.iconst 2, 1) := by decide +kernel
theorem dX11_adds_26 : decode cX11_adds 26 = .ok (.aload_n 0, 1) := by decide +kernel
theorem dX11_adds_27 : decode cX11_adds 27 = .ok (.getfield 7, 3) := by decide +kernel
theorem dX11_adds_30 : decode cX11_adds 30 = .ok (.iconst 4, 1) := by decide +kernel
theorem dX11_adds_31 : decode cX11_adds 31 = .ok (.iaload, 1) := by decide +kernel
theorem dX11_adds_32 : decode cX11_adds 32 = .ok (.imul, 1) := by decide +kernel
theorem dX11_adds_33 : decode cX11_adds 33 = .ok (.iadd, 1) := by decide +kernel
theorem dX11_adds_34 : decode cX11_adds 34 = .ok (.iconst 1, 1) := by decide +kernel
theorem dX11_adds_35 : decode cX11_adds 35 = .ok (.iadd, 1) := by decide +kernel
theorem dX11_adds_36 : decode cX11_adds 36 = .ok (.iload_n 2, 1) := by decide +kernel
theorem dX11_adds_37 : decode cX11_adds 37 = .ok (.iastore, 1) := by decide +kernel
theorem dX11_adds_38 : decode cX11_adds 38 = .ok (.aload_n 0, 1) := by decide +kernel
theorem dX11_adds_39 : decode cX11_adds 39 = .ok (.getfield 7, 3) := by decide +kernel
theorem dX11_adds_42 : decode cX11_adds 42 = .ok (.iconst 4, 1) := by decide +kernel
theorem dX11_adds_43 : decode cX11_adds 43 = .ok (.dup2, 1) := by decide +kernel
theorem dX11_adds_44 : decode cX11_adds 44 = .ok (.iaload, 1) := by decide +kernel
theorem dX11_adds_45 : decode cX11_adds 45 = .ok (.iconst 1, 1) := by decide +kernel
theorem dX11_adds_46 : decode cX11_adds 46 = .ok (.iadd, 1) := by decide +kernel
theorem dX11_adds_47 : decode cX11_adds 47 = .ok (.iastore, 1) := by decide +kernel
theorem dX11_adds_48 : decode cX11_adds 48 = .ok (.return_, 1) := by decide +kernel
theorem dX11_addThing_0 : decode cX11_addThing 0 = .ok (.aload_n 0, 1) := by decide +kernel
theorem dX11_addThing_1 : decode cX11_addThing 1 = .ok (.aload_n 0, 1) := by decide +kernel
theorem dX11_addThing_2 : decode cX11_addThing 2 = .ok (.iload_n 1, 1) := by decide +kernel
theorem dX11_addThing_3 : decode cX11_addThing 3 = .ok (.iload_n 2, 1) := by decide +kernel
theorem dX11_addThing_4 : decode cX11_addThing 4 = .ok (.invokevirtual 145, 3) := by decide +kernel
theorem dX11_addThing_7 : decode cX11_addThing 7 = .ok (.iconst 1, 1) := by decide +kernel
theorem dX11_addThing_8 : decode cX11_addThing 8 = .ok (.invokevirtual 37, 3) := by decide +kernel
theorem dX11_addThing_11 : decode cX11_addThing 11 = .ok (.ifCond .eq 27, 3) := by decide +kernel
theorem dX11_addThing_14 : decode cX11_addThing 14 = .ok (.aload_n 0, 1) := by decide +kernel
theorem dX11_addThing_15 : decode cX11_addThing 15 = .ok (.aload_n 0, 1) := by decide +kernel
theorem dX11_addThing_16 : decode cX11_addThing 16 = .ok (.getfield 7, 3) := by decide +kernel
theorem dX11_addThing_19 : decode cX11_addThing 19 = .ok (.iconst 4, 1) := by decide +kernel
theorem dX11_addThing_20 : decode cX11_addThing 20 = .ok (.iaload, 1) := by decide +kernel
theorem dX11_addThing_21 : decode cX11_addThing 21 = .ok (.bipush 6, 2) := by decide +kernel
theorem dX11_addThing_23 : decode cX11_addThing 23 = .ok (.if_icmp .ge 7, 3) := by decide +kernel
theorem dX11_addThing_26 : decode cX11_addThing 26 = .ok (.iconst 1, 1) := by decide +kernel
theorem dX11_addThing_27 : decode cX11_addThing 27 = .ok (.goto 4, 3) := by decide +kernel
theorem dX11_addThing_30 : decode cX11_addThing 30 = .ok (.iconst 0, 1) := by decide +kernel
theorem dX11_addThing_31 : decode cX11_addThing 31 = .ok (.iconst 2, 1) := by decide +kernel
theorem dX11_addThing_32 : decode cX11_addThing 32 = .ok (.invokevirtual 37, 3) := by decide +kernel
theorem dX11_addThing_35 : decode cX11_addThing 35 = .ok (.ifCond .ne 5, 3) := by decide +kernel
theorem dX11_addThing_38 : decode cX11_addThing 38 = .ok (.iconst 0, 1) := by decide +kernel
theorem dX11_addThing_39 : decode cX11_addThing 39 = .ok (.ireturn, 1) := by decide +kernel
theorem dX11_addThing_40 : decode cX11_addThing 40 = .ok (.aload_n 0, 1) := by decide +kernel
theorem dX11_addThing_41 : decode cX11_addThing 41 = .ok (.invokevirtual 130, 3) := by decide +kernel
theorem dX11_addThing_44 : decode cX11_addThing 44 = .ok (.aload_n 0, 1) := by decide +kernel
theorem dX11_addThing_45 : decode cX11_addThing 45 = .ok (.iload_n 1, 1) := by decide +kernel
theorem dX11_addThing_46 : decode cX11_addThing 46 = .ok (.iload_n 2, 1) := by decide +kernel
theorem dX11_addThing_47 : decode cX11_addThing 47 = .ok (.invokevirtual 148, 3) := by decide +kernel
theorem dX11_addThing_50 : decode cX11_addThing 50 = .ok (.aload_n 0, 1) := by decide +kernel
theorem dX11_addThing_51 : decode cX11_addThing 51 = .ok (.getfield 7, 3) := by decide +kernel
theorem dX11_addThing_54 : decode cX11_addThing 54 = .ok (.iconst 4, 1) := by decide +kernel
theorem dX11_addThing_55 : decode cX11_addThing 55 = .ok (.iaload, 1) := by decide +kernel
theorem dX11_addThing_56 : decode cX11_addThing 56 = .ok (.iconst 1, 1) := by decide +kernel
theorem dX11_addThing_57 : decode cX11_addThing 57 = .ok (.isub, 1) := by decide +kernel
theorem dX11_addThing_58 : decode cX11_addThing 58 = .ok (.ireturn, 1) := by decide +kernel
theorem dX11_isThing_0 : decode cX11_isThing 0 = .ok (.iload_n 1, 1) := by decide +kernel
theorem dX11_isThing_1 : decode cX11_isThing 1 = .ok (.iconst 0, 1) := by decide +kernel
theorem dX11_isThing_2 : decode cX11_isThing 2 = .ok (.aload_n 0, 1) := by decide +kernel
theorem dX11_isThing_3 : decode cX11_isThing 3 = .ok (.getfield 7, 3) := by decide +kernel
theorem dX11_isThing_6 : decode cX11_isThing 6 = .ok (.iconst 4, 1) := by decide +kernel
theorem dX11_isThing_7 : decode cX11_isThing 7 = .ok (.iaload, 1) := by decide +kernel
theorem dX11_isThing_8 : decode cX11_isThing 8 = .ok (.iconst 1, 1) := by decide +kernel
theorem dX11_isThing_9 : decode cX11_isThing 9 = .ok (.isub, 1) := by decide +kernel
theorem dX11_isThing_10 : decode cX11_isThing 10 = .ok (.invokestatic 89, 3) := by decide +kernel
theorem dX11_isThing_13 : decode cX11_isThing 13 = .ok (.ireturn, 1) := by decide +kernel
theorem dX11_removeThing_0 : decode cX11_removeThing 0 = .ok (.aload_n 0, 1) := by decide +kernel
theorem dX11_removeThing_1 : decode cX11_removeThing 1 = .ok (.aload_n 0, 1) := by decide +kernel
theorem dX11_removeThing_2 : decode cX11_removeThing 2 = .ok (.iload_n 1, 1) := by decide +kernel
theorem dX11_removeThing_3 : decode cX11_removeThing 3 = .ok (.invokevirtual 152, 3) := by decide +kernel
theorem dX11_removeThing_6 : decode cX11_removeThing 6 = .ok (.iconst 1, 1) := by decide +kernel
theorem dX11_removeThing_7 : decode cX11_removeThing 7 = .ok (.invokevirtual 37, 3) := by decide +kernel
theorem dX11_removeThing_10 : decode cX11_removeThing 10 = .ok (.ifCond .ne 5, 3) := by decide +kernel
theorem dX11_removeThing_13 : decode cX11_removeThing 13 = .ok (.iconst 0, 1) := by decide +kernel
theorem dX11_removeThing_14 : decode cX11_removeThing 14 = .ok (.ireturn, 1) := by decide +kernel
theorem dX11_removeThing_15 : decode cX11_removeThing 15 = .ok (.aload_n 0, 1) := by decide +kernel
theorem dX11_removeThing_16 : decode cX11_removeThing 16 = .ok (.invokevirtual 130, 3) := by decide +kernel
theorem dX11_removeThing_19 : decode cX11_removeThing 19 = .ok (.aload_n 0, 1) := by decide +kernel
theorem dX11_removeThing_20 : decode cX11_removeThing 20 = .ok (.getfield 7, 3) := by decide +kernel
theorem dX11_removeThing_23 : decode cX11_removeThing 23 = .ok (.iconst 4, 1) := by decide +kernel
theorem dX11_removeThing_24 : decode cX11_removeThing 24 = .ok (.dup2, 1) := by decide +kernel
theorem dX11_removeThing_25 : decode cX11_removeThing 25 = .ok (.iaload, 1) := by decide +kernel
theorem dX11_removeThing_26 : decode cX11_removeThing 26 = .ok (.iconst 1, 1) := by decide +kernel
theorem dX11_removeThing_27 : decode cX11_removeThing 27 = .ok (.isub, 1) := by decide +kernel
theorem dX11_removeThing_28 : decode cX11_removeThing 28 = .ok (.iastore, 1) := by decide +kernel
theorem dX11_removeThing_29 : decode cX11_removeThing 29 = .ok (.sipush 134, 3) := by decide +kernel
theorem dX11_removeThing_32 : decode cX11_removeThing 32 = .ok (.iconst 2, 1) := by decide +kernel
theorem dX11_removeThing_33 : decode cX11_removeThing 33 = .ok (.iload_n 1, 1) := by decide +kernel
theorem dX11_removeThing_34 : decode cX11_removeThing 34 = .ok (.imul, 1) := by decide +kernel
theorem dX11_removeThing_35 : decode cX11_removeThing 35 = .ok (.iadd, 1) := by decide +kernel
theorem dX11_removeThing_36 : decode cX11_removeThing 36 = .ok (.istore_n 2, 1) := by decide +kernel
theorem dX11_removeThing_37 : decode cX11_removeThing 37 = .ok (.iload_n 2, 1) := by decide +kernel
theorem dX11_removeThing_38 : decode cX11_removeThing 38 = .ok (.sipush 134, 3) := by decide +kernel
theorem dX11_removeThing_41 : decode cX11_removeThing 41 = .ok (.iconst 2, 1) := by decide +kernel
theorem dX11_removeThing_42 : decode cX11_removeThing 42 = .ok (.aload_n 0, 1) := by decide +kernel
theorem dX11_removeThing_43 : decode cX11_removeThing 43 = .ok (.getfield 7, 3) := by decide +kernel
theorem dX11_removeThing_46 : decode cX11_removeThing 46 = .ok (.iconst 4, 1) := by decide +kernel
theorem dX11_removeThing_47 : decode cX11_removeThing 47 = .ok (.iaload, 1) := by decide +kernel
theorem dX11_removeThing_48 : decode cX11_removeThing 48 = .ok (.imul, 1) := by decide +kernel
theorem dX11_removeThing_49 : decode cX11_removeThing 49 = .ok (.iadd, 1) := by decide +kernel
theorem dX11_removeThing_50 : decode cX11_removeThing 50 = .ok (.if_icmp .ge 23, 3) := by decide +kernel
theorem dX11_removeThing_53 : decode cX11_removeThing 53 = .ok (.aload_n 0, 1) := by decide +kernel
theorem dX11_removeThing_54 : decode cX11_removeThing 54 = .ok (.getfield 7, 3) := by decide +kernel
theorem dX11_removeThing_57 : decode cX11_removeThing 57 = .ok (.iload_n 2, 1) := by decide +kernel
theorem dX11_removeThing_58 : decode cX11_removeThing 58 = .ok (.aload_n 0, 1) := by decide +kernel
theorem dX11_removeThing_59 : decode cX11_removeThing 59 = .ok (.getfield 7, 3) := by decide +kernel
theorem dX11_removeThing_62 : decode cX11_removeThing 62 = .ok (.iload_n 2, 1) := by decide +kernel
theorem dX11_removeThing_63 : decode cX11_removeThing 63 = .ok (.iconst 2, 1) := by decide +kernel
theorem dX11_removeThing_64 : decode cX11_removeThing 64 = .ok (.iadd, 1) := by decide +kernel
theorem dX11_removeThing_65 : decode cX11_removeThing 65 = .ok (.iaload, 1) := by decide +kernel
theorem dX11_removeThing_66 : decode cX11_removeThing 66 = .ok (.iastore, 1) := by decide +kernel
theorem dX11_removeThing_67 : decode cX11_removeThing 67 = .ok (.iinc 2 1, 3) := by decide +kernel
theorem dX11_removeThing_70 : decode cX11_removeThing 70 = .ok (.goto (-33), 3) := by decide +kernel
theorem dX11_removeThing_73 : decode cX11_removeThing 73 = .ok (.aload_n 0, 1) := by decide +kernel
theorem dX11_removeThing_74 : decode cX11_removeThing 74 = .ok (.getfield 7, 3) := by decide +kernel
theorem dX11_removeThing_77 : decode cX11_removeThing 77 = .ok (.iconst 4, 1) := by decide +kernel
theorem dX11_removeThing_78 : decode cX11_removeThing 78 = .ok (.iaload, 1) := by decide +kernel
theorem dX11_removeThing_79 : decode cX11_removeThing 79 = .ok (.ireturn, 1) := by decide +kernel
theorem dX11_canStir_0 : decode cX11_canStir 0 = .ok (.iload_n 1, 1) := by decide +kernel
theorem dX11_canStir_1 : decode cX11_canStir 1 = .ok (.iconst 0, 1) := by decide +kernel
theorem dX11_canStir_2 : decode cX11_canStir 2 = .ok (.bipush 6, 2) := by decide +kernel
theorem dX11_canStir_4 : decode cX11_canStir 4 = .ok (.invokestatic 89, 3) := by decide +kernel
theorem dX11_canStir_7 : decode cX11_canStir 7 = .ok (.ifCond .eq 57, 3) := by decide +kernel
theorem dX11_canStir_10 : decode cX11_canStir 10 = .ok (.iload_n 2, 1) := by decide +kernel
theorem dX11_canStir_11 : decode cX11_canStir 11 = .ok (.iconst 0, 1) := by decide +kernel
theorem dX11_canStir_12 : decode cX11_canStir 12 = .ok (.sipush 10000, 3) := by decide +kernel
theorem dX11_canStir_15 : decode cX11_canStir 15 = .ok (.invokestatic 89, 3) := by decide +kernel
theorem dX11_canStir_18 : decode cX11_canStir 18 = .ok (.ifCond .eq 46, 3) := by decide +kernel
theorem dX11_canStir_21 : decode cX11_canStir 21 = .ok (.iload_n 3, 1) := by decide +kernel
theorem dX11_canStir_22 : decode cX11_canStir 22 = .ok (.iconst 0, 1) := by decide +kernel
theorem dX11_canStir_23 : decode cX11_canStir 23 = .ok (.sipush 10000, 3) := by decide +kernel
theorem dX11_canStir_26 : decode cX11_canStir 26 = .ok (.invokestatic 89, 3) := by decide +kernel
theorem dX11_canStir_29 : decode cX11_canStir 29 = .ok (.ifCond .eq 35, 3) := by decide +kernel
theorem dX11_canStir_32 : decode cX11_canStir 32 = .ok (.iload_n 3, 1) := by decide +kernel
theorem dX11_canStir_33 : decode cX11_canStir 33 = .ok (.iload_n 2, 1) := by decide +kernel
theorem dX11_canStir_34 : decode cX11_canStir 34 = .ok (.if_icmp .le 30, 3) := by decide +kernel
theorem dX11_canStir_37 : decode cX11_canStir 37 = .ok (.iload 4, 2) := by decide +kernel
theorem dX11_canStir_39 : decode cX11_canStir 39 = .ok (.iconst 0, 1) := by decide +kernel
theorem dX11_canStir_40 : decode cX11_canStir 40 = .ok (.sipush 359, 3) := by decide +kernel
theorem dX11_canStir_43 : decode cX11_canStir 43 = .ok (.invokestatic 89, 3) := by decide +kernel
theorem dX11_canStir_46 : decode cX11_canStir 46 = .ok (.ifCond .eq 18, 3) := by decide +kernel
theorem dX11_canStir_49 : decode cX11_canStir 49 = .ok (.iload 5, 2) := by decide +kernel
theorem dX11_canStir_51 : decode cX11_canStir 51 = .ok (.iconst 0, 1) := by decide +kernel
theorem dX11_canStir_52 : decode cX11_canStir 52 = .ok (.bipush 90, 2) := by decide +kernel
theorem dX11_canStir_54 : decode cX11_canStir 54 = .ok (.invokestatic 89, 3) := by decide +kernel
theorem dX11_canStir_57 : decode cX11_canStir 57 = .ok (.ifCond .eq 7, 3) := by decide +kernel
theorem dX11_canStir_60 : decode cX11_canStir 60 = .ok (.iconst 1, 1) := by decide +kernel
theorem dX11_canStir_61 : decode cX11_canStir 61 = .ok (.goto 4, 3) := by decide +kernel
theorem dX11_canStir_64 : decode cX11_canStir 64 = .ok (.iconst 0, 1) := by decide +kernel
theorem dX11_canStir_65 : decode cX11_canStir 65 = .ok (.ireturn, 1) := by decide +kernel
theorem dX11_stirs_0 : decode cX11_stirs 0 = .ok (.aload_n 0, 1) := by decide +kernel
theorem dX11_stirs_1 : decode cX11_stirs 1 = .ok (.getfield 7, 3) := by decide +kernel
theorem dX11_stirs_4 : decode cX11_stirs 4 = .ok (.iconst 5, 1) := by decide +kernel
theorem dX11_stirs_5 : decode cX11_stirs 5 = .ok (.iload_n 1, 1) := by decide +kernel
theorem dX11_stirs_6 : decode cX11_stirs 6 = .ok (.iastore, 1) := by decide +kernel
theorem dX11_stirs_7 : decode cX11_stirs 7 = .ok (.aload_n 0, 1) := by decide +kernel
theorem dX11_stirs_8 : decode cX11_stirs 8 = .ok (.getfield 7, 3) := by decide +kernel
theorem dX11_stirs_11 : decode cX11_stirs 11 = .ok (.bipush 6, 2) := by decide +kernel
theorem dX11_stirs_13 : decode cX11_stirs 13 = .ok (.iload_n 2, 1) := by decide +kernel
theorem dX11_stirs_14 : decode cX11_stirs 14 = .ok (.iastore, 1) := by decide +kernel
theorem dX11_stirs_15 : decode cX11_stirs 15 = .ok (.aload_n 0, 1) := by decide +kernel
theorem dX11_stirs_16 : decode cX11_stirs 16 = .ok (.getfield 7, 3) := by decide +kernel
theorem dX11_stirs_19 : decode cX11_stirs 19 = .ok (.bipush 7, 2) := by decide +kernel
theorem dX11_stirs_21 : decode cX11_stirs 21 = .ok (.iload_n 3, 1) := by decide +kernel
theorem dX11_stirs_22 : decode cX11_stirs 22 = .ok (.iastore, 1) := by decide +kernel
theorem dX11_stirs_23 : decode cX11_stirs 23 = .ok (.aload_n 0, 1) := by decide +kernel
theorem dX11_stirs_24 : decode cX11_stirs 24 = .ok (.getfield 7, 3) := by decide +kernel
theorem dX11_stirs_27 : decode cX11_stirs 27 = .ok (.bipush 9, 2) := by decide +kernel
theorem dX11_stirs_29 : decode cX11_stirs 29 = .ok (.iload 4, 2) := by decide +kernel
theorem dX11_stirs_31 : decode cX11_stirs 31 = .ok (.iastore, 1) := by decide +kernel
theorem dX11_stirs_32 : decode cX11_stirs 32 = .ok (.aload_n 0, 1) := by decide +kernel
theorem dX11_stirs_33 : decode cX11_stirs 33 = .ok (.getfield 7, 3) := by decide +kernel
theorem dX11_stirs_36 : decode cX11_stirs 36 = .ok (.bipush 10, 2) := by decide +kernel
theorem dX11_stirs_38 : decode cX11_stirs 38 = .ok (.iload 5, 2) := by decide +kernel
theorem dX11_stirs_40 : decode cX11_stirs 40 = .ok (.iastore, 1) := by decide +kernel
theorem dX11_stirs_41 : decode cX11_stirs 41 = .ok (.return_, 1) := by decide +kernel
theorem dX11_setStirrer_0 : decode cX11_setStirrer 0 = .ok (.aload_n 0, 1) := by decide +kernel
theorem dX11_setStirrer_1 : decode cX11_setStirrer 1 = .ok (.aload_n 0, 1) := by decide +kernel
theorem dX11_setStirrer_2 : decode cX11_setStirrer 2 = .ok (.iload_n 1, 1) := by decide +kernel
theorem dX11_setStirrer_3 : decode cX11_setStirrer 3 = .ok (.iload_n 2, 1) := by decide +kernel
theorem dX11_setStirrer_4 : decode cX11_setStirrer 4 = .ok (.iload_n 3, 1) := by decide +kernel
theorem dX11_setStirrer_5 : decode cX11_setStirrer 5 = .ok (.iload 4, 2) := by decide +kernel
theorem dX11_setStirrer_7 : decode cX11_setStirrer 7 = .ok (.iload 5, 2) := by decide +kernel
theorem dX11_setStirrer_9 : decode cX11_setStirrer 9 = .ok (.invokevirtual 155, 3) := by decide +kernel
theorem dX11_setStirrer_12 : decode cX11_setStirrer 12 = .ok (.iconst 1, 1) := by decide +kernel
theorem dX11_setStirrer_13 : decode cX11_setStirrer 13 = .ok (.invokevirtual 37, 3) := by decide +kernel
theorem dX11_setStirrer_16 : decode cX11_setStirrer 16 = .ok (.ifCond .ne 5, 3) := by decide +kernel
theorem dX11_setStirrer_19 : decode cX11_setStirrer 19 = .ok (.iconst 0, 1) := by decide +kernel
theorem dX11_setStirrer_20 : decode cX11_setStirrer 20 = .ok (.ireturn, 1) := by decide +kernel
theorem dX11_setStirrer_21 : decode cX11_setStirrer 21 = .ok (.aload_n 0, 1) := by decide +kernel
theorem dX11_setStirrer_22 : decode cX11_setStirrer 22 = .ok (.invokevirtual 130, 3) := by decide +kernel
theorem dX11_setStirrer_25 : decode cX11_setStirrer 25 = .ok (.aload_n 0, 1) := by decide +kernel
theorem dX11_setStirrer_26 : decode cX11_setStirrer 26 = .ok (.getfield 7, 3) := by decide +kernel
theorem dX11_setStirrer_29 : decode cX11_setStirrer 29 = .ok (.iconst 5, 1) := by decide +kernel
theorem dX11_setStirrer_30 : decode cX11_setStirrer 30 = .ok (.iaload, 1) := by decide +kernel
theorem dX11_setStirrer_31 : decode cX11_setStirrer 31 = .ok (.istore 6, 2) := by decide +kernel
theorem dX11_setStirrer_33 : decode cX11_setStirrer 33 = .ok (.aload_n 0, 1) := by decide +kernel
theorem dX11_setStirrer_34 : decode cX11_setStirrer 34 = .ok (.iload_n 1, 1) := by decide +kernel
theorem dX11_setStirrer_35 : decode cX11_setStirrer 35 = .ok (.iload_n 2, 1) := by decide +kernel
theorem dX11_setStirrer_36 : decode cX11_setStirrer 36 = .ok (.iload_n 3, 1) := by decide +kernel
theorem dX11_setStirrer_37 : decode cX11_setStirrer 37 = .ok (.iload 4, 2) := by decide +kernel
theorem dX11_setStirrer_39 : decode cX11_setStirrer 39 = .ok (.iload 5, 2) := by decide +kernel
theorem dX11_setStirrer_41 : decode cX11_setStirrer 41 = .ok (.invokevirtual 159, 3) := by decide +kernel
theorem dX11_setStirrer_44 : decode cX11_setStirrer 44 = .ok (.iload 6, 2) := by decide +kernel
theorem dX11_setStirrer_46 : decode cX11_setStirrer 46 = .ok (.ireturn, 1) := by decide +kernel
theorem dX11_least_0 : decode cX11_least 0 = .ok (.iload_n 0, 1) := by decide +kernel
theorem dX11_least_1 : decode cX11_least 1 = .ok (.iconst 2, 1) := by decide +kernel
theorem dX11_least_2 : decode cX11_least 2 = .ok (.if_icmp .eq 15, 3) := by decide +kernel
theorem dX11_least_5 : decode cX11_least 5 = .ok (.iload_n 0, 1) := by decide +kernel
theorem dX11_least_6 : decode cX11_least 6 = .ok (.bipush 6, 2) := by decide +kernel
theorem dX11_least_8 : decode cX11_least 8 = .ok (.if_icmp .lt 13, 3) := by decide +kernel
theorem dX11_least_11 : decode cX11_least 11 = .ok (.iload_n 0, 1) := by decide +kernel
theorem dX11_least_12 : decode cX11_least 12 = .ok (.bipush 8, 2) := by decide +kernel
theorem dX11_least_14 : decode cX11_least 14 = .ok (.if_icmp .gt 7, 3) := by decide +kernel
theorem dX11_least_17 : decode cX11_least 17 = .ok (.iconst 1, 1) := by decide +kernel
theorem dX11_least_18 : decode cX11_least 18 = .ok (.goto 4, 3) := by decide +kernel
theorem dX11_least_21 : decode cX11_least 21 = .ok (.iconst 0, 1) := by decide +kernel
theorem dX11_least_22 : decode cX11_least 22 = .ok (.ireturn, 1) := by decide +kernel
theorem dX11_most_0 : decode cX11_most 0 = .ok (.iload_n 0, 1) := by decide +kernel
theorem dX11_most_1 : decode cX11_most 1 = .ok (.tableswitch 83 0 11 #[63, 66, 63, 66, 69, 71, 73, 66, 76, 83, 83, 79], 63) := by decide +kernel
theorem dX11_most_64 : decode cX11_most 64 = .ok (.bipush 100, 2) := by decide +kernel
theorem dX11_most_66 : decode cX11_most 66 = .ok (.ireturn, 1) := by decide +kernel
theorem dX11_most_67 : decode cX11_most 67 = .ok (.bipush 20, 2) := by decide +kernel
theorem dX11_most_69 : decode cX11_most 69 = .ok (.ireturn, 1) := by decide +kernel
theorem dX11_most_70 : decode cX11_most 70 = .ok (.iconst 1, 1) := by decide +kernel
theorem dX11_most_71 : decode cX11_most 71 = .ok (.ireturn, 1) := by decide +kernel
theorem dX11_most_72 : decode cX11_most 72 = .ok (.iconst 2, 1) := by decide +kernel
theorem dX11_most_73 : decode cX11_most 73 = .ok (.ireturn, 1) := by decide +kernel
theorem dX11_most_74 : decode cX11_most 74 = .ok (.bipush 9, 2) := by decide +kernel
theorem dX11_most_76 : decode cX11_most 76 = .ok (.ireturn, 1) := by decide +kernel
theorem dX11_most_77 : decode cX11_most 77 = .ok (.bipush 99, 2) := by decide +kernel
theorem dX11_most_79 : decode cX11_most 79 = .ok (.ireturn, 1) := by decide +kernel
theorem dX11_most_80 : decode cX11_most 80 = .ok (.sipush 500, 3) := by decide +kernel
theorem dX11_most_83 : decode cX11_most 83 = .ok (.ireturn, 1) := by decide +kernel
theorem dX11_most_84 : decode cX11_most 84 = .ok (.sipush 10000, 3) := by decide +kernel
theorem dX11_most_87 : decode cX11_most 87 = .ok (.ireturn, 1) := by decide +kernel
theorem dX11_canSet_0 : decode cX11_canSet 0 = .ok (.iload_n 1, 1) := by decide +kernel
theorem dX11_canSet_1 : decode cX11_canSet 1 = .ok (.iconst 0, 1) := by decide +kernel
theorem dX11_canSet_2 : decode cX11_canSet 2 = .ok (.bipush 11, 2) := by decide +kernel
theorem dX11_canSet_4 : decode cX11_canSet 4 = .ok (.invokestatic 89, 3) := by decide +kernel
theorem dX11_canSet_7 : decode cX11_canSet 7 = .ok (.ifCond .eq 18, 3) := by decide +kernel
theorem dX11_canSet_10 : decode cX11_canSet 10 = .ok (.iload_n 2, 1) := by decide +kernel
theorem dX11_canSet_11 : decode cX11_canSet 11 = .ok (.iload_n 1, 1) := by decide +kernel
theorem dX11_canSet_12 : decode cX11_canSet 12 = .ok (.invokestatic 163, 3) := by decide +kernel
theorem dX11_canSet_15 : decode cX11_canSet 15 = .ok (.iload_n 1, 1) := by decide +kernel
theorem dX11_canSet_16 : decode cX11_canSet 16 = .ok (.invokestatic 166, 3) := by decide +kernel
theorem dX11_canSet_19 : decode cX11_canSet 19 = .ok (.invokestatic 89, 3) := by decide +kernel
theorem dX11_canSet_22 : decode cX11_canSet 22 = .ok (.ifCond .ne 5, 3) := by decide +kernel
theorem dX11_canSet_25 : decode cX11_canSet 25 = .ok (.iconst 0, 1) := by decide +kernel
theorem dX11_canSet_26 : decode cX11_canSet 26 = .ok (.ireturn, 1) := by decide +kernel
theorem dX11_canSet_27 : decode cX11_canSet 27 = .ok (.iload_n 1, 1) := by decide +kernel
theorem dX11_canSet_28 : decode cX11_canSet 28 = .ok (.bipush 9, 2) := by decide +kernel
theorem dX11_canSet_30 : decode cX11_canSet 30 = .ok (.if_icmp .ne 22, 3) := by decide +kernel
theorem dX11_canSet_33 : decode cX11_canSet 33 = .ok (.iload_n 2, 1) := by decide +kernel
theorem dX11_canSet_34 : decode cX11_canSet 34 = .ok (.aload_n 0, 1) := by decide +kernel
theorem dX11_canSet_35 : decode cX11_canSet 35 = .ok (.getfield 7, 3) := by decide +kernel
theorem dX11_canSet_38 : decode cX11_canSet 38 = .ok (.bipush 22, 2) := by decide +kernel
theorem dX11_canSet_40 : decode cX11_canSet 40 = .ok (.iaload, 1) := by decide +kernel
theorem dX11_canSet_41 : decode cX11_canSet 41 = .ok (.if_icmp .gt 7, 3) := by decide +kernel
theorem dX11_canSet_44 : decode cX11_canSet 44 = .ok (.iconst 1, 1) := by decide +kernel
theorem dX11_canSet_45 : decode cX11_canSet 45 = .ok (.goto 29, 3) := by decide +kernel
theorem dX11_canSet_48 : decode cX11_canSet 48 = .ok (.iconst 0, 1) := by decide +kernel
theorem dX11_canSet_49 : decode cX11_canSet 49 = .ok (.goto 25, 3) := by decide +kernel
theorem dX11_canSet_52 : decode cX11_canSet 52 = .ok (.iload_n 1, 1) := by decide +kernel
theorem dX11_canSet_53 : decode cX11_canSet 53 = .ok (.bipush 10, 2) := by decide +kernel
theorem dX11_canSet_55 : decode cX11_canSet 55 = .ok (.if_icmp .ne 14, 3) := by decide +kernel
theorem dX11_canSet_58 : decode cX11_canSet 58 = .ok (.iload_n 2, 1) := by decide +kernel
theorem dX11_canSet_59 : decode cX11_canSet 59 = .ok (.aload_n 0, 1) := by decide +kernel
theorem dX11_canSet_60 : decode cX11_canSet 60 = .ok (.getfield 7, 3) := by decide +kernel
theorem dX11_canSet_63 : decode cX11_canSet 63 = .ok (.bipush 21, 2) := by decide +kernel
theorem dX11_canSet_65 : decode cX11_canSet 65 = .ok (.iaload, 1) := by decide +kernel
theorem dX11_canSet_66 : decode cX11_canSet 66 = .ok (.if_icmp .lt 7, 3) := by decide +kernel
theorem dX11_canSet_69 : decode cX11_canSet 69 = .ok (.iconst 1, 1) := by decide +kernel
theorem dX11_canSet_70 : decode cX11_canSet 70 = .ok (.goto 4, 3) := by decide +kernel
theorem dX11_canSet_73 : decode cX11_canSet 73 = .ok (.iconst 0, 1) := by decide +kernel
theorem dX11_canSet_74 : decode cX11_canSet 74 = .ok (.ireturn, 1) := by decide +kernel
theorem dX11_sets_0 : decode cX11_sets 0 = .ok (.aload_n 0, 1) := by decide +kernel
theorem dX11_sets_1 : decode cX11_sets 1 = .ok (.getfield 7, 3) := by decide +kernel
theorem dX11_sets_4 : decode cX11_sets 4 = .ok (.bipush 12, 2) := by decide +kernel
theorem dX11_sets_6 : decode cX11_sets 6 = .ok (.iload_n 1, 1) := by decide +kernel
theorem dX11_sets_7 : decode cX11_sets 7 = .ok (.iadd, 1) := by decide +kernel
theorem dX11_sets_8 : decode cX11_sets 8 = .ok (.iload_n 2, 1) := by decide +kernel
theorem dX11_sets_9 : decode cX11_sets 9 = .ok (.iastore, 1) := by decide +kernel
theorem dX11_sets_10 : decode cX11_sets 10 = .ok (.aload_n 0, 1) := by decide +kernel
theorem dX11_sets_11 : decode cX11_sets 11 = .ok (.getfield 7, 3) := by decide +kernel
theorem dX11_sets_14 : decode cX11_sets 14 = .ok (.bipush 31, 2) := by decide +kernel
theorem dX11_sets_16 : decode cX11_sets 16 = .ok (.aload_n 0, 1) := by decide +kernel
theorem dX11_sets_17 : decode cX11_sets 17 = .ok (.getfield 7, 3) := by decide +kernel
theorem dX11_sets_20 : decode cX11_sets 20 = .ok (.bipush 31, 2) := by decide +kernel
theorem dX11_sets_22 : decode cX11_sets 22 = .ok (.iaload, 1) := by decide +kernel
theorem dX11_sets_23 : decode cX11_sets 23 = .ok (.aload_n 0, 1) := by decide +kernel
theorem dX11_sets_24 : decode cX11_sets 24 = .ok (.getfield 7, 3) := by decide +kernel
theorem dX11_sets_27 : decode cX11_sets 27 = .ok (.bipush 18, 2) := by decide +kernel
theorem dX11_sets_29 : decode cX11_sets 29 = .ok (.iaload, 1) := by decide +kernel
theorem dX11_sets_30 : decode cX11_sets 30 = .ok (.if_icmp .le 13, 3) := by decide +kernel
theorem dX11_sets_33 : decode cX11_sets 33 = .ok (.aload_n 0, 1) := by decide +kernel
theorem dX11_sets_34 : decode cX11_sets 34 = .ok (.getfield 7, 3) := by decide +kernel
theorem dX11_sets_37 : decode cX11_sets 37 = .ok (.bipush 18, 2) := by decide +kernel
theorem dX11_sets_39 : decode cX11_sets 39 = .ok (.iaload, 1) := by decide +kernel
theorem dX11_sets_40 : decode cX11_sets 40 = .ok (.goto 10, 3) := by decide +kernel
theorem dX11_sets_43 : decode cX11_sets 43 = .ok (.aload_n 0, 1) := by decide +kernel
theorem dX11_sets_44 : decode cX11_sets 44 = .ok (.getfield 7, 3) := by decide +kernel
theorem dX11_sets_47 : decode cX11_sets 47 = .ok (.bipush 31, 2) := by decide +kernel
theorem dX11_sets_49 : decode cX11_sets 49 = .ok (.iaload, 1) := by decide +kernel
theorem dX11_sets_50 : decode cX11_sets 50 = .ok (.iastore, 1) := by decide +kernel
theorem dX11_sets_51 : decode cX11_sets 51 = .ok (.return_, 1) := by decide +kernel
theorem dX11_set_0 : decode cX11_set 0 = .ok (.aload_n 0, 1) := by decide +kernel
theorem dX11_set_1 : decode cX11_set 1 = .ok (.aload_n 0, 1) := by decide +kernel
theorem dX11_set_2 : decode cX11_set 2 = .ok (.iload_n 1, 1) := by decide +kernel
theorem dX11_set_3 : decode cX11_set 3 = .ok (.iload_n 2, 1) := by decide +kernel
theorem dX11_set_4 : decode cX11_set 4 = .ok (.invokevirtual 169, 3) := by decide +kernel
theorem dX11_set_7 : decode cX11_set 7 = .ok (.iconst 1, 1) := by decide +kernel
theorem dX11_set_8 : decode cX11_set 8 = .ok (.invokevirtual 37, 3) := by decide +kernel
theorem dX11_set_11 : decode cX11_set 11 = .ok (.ifCond .ne 5, 3) := by decide +kernel
theorem dX11_set_14 : decode cX11_set 14 = .ok (.iconst 0, 1) := by decide +kernel
theorem dX11_set_15 : decode cX11_set 15 = .ok (.ireturn, 1) := by decide +kernel
theorem dX11_set_16 : decode cX11_set 16 = .ok (.aload_n 0, 1) := by decide +kernel
theorem dX11_set_17 : decode cX11_set 17 = .ok (.invokevirtual 130, 3) := by decide +kernel
theorem dX11_set_20 : decode cX11_set 20 = .ok (.aload_n 0, 1) := by decide +kernel
theorem dX11_set_21 : decode cX11_set 21 = .ok (.getfield 7, 3) := by decide +kernel
theorem dX11_set_24 : decode cX11_set 24 = .ok (.bipush 12, 2) := by decide +kernel
theorem dX11_set_26 : decode cX11_set 26 = .ok (.iload_n 1, 1) := by decide +kernel
theorem dX11_set_27 : decode cX11_set 27 = .ok (.iadd, 1) := by decide +kernel
theorem dX11_set_28 : decode cX11_set 28 = .ok (.iaload, 1) := by decide +kernel
theorem dX11_set_29 : decode cX11_set 29 = .ok (.istore_n 3, 1) := by decide +kernel
theorem dX11_set_30 : decode cX11_set 30 = .ok (.aload_n 0, 1) := by decide +kernel
theorem dX11_set_31 : decode cX11_set 31 = .ok (.iload_n 1, 1) := by decide +kernel
theorem dX11_set_32 : decode cX11_set 32 = .ok (.iload_n 2, 1) := by decide +kernel
theorem dX11_set_33 : decode cX11_set 33 = .ok (.invokevirtual 172, 3) := by decide +kernel
theorem dX11_set_36 : decode cX11_set 36 = .ok (.iload_n 3, 1) := by decide +kernel
theorem dX11_set_37 : decode cX11_set 37 = .ok (.ireturn, 1) := by decide +kernel
theorem dX11_setS_0 : decode cX11_setS 0 = .ok (.aload_n 0, 1) := by decide +kernel
theorem dX11_setS_1 : decode cX11_setS 1 = .ok (.iload_n 1, 1) := by decide +kernel
theorem dX11_setS_2 : decode cX11_setS 2 = .ok (.ifCond .lt 7, 3) := by decide +kernel
theorem dX11_setS_5 : decode cX11_setS 5 = .ok (.iconst 1, 1) := by decide +kernel
theorem dX11_setS_6 : decode cX11_setS 6 = .ok (.goto 4, 3) := by decide +kernel
theorem dX11_setS_9 : decode cX11_setS 9 = .ok (.iconst 0, 1) := by decide +kernel
theorem dX11_setS_10 : decode cX11_setS 10 = .ok (.iconst 1, 1) := by decide +kernel
theorem dX11_setS_11 : decode cX11_setS 11 = .ok (.invokevirtual 37, 3) := by decide +kernel
theorem dX11_setS_14 : decode cX11_setS 14 = .ok (.ifCond .eq 13, 3) := by decide +kernel
theorem dX11_setS_17 : decode cX11_setS 17 = .ok (.aload_n 0, 1) := by decide +kernel
theorem dX11_setS_18 : decode cX11_setS 18 = .ok (.bipush 11, 2) := by decide +kernel
end
section
theorem dX11_setS_20 : decode cX11_setS 20 = .ok (.iload_n 1, 1) := by decide +kernel
theorem dX11_setS_21 : decode cX11_setS 21 = .ok (.invokevirtual 136, 3) := by decide +kernel
theorem dX11_setS_24 : decode cX11_setS 24 = .ok (.goto 4, 3) := by decide +kernel
theorem dX11_setS_27 : decode cX11_setS 27 = .ok (.iconst 0, 1) := by decide +kernel
theorem dX11_setS_28 : decode cX11_setS 28 = .ok (.ireturn, 1) := by decide +kernel
theorem dX11_mask_0 : decode cX11_mask 0 = .ok (.aload_n 0, 1) := by decide +kernel
theorem dX11_mask_1 : decode cX11_mask 1 = .ok (.iload_n 1, 1) := by decide +kernel
theorem dX11_mask_2 : decode cX11_mask 2 = .ok (.iconst 0, 1) := by decide +kernel
theorem dX11_mask_3 : decode cX11_mask 3 = .ok (.sipush 10000, 3) := by decide +kernel
theorem dX11_mask_6 : decode cX11_mask 6 = .ok (.invokestatic 89, 3) := by decide +kernel
theorem dX11_mask_9 : decode cX11_mask 9 = .ok (.iconst 1, 1) := by decide +kernel
theorem dX11_mask_10 : decode cX11_mask 10 = .ok (.invokevirtual 37, 3) := by decide +kernel
theorem dX11_mask_13 : decode cX11_mask 13 = .ok (.ifCond .eq 27, 3) := by decide +kernel
theorem dX11_mask_16 : decode cX11_mask 16 = .ok (.aload_n 0, 1) := by decide +kernel
theorem dX11_mask_17 : decode cX11_mask 17 = .ok (.sipush 146, 3) := by decide +kernel
theorem dX11_mask_20 : decode cX11_mask 20 = .ok (.iload_n 1, 1) := by decide +kernel
theorem dX11_mask_21 : decode cX11_mask 21 = .ok (.bipush 20, 2) := by decide +kernel
theorem dX11_mask_23 : decode cX11_mask 23 = .ok (.idiv, 1) := by decide +kernel
theorem dX11_mask_24 : decode cX11_mask 24 = .ok (.iadd, 1) := by decide +kernel
theorem dX11_mask_25 : decode cX11_mask 25 = .ok (.iload_n 2, 1) := by decide +kernel
theorem dX11_mask_26 : decode cX11_mask 26 = .ok (.ifCond .eq 7, 3) := by decide +kernel
theorem dX11_mask_29 : decode cX11_mask 29 = .ok (.iconst 1, 1) := by decide +kernel
theorem dX11_mask_30 : decode cX11_mask 30 = .ok (.goto 4, 3) := by decide +kernel
theorem dX11_mask_33 : decode cX11_mask 33 = .ok (.iconst 0, 1) := by decide +kernel
theorem dX11_mask_34 : decode cX11_mask 34 = .ok (.invokevirtual 136, 3) := by decide +kernel
theorem dX11_mask_37 : decode cX11_mask 37 = .ok (.goto 4, 3) := by decide +kernel
theorem dX11_mask_40 : decode cX11_mask 40 = .ok (.iconst 0, 1) := by decide +kernel
theorem dX11_mask_41 : decode cX11_mask 41 = .ok (.ireturn, 1) := by decide +kernel
theorem dX11_masked_0 : decode cX11_masked 0 = .ok (.iconst 0, 1) := by decide +kernel
theorem dX11_masked_1 : decode cX11_masked 1 = .ok (.istore_n 1, 1) := by decide +kernel
theorem dX11_masked_2 : decode cX11_masked 2 = .ok (.iconst 0, 1) := by decide +kernel
theorem dX11_masked_3 : decode cX11_masked 3 = .ok (.istore_n 2, 1) := by decide +kernel
theorem dX11_masked_4 : decode cX11_masked 4 = .ok (.iload_n 2, 1) := by decide +kernel
theorem dX11_masked_5 : decode cX11_masked 5 = .ok (.sipush 501, 3) := by decide +kernel
theorem dX11_masked_8 : decode cX11_masked 8 = .ok (.if_icmp .ge 22, 3) := by decide +kernel
theorem dX11_masked_11 : decode cX11_masked 11 = .ok (.iload_n 1, 1) := by decide +kernel
theorem dX11_masked_12 : decode cX11_masked 12 = .ok (.aload_n 0, 1) := by decide +kernel
theorem dX11_masked_13 : decode cX11_masked 13 = .ok (.getfield 7, 3) := by decide +kernel
theorem dX11_masked_16 : decode cX11_masked 16 = .ok (.sipush 146, 3) := by decide +kernel
theorem dX11_masked_19 : decode cX11_masked 19 = .ok (.iload_n 2, 1) := by decide +kernel
theorem dX11_masked_20 : decode cX11_masked 20 = .ok (.iadd, 1) := by decide +kernel
theorem dX11_masked_21 : decode cX11_masked 21 = .ok (.iaload, 1) := by decide +kernel
theorem dX11_masked_22 : decode cX11_masked 22 = .ok (.iadd, 1) := by decide +kernel
theorem dX11_masked_23 : decode cX11_masked 23 = .ok (.istore_n 1, 1) := by decide +kernel
theorem dX11_masked_24 : decode cX11_masked 24 = .ok (.iinc 2 1, 3) := by decide +kernel
theorem dX11_masked_27 : decode cX11_masked 27 = .ok (.goto (-23), 3) := by decide +kernel
theorem dX11_masked_30 : decode cX11_masked 30 = .ok (.iload_n 1, 1) := by decide +kernel
theorem dX11_masked_31 : decode cX11_masked 31 = .ok (.ireturn, 1) := by decide +kernel
theorem dX11_canLearn_0 : decode cX11_canLearn 0 = .ok (.iload_n 0, 1) := by decide +kernel
theorem dX11_canLearn_1 : decode cX11_canLearn 1 = .ok (.iconst 1, 1) := by decide +kernel
theorem dX11_canLearn_2 : decode cX11_canLearn 2 = .ok (.bipush 50, 2) := by decide +kernel
theorem dX11_canLearn_4 : decode cX11_canLearn 4 = .ok (.invokestatic 89, 3) := by decide +kernel
theorem dX11_canLearn_7 : decode cX11_canLearn 7 = .ok (.ireturn, 1) := by decide +kernel
theorem dX11_learns_0 : decode cX11_learns 0 = .ok (.iconst 0, 1) := by decide +kernel
theorem dX11_learns_1 : decode cX11_learns 1 = .ok (.istore_n 2, 1) := by decide +kernel
theorem dX11_learns_2 : decode cX11_learns 2 = .ok (.iload_n 2, 1) := by decide +kernel
theorem dX11_learns_3 : decode cX11_learns 3 = .ok (.iload_n 1, 1) := by decide +kernel
theorem dX11_learns_4 : decode cX11_learns 4 = .ok (.if_icmp .ge 91, 3) := by decide +kernel
theorem dX11_learns_7 : decode cX11_learns 7 = .ok (.aload_n 0, 1) := by decide +kernel
theorem dX11_learns_8 : decode cX11_learns 8 = .ok (.invokevirtual 106, 3) := by decide +kernel
theorem dX11_learns_11 : decode cX11_learns 11 = .ok (.iconst 0, 1) := by decide +kernel
theorem dX11_learns_12 : decode cX11_learns 12 = .ok (.istore_n 3, 1) := by decide +kernel
theorem dX11_learns_13 : decode cX11_learns 13 = .ok (.iload_n 3, 1) := by decide +kernel
theorem dX11_learns_14 : decode cX11_learns 14 = .ok (.aload_n 0, 1) := by decide +kernel
theorem dX11_learns_15 : decode cX11_learns 15 = .ok (.getfield 7, 3) := by decide +kernel
theorem dX11_learns_18 : decode cX11_learns 18 = .ok (.bipush 41, 2) := by decide +kernel
theorem dX11_learns_20 : decode cX11_learns 20 = .ok (.iaload, 1) := by decide +kernel
theorem dX11_learns_21 : decode cX11_learns 21 = .ok (.if_icmp .ge 68, 3) := by decide +kernel
theorem dX11_learns_24 : decode cX11_learns 24 = .ok (.bipush 42, 2) := by decide +kernel
theorem dX11_learns_26 : decode cX11_learns 26 = .ok (.iconst 4, 1) := by decide +kernel
theorem dX11_learns_27 : decode cX11_learns 27 = .ok (.iload_n 3, 1) := by decide +kernel
theorem dX11_learns_28 : decode cX11_learns 28 = .ok (.imul, 1) := by decide +kernel
theorem dX11_learns_29 : decode cX11_learns 29 = .ok (.iadd, 1) := by decide +kernel
theorem dX11_learns_30 : decode cX11_learns 30 = .ok (.istore 4, 2) := by decide +kernel
theorem dX11_learns_32 : decode cX11_learns 32 = .ok (.aload_n 0, 1) := by decide +kernel
theorem dX11_learns_33 : decode cX11_learns 33 = .ok (.getfield 7, 3) := by decide +kernel
theorem dX11_learns_36 : decode cX11_learns 36 = .ok (.iload 4, 2) := by decide +kernel
theorem dX11_learns_38 : decode cX11_learns 38 = .ok (.iaload, 1) := by decide +kernel
theorem dX11_learns_39 : decode cX11_learns 39 = .ok (.iconst 2, 1) := by decide +kernel
theorem dX11_learns_40 : decode cX11_learns 40 = .ok (.if_icmp .ge 43, 3) := by decide +kernel
theorem dX11_learns_43 : decode cX11_learns 43 = .ok (.aload_n 0, 1) := by decide +kernel
theorem dX11_learns_44 : decode cX11_learns 44 = .ok (.getfield 7, 3) := by decide +kernel
theorem dX11_learns_47 : decode cX11_learns 47 = .ok (.iload 4, 2) := by decide +kernel
theorem dX11_learns_49 : decode cX11_learns 49 = .ok (.iconst 1, 1) := by decide +kernel
theorem dX11_learns_50 : decode cX11_learns 50 = .ok (.iadd, 1) := by decide +kernel
theorem dX11_learns_51 : decode cX11_learns 51 = .ok (.iaload, 1) := by decide +kernel
theorem dX11_learns_52 : decode cX11_learns 52 = .ok (.aload_n 0, 1) := by decide +kernel
theorem dX11_learns_53 : decode cX11_learns 53 = .ok (.getfield 7, 3) := by decide +kernel
theorem dX11_learns_56 : decode cX11_learns 56 = .ok (.iconst 0, 1) := by decide +kernel
theorem dX11_learns_57 : decode cX11_learns 57 = .ok (.iaload, 1) := by decide +kernel
theorem dX11_learns_58 : decode cX11_learns 58 = .ok (.if_icmp .gt 25, 3) := by decide +kernel
theorem dX11_learns_61 : decode cX11_learns 61 = .ok (.aload_n 0, 1) := by decide +kernel
theorem dX11_learns_62 : decode cX11_learns 62 = .ok (.getfield 7, 3) := by decide +kernel
theorem dX11_learns_65 : decode cX11_learns 65 = .ok (.sipush 146, 3) := by decide +kernel
theorem dX11_learns_68 : decode cX11_learns 68 = .ok (.aload_n 0, 1) := by decide +kernel
theorem dX11_learns_69 : decode cX11_learns 69 = .ok (.getfield 7, 3) := by decide +kernel
theorem dX11_learns_72 : decode cX11_learns 72 = .ok (.iload 4, 2) := by decide +kernel
theorem dX11_learns_74 : decode cX11_learns 74 = .ok (.iconst 1, 1) := by decide +kernel
theorem dX11_learns_75 : decode cX11_learns 75 = .ok (.iadd, 1) := by decide +kernel
theorem dX11_learns_76 : decode cX11_learns 76 = .ok (.iaload, 1) := by decide +kernel
theorem dX11_learns_77 : decode cX11_learns 77 = .ok (.bipush 20, 2) := by decide +kernel
theorem dX11_learns_79 : decode cX11_learns 79 = .ok (.idiv, 1) := by decide +kernel
theorem dX11_learns_80 : decode cX11_learns 80 = .ok (.iadd, 1) := by decide +kernel
theorem dX11_learns_81 : decode cX11_learns 81 = .ok (.iconst 1, 1) := by decide +kernel
theorem dX11_learns_82 : decode cX11_learns 82 = .ok (.iastore, 1) := by decide +kernel
theorem dX11_learns_83 : decode cX11_learns 83 = .ok (.iinc 3 1, 3) := by decide +kernel
theorem dX11_learns_86 : decode cX11_learns 86 = .ok (.goto (-73), 3) := by decide +kernel
theorem dX11_learns_89 : decode cX11_learns 89 = .ok (.iinc 2 1, 3) := by decide +kernel
theorem dX11_learns_92 : decode cX11_learns 92 = .ok (.goto (-90), 3) := by decide +kernel
theorem dX11_learns_95 : decode cX11_learns 95 = .ok (.return_, 1) := by decide +kernel
theorem dX11_learn_0 : decode cX11_learn 0 = .ok (.aload_n 0, 1) := by decide +kernel
theorem dX11_learn_1 : decode cX11_learn 1 = .ok (.iload_n 1, 1) := by decide +kernel
theorem dX11_learn_2 : decode cX11_learn 2 = .ok (.invokestatic 175, 3) := by decide +kernel
theorem dX11_learn_5 : decode cX11_learn 5 = .ok (.iconst 1, 1) := by decide +kernel
theorem dX11_learn_6 : decode cX11_learn 6 = .ok (.invokevirtual 37, 3) := by decide +kernel
theorem dX11_learn_9 : decode cX11_learn 9 = .ok (.ifCond .ne 5, 3) := by decide +kernel
theorem dX11_learn_12 : decode cX11_learn 12 = .ok (.iconst 0, 1) := by decide +kernel
theorem dX11_learn_13 : decode cX11_learn 13 = .ok (.ireturn, 1) := by decide +kernel
theorem dX11_learn_14 : decode cX11_learn 14 = .ok (.aload_n 0, 1) := by decide +kernel
theorem dX11_learn_15 : decode cX11_learn 15 = .ok (.invokevirtual 130, 3) := by decide +kernel
theorem dX11_learn_18 : decode cX11_learn 18 = .ok (.aload_n 0, 1) := by decide +kernel
theorem dX11_learn_19 : decode cX11_learn 19 = .ok (.iload_n 1, 1) := by decide +kernel
theorem dX11_learn_20 : decode cX11_learn 20 = .ok (.invokevirtual 178, 3) := by decide +kernel
theorem dX11_learn_23 : decode cX11_learn 23 = .ok (.aload_n 0, 1) := by decide +kernel
theorem dX11_learn_24 : decode cX11_learn 24 = .ok (.invokevirtual 181, 3) := by decide +kernel
theorem dX11_learn_27 : decode cX11_learn 27 = .ok (.ireturn, 1) := by decide +kernel
theorem dX11_forget_0 : decode cX11_forget 0 = .ok (.aload_n 0, 1) := by decide +kernel
theorem dX11_forget_1 : decode cX11_forget 1 = .ok (.iconst 0, 1) := by decide +kernel
theorem dX11_forget_2 : decode cX11_forget 2 = .ok (.putfield 30, 3) := by decide +kernel
theorem dX11_forget_5 : decode cX11_forget 5 = .ok (.aload_n 0, 1) := by decide +kernel
theorem dX11_forget_6 : decode cX11_forget 6 = .ok (.invokevirtual 130, 3) := by decide +kernel
theorem dX11_forget_9 : decode cX11_forget 9 = .ok (.aload_n 0, 1) := by decide +kernel
theorem dX11_forget_10 : decode cX11_forget 10 = .ok (.invokevirtual 181, 3) := by decide +kernel
theorem dX11_forget_13 : decode cX11_forget 13 = .ok (.istore_n 1, 1) := by decide +kernel
theorem dX11_forget_14 : decode cX11_forget 14 = .ok (.iconst 0, 1) := by decide +kernel
theorem dX11_forget_15 : decode cX11_forget 15 = .ok (.istore_n 2, 1) := by decide +kernel
theorem dX11_forget_16 : decode cX11_forget 16 = .ok (.iload_n 2, 1) := by decide +kernel
theorem dX11_forget_17 : decode cX11_forget 17 = .ok (.sipush 501, 3) := by decide +kernel
theorem dX11_forget_20 : decode cX11_forget 20 = .ok (.if_icmp .ge 20, 3) := by decide +kernel
theorem dX11_forget_23 : decode cX11_forget 23 = .ok (.aload_n 0, 1) := by decide +kernel
theorem dX11_forget_24 : decode cX11_forget 24 = .ok (.getfield 7, 3) := by decide +kernel
theorem dX11_forget_27 : decode cX11_forget 27 = .ok (.sipush 146, 3) := by decide +kernel
theorem dX11_forget_30 : decode cX11_forget 30 = .ok (.iload_n 2, 1) := by decide +kernel
theorem dX11_forget_31 : decode cX11_forget 31 = .ok (.iadd, 1) := by decide +kernel
theorem dX11_forget_32 : decode cX11_forget 32 = .ok (.iconst 0, 1) := by decide +kernel
theorem dX11_forget_33 : decode cX11_forget 33 = .ok (.iastore, 1) := by decide +kernel
theorem dX11_forget_34 : decode cX11_forget 34 = .ok (.iinc 2 1, 3) := by decide +kernel
theorem dX11_forget_37 : decode cX11_forget 37 = .ok (.goto (-21), 3) := by decide +kernel
theorem dX11_forget_40 : decode cX11_forget 40 = .ok (.iload_n 1, 1) := by decide +kernel
theorem dX11_forget_41 : decode cX11_forget 41 = .ok (.ireturn, 1) := by decide +kernel
theorem dX11_canShoot_0 : decode cX11_canShoot 0 = .ok (.iload_n 0, 1) := by decide +kernel
theorem dX11_canShoot_1 : decode cX11_canShoot 1 = .ok (.iconst 1, 1) := by decide +kernel
theorem dX11_canShoot_2 : decode cX11_canShoot 2 = .ok (.sipush 500, 3) := by decide +kernel
theorem dX11_canShoot_5 : decode cX11_canShoot 5 = .ok (.invokestatic 89, 3) := by decide +kernel
theorem dX11_canShoot_8 : decode cX11_canShoot 8 = .ok (.ireturn, 1) := by decide +kernel
theorem dX11_shoots_0 : decode cX11_shoots 0 = .ok (.iconst 0, 1) := by decide +kernel
theorem dX11_shoots_1 : decode cX11_shoots 1 = .ok (.istore_n 2, 1) := by decide +kernel
theorem dX11_shoots_2 : decode cX11_shoots 2 = .ok (.iconst 0, 1) := by decide +kernel
theorem dX11_shoots_3 : decode cX11_shoots 3 = .ok (.istore_n 3, 1) := by decide +kernel
theorem dX11_shoots_4 : decode cX11_shoots 4 = .ok (.iload_n 3, 1) := by decide +kernel
theorem dX11_shoots_5 : decode cX11_shoots 5 = .ok (.iload_n 1, 1) := by decide +kernel
theorem dX11_shoots_6 : decode cX11_shoots 6 = .ok (.if_icmp .ge 24, 3) := by decide +kernel
theorem dX11_shoots_9 : decode cX11_shoots 9 = .ok (.iload_n 2, 1) := by decide +kernel
theorem dX11_shoots_10 : decode cX11_shoots 10 = .ok (.aload_n 0, 1) := by decide +kernel
theorem dX11_shoots_11 : decode cX11_shoots 11 = .ok (.invokevirtual 184, 3) := by decide +kernel
theorem dX11_shoots_14 : decode cX11_shoots 14 = .ok (.ifCond .eq 7, 3) := by decide +kernel
theorem dX11_shoots_17 : decode cX11_shoots 17 = .ok (.iconst 1, 1) := by decide +kernel
theorem dX11_shoots_18 : decode cX11_shoots 18 = .ok (.goto 4, 3) := by decide +kernel
theorem dX11_shoots_21 : decode cX11_shoots 21 = .ok (.iconst 0, 1) := by decide +kernel
theorem dX11_shoots_22 : decode cX11_shoots 22 = .ok (.iadd, 1) := by decide +kernel
theorem dX11_shoots_23 : decode cX11_shoots 23 = .ok (.istore_n 2, 1) := by decide +kernel
theorem dX11_shoots_24 : decode cX11_shoots 24 = .ok (.iinc 3 1, 3) := by decide +kernel
theorem dX11_shoots_27 : decode cX11_shoots 27 = .ok (.goto (-23), 3) := by decide +kernel
theorem dX11_shoots_30 : decode cX11_shoots 30 = .ok (.iload_n 2, 1) := by decide +kernel
theorem dX11_shoots_31 : decode cX11_shoots 31 = .ok (.ireturn, 1) := by decide +kernel
theorem dX11_shoot_0 : decode cX11_shoot 0 = .ok (.aload_n 0, 1) := by decide +kernel
theorem dX11_shoot_1 : decode cX11_shoot 1 = .ok (.iload_n 1, 1) := by decide +kernel
theorem dX11_shoot_2 : decode cX11_shoot 2 = .ok (.invokestatic 188, 3) := by decide +kernel
theorem dX11_shoot_5 : decode cX11_shoot 5 = .ok (.iconst 1, 1) := by decide +kernel
theorem dX11_shoot_6 : decode cX11_shoot 6 = .ok (.invokevirtual 37, 3) := by decide +kernel
theorem dX11_shoot_9 : decode cX11_shoot 9 = .ok (.ifCond .ne 5, 3) := by decide +kernel
theorem dX11_shoot_12 : decode cX11_shoot 12 = .ok (.iconst 0, 1) := by decide +kernel
theorem dX11_shoot_13 : decode cX11_shoot 13 = .ok (.ireturn, 1) := by decide +kernel
theorem dX11_shoot_14 : decode cX11_shoot 14 = .ok (.aload_n 0, 1) := by decide +kernel
theorem dX11_shoot_15 : decode cX11_shoot 15 = .ok (.invokevirtual 130, 3) := by decide +kernel
theorem dX11_shoot_18 : decode cX11_shoot 18 = .ok (.aload_n 0, 1) := by decide +kernel
theorem dX11_shoot_19 : decode cX11_shoot 19 = .ok (.iload_n 1, 1) := by decide +kernel
theorem dX11_shoot_20 : decode cX11_shoot 20 = .ok (.invokevirtual 191, 3) := by decide +kernel
theorem dX11_shoot_23 : decode cX11_shoot 23 = .ok (.ireturn, 1) := by decide +kernel
theorem dX11_echoOf_0 : decode cX11_echoOf 0 = .ok (.bipush 42, 2) := by decide +kernel
theorem dX11_echoOf_2 : decode cX11_echoOf 2 = .ok (.iconst 4, 1) := by decide +kernel
theorem dX11_echoOf_3 : decode cX11_echoOf 3 = .ok (.iload_n 1, 1) := by decide +kernel
theorem dX11_echoOf_4 : decode cX11_echoOf 4 = .ok (.imul, 1) := by decide +kernel
theorem dX11_echoOf_5 : decode cX11_echoOf 5 = .ok (.iadd, 1) := by decide +kernel
theorem dX11_echoOf_6 : decode cX11_echoOf 6 = .ok (.istore_n 3, 1) := by decide +kernel
theorem dX11_echoOf_7 : decode cX11_echoOf 7 = .ok (.iload_n 2, 1) := by decide +kernel
theorem dX11_echoOf_8 : decode cX11_echoOf 8 = .ok (.iconst 3, 1) := by decide +kernel
theorem dX11_echoOf_9 : decode cX11_echoOf 9 = .ok (.if_icmp .ge 12, 3) := by decide +kernel
theorem dX11_echoOf_12 : decode cX11_echoOf 12 = .ok (.aload_n 0, 1) := by decide +kernel
theorem dX11_echoOf_13 : decode cX11_echoOf 13 = .ok (.getfield 7, 3) := by decide +kernel
theorem dX11_echoOf_16 : decode cX11_echoOf 16 = .ok (.iload_n 3, 1) := by decide +kernel
theorem dX11_echoOf_17 : decode cX11_echoOf 17 = .ok (.iload_n 2, 1) := by decide +kernel
theorem dX11_echoOf_18 : decode cX11_echoOf 18 = .ok (.iadd, 1) := by decide +kernel
theorem dX11_echoOf_19 : decode cX11_echoOf 19 = .ok (.iaload, 1) := by decide +kernel
theorem dX11_echoOf_20 : decode cX11_echoOf 20 = .ok (.ireturn, 1) := by decide +kernel
theorem dX11_echoOf_21 : decode cX11_echoOf 21 = .ok (.aload_n 0, 1) := by decide +kernel
theorem dX11_echoOf_22 : decode cX11_echoOf 22 = .ok (.getfield 7, 3) := by decide +kernel
theorem dX11_echoOf_25 : decode cX11_echoOf 25 = .ok (.iload_n 3, 1) := by decide +kernel
theorem dX11_echoOf_26 : decode cX11_echoOf 26 = .ok (.iconst 3, 1) := by decide +kernel
theorem dX11_echoOf_27 : decode cX11_echoOf 27 = .ok (.iadd, 1) := by decide +kernel
theorem dX11_echoOf_28 : decode cX11_echoOf 28 = .ok (.iaload, 1) := by decide +kernel
theorem dX11_echoOf_29 : decode cX11_echoOf 29 = .ok (.iload_n 2, 1) := by decide +kernel
theorem dX11_echoOf_30 : decode cX11_echoOf 30 = .ok (.iconst 3, 1) := by decide +kernel
theorem dX11_echoOf_31 : decode cX11_echoOf 31 = .ok (.if_icmp .ne 7, 3) := by decide +kernel
theorem dX11_echoOf_34 : decode cX11_echoOf 34 = .ok (.iconst 0, 1) := by decide +kernel
theorem dX11_echoOf_35 : decode cX11_echoOf 35 = .ok (.goto 13, 3) := by decide +kernel
theorem dX11_echoOf_38 : decode cX11_echoOf 38 = .ok (.iload_n 2, 1) := by decide +kernel
theorem dX11_echoOf_39 : decode cX11_echoOf 39 = .ok (.iconst 4, 1) := by decide +kernel
theorem dX11_echoOf_40 : decode cX11_echoOf 40 = .ok (.if_icmp .ne 7, 3) := by decide +kernel
theorem dX11_echoOf_43 : decode cX11_echoOf 43 = .ok (.iconst 1, 1) := by decide +kernel
theorem dX11_echoOf_44 : decode cX11_echoOf 44 = .ok (.goto 4, 3) := by decide +kernel
theorem dX11_echoOf_47 : decode cX11_echoOf 47 = .ok (.iconst 2, 1) := by decide +kernel
theorem dX11_echoOf_48 : decode cX11_echoOf 48 = .ok (.ishr, 1) := by decide +kernel
theorem dX11_echoOf_49 : decode cX11_echoOf 49 = .ok (.iconst 1, 1) := by decide +kernel
theorem dX11_echoOf_50 : decode cX11_echoOf 50 = .ok (.iand, 1) := by decide +kernel
theorem dX11_echoOf_51 : decode cX11_echoOf 51 = .ok (.ireturn, 1) := by decide +kernel
theorem dX11_echo_0 : decode cX11_echo 0 = .ok (.aload_n 0, 1) := by decide +kernel
theorem dX11_echo_1 : decode cX11_echo 1 = .ok (.iload_n 1, 1) := by decide +kernel
theorem dX11_echo_2 : decode cX11_echo 2 = .ok (.ifCond .lt 16, 3) := by decide +kernel
theorem dX11_echo_5 : decode cX11_echo 5 = .ok (.iload_n 2, 1) := by decide +kernel
theorem dX11_echo_6 : decode cX11_echo 6 = .ok (.iconst 0, 1) := by decide +kernel
theorem dX11_echo_7 : decode cX11_echo 7 = .ok (.iconst 5, 1) := by decide +kernel
theorem dX11_echo_8 : decode cX11_echo 8 = .ok (.invokestatic 89, 3) := by decide +kernel
theorem dX11_echo_11 : decode cX11_echo 11 = .ok (.ifCond .eq 7, 3) := by decide +kernel
theorem dX11_echo_14 : decode cX11_echo 14 = .ok (.iconst 1, 1) := by decide +kernel
theorem dX11_echo_15 : decode cX11_echo 15 = .ok (.goto 4, 3) := by decide +kernel
theorem dX11_echo_18 : decode cX11_echo 18 = .ok (.iconst 0, 1) := by decide +kernel
theorem dX11_echo_19 : decode cX11_echo 19 = .ok (.iconst 1, 1) := by decide +kernel
theorem dX11_echo_20 : decode cX11_echo 20 = .ok (.invokevirtual 37, 3) := by decide +kernel
theorem dX11_echo_23 : decode cX11_echo 23 = .ok (.ifCond .ne 5, 3) := by decide +kernel
theorem dX11_echo_26 : decode cX11_echo 26 = .ok (.iconst 0, 1) := by decide +kernel
theorem dX11_echo_27 : decode cX11_echo 27 = .ok (.ireturn, 1) := by decide +kernel
theorem dX11_echo_28 : decode cX11_echo 28 = .ok (.iload_n 1, 1) := by decide +kernel
theorem dX11_echo_29 : decode cX11_echo 29 = .ok (.aload_n 0, 1) := by decide +kernel
theorem dX11_echo_30 : decode cX11_echo 30 = .ok (.getfield 7, 3) := by decide +kernel
theorem dX11_echo_33 : decode cX11_echo 33 = .ok (.bipush 41, 2) := by decide +kernel
theorem dX11_echo_35 : decode cX11_echo 35 = .ok (.iaload, 1) := by decide +kernel
theorem dX11_echo_36 : decode cX11_echo 36 = .ok (.if_icmp .ge 12, 3) := by decide +kernel
theorem dX11_echo_39 : decode cX11_echo 39 = .ok (.aload_n 0, 1) := by decide +kernel
theorem dX11_echo_40 : decode cX11_echo 40 = .ok (.iload_n 1, 1) := by decide +kernel
theorem dX11_echo_41 : decode cX11_echo 41 = .ok (.iload_n 2, 1) := by decide +kernel
theorem dX11_echo_42 : decode cX11_echo 42 = .ok (.invokevirtual 194, 3) := by decide +kernel
theorem dX11_echo_45 : decode cX11_echo 45 = .ok (.goto 4, 3) := by decide +kernel
theorem dX11_echo_48 : decode cX11_echo 48 = .ok (.iconst (-1), 1) := by decide +kernel
theorem dX11_echo_49 : decode cX11_echo 49 = .ok (.ireturn, 1) := by decide +kernel
theorem dX11_pick_0 : decode cX11_pick 0 = .ok (.aload_n 0, 1) := by decide +kernel
theorem dX11_pick_1 : decode cX11_pick 1 = .ok (.iload_n 1, 1) := by decide +kernel
theorem dX11_pick_2 : decode cX11_pick 2 = .ok (.ifCond .lt 7, 3) := by decide +kernel
theorem dX11_pick_5 : decode cX11_pick 5 = .ok (.iconst 1, 1) := by decide +kernel
theorem dX11_pick_6 : decode cX11_pick 6 = .ok (.goto 4, 3) := by decide +kernel
theorem dX11_pick_9 : decode cX11_pick 9 = .ok (.iconst 0, 1) := by decide +kernel
theorem dX11_pick_10 : decode cX11_pick 10 = .ok (.iconst 1, 1) := by decide +kernel
theorem dX11_pick_11 : decode cX11_pick 11 = .ok (.invokevirtual 37, 3) := by decide +kernel
theorem dX11_pick_14 : decode cX11_pick 14 = .ok (.ifCond .ne 5, 3) := by decide +kernel
theorem dX11_pick_17 : decode cX11_pick 17 = .ok (.iconst 0, 1) := by decide +kernel
theorem dX11_pick_18 : decode cX11_pick 18 = .ok (.ireturn, 1) := by decide +kernel
theorem dX11_pick_19 : decode cX11_pick 19 = .ok (.iload_n 1, 1) := by decide +kernel
theorem dX11_pick_20 : decode cX11_pick 20 = .ok (.aload_n 0, 1) := by decide +kernel
theorem dX11_pick_21 : decode cX11_pick 21 = .ok (.getfield 7, 3) := by decide +kernel
theorem dX11_pick_24 : decode cX11_pick 24 = .ok (.bipush 31, 2) := by decide +kernel
theorem dX11_pick_26 : decode cX11_pick 26 = .ok (.iaload, 1) := by decide +kernel
theorem dX11_pick_27 : decode cX11_pick 27 = .ok (.if_icmp .ge 15, 3) := by decide +kernel
theorem dX11_pick_30 : decode cX11_pick 30 = .ok (.aload_n 0, 1) := by decide +kernel
theorem dX11_pick_31 : decode cX11_pick 31 = .ok (.getfield 7, 3) := by decide +kernel
theorem dX11_pick_34 : decode cX11_pick 34 = .ok (.bipush 32, 2) := by decide +kernel
theorem dX11_pick_36 : decode cX11_pick 36 = .ok (.iload_n 1, 1) := by decide +kernel
theorem dX11_pick_37 : decode cX11_pick 37 = .ok (.iadd, 1) := by decide +kernel
theorem dX11_pick_38 : decode cX11_pick 38 = .ok (.iaload, 1) := by decide +kernel
theorem dX11_pick_39 : decode cX11_pick 39 = .ok (.goto 4, 3) := by decide +kernel
theorem dX11_pick_42 : decode cX11_pick 42 = .ok (.iconst (-1), 1) := by decide +kernel
theorem dX11_pick_43 : decode cX11_pick 43 = .ok (.ireturn, 1) := by decide +kernel
theorem dX11_isMasked_0 : decode cX11_isMasked 0 = .ok (.aload_n 0, 1) := by decide +kernel
theorem dX11_isMasked_1 : decode cX11_isMasked 1 = .ok (.iload_n 1, 1) := by decide +kernel
theorem dX11_isMasked_2 : decode cX11_isMasked 2 = .ok (.iconst 0, 1) := by decide +kernel
theorem dX11_isMasked_3 : decode cX11_isMasked 3 = .ok (.sipush 10000, 3) := by decide +kernel
theorem dX11_isMasked_6 : decode cX11_isMasked 6 = .ok (.invokestatic 89, 3) := by decide +kernel
theorem dX11_isMasked_9 : decode cX11_isMasked 9 = .ok (.iconst 1, 1) := by decide +kernel
theorem dX11_isMasked_10 : decode cX11_isMasked 10 = .ok (.invokevirtual 37, 3) := by decide +kernel
theorem dX11_isMasked_13 : decode cX11_isMasked 13 = .ok (.ifCond .eq 24, 3) := by decide +kernel
theorem dX11_isMasked_16 : decode cX11_isMasked 16 = .ok (.aload_n 0, 1) := by decide +kernel
theorem dX11_isMasked_17 : decode cX11_isMasked 17 = .ok (.getfield 7, 3) := by decide +kernel
theorem dX11_isMasked_20 : decode cX11_isMasked 20 = .ok (.sipush 146, 3) := by decide +kernel
theorem dX11_isMasked_23 : decode cX11_isMasked 23 = .ok (.iload_n 1, 1) := by decide +kernel
theorem dX11_isMasked_24 : decode cX11_isMasked 24 = .ok (.bipush 20, 2) := by decide +kernel
theorem dX11_isMasked_26 : decode cX11_isMasked 26 = .ok (.idiv, 1) := by decide +kernel
theorem dX11_isMasked_27 : decode cX11_isMasked 27 = .ok (.iadd, 1) := by decide +kernel
theorem dX11_isMasked_28 : decode cX11_isMasked 28 = .ok (.iaload, 1) := by decide +kernel
theorem dX11_isMasked_29 : decode cX11_isMasked 29 = .ok (.iconst 1, 1) := by decide +kernel
theorem dX11_isMasked_30 : decode cX11_isMasked 30 = .ok (.if_icmp .ne 7, 3) := by decide +kernel
theorem dX11_isMasked_33 : decode cX11_isMasked 33 = .ok (.iconst 1, 1) := by decide +kernel
theorem dX11_isMasked_34 : decode cX11_isMasked 34 = .ok (.goto 4, 3) := by decide +kernel
theorem dX11_isMasked_37 : decode cX11_isMasked 37 = .ok (.iconst 0, 1) := by decide +kernel
theorem dX11_isMasked_38 : decode cX11_isMasked 38 = .ok (.ireturn, 1) := by decide +kernel
theorem dX11_need_0 : decode cX11_need 0 = .ok (.aload_n 0, 1) := by decide +kernel
theorem dX11_need_1 : decode cX11_need 1 = .ok (.iload_n 1, 1) := by decide +kernel
theorem dX11_need_2 : decode cX11_need 2 = .ok (.iconst 0, 1) := by decide +kernel
theorem dX11_need_3 : decode cX11_need 3 = .ok (.sipush 10000, 3) := by decide +kernel
theorem dX11_need_6 : decode cX11_need 6 = .ok (.invokestatic 89, 3) := by decide +kernel
theorem dX11_need_9 : decode cX11_need 9 = .ok (.iconst 1, 1) := by decide +kernel
theorem dX11_need_10 : decode cX11_need 10 = .ok (.invokevirtual 37, 3) := by decide +kernel
theorem dX11_need_13 : decode cX11_need 13 = .ok (.ifCond .eq 11, 3) := by decide +kernel
theorem dX11_need_16 : decode cX11_need 16 = .ok (.aload_n 0, 1) := by decide +kernel
theorem dX11_need_17 : decode cX11_need 17 = .ok (.iload_n 1, 1) := by decide +kernel
theorem dX11_need_18 : decode cX11_need 18 = .ok (.invokevirtual 80, 3) := by decide +kernel
theorem dX11_need_21 : decode cX11_need 21 = .ok (.goto 4, 3) := by decide +kernel
theorem dX11_need_24 : decode cX11_need 24 = .ok (.iconst 0, 1) := by decide +kernel
theorem dX11_need_25 : decode cX11_need 25 = .ok (.ireturn, 1) := by decide +kernel
theorem dX11_thing_0 : decode cX11_thing 0 = .ok (.aload_n 0, 1) := by decide +kernel
theorem dX11_thing_1 : decode cX11_thing 1 = .ok (.aload_n 0, 1) := by decide +kernel
theorem dX11_thing_2 : decode cX11_thing 2 = .ok (.iload_n 1, 1) := by decide +kernel
theorem dX11_thing_3 : decode cX11_thing 3 = .ok (.invokevirtual 152, 3) := by decide +kernel
theorem dX11_thing_6 : decode cX11_thing 6 = .ok (.iconst 1, 1) := by decide +kernel
theorem dX11_thing_7 : decode cX11_thing 7 = .ok (.invokevirtual 37, 3) := by decide +kernel
theorem dX11_thing_10 : decode cX11_thing 10 = .ok (.ifCond .eq 34, 3) := by decide +kernel
theorem dX11_thing_13 : decode cX11_thing 13 = .ok (.aload_n 0, 1) := by decide +kernel
theorem dX11_thing_14 : decode cX11_thing 14 = .ok (.iload_n 2, 1) := by decide +kernel
theorem dX11_thing_15 : decode cX11_thing 15 = .ok (.iconst 0, 1) := by decide +kernel
theorem dX11_thing_16 : decode cX11_thing 16 = .ok (.iconst 1, 1) := by decide +kernel
theorem dX11_thing_17 : decode cX11_thing 17 = .ok (.invokestatic 89, 3) := by decide +kernel
theorem dX11_thing_20 : decode cX11_thing 20 = .ok (.iconst 2, 1) := by decide +kernel
theorem dX11_thing_21 : decode cX11_thing 21 = .ok (.invokevirtual 37, 3) := by decide +kernel
theorem dX11_thing_24 : decode cX11_thing 24 = .ok (.ifCond .eq 20, 3) := by decide +kernel
theorem dX11_thing_27 : decode cX11_thing 27 = .ok (.aload_n 0, 1) := by decide +kernel
theorem dX11_thing_28 : decode cX11_thing 28 = .ok (.getfield 7, 3) := by decide +kernel
theorem dX11_thing_31 : decode cX11_thing 31 = .ok (.sipush 134, 3) := by decide +kernel
theorem dX11_thing_34 : decode cX11_thing 34 = .ok (.iconst 2, 1) := by decide +kernel
theorem dX11_thing_35 : decode cX11_thing 35 = .ok (.iload_n 1, 1) := by decide +kernel
theorem dX11_thing_36 : decode cX11_thing 36 = .ok (.imul, 1) := by decide +kernel
theorem dX11_thing_37 : decode cX11_thing 37 = .ok (.iadd, 1) := by decide +kernel
theorem dX11_thing_38 : decode cX11_thing 38 = .ok (.iload_n 2, 1) := by decide +kernel
theorem dX11_thing_39 : decode cX11_thing 39 = .ok (.iadd, 1) := by decide +kernel
theorem dX11_thing_40 : decode cX11_thing 40 = .ok (.iaload, 1) := by decide +kernel
theorem dX11_thing_41 : decode cX11_thing 41 = .ok (.goto 4, 3) := by decide +kernel
theorem dX11_thing_44 : decode cX11_thing 44 = .ok (.iconst 0, 1) := by decide +kernel
theorem dX11_thing_45 : decode cX11_thing 45 = .ok (.ireturn, 1) := by decide +kernel
theorem dX11_angle_0 : decode cX11_angle 0 = .ok (.aload_n 0, 1) := by decide +kernel
theorem dX11_angle_1 : decode cX11_angle 1 = .ok (.iload_n 1, 1) := by decide +kernel
theorem dX11_angle_2 : decode cX11_angle 2 = .ok (.iconst 0, 1) := by decide +kernel
theorem dX11_angle_3 : decode cX11_angle 3 = .ok (.aload_n 0, 1) := by decide +kernel
theorem dX11_angle_4 : decode cX11_angle 4 = .ok (.getfield 7, 3) := by decide +kernel
theorem dX11_angle_7 : decode cX11_angle 7 = .ok (.iconst 5, 1) := by decide +kernel
theorem dX11_angle_8 : decode cX11_angle 8 = .ok (.iaload, 1) := by decide +kernel
theorem dX11_angle_9 : decode cX11_angle 9 = .ok (.iconst 1, 1) := by decide +kernel
theorem dX11_angle_10 : decode cX11_angle 10 = .ok (.isub, 1) := by decide +kernel
theorem dX11_angle_11 : decode cX11_angle 11 = .ok (.invokestatic 89, 3) := by decide +kernel
theorem dX11_angle_14 : decode cX11_angle 14 = .ok (.iconst 1, 1) := by decide +kernel
theorem dX11_angle_15 : decode cX11_angle 15 = .ok (.invokevirtual 37, 3) := by decide +kernel
theorem dX11_angle_18 : decode cX11_angle 18 = .ok (.ifCond .eq 11, 3) := by decide +kernel
theorem dX11_angle_21 : decode cX11_angle 21 = .ok (.aload_n 0, 1) := by decide +kernel
theorem dX11_angle_22 : decode cX11_angle 22 = .ok (.iload_n 1, 1) := by decide +kernel
theorem dX11_angle_23 : decode cX11_angle 23 = .ok (.invokevirtual 56, 3) := by decide +kernel
theorem dX11_angle_26 : decode cX11_angle 26 = .ok (.goto 4, 3) := by decide +kernel
theorem dX11_angle_29 : decode cX11_angle 29 = .ok (.iconst 0, 1) := by decide +kernel
theorem dX11_angle_30 : decode cX11_angle 30 = .ok (.ireturn, 1) := by decide +kernel
theorem dX11_tank_0 : decode cX11_tank 0 = .ok (.aload_n 0, 1) := by decide +kernel
theorem dX11_tank_1 : decode cX11_tank 1 = .ok (.iload_n 1, 1) := by decide +kernel
theorem dX11_tank_2 : decode cX11_tank 2 = .ok (.iconst 0, 1) := by decide +kernel
theorem dX11_tank_3 : decode cX11_tank 3 = .ok (.bipush 11, 2) := by decide +kernel
theorem dX11_tank_5 : decode cX11_tank 5 = .ok (.invokestatic 89, 3) := by decide +kernel
theorem dX11_tank_8 : decode cX11_tank 8 = .ok (.iconst 1, 1) := by decide +kernel
theorem dX11_tank_9 : decode cX11_tank 9 = .ok (.invokevirtual 37, 3) := by decide +kernel
theorem dX11_tank_12 : decode cX11_tank 12 = .ok (.ifCond .eq 12, 3) := by decide +kernel
theorem dX11_tank_15 : decode cX11_tank 15 = .ok (.aload_n 0, 1) := by decide +kernel
theorem dX11_tank_16 : decode cX11_tank 16 = .ok (.getfield 7, 3) := by decide +kernel
theorem dX11_tank_19 : decode cX11_tank 19 = .ok (.iload_n 1, 1) := by decide +kernel
theorem dX11_tank_20 : decode cX11_tank 20 = .ok (.iaload, 1) := by decide +kernel
theorem dX11_tank_21 : decode cX11_tank 21 = .ok (.goto 4, 3) := by decide +kernel
theorem dX11_tank_24 : decode cX11_tank 24 = .ok (.iconst 0, 1) := by decide +kernel
theorem dX11_tank_25 : decode cX11_tank 25 = .ok (.ireturn, 1) := by decide +kernel
theorem dX11_setting_0 : decode cX11_setting 0 = .ok (.aload_n 0, 1) := by decide +kernel
theorem dX11_setting_1 : decode cX11_setting 1 = .ok (.iload_n 1, 1) := by decide +kernel
theorem dX11_setting_2 : decode cX11_setting 2 = .ok (.iconst 0, 1) := by decide +kernel
theorem dX11_setting_3 : decode cX11_setting 3 = .ok (.bipush 11, 2) := by decide +kernel
theorem dX11_setting_5 : decode cX11_setting 5 = .ok (.invokestatic 89, 3) := by decide +kernel
theorem dX11_setting_8 : decode cX11_setting 8 = .ok (.iconst 1, 1) := by decide +kernel
theorem dX11_setting_9 : decode cX11_setting 9 = .ok (.invokevirtual 37, 3) := by decide +kernel
theorem dX11_setting_12 : decode cX11_setting 12 = .ok (.ifCond .eq 15, 3) := by decide +kernel
theorem dX11_setting_15 : decode cX11_setting 15 = .ok (.aload_n 0, 1) := by decide +kernel
theorem dX11_setting_16 : decode cX11_setting 16 = .ok (.getfield 7, 3) := by decide +kernel
theorem dX11_setting_19 : decode cX11_setting 19 = .ok (.bipush 12, 2) := by decide +kernel
theorem dX11_setting_21 : decode cX11_setting 21 = .ok (.iload_n 1, 1) := by decide +kernel
theorem dX11_setting_22 : decode cX11_setting 22 = .ok (.iadd, 1) := by decide +kernel
theorem dX11_setting_23 : decode cX11_setting 23 = .ok (.iaload, 1) := by decide +kernel
theorem dX11_setting_24 : decode cX11_setting 24 = .ok (.goto 4, 3) := by decide +kernel
theorem dX11_setting_27 : decode cX11_setting 27 = .ok (.iconst 0, 1) := by decide +kernel
theorem dX11_setting_28 : decode cX11_setting 28 = .ok (.ireturn, 1) := by decide +kernel
theorem dX11_gaugeOf_0 : decode cX11_gaugeOf 0 = .ok (.iload_n 1, 1) := by decide +kernel
theorem dX11_gaugeOf_1 : decode cX11_gaugeOf 1 = .ok (.tableswitch 172 0 11 #[63, 71, 79, 87, 117, 125, 133, 138, 146, 154, 159, 164], 63) := by decide +kernel
theorem dX11_gaugeOf_64 : decode cX11_gaugeOf 64 = .ok (.aload_n 0, 1) := by decide +kernel
theorem dX11_gaugeOf_65 : decode cX11_gaugeOf 65 = .ok (.getfield 7, 3) := by decide +kernel
theorem dX11_gaugeOf_68 : decode cX11_gaugeOf 68 = .ok (.bipush 24, 2) := by decide +kernel
theorem dX11_gaugeOf_70 : decode cX11_gaugeOf 70 = .ok (.iaload, 1) := by decide +kernel
theorem dX11_gaugeOf_71 : decode cX11_gaugeOf 71 = .ok (.ireturn, 1) := by decide +kernel
theorem dX11_gaugeOf_72 : decode cX11_gaugeOf 72 = .ok (.aload_n 0, 1) := by decide +kernel
theorem dX11_gaugeOf_73 : decode cX11_gaugeOf 73 = .ok (.getfield 7, 3) := by decide +kernel
theorem dX11_gaugeOf_76 : decode cX11_gaugeOf 76 = .ok (.bipush 25, 2) := by decide +kernel
theorem dX11_gaugeOf_78 : decode cX11_gaugeOf 78 = .ok (.iaload, 1) := by decide +kernel
theorem dX11_gaugeOf_79 : decode cX11_gaugeOf 79 = .ok (.ireturn, 1) := by decide +kernel
theorem dX11_gaugeOf_80 : decode cX11_gaugeOf 80 = .ok (.aload_n 0, 1) := by decide +kernel
theorem dX11_gaugeOf_81 : decode cX11_gaugeOf 81 = .ok (.getfield 7, 3) := by decide +kernel
theorem dX11_gaugeOf_84 : decode cX11_gaugeOf 84 = .ok (.bipush 26, 2) := by decide +kernel
theorem dX11_gaugeOf_86 : decode cX11_gaugeOf 86 = .ok (.iaload, 1) := by decide +kernel
theorem dX11_gaugeOf_87 : decode cX11_gaugeOf 87 = .ok (.ireturn, 1) := by decide +kernel
theorem dX11_gaugeOf_88 : decode cX11_gaugeOf 88 = .ok (.aload_n 0, 1) := by decide +kernel
theorem dX11_gaugeOf_89 : decode cX11_gaugeOf 89 = .ok (.getfield 7, 3) := by decide +kernel
theorem dX11_gaugeOf_92 : decode cX11_gaugeOf 92 = .ok (.bipush 26, 2) := by decide +kernel
theorem dX11_gaugeOf_94 : decode cX11_gaugeOf 94 = .ok (.iaload, 1) := by decide +kernel
theorem dX11_gaugeOf_95 : decode cX11_gaugeOf 95 = .ok (.iconst (-1), 1) := by decide +kernel
theorem dX11_gaugeOf_96 : decode cX11_gaugeOf 96 = .ok (.if_icmp .ne 7, 3) := by decide +kernel
theorem dX11_gaugeOf_99 : decode cX11_gaugeOf 99 = .ok (.iconst (-1), 1) := by decide +kernel
theorem dX11_gaugeOf_100 : decode cX11_gaugeOf 100 = .ok (.goto 17, 3) := by decide +kernel
theorem dX11_gaugeOf_103 : decode cX11_gaugeOf 103 = .ok (.aload_n 0, 1) := by decide +kernel
theorem dX11_gaugeOf_104 : decode cX11_gaugeOf 104 = .ok (.getfield 7, 3) := by decide +kernel
theorem dX11_gaugeOf_107 : decode cX11_gaugeOf 107 = .ok (.iconst 0, 1) := by decide +kernel
theorem dX11_gaugeOf_108 : decode cX11_gaugeOf 108 = .ok (.iaload, 1) := by decide +kernel
theorem dX11_gaugeOf_109 : decode cX11_gaugeOf 109 = .ok (.aload_n 0, 1) := by decide +kernel
theorem dX11_gaugeOf_110 : decode cX11_gaugeOf 110 = .ok (.getfield 7, 3) := by decide +kernel
theorem dX11_gaugeOf_113 : decode cX11_gaugeOf 113 = .ok (.bipush 26, 2) := by decide +kernel
theorem dX11_gaugeOf_115 : decode cX11_gaugeOf 115 = .ok (.iaload, 1) := by decide +kernel
theorem dX11_gaugeOf_116 : decode cX11_gaugeOf 116 = .ok (.isub, 1) := by decide +kernel
theorem dX11_gaugeOf_117 : decode cX11_gaugeOf 117 = .ok (.ireturn, 1) := by decide +kernel
theorem dX11_gaugeOf_118 : decode cX11_gaugeOf 118 = .ok (.aload_n 0, 1) := by decide +kernel
theorem dX11_gaugeOf_119 : decode cX11_gaugeOf 119 = .ok (.getfield 7, 3) := by decide +kernel
theorem dX11_gaugeOf_122 : decode cX11_gaugeOf 122 = .ok (.bipush 27, 2) := by decide +kernel
theorem dX11_gaugeOf_124 : decode cX11_gaugeOf 124 = .ok (.iaload, 1) := by decide +kernel
theorem dX11_gaugeOf_125 : decode cX11_gaugeOf 125 = .ok (.ireturn, 1) := by decide +kernel
theorem dX11_gaugeOf_126 : decode cX11_gaugeOf 126 = .ok (.aload_n 0, 1) := by decide +kernel
theorem dX11_gaugeOf_127 : decode cX11_gaugeOf 127 = .ok (.getfield 7, 3) := by decide +kernel
theorem dX11_gaugeOf_130 : decode cX11_gaugeOf 130 = .ok (.bipush 28, 2) := by decide +kernel
theorem dX11_gaugeOf_132 : decode cX11_gaugeOf 132 = .ok (.iaload, 1) := by decide +kernel
theorem dX11_gaugeOf_133 : decode cX11_gaugeOf 133 = .ok (.ireturn, 1) := by decide +kernel
theorem dX11_gaugeOf_134 : decode cX11_gaugeOf 134 = .ok (.aload_n 0, 1) := by decide +kernel
theorem dX11_gaugeOf_135 : decode cX11_gaugeOf 135 = .ok (.invokevirtual 181, 3) := by decide +kernel
theorem dX11_gaugeOf_138 : decode cX11_gaugeOf 138 = .ok (.ireturn, 1) := by decide +kernel
theorem dX11_gaugeOf_139 : decode cX11_gaugeOf 139 = .ok (.aload_n 0, 1) := by decide +kernel
theorem dX11_gaugeOf_140 : decode cX11_gaugeOf 140 = .ok (.getfield 7, 3) := by decide +kernel
theorem dX11_gaugeOf_143 : decode cX11_gaugeOf 143 = .ok (.bipush 41, 2) := by decide +kernel
theorem dX11_gaugeOf_145 : decode cX11_gaugeOf 145 = .ok (.iaload, 1) := by decide +kernel
theorem dX11_gaugeOf_146 : decode cX11_gaugeOf 146 = .ok (.ireturn, 1) := by decide +kernel
theorem dX11_gaugeOf_147 : decode cX11_gaugeOf 147 = .ok (.aload_n 0, 1) := by decide +kernel
theorem dX11_gaugeOf_148 : decode cX11_gaugeOf 148 = .ok (.getfield 7, 3) := by decide +kernel
theorem dX11_gaugeOf_151 : decode cX11_gaugeOf 151 = .ok (.bipush 31, 2) := by decide +kernel
theorem dX11_gaugeOf_153 : decode cX11_gaugeOf 153 = .ok (.iaload, 1) := by decide +kernel
theorem dX11_gaugeOf_154 : decode cX11_gaugeOf 154 = .ok (.ireturn, 1) := by decide +kernel
theorem dX11_gaugeOf_155 : decode cX11_gaugeOf 155 = .ok (.aload_n 0, 1) := by decide +kernel
theorem dX11_gaugeOf_156 : decode cX11_gaugeOf 156 = .ok (.invokevirtual 100, 3) := by decide +kernel
theorem dX11_gaugeOf_159 : decode cX11_gaugeOf 159 = .ok (.ireturn, 1) := by decide +kernel
theorem dX11_gaugeOf_160 : decode cX11_gaugeOf 160 = .ok (.aload_n 0, 1) := by decide +kernel
theorem dX11_gaugeOf_161 : decode cX11_gaugeOf 161 = .ok (.invokevirtual 103, 3) := by decide +kernel
theorem dX11_gaugeOf_164 : decode cX11_gaugeOf 164 = .ok (.ireturn, 1) := by decide +kernel
theorem dX11_gaugeOf_165 : decode cX11_gaugeOf 165 = .ok (.aload_n 0, 1) := by decide +kernel
theorem dX11_gaugeOf_166 : decode cX11_gaugeOf 166 = .ok (.getfield 7, 3) := by decide +kernel
theorem dX11_gaugeOf_169 : decode cX11_gaugeOf 169 = .ok (.bipush 29, 2) := by decide +kernel
theorem dX11_gaugeOf_171 : decode cX11_gaugeOf 171 = .ok (.iaload, 1) := by decide +kernel
theorem dX11_gaugeOf_172 : decode cX11_gaugeOf 172 = .ok (.ireturn, 1) := by decide +kernel
theorem dX11_gaugeOf_173 : decode cX11_gaugeOf 173 = .ok (.aload_n 0, 1) := by decide +kernel
theorem dX11_gaugeOf_174 : decode cX11_gaugeOf 174 = .ok (.getfield 7, 3) := by decide +kernel
theorem dX11_gaugeOf_177 : decode cX11_gaugeOf 177 = .ok (.bipush 30, 2) := by decide +kernel
theorem dX11_gaugeOf_179 : decode cX11_gaugeOf 179 = .ok (.iaload, 1) := by decide +kernel
theorem dX11_gaugeOf_180 : decode cX11_gaugeOf 180 = .ok (.ireturn, 1) := by decide +kernel
theorem dX11_gauge_0 : decode cX11_gauge 0 = .ok (.aload_n 0, 1) := by decide +kernel
theorem dX11_gauge_1 : decode cX11_gauge 1 = .ok (.iload_n 1, 1) := by decide +kernel
theorem dX11_gauge_2 : decode cX11_gauge 2 = .ok (.iconst 0, 1) := by decide +kernel
theorem dX11_gauge_3 : decode cX11_gauge 3 = .ok (.bipush 12, 2) := by decide +kernel
theorem dX11_gauge_5 : decode cX11_gauge 5 = .ok (.invokestatic 89, 3) := by decide +kernel
theorem dX11_gauge_8 : decode cX11_gauge 8 = .ok (.iconst 1, 1) := by decide +kernel
theorem dX11_gauge_9 : decode cX11_gauge 9 = .ok (.invokevirtual 37, 3) := by decide +kernel
theorem dX11_gauge_12 : decode cX11_gauge 12 = .ok (.ifCond .eq 11, 3) := by decide +kernel
theorem dX11_gauge_15 : decode cX11_gauge 15 = .ok (.aload_n 0, 1) := by decide +kernel
theorem dX11_gauge_16 : decode cX11_gauge 16 = .ok (.iload_n 1, 1) := by decide +kernel
theorem dX11_gauge_17 : decode cX11_gauge 17 = .ok (.invokevirtual 197, 3) := by decide +kernel
theorem dX11_gauge_20 : decode cX11_gauge 20 = .ok (.goto 4, 3) := by decide +kernel
theorem dX11_gauge_23 : decode cX11_gauge 23 = .ok (.iconst 0, 1) := by decide +kernel
theorem dX11_gauge_24 : decode cX11_gauge 24 = .ok (.ireturn, 1) := by decide +kernel
theorem dX11_meanPick_0 : decode cX11_meanPick 0 = .ok (.aload_n 0, 1) := by decide +kernel
theorem dX11_meanPick_1 : decode cX11_meanPick 1 = .ok (.iconst 0, 1) := by decide +kernel
theorem dX11_meanPick_2 : decode cX11_meanPick 2 = .ok (.putfield 30, 3) := by decide +kernel
theorem dX11_meanPick_5 : decode cX11_meanPick 5 = .ok (.iconst 0, 1) := by decide +kernel
theorem dX11_meanPick_6 : decode cX11_meanPick 6 = .ok (.istore_n 1, 1) := by decide +kernel
theorem dX11_meanPick_7 : decode cX11_meanPick 7 = .ok (.iconst 0, 1) := by decide +kernel
theorem dX11_meanPick_8 : decode cX11_meanPick 8 = .ok (.istore_n 2, 1) := by decide +kernel
theorem dX11_meanPick_9 : decode cX11_meanPick 9 = .ok (.iload_n 2, 1) := by decide +kernel
theorem dX11_meanPick_10 : decode cX11_meanPick 10 = .ok (.aload_n 0, 1) := by decide +kernel
theorem dX11_meanPick_11 : decode cX11_meanPick 11 = .ok (.getfield 7, 3) := by decide +kernel
theorem dX11_meanPick_14 : decode cX11_meanPick 14 = .ok (.bipush 31, 2) := by decide +kernel
theorem dX11_meanPick_16 : decode cX11_meanPick 16 = .ok (.iaload, 1) := by decide +kernel
theorem dX11_meanPick_17 : decode cX11_meanPick 17 = .ok (.if_icmp .ge 38, 3) := by decide +kernel
theorem dX11_meanPick_20 : decode cX11_meanPick 20 = .ok (.iload_n 1, 1) := by decide +kernel
theorem dX11_meanPick_21 : decode cX11_meanPick 21 = .ok (.aload_n 0, 1) := by decide +kernel
theorem dX11_meanPick_22 : decode cX11_meanPick 22 = .ok (.getfield 7, 3) := by decide +kernel
theorem dX11_meanPick_25 : decode cX11_meanPick 25 = .ok (.bipush 32, 2) := by decide +kernel
theorem dX11_meanPick_27 : decode cX11_meanPick 27 = .ok (.iload_n 2, 1) := by decide +kernel
theorem dX11_meanPick_28 : decode cX11_meanPick 28 = .ok (.iadd, 1) := by decide +kernel
theorem dX11_meanPick_29 : decode cX11_meanPick 29 = .ok (.iaload, 1) := by decide +kernel
theorem dX11_meanPick_30 : decode cX11_meanPick 30 = .ok (.iconst (-1), 1) := by decide +kernel
theorem dX11_meanPick_31 : decode cX11_meanPick 31 = .ok (.if_icmp .eq 15, 3) := by decide +kernel
theorem dX11_meanPick_34 : decode cX11_meanPick 34 = .ok (.aload_n 0, 1) := by decide +kernel
theorem dX11_meanPick_35 : decode cX11_meanPick 35 = .ok (.getfield 7, 3) := by decide +kernel
theorem dX11_meanPick_38 : decode cX11_meanPick 38 = .ok (.bipush 32, 2) := by decide +kernel
theorem dX11_meanPick_40 : decode cX11_meanPick 40 = .ok (.iload_n 2, 1) := by decide +kernel
theorem dX11_meanPick_41 : decode cX11_meanPick 41 = .ok (.iadd, 1) := by decide +kernel
theorem dX11_meanPick_42 : decode cX11_meanPick 42 = .ok (.iaload, 1) := by decide +kernel
theorem dX11_meanPick_43 : decode cX11_meanPick 43 = .ok (.goto 4, 3) := by decide +kernel
theorem dX11_meanPick_46 : decode cX11_meanPick 46 = .ok (.iconst 0, 1) := by decide +kernel
theorem dX11_meanPick_47 : decode cX11_meanPick 47 = .ok (.iadd, 1) := by decide +kernel
theorem dX11_meanPick_48 : decode cX11_meanPick 48 = .ok (.istore_n 1, 1) := by decide +kernel
theorem dX11_meanPick_49 : decode cX11_meanPick 49 = .ok (.iinc 2 1, 3) := by decide +kernel
theorem dX11_meanPick_52 : decode cX11_meanPick 52 = .ok (.goto (-43), 3) := by decide +kernel
theorem dX11_meanPick_55 : decode cX11_meanPick 55 = .ok (.aload_n 0, 1) := by decide +kernel
theorem dX11_meanPick_56 : decode cX11_meanPick 56 = .ok (.invokevirtual 100, 3) := by decide +kernel
theorem dX11_meanPick_59 : decode cX11_meanPick 59 = .ok (.ifCond .ne 9, 3) := by decide +kernel
theorem dX11_meanPick_62 : decode cX11_meanPick 62 = .ok (.ldc2_w 200, 3) := by decide +kernel
theorem dX11_meanPick_65 : decode cX11_meanPick 65 = .ok (.goto 11, 3) := by decide +kernel
theorem dX11_meanPick_68 : decode cX11_meanPick 68 = .ok (.iload_n 1, 1) := by decide +kernel
theorem dX11_meanPick_69 : decode cX11_meanPick 69 = .ok (.i2d, 1) := by decide +kernel
theorem dX11_meanPick_70 : decode cX11_meanPick 70 = .ok (.aload_n 0, 1) := by decide +kernel
theorem dX11_meanPick_71 : decode cX11_meanPick 71 = .ok (.invokevirtual 100, 3) := by decide +kernel
theorem dX11_meanPick_74 : decode cX11_meanPick 74 = .ok (.i2d, 1) := by decide +kernel
theorem dX11_meanPick_75 : decode cX11_meanPick 75 = .ok (.ddiv, 1) := by decide +kernel
theorem dX11_meanPick_76 : decode cX11_meanPick 76 = .ok (.dreturn, 1) := by decide +kernel
theorem dX11_toldAfter_0 : decode cX11_toldAfter 0 = .ok (.aload_n 0, 1) := by decide +kernel
theorem dX11_toldAfter_1 : decode cX11_toldAfter 1 = .ok (.iload_n 1, 1) := by decide +kernel
theorem dX11_toldAfter_2 : decode cX11_toldAfter 2 = .ok (.iconst 0, 1) := by decide +kernel
theorem dX11_toldAfter_3 : decode cX11_toldAfter 3 = .ok (.sipush 500, 3) := by decide +kernel
theorem dX11_toldAfter_6 : decode cX11_toldAfter 6 = .ok (.invokestatic 89, 3) := by decide +kernel
theorem dX11_toldAfter_9 : decode cX11_toldAfter 9 = .ok (.iconst 1, 1) := by decide +kernel
theorem dX11_toldAfter_10 : decode cX11_toldAfter 10 = .ok (.invokevirtual 37, 3) := by decide +kernel
theorem dX11_toldAfter_13 : decode cX11_toldAfter 13 = .ok (.ifCond .ne 5, 3) := by decide +kernel
theorem dX11_toldAfter_16 : decode cX11_toldAfter 16 = .ok (.iconst 0, 1) := by decide +kernel
theorem dX11_toldAfter_17 : decode cX11_toldAfter 17 = .ok (.ireturn, 1) := by decide +kernel
theorem dX11_toldAfter_18 : decode cX11_toldAfter 18 = .ok (.aload_n 0, 1) := by decide +kernel
theorem dX11_toldAfter_19 : decode cX11_toldAfter 19 = .ok (.invokevirtual 202, 3) := by decide +kernel
theorem dX11_toldAfter_22 : decode cX11_toldAfter 22 = .ok (.iconst 0, 1) := by decide +kernel
theorem dX11_toldAfter_23 : decode cX11_toldAfter 23 = .ok (.istore_n 2, 1) := by decide +kernel
theorem dX11_toldAfter_24 : decode cX11_toldAfter 24 = .ok (.iconst 0, 1) := by decide +kernel
theorem dX11_toldAfter_25 : decode cX11_toldAfter 25 = .ok (.istore_n 3, 1) := by decide +kernel
theorem dX11_toldAfter_26 : decode cX11_toldAfter 26 = .ok (.iload_n 2, 1) := by decide +kernel
theorem dX11_toldAfter_27 : decode cX11_toldAfter 27 = .ok (.iload_n 1, 1) := by decide +kernel
theorem dX11_toldAfter_28 : decode cX11_toldAfter 28 = .ok (.if_icmp .ge 35, 3) := by decide +kernel
theorem dX11_toldAfter_31 : decode cX11_toldAfter 31 = .ok (.aload_n 0, 1) := by decide +kernel
theorem dX11_toldAfter_32 : decode cX11_toldAfter 32 = .ok (.getfield 7, 3) := by decide +kernel
theorem dX11_toldAfter_35 : decode cX11_toldAfter 35 = .ok (.bipush 26, 2) := by decide +kernel
theorem dX11_toldAfter_37 : decode cX11_toldAfter 37 = .ok (.iaload, 1) := by decide +kernel
theorem dX11_toldAfter_38 : decode cX11_toldAfter 38 = .ok (.iconst (-1), 1) := by decide +kernel
theorem dX11_toldAfter_39 : decode cX11_toldAfter 39 = .ok (.if_icmp .ne 24, 3) := by decide +kernel
theorem dX11_toldAfter_42 : decode cX11_toldAfter 42 = .ok (.iload_n 3, 1) := by decide +kernel
theorem dX11_toldAfter_43 : decode cX11_toldAfter 43 = .ok (.aload_n 0, 1) := by decide +kernel
theorem dX11_toldAfter_44 : decode cX11_toldAfter 44 = .ok (.invokevirtual 184, 3) := by decide +kernel
theorem dX11_toldAfter_47 : decode cX11_toldAfter 47 = .ok (.ifCond .eq 7, 3) := by decide +kernel
theorem dX11_toldAfter_50 : decode cX11_toldAfter 50 = .ok (.iconst 1, 1) := by decide +kernel
theorem dX11_toldAfter_51 : decode cX11_toldAfter 51 = .ok (.goto 4, 3) := by decide +kernel
theorem dX11_toldAfter_54 : decode cX11_toldAfter 54 = .ok (.iconst 0, 1) := by decide +kernel
theorem dX11_toldAfter_55 : decode cX11_toldAfter 55 = .ok (.iadd, 1) := by decide +kernel
theorem dX11_toldAfter_56 : decode cX11_toldAfter 56 = .ok (.istore_n 3, 1) := by decide +kernel
theorem dX11_toldAfter_57 : decode cX11_toldAfter 57 = .ok (.iinc 2 1, 3) := by decide +kernel
theorem dX11_toldAfter_60 : decode cX11_toldAfter 60 = .ok (.goto (-34), 3) := by decide +kernel
theorem dX11_toldAfter_63 : decode cX11_toldAfter 63 = .ok (.aload_n 0, 1) := by decide +kernel
theorem dX11_toldAfter_64 : decode cX11_toldAfter 64 = .ok (.getfield 7, 3) := by decide +kernel
theorem dX11_toldAfter_67 : decode cX11_toldAfter 67 = .ok (.bipush 26, 2) := by decide +kernel
theorem dX11_toldAfter_69 : decode cX11_toldAfter 69 = .ok (.iaload, 1) := by decide +kernel
theorem dX11_toldAfter_70 : decode cX11_toldAfter 70 = .ok (.iconst (-1), 1) := by decide +kernel
theorem dX11_toldAfter_71 : decode cX11_toldAfter 71 = .ok (.if_icmp .eq 8, 3) := by decide +kernel
theorem dX11_toldAfter_74 : decode cX11_toldAfter 74 = .ok (.iload_n 3, 1) := by decide +kernel
theorem dX11_toldAfter_75 : decode cX11_toldAfter 75 = .ok (.iload_n 2, 1) := by decide +kernel
theorem dX11_toldAfter_76 : decode cX11_toldAfter 76 = .ok (.if_icmp .le 7, 3) := by decide +kernel
theorem dX11_toldAfter_79 : decode cX11_toldAfter 79 = .ok (.iconst (-1), 1) := by decide +kernel
theorem dX11_toldAfter_80 : decode cX11_toldAfter 80 = .ok (.goto 4, 3) := by decide +kernel
theorem dX11_toldAfter_83 : decode cX11_toldAfter 83 = .ok (.iload_n 2, 1) := by decide +kernel
theorem dX11_toldAfter_84 : decode cX11_toldAfter 84 = .ok (.istore_n 2, 1) := by decide +kernel
theorem dX11_toldAfter_85 : decode cX11_toldAfter 85 = .ok (.aload_n 0, 1) := by decide +kernel
theorem dX11_toldAfter_86 : decode cX11_toldAfter 86 = .ok (.invokevirtual 205, 3) := by decide +kernel
theorem dX11_toldAfter_89 : decode cX11_toldAfter 89 = .ok (.iload_n 2, 1) := by decide +kernel
theorem dX11_toldAfter_90 : decode cX11_toldAfter 90 = .ok (.ireturn, 1) := by decide +kernel
theorem dX11_worst_0 : decode cX11_worst 0 = .ok (.aload_n 0, 1) := by decide +kernel
theorem dX11_worst_1 : decode cX11_worst 1 = .ok (.invokevirtual 202, 3) := by decide +kernel
theorem dX11_worst_4 : decode cX11_worst 4 = .ok (.aload_n 0, 1) := by decide +kernel
theorem dX11_worst_5 : decode cX11_worst 5 = .ok (.getfield 7, 3) := by decide +kernel
theorem dX11_worst_8 : decode cX11_worst 8 = .ok (.bipush 17, 2) := by decide +kernel
theorem dX11_worst_10 : decode cX11_worst 10 = .ok (.iload_n 2, 1) := by decide +kernel
theorem dX11_worst_11 : decode cX11_worst 11 = .ok (.iastore, 1) := by decide +kernel
theorem dX11_worst_12 : decode cX11_worst 12 = .ok (.iconst 0, 1) := by decide +kernel
theorem dX11_worst_13 : decode cX11_worst 13 = .ok (.istore_n 3, 1) := by decide +kernel
theorem dX11_worst_14 : decode cX11_worst 14 = .ok (.iconst 0, 1) := by decide +kernel
theorem dX11_worst_15 : decode cX11_worst 15 = .ok (.istore 4, 2) := by decide +kernel
theorem dX11_worst_17 : decode cX11_worst 17 = .ok (.iconst 0, 1) := by decide +kernel
theorem dX11_worst_18 : decode cX11_worst 18 = .ok (.istore 5, 2) := by decide +kernel
theorem dX11_worst_20 : decode cX11_worst 20 = .ok (.iload 5, 2) := by decide +kernel
theorem dX11_worst_22 : decode cX11_worst 22 = .ok (.iload_n 1, 1) := by decide +kernel
theorem dX11_worst_23 : decode cX11_worst 23 = .ok (.if_icmp .ge 73, 3) := by decide +kernel
theorem dX11_worst_26 : decode cX11_worst 26 = .ok (.iload 4, 2) := by decide +kernel
theorem dX11_worst_28 : decode cX11_worst 28 = .ok (.aload_n 0, 1) := by decide +kernel
theorem dX11_worst_29 : decode cX11_worst 29 = .ok (.invokevirtual 184, 3) := by decide +kernel
theorem dX11_worst_32 : decode cX11_worst 32 = .ok (.ifCond .eq 7, 3) := by decide +kernel
theorem dX11_worst_35 : decode cX11_worst 35 = .ok (.iconst 1, 1) := by decide +kernel
theorem dX11_worst_36 : decode cX11_worst 36 = .ok (.goto 4, 3) := by decide +kernel
theorem dX11_worst_39 : decode cX11_worst 39 = .ok (.iconst 0, 1) := by decide +kernel
theorem dX11_worst_40 : decode cX11_worst 40 = .ok (.iadd, 1) := by decide +kernel
theorem dX11_worst_41 : decode cX11_worst 41 = .ok (.istore 4, 2) := by decide +kernel
theorem dX11_worst_43 : decode cX11_worst 43 = .ok (.aload_n 0, 1) := by decide +kernel
theorem dX11_worst_44 : decode cX11_worst 44 = .ok (.getfield 7, 3) := by decide +kernel
theorem dX11_worst_47 : decode cX11_worst 47 = .ok (.bipush 26, 2) := by decide +kernel
theorem dX11_worst_49 : decode cX11_worst 49 = .ok (.iaload, 1) := by decide +kernel
theorem dX11_worst_50 : decode cX11_worst 50 = .ok (.iconst (-1), 1) := by decide +kernel
theorem dX11_worst_51 : decode cX11_worst 51 = .ok (.if_icmp .ne 7, 3) := by decide +kernel
theorem dX11_worst_54 : decode cX11_worst 54 = .ok (.iconst 0, 1) := by decide +kernel
theorem dX11_worst_55 : decode cX11_worst 55 = .ok (.goto 26, 3) := by decide +kernel
theorem dX11_worst_58 : decode cX11_worst 58 = .ok (.aload_n 0, 1) := by decide +kernel
theorem dX11_worst_59 : decode cX11_worst 59 = .ok (.getfield 7, 3) := by decide +kernel
theorem dX11_worst_62 : decode cX11_worst 62 = .ok (.iconst 1, 1) := by decide +kernel
theorem dX11_worst_63 : decode cX11_worst 63 = .ok (.iaload, 1) := by decide +kernel
theorem dX11_worst_64 : decode cX11_worst 64 = .ok (.aload_n 0, 1) := by decide +kernel
theorem dX11_worst_65 : decode cX11_worst 65 = .ok (.getfield 7, 3) := by decide +kernel
theorem dX11_worst_68 : decode cX11_worst 68 = .ok (.iconst 0, 1) := by decide +kernel
theorem dX11_worst_69 : decode cX11_worst 69 = .ok (.iaload, 1) := by decide +kernel
theorem dX11_worst_70 : decode cX11_worst 70 = .ok (.aload_n 0, 1) := by decide +kernel
theorem dX11_worst_71 : decode cX11_worst 71 = .ok (.getfield 7, 3) := by decide +kernel
theorem dX11_worst_74 : decode cX11_worst 74 = .ok (.bipush 26, 2) := by decide +kernel
theorem dX11_worst_76 : decode cX11_worst 76 = .ok (.iaload, 1) := by decide +kernel
theorem dX11_worst_77 : decode cX11_worst 77 = .ok (.isub, 1) := by decide +kernel
theorem dX11_worst_78 : decode cX11_worst 78 = .ok (.invokestatic 83, 3) := by decide +kernel
theorem dX11_worst_81 : decode cX11_worst 81 = .ok (.istore 6, 2) := by decide +kernel
theorem dX11_worst_83 : decode cX11_worst 83 = .ok (.iload_n 3, 1) := by decide +kernel
theorem dX11_worst_84 : decode cX11_worst 84 = .ok (.iload 6, 2) := by decide +kernel
theorem dX11_worst_86 : decode cX11_worst 86 = .ok (.invokestatic 60, 3) := by decide +kernel
theorem dX11_worst_89 : decode cX11_worst 89 = .ok (.istore_n 3, 1) := by decide +kernel
theorem dX11_worst_90 : decode cX11_worst 90 = .ok (.iinc 5 1, 3) := by decide +kernel
theorem dX11_worst_93 : decode cX11_worst 93 = .ok (.goto (-73), 3) := by decide +kernel
theorem dX11_worst_96 : decode cX11_worst 96 = .ok (.aload_n 0, 1) := by decide +kernel
theorem dX11_worst_97 : decode cX11_worst 97 = .ok (.invokevirtual 205, 3) := by decide +kernel
theorem dX11_worst_100 : decode cX11_worst 100 = .ok (.iload 4, 2) := by decide +kernel
theorem dX11_worst_102 : decode cX11_worst 102 = .ok (.ifCond .lt 7, 3) := by decide +kernel
theorem dX11_worst_105 : decode cX11_worst 105 = .ok (.iload_n 3, 1) := by decide +kernel
theorem dX11_worst_106 : decode cX11_worst 106 = .ok (.goto 4, 3) := by decide +kernel
theorem dX11_worst_109 : decode cX11_worst 109 = .ok (.iconst (-1), 1) := by decide +kernel
theorem dX11_worst_110 : decode cX11_worst 110 = .ok (.ireturn, 1) := by decide +kernel
theorem dX11_worstError_0 : decode cX11_worstError 0 = .ok (.aload_n 0, 1) := by decide +kernel
theorem dX11_worstError_1 : decode cX11_worstError 1 = .ok (.iload_n 1, 1) := by decide +kernel
theorem dX11_worstError_2 : decode cX11_worstError 2 = .ok (.iconst 1, 1) := by decide +kernel
theorem dX11_worstError_3 : decode cX11_worstError 3 = .ok (.sipush 200, 3) := by decide +kernel
theorem dX11_worstError_6 : decode cX11_worstError 6 = .ok (.invokestatic 89, 3) := by decide +kernel
theorem dX11_worstError_9 : decode cX11_worstError 9 = .ok (.iconst 1, 1) := by decide +kernel
theorem dX11_worstError_10 : decode cX11_worstError 10 = .ok (.invokevirtual 37, 3) := by decide +kernel
theorem dX11_worstError_13 : decode cX11_worstError 13 = .ok (.ifCond .eq 18, 3) := by decide +kernel
theorem dX11_worstError_16 : decode cX11_worstError 16 = .ok (.aload_n 0, 1) := by decide +kernel
theorem dX11_worstError_17 : decode cX11_worstError 17 = .ok (.iload_n 1, 1) := by decide +kernel
theorem dX11_worstError_18 : decode cX11_worstError 18 = .ok (.aload_n 0, 1) := by decide +kernel
theorem dX11_worstError_19 : decode cX11_worstError 19 = .ok (.getfield 7, 3) := by decide +kernel
theorem dX11_worstError_22 : decode cX11_worstError 22 = .ok (.bipush 17, 2) := by decide +kernel
theorem dX11_worstError_24 : decode cX11_worstError 24 = .ok (.iaload, 1) := by decide +kernel
theorem dX11_worstError_25 : decode cX11_worstError 25 = .ok (.invokevirtual 208, 3) := by decide +kernel
theorem dX11_worstError_28 : decode cX11_worstError 28 = .ok (.goto 4, 3) := by decide +kernel
theorem dX11_worstError_31 : decode cX11_worstError 31 = .ok (.iconst 0, 1) := by decide +kernel
theorem dX11_worstError_32 : decode cX11_worstError 32 = .ok (.ireturn, 1) := by decide +kernel
theorem dX11_bestMode_0 : decode cX11_bestMode 0 = .ok (.aload_n 0, 1) := by decide +kernel
theorem dX11_bestMode_1 : decode cX11_bestMode 1 = .ok (.iload_n 1, 1) := by decide +kernel
theorem dX11_bestMode_2 : decode cX11_bestMode 2 = .ok (.iconst 1, 1) := by decide +kernel
theorem dX11_bestMode_3 : decode cX11_bestMode 3 = .ok (.sipush 200, 3) := by decide +kernel
theorem dX11_bestMode_6 : decode cX11_bestMode 6 = .ok (.invokestatic 89, 3) := by decide +kernel
theorem dX11_bestMode_9 : decode cX11_bestMode 9 = .ok (.iconst 1, 1) := by decide +kernel
theorem dX11_bestMode_10 : decode cX11_bestMode 10 = .ok (.invokevirtual 37, 3) := by decide +kernel
theorem dX11_bestMode_13 : decode cX11_bestMode 13 = .ok (.ifCond .ne 5, 3) := by decide +kernel
theorem dX11_bestMode_16 : decode cX11_bestMode 16 = .ok (.iconst 0, 1) := by decide +kernel
theorem dX11_bestMode_17 : decode cX11_bestMode 17 = .ok (.ireturn, 1) := by decide +kernel
theorem dX11_bestMode_18 : decode cX11_bestMode 18 = .ok (.iconst 0, 1) := by decide +kernel
theorem dX11_bestMode_19 : decode cX11_bestMode 19 = .ok (.istore_n 2, 1) := by decide +kernel
theorem dX11_bestMode_20 : decode cX11_bestMode 20 = .ok (.aload_n 0, 1) := by decide +kernel
theorem dX11_bestMode_21 : decode cX11_bestMode 21 = .ok (.iload_n 1, 1) := by decide +kernel
theorem dX11_bestMode_22 : decode cX11_bestMode 22 = .ok (.iconst 0, 1) := by decide +kernel
theorem dX11_bestMode_23 : decode cX11_bestMode 23 = .ok (.invokevirtual 208, 3) := by decide +kernel
theorem dX11_bestMode_26 : decode cX11_bestMode 26 = .ok (.istore_n 3, 1) := by decide +kernel
theorem dX11_bestMode_27 : decode cX11_bestMode 27 = .ok (.iconst 1, 1) := by decide +kernel
theorem dX11_bestMode_28 : decode cX11_bestMode 28 = .ok (.istore 4, 2) := by decide +kernel
theorem dX11_bestMode_30 : decode cX11_bestMode 30 = .ok (.iload 4, 2) := by decide +kernel
theorem dX11_bestMode_32 : decode cX11_bestMode 32 = .ok (.iconst 3, 1) := by decide +kernel
theorem dX11_bestMode_33 : decode cX11_bestMode 33 = .ok (.if_icmp .ge 44, 3) := by decide +kernel
theorem dX11_bestMode_36 : decode cX11_bestMode 36 = .ok (.aload_n 0, 1) := by decide +kernel
theorem dX11_bestMode_37 : decode cX11_bestMode 37 = .ok (.iload_n 1, 1) := by decide +kernel
theorem dX11_bestMode_38 : decode cX11_bestMode 38 = .ok (.iload 4, 2) := by decide +kernel
theorem dX11_bestMode_40 : decode cX11_bestMode 40 = .ok (.invokevirtual 208, 3) := by decide +kernel
theorem dX11_bestMode_43 : decode cX11_bestMode 43 = .ok (.istore 5, 2) := by decide +kernel
theorem dX11_bestMode_45 : decode cX11_bestMode 45 = .ok (.iload 5, 2) := by decide +kernel
theorem dX11_bestMode_47 : decode cX11_bestMode 47 = .ok (.iload_n 3, 1) := by decide +kernel
theorem dX11_bestMode_48 : decode cX11_bestMode 48 = .ok (.if_icmp .ge 8, 3) := by decide +kernel
theorem dX11_bestMode_51 : decode cX11_bestMode 51 = .ok (.iload 4, 2) := by decide +kernel
theorem dX11_bestMode_53 : decode cX11_bestMode 53 = .ok (.goto 4, 3) := by decide +kernel
theorem dX11_bestMode_56 : decode cX11_bestMode 56 = .ok (.iload_n 2, 1) := by decide +kernel
theorem dX11_bestMode_57 : decode cX11_bestMode 57 = .ok (.istore_n 2, 1) := by decide +kernel
theorem dX11_bestMode_58 : decode cX11_bestMode 58 = .ok (.iload 5, 2) := by decide +kernel
theorem dX11_bestMode_60 : decode cX11_bestMode 60 = .ok (.iload_n 3, 1) := by decide +kernel
theorem dX11_bestMode_61 : decode cX11_bestMode 61 = .ok (.if_icmp .ge 8, 3) := by decide +kernel
theorem dX11_bestMode_64 : decode cX11_bestMode 64 = .ok (.iload 5, 2) := by decide +kernel
theorem dX11_bestMode_66 : decode cX11_bestMode 66 = .ok (.goto 4, 3) := by decide +kernel
theorem dX11_bestMode_69 : decode cX11_bestMode 69 = .ok (.iload_n 3, 1) := by decide +kernel
theorem dX11_bestMode_70 : decode cX11_bestMode 70 = .ok (.istore_n 3, 1) := by decide +kernel
theorem dX11_bestMode_71 : decode cX11_bestMode 71 = .ok (.iinc 4 1, 3) := by decide +kernel
theorem dX11_bestMode_74 : decode cX11_bestMode 74 = .ok (.goto (-44), 3) := by decide +kernel
theorem dX11_bestMode_77 : decode cX11_bestMode 77 = .ok (.iload_n 2, 1) := by decide +kernel
theorem dX11_bestMode_78 : decode cX11_bestMode 78 = .ok (.ireturn, 1) := by decide +kernel
theorem dX11_type_0 : decode cX11_type 0 = .ok (.aload_n 0, 1) := by decide +kernel
theorem dX11_type_1 : decode cX11_type 1 = .ok (.iload_n 1, 1) := by decide +kernel
theorem dX11_type_2 : decode cX11_type 2 = .ok (.iconst 0, 1) := by decide +kernel
theorem dX11_type_3 : decode cX11_type 3 = .ok (.bipush 127, 2) := by decide +kernel
theorem dX11_type_5 : decode cX11_type 5 = .ok (.invokestatic 89, 3) := by decide +kernel
theorem dX11_type_8 : decode cX11_type 8 = .ok (.iconst 1, 1) := by decide +kernel
theorem dX11_type_9 : decode cX11_type 9 = .ok (.invokevirtual 37, 3) := by decide +kernel
theorem dX11_type_12 : decode cX11_type 12 = .ok (.ifCond .eq 26, 3) := by decide +kernel
theorem dX11_type_15 : decode cX11_type 15 = .ok (.aload_n 0, 1) := by decide +kernel
theorem dX11_type_16 : decode cX11_type 16 = .ok (.aload_n 0, 1) := by decide +kernel
theorem dX11_type_17 : decode cX11_type 17 = .ok (.getfield 211, 3) := by decide +kernel
theorem dX11_type_20 : decode cX11_type 20 = .ok (.sipush 150, 3) := by decide +kernel
theorem dX11_type_23 : decode cX11_type 23 = .ok (.if_icmp .ge 7, 3) := by decide +kernel
theorem dX11_type_26 : decode cX11_type 26 = .ok (.iconst 1, 1) := by decide +kernel
theorem dX11_type_27 : decode cX11_type 27 = .ok (.goto 4, 3) := by decide +kernel
theorem dX11_type_30 : decode cX11_type 30 = .ok (.iconst 0, 1) := by decide +kernel
theorem dX11_type_31 : decode cX11_type 31 = .ok (.iconst 2, 1) := by decide +kernel
theorem dX11_type_32 : decode cX11_type 32 = .ok (.invokevirtual 37, 3) := by decide +kernel
theorem dX11_type_35 : decode cX11_type 35 = .ok (.ifCond .ne 5, 3) := by decide +kernel
theorem dX11_type_38 : decode cX11_type 38 = .ok (.iconst 0, 1) := by decide +kernel
theorem dX11_type_39 : decode cX11_type 39 = .ok (.ireturn, 1) := by decide +kernel
theorem dX11_type_40 : decode cX11_type 40 = .ok (.aload_n 0, 1) := by decide +kernel
theorem dX11_type_41 : decode cX11_type 41 = .ok (.getfield 19, 3) := by decide +kernel
theorem dX11_type_44 : decode cX11_type 44 = .ok (.aload_n 0, 1) := by decide +kernel
theorem dX11_type_45 : decode cX11_type 45 = .ok (.getfield 211, 3) := by decide +kernel
theorem dX11_type_48 : decode cX11_type 48 = .ok (.iload_n 1, 1) := by decide +kernel
theorem dX11_type_49 : decode cX11_type 49 = .ok (.i2b, 1) := by decide +kernel
theorem dX11_type_50 : decode cX11_type 50 = .ok (.bastore, 1) := by decide +kernel
theorem dX11_type_51 : decode cX11_type 51 = .ok (.aload_n 0, 1) := by decide +kernel
theorem dX11_type_52 : decode cX11_type 52 = .ok (.dup, 1) := by decide +kernel
theorem dX11_type_53 : decode cX11_type 53 = .ok (.getfield 211, 3) := by decide +kernel
theorem dX11_type_56 : decode cX11_type 56 = .ok (.iconst 1, 1) := by decide +kernel
theorem dX11_type_57 : decode cX11_type 57 = .ok (.iadd, 1) := by decide +kernel
theorem dX11_type_58 : decode cX11_type 58 = .ok (.putfield 211, 3) := by decide +kernel
theorem dX11_type_61 : decode cX11_type 61 = .ok (.aload_n 0, 1) := by decide +kernel
theorem dX11_type_62 : decode cX11_type 62 = .ok (.getfield 211, 3) := by decide +kernel
theorem dX11_type_65 : decode cX11_type 65 = .ok (.ireturn, 1) := by decide +kernel
theorem dX11_clearCommands_0 : decode cX11_clearCommands 0 = .ok (.aload_n 0, 1) := by decide +kernel
theorem dX11_clearCommands_1 : decode cX11_clearCommands 1 = .ok (.iconst 0, 1) := by decide +kernel
theorem dX11_clearCommands_2 : decode cX11_clearCommands 2 = .ok (.putfield 30, 3) := by decide +kernel
theorem dX11_clearCommands_5 : decode cX11_clearCommands 5 = .ok (.aload_n 0, 1) := by decide +kernel
theorem dX11_clearCommands_6 : decode cX11_clearCommands 6 = .ok (.getfield 211, 3) := by decide +kernel
theorem dX11_clearCommands_9 : decode cX11_clearCommands 9 = .ok (.istore_n 1, 1) := by decide +kernel
theorem dX11_clearCommands_10 : decode cX11_clearCommands 10 = .ok (.aload_n 0, 1) := by decide +kernel
theorem dX11_clearCommands_11 : decode cX11_clearCommands 11 = .ok (.iconst 0, 1) := by decide +kernel
theorem dX11_clearCommands_12 : decode cX11_clearCommands 12 = .ok (.putfield 211, 3) := by decide +kernel
theorem dX11_clearCommands_15 : decode cX11_clearCommands 15 = .ok (.iload_n 1, 1) := by decide +kernel
theorem dX11_clearCommands_16 : decode cX11_clearCommands 16 = .ok (.ireturn, 1) := by decide +kernel
theorem dX11_isAt_0 : decode cX11_isAt 0 = .ok (.aload_n 0, 1) := by decide +kernel
theorem dX11_isAt_1 : decode cX11_isAt 1 = .ok (.getfield 214, 3) := by decide +kernel
theorem dX11_isAt_4 : decode cX11_isAt 4 = .ok (.aload_n 0, 1) := by decide +kernel
theorem dX11_isAt_5 : decode cX11_isAt 5 = .ok (.getfield 211, 3) := by decide +kernel
theorem dX11_isAt_8 : decode cX11_isAt 8 = .ok (.if_icmp .ge 24, 3) := by decide +kernel
theorem dX11_isAt_11 : decode cX11_isAt 11 = .ok (.aload_n 0, 1) := by decide +kernel
theorem dX11_isAt_12 : decode cX11_isAt 12 = .ok (.getfield 19, 3) := by decide +kernel
theorem dX11_isAt_15 : decode cX11_isAt 15 = .ok (.aload_n 0, 1) := by decide +kernel
theorem dX11_isAt_16 : decode cX11_isAt 16 = .ok (.getfield 214, 3) := by decide +kernel
theorem dX11_isAt_19 : decode cX11_isAt 19 = .ok (.baload, 1) := by decide +kernel
theorem dX11_isAt_20 : decode cX11_isAt 20 = .ok (.iload_n 1, 1) := by decide +kernel
theorem dX11_isAt_21 : decode cX11_isAt 21 = .ok (.iload_n 2, 1) := by decide +kernel
theorem dX11_isAt_22 : decode cX11_isAt 22 = .ok (.invokestatic 89, 3) := by decide +kernel
theorem dX11_isAt_25 : decode cX11_isAt 25 = .ok (.ifCond .eq 7, 3) := by decide +kernel
theorem dX11_isAt_28 : decode cX11_isAt 28 = .ok (.iconst 1, 1) := by decide +kernel
theorem dX11_isAt_29 : decode cX11_isAt 29 = .ok (.goto 4, 3) := by decide +kernel
theorem dX11_isAt_32 : decode cX11_isAt 32 = .ok (.iconst 0, 1) := by decide +kernel
theorem dX11_isAt_33 : decode cX11_isAt 33 = .ok (.ireturn, 1) := by decide +kernel
theorem dX11_spaces_0 : decode cX11_spaces 0 = .ok (.aload_n 0, 1) := by decide +kernel
theorem dX11_spaces_1 : decode cX11_spaces 1 = .ok (.bipush 32, 2) := by decide +kernel
theorem dX11_spaces_3 : decode cX11_spaces 3 = .ok (.bipush 32, 2) := by decide +kernel
theorem dX11_spaces_5 : decode cX11_spaces 5 = .ok (.invokevirtual 217, 3) := by decide +kernel
theorem dX11_spaces_8 : decode cX11_spaces 8 = .ok (.ifCond .eq 16, 3) := by decide +kernel
theorem dX11_spaces_11 : decode cX11_spaces 11 = .ok (.aload_n 0, 1) := by decide +kernel
theorem dX11_spaces_12 : decode cX11_spaces 12 = .ok (.dup, 1) := by decide +kernel
theorem dX11_spaces_13 : decode cX11_spaces 13 = .ok (.getfield 214, 3) := by decide +kernel
theorem dX11_spaces_16 : decode cX11_spaces 16 = .ok (.iconst 1, 1) := by decide +kernel
theorem dX11_spaces_17 : decode cX11_spaces 17 = .ok (.iadd, 1) := by decide +kernel
theorem dX11_spaces_18 : decode cX11_spaces 18 = .ok (.putfield 214, 3) := by decide +kernel
theorem dX11_spaces_21 : decode cX11_spaces 21 = .ok (.goto (-21), 3) := by decide +kernel
theorem dX11_spaces_24 : decode cX11_spaces 24 = .ok (.return_, 1) := by decide +kernel
theorem dX11_manyOf_0 : decode cX11_manyOf 0 = .ok (.lload_n 0, 1) := by decide +kernel
theorem dX11_manyOf_1 : decode cX11_manyOf 1 = .ok (.ldc2_w 220, 3) := by decide +kernel
theorem dX11_manyOf_4 : decode cX11_manyOf 4 = .ok (.lcmp, 1) := by decide +kernel
theorem dX11_manyOf_5 : decode cX11_manyOf 5 = .ok (.ifCond .eq 43, 3) := by decide +kernel
theorem dX11_manyOf_8 : decode cX11_manyOf 8 = .ok (.lload_n 0, 1) := by decide +kernel
theorem dX11_manyOf_9 : decode cX11_manyOf 9 = .ok (.ldc2_w 222, 3) := by decide +kernel
theorem dX11_manyOf_12 : decode cX11_manyOf 12 = .ok (.lcmp, 1) := by decide +kernel
theorem dX11_manyOf_13 : decode cX11_manyOf 13 = .ok (.ifCond .eq 35, 3) := by decide +kernel
theorem dX11_manyOf_16 : decode cX11_manyOf 16 = .ok (.lload_n 0, 1) := by decide +kernel
theorem dX11_manyOf_17 : decode cX11_manyOf 17 = .ok (.ldc2_w 224, 3) := by decide +kernel
theorem dX11_manyOf_20 : decode cX11_manyOf 20 = .ok (.lcmp, 1) := by decide +kernel
theorem dX11_manyOf_21 : decode cX11_manyOf 21 = .ok (.ifCond .eq 27, 3) := by decide +kernel
theorem dX11_manyOf_24 : decode cX11_manyOf 24 = .ok (.lload_n 0, 1) := by decide +kernel
theorem dX11_manyOf_25 : decode cX11_manyOf 25 = .ok (.ldc2_w 226, 3) := by decide +kernel
theorem dX11_manyOf_28 : decode cX11_manyOf 28 = .ok (.lcmp, 1) := by decide +kernel
theorem dX11_manyOf_29 : decode cX11_manyOf 29 = .ok (.ifCond .eq 19, 3) := by decide +kernel
theorem dX11_manyOf_32 : decode cX11_manyOf 32 = .ok (.lload_n 0, 1) := by decide +kernel
theorem dX11_manyOf_33 : decode cX11_manyOf 33 = .ok (.ldc2_w 228, 3) := by decide +kernel
theorem dX11_manyOf_36 : decode cX11_manyOf 36 = .ok (.lcmp, 1) := by decide +kernel
theorem dX11_manyOf_37 : decode cX11_manyOf 37 = .ok (.ifCond .eq 11, 3) := by decide +kernel
theorem dX11_manyOf_40 : decode cX11_manyOf 40 = .ok (.lload_n 0, 1) := by decide +kernel
theorem dX11_manyOf_41 : decode cX11_manyOf 41 = .ok (.ldc2_w 230, 3) := by decide +kernel
theorem dX11_manyOf_44 : decode cX11_manyOf 44 = .ok (.lcmp, 1) := by decide +kernel
theorem dX11_manyOf_45 : decode cX11_manyOf 45 = .ok (.ifCond .ne 5, 3) := by decide +kernel
theorem dX11_manyOf_48 : decode cX11_manyOf 48 = .ok (.iconst 1, 1) := by decide +kernel
theorem dX11_manyOf_49 : decode cX11_manyOf 49 = .ok (.ireturn, 1) := by decide +kernel
theorem dX11_manyOf_50 : decode cX11_manyOf 50 = .ok (.lload_n 0, 1) := by decide +kernel
theorem dX11_manyOf_51 : decode cX11_manyOf 51 = .ok (.ldc2_w 232, 3) := by decide +kernel
theorem dX11_manyOf_54 : decode cX11_manyOf 54 = .ok (.lcmp, 1) := by decide +kernel
theorem dX11_manyOf_55 : decode cX11_manyOf 55 = .ok (.ifCond .eq 11, 3) := by decide +kernel
theorem dX11_manyOf_58 : decode cX11_manyOf 58 = .ok (.lload_n 0, 1) := by decide +kernel
theorem dX11_manyOf_59 : decode cX11_manyOf 59 = .ok (.ldc2_w 234, 3) := by decide +kernel
theorem dX11_manyOf_62 : decode cX11_manyOf 62 = .ok (.lcmp, 1) := by decide +kernel
theorem dX11_manyOf_63 : decode cX11_manyOf 63 = .ok (.ifCond .ne 7, 3) := by decide +kernel
theorem dX11_manyOf_66 : decode cX11_manyOf 66 = .ok (.iconst 2, 1) := by decide +kernel
theorem dX11_manyOf_67 : decode cX11_manyOf 67 = .ok (.goto 16, 3) := by decide +kernel
theorem dX11_manyOf_70 : decode cX11_manyOf 70 = .ok (.lload_n 0, 1) := by decide +kernel
theorem dX11_manyOf_71 : decode cX11_manyOf 71 = .ok (.ldc2_w 236, 3) := by decide +kernel
theorem dX11_manyOf_74 : decode cX11_manyOf 74 = .ok (.lcmp, 1) := by decide +kernel
theorem dX11_manyOf_75 : decode cX11_manyOf 75 = .ok (.ifCond .ne 7, 3) := by decide +kernel
theorem dX11_manyOf_78 : decode cX11_manyOf 78 = .ok (.iconst 5, 1) := by decide +kernel
theorem dX11_manyOf_79 : decode cX11_manyOf 79 = .ok (.goto 4, 3) := by decide +kernel
theorem dX11_manyOf_82 : decode cX11_manyOf 82 = .ok (.iconst (-1), 1) := by decide +kernel
theorem dX11_manyOf_83 : decode cX11_manyOf 83 = .ok (.ireturn, 1) := by decide +kernel
theorem dX11_readsWord_0 : decode cX11_readsWord 0 = .ok (.aload_n 0, 1) := by decide +kernel
theorem dX11_readsWord_1 : decode cX11_readsWord 1 = .ok (.getfield 214, 3) := by decide +kernel
theorem dX11_readsWord_4 : decode cX11_readsWord 4 = .ok (.istore_n 1, 1) := by decide +kernel
theorem dX11_readsWord_5 : decode cX11_readsWord 5 = .ok (.aload_n 0, 1) := by decide +kernel
theorem dX11_readsWord_6 : decode cX11_readsWord 6 = .ok (.lconst 0, 1) := by decide +kernel
theorem dX11_readsWord_7 : decode cX11_readsWord 7 = .ok (.putfield 238, 3) := by decide +kernel
theorem dX11_readsWord_10 : decode cX11_readsWord 10 = .ok (.aload_n 0, 1) := by decide +kernel
theorem dX11_readsWord_11 : decode cX11_readsWord 11 = .ok (.bipush 97, 2) := by decide +kernel
theorem dX11_readsWord_13 : decode cX11_readsWord 13 = .ok (.bipush 122, 2) := by decide +kernel
theorem dX11_readsWord_15 : decode cX11_readsWord 15 = .ok (.invokevirtual 217, 3) := by decide +kernel
theorem dX11_readsWord_18 : decode cX11_readsWord 18 = .ok (.ifCond .eq 58, 3) := by decide +kernel
theorem dX11_readsWord_21 : decode cX11_readsWord 21 = .ok (.aload_n 0, 1) := by decide +kernel
theorem dX11_readsWord_22 : decode cX11_readsWord 22 = .ok (.aload_n 0, 1) := by decide +kernel
theorem dX11_readsWord_23 : decode cX11_readsWord 23 = .ok (.getfield 214, 3) := by decide +kernel
theorem dX11_readsWord_26 : decode cX11_readsWord 26 = .ok (.iload_n 1, 1) := by decide +kernel
theorem dX11_readsWord_27 : decode cX11_readsWord 27 = .ok (.isub, 1) := by decide +kernel
theorem dX11_readsWord_28 : decode cX11_readsWord 28 = .ok (.bipush 8, 2) := by decide +kernel
theorem dX11_readsWord_30 : decode cX11_readsWord 30 = .ok (.if_icmp .ge 29, 3) := by decide +kernel
theorem dX11_readsWord_33 : decode cX11_readsWord 33 = .ok (.ldc2_w 242, 3) := by decide +kernel
theorem dX11_readsWord_36 : decode cX11_readsWord 36 = .ok (.aload_n 0, 1) := by decide +kernel
theorem dX11_readsWord_37 : decode cX11_readsWord 37 = .ok (.getfield 238, 3) := by decide +kernel
theorem dX11_readsWord_40 : decode cX11_readsWord 40 = .ok (.lmul, 1) := by decide +kernel
theorem dX11_readsWord_41 : decode cX11_readsWord 41 = .ok (.aload_n 0, 1) := by decide +kernel
theorem dX11_readsWord_42 : decode cX11_readsWord 42 = .ok (.getfield 19, 3) := by decide +kernel
theorem dX11_readsWord_45 : decode cX11_readsWord 45 = .ok (.aload_n 0, 1) := by decide +kernel
theorem dX11_readsWord_46 : decode cX11_readsWord 46 = .ok (.getfield 214, 3) := by decide +kernel
theorem dX11_readsWord_49 : decode cX11_readsWord 49 = .ok (.baload, 1) := by decide +kernel
theorem dX11_readsWord_50 : decode cX11_readsWord 50 = .ok (.i2l, 1) := by decide +kernel
theorem dX11_readsWord_51 : decode cX11_readsWord 51 = .ok (.ladd, 1) := by decide +kernel
theorem dX11_readsWord_52 : decode cX11_readsWord 52 = .ok (.ldc2_w 244, 3) := by decide +kernel
theorem dX11_readsWord_55 : decode cX11_readsWord 55 = .ok (.lsub, 1) := by decide +kernel
theorem dX11_readsWord_56 : decode cX11_readsWord 56 = .ok (.goto 4, 3) := by decide +kernel
theorem dX11_readsWord_59 : decode cX11_readsWord 59 = .ok (.lconst 0, 1) := by decide +kernel
theorem dX11_readsWord_60 : decode cX11_readsWord 60 = .ok (.putfield 238, 3) := by decide +kernel
theorem dX11_readsWord_63 : decode cX11_readsWord 63 = .ok (.aload_n 0, 1) := by decide +kernel
theorem dX11_readsWord_64 : decode cX11_readsWord 64 = .ok (.dup, 1) := by decide +kernel
theorem dX11_readsWord_65 : decode cX11_readsWord 65 = .ok (.getfield 214, 3) := by decide +kernel
theorem dX11_readsWord_68 : decode cX11_readsWord 68 = .ok (.iconst 1, 1) := by decide +kernel
theorem dX11_readsWord_69 : decode cX11_readsWord 69 = .ok (.iadd, 1) := by decide +kernel
theorem dX11_readsWord_70 : decode cX11_readsWord 70 = .ok (.putfield 214, 3) := by decide +kernel
theorem dX11_readsWord_73 : decode cX11_readsWord 73 = .ok (.goto (-63), 3) := by decide +kernel
theorem dX11_readsWord_76 : decode cX11_readsWord 76 = .ok (.aload_n 0, 1) := by decide +kernel
theorem dX11_readsWord_77 : decode cX11_readsWord 77 = .ok (.getfield 214, 3) := by decide +kernel
theorem dX11_readsWord_80 : decode cX11_readsWord 80 = .ok (.iload_n 1, 1) := by decide +kernel
theorem dX11_readsWord_81 : decode cX11_readsWord 81 = .ok (.if_icmp .le 29, 3) := by decide +kernel
theorem dX11_readsWord_84 : decode cX11_readsWord 84 = .ok (.aload_n 0, 1) := by decide +kernel
theorem dX11_readsWord_85 : decode cX11_readsWord 85 = .ok (.getfield 214, 3) := by decide +kernel
theorem dX11_readsWord_88 : decode cX11_readsWord 88 = .ok (.iload_n 1, 1) := by decide +kernel
theorem dX11_readsWord_89 : decode cX11_readsWord 89 = .ok (.isub, 1) := by decide +kernel
theorem dX11_readsWord_90 : decode cX11_readsWord 90 = .ok (.bipush 8, 2) := by decide +kernel
theorem dX11_readsWord_92 : decode cX11_readsWord 92 = .ok (.if_icmp .gt 18, 3) := by decide +kernel
theorem dX11_readsWord_95 : decode cX11_readsWord 95 = .ok (.aload_n 0, 1) := by decide +kernel
theorem dX11_readsWord_96 : decode cX11_readsWord 96 = .ok (.getfield 238, 3) := by decide +kernel
theorem dX11_readsWord_99 : decode cX11_readsWord 99 = .ok (.invokestatic 246, 3) := by decide +kernel
theorem dX11_readsWord_102 : decode cX11_readsWord 102 = .ok (.iconst (-1), 1) := by decide +kernel
theorem dX11_readsWord_103 : decode cX11_readsWord 103 = .ok (.if_icmp .eq 7, 3) := by decide +kernel
theorem dX11_readsWord_106 : decode cX11_readsWord 106 = .ok (.iconst 1, 1) := by decide +kernel
theorem dX11_readsWord_107 : decode cX11_readsWord 107 = .ok (.goto 4, 3) := by decide +kernel
theorem dX11_readsWord_110 : decode cX11_readsWord 110 = .ok (.iconst 0, 1) := by decide +kernel
theorem dX11_readsWord_111 : decode cX11_readsWord 111 = .ok (.istore_n 2, 1) := by decide +kernel
theorem dX11_readsWord_112 : decode cX11_readsWord 112 = .ok (.aload_n 0, 1) := by decide +kernel
theorem dX11_readsWord_113 : decode cX11_readsWord 113 = .ok (.iload_n 2, 1) := by decide +kernel
theorem dX11_readsWord_114 : decode cX11_readsWord 114 = .ok (.ifCond .eq 10, 3) := by decide +kernel
theorem dX11_readsWord_117 : decode cX11_readsWord 117 = .ok (.aload_n 0, 1) := by decide +kernel
theorem dX11_readsWord_118 : decode cX11_readsWord 118 = .ok (.getfield 214, 3) := by decide +kernel
theorem dX11_readsWord_121 : decode cX11_readsWord 121 = .ok (.goto 4, 3) := by decide +kernel
theorem dX11_readsWord_124 : decode cX11_readsWord 124 = .ok (.iload_n 1, 1) := by decide +kernel
theorem dX11_readsWord_125 : decode cX11_readsWord 125 = .ok (.putfield 214, 3) := by decide +kernel
theorem dX11_readsWord_128 : decode cX11_readsWord 128 = .ok (.iload_n 2, 1) := by decide +kernel
theorem dX11_readsWord_129 : decode cX11_readsWord 129 = .ok (.ireturn, 1) := by decide +kernel
theorem dX11_readsNumber_0 : decode cX11_readsNumber 0 = .ok (.aload_n 0, 1) := by decide +kernel
theorem dX11_readsNumber_1 : decode cX11_readsNumber 1 = .ok (.bipush 32, 2) := by decide +kernel
theorem dX11_readsNumber_3 : decode cX11_readsNumber 3 = .ok (.bipush 32, 2) := by decide +kernel
theorem dX11_readsNumber_5 : decode cX11_readsNumber 5 = .ok (.invokevirtual 217, 3) := by decide +kernel
theorem dX11_readsNumber_8 : decode cX11_readsNumber 8 = .ok (.ifCond .ne 5, 3) := by decide +kernel
theorem dX11_readsNumber_11 : decode cX11_readsNumber 11 = .ok (.iconst 0, 1) := by decide +kernel
theorem dX11_readsNumber_12 : decode cX11_readsNumber 12 = .ok (.ireturn, 1) := by decide +kernel
theorem dX11_readsNumber_13 : decode cX11_readsNumber 13 = .ok (.aload_n 0, 1) := by decide +kernel
theorem dX11_readsNumber_14 : decode cX11_readsNumber 14 = .ok (.invokevirtual 250, 3) := by decide +kernel
theorem dX11_readsNumber_17 : decode cX11_readsNumber 17 = .ok (.aload_n 0, 1) := by decide +kernel
theorem dX11_readsNumber_18 : decode cX11_readsNumber 18 = .ok (.getfield 214, 3) := by decide +kernel
theorem dX11_readsNumber_21 : decode cX11_readsNumber 21 = .ok (.istore_n 2, 1) := by decide +kernel
theorem dX11_readsNumber_22 : decode cX11_readsNumber 22 = .ok (.aload_n 0, 1) := by decide +kernel
theorem dX11_readsNumber_23 : decode cX11_readsNumber 23 = .ok (.getfield 23, 3) := by decide +kernel
theorem dX11_readsNumber_26 : decode cX11_readsNumber 26 = .ok (.iload_n 1, 1) := by decide +kernel
theorem dX11_readsNumber_27 : decode cX11_readsNumber 27 = .ok (.iconst 0, 1) := by decide +kernel
theorem dX11_readsNumber_28 : decode cX11_readsNumber 28 = .ok (.iastore, 1) := by decide +kernel
theorem dX11_readsNumber_29 : decode cX11_readsNumber 29 = .ok (.aload_n 0, 1) := by decide +kernel
theorem dX11_readsNumber_30 : decode cX11_readsNumber 30 = .ok (.getfield 214, 3) := by decide +kernel
theorem dX11_readsNumber_33 : decode cX11_readsNumber 33 = .ok (.iload_n 2, 1) := by decide +kernel
theorem dX11_readsNumber_34 : decode cX11_readsNumber 34 = .ok (.isub, 1) := by decide +kernel
theorem dX11_readsNumber_35 : decode cX11_readsNumber 35 = .ok (.iconst 5, 1) := by decide +kernel
theorem dX11_readsNumber_36 : decode cX11_readsNumber 36 = .ok (.if_icmp .ge 55, 3) := by decide +kernel
theorem dX11_readsNumber_39 : decode cX11_readsNumber 39 = .ok (.aload_n 0, 1) := by decide +kernel
theorem dX11_readsNumber_40 : decode cX11_readsNumber 40 = .ok (.bipush 48, 2) := by decide +kernel
theorem dX11_readsNumber_42 : decode cX11_readsNumber 42 = .ok (.bipush 57, 2) := by decide +kernel
theorem dX11_readsNumber_44 : decode cX11_readsNumber 44 = .ok (.invokevirtual 217, 3) := by decide +kernel
theorem dX11_readsNumber_47 : decode cX11_readsNumber 47 = .ok (.ifCond .eq 44, 3) := by decide +kernel
theorem dX11_readsNumber_50 : decode cX11_readsNumber 50 = .ok (.aload_n 0, 1) := by decide +kernel
theorem dX11_readsNumber_51 : decode cX11_readsNumber 51 = .ok (.getfield 23, 3) := by decide +kernel
theorem dX11_readsNumber_54 : decode cX11_readsNumber 54 = .ok (.iload_n 1, 1) := by decide +kernel
theorem dX11_readsNumber_55 : decode cX11_readsNumber 55 = .ok (.bipush 10, 2) := by decide +kernel
theorem dX11_readsNumber_57 : decode cX11_readsNumber 57 = .ok (.aload_n 0, 1) := by decide +kernel
theorem dX11_readsNumber_58 : decode cX11_readsNumber 58 = .ok (.getfield 23, 3) := by decide +kernel
theorem dX11_readsNumber_61 : decode cX11_readsNumber 61 = .ok (.iload_n 1, 1) := by decide +kernel
theorem dX11_readsNumber_62 : decode cX11_readsNumber 62 = .ok (.iaload, 1) := by decide +kernel
theorem dX11_readsNumber_63 : decode cX11_readsNumber 63 = .ok (.imul, 1) := by decide +kernel
theorem dX11_readsNumber_64 : decode cX11_readsNumber 64 = .ok (.aload_n 0, 1) := by decide +kernel
theorem dX11_readsNumber_65 : decode cX11_readsNumber 65 = .ok (.getfield 19, 3) := by decide +kernel
theorem dX11_readsNumber_68 : decode cX11_readsNumber 68 = .ok (.aload_n 0, 1) := by decide +kernel
theorem dX11_readsNumber_69 : decode cX11_readsNumber 69 = .ok (.getfield 214, 3) := by decide +kernel
theorem dX11_readsNumber_72 : decode cX11_readsNumber 72 = .ok (.baload, 1) := by decide +kernel
theorem dX11_readsNumber_73 : decode cX11_readsNumber 73 = .ok (.iadd, 1) := by decide +kernel
theorem dX11_readsNumber_74 : decode cX11_readsNumber 74 = .ok (.bipush 48, 2) := by decide +kernel
theorem dX11_readsNumber_76 : decode cX11_readsNumber 76 = .ok (.isub, 1) := by decide +kernel
theorem dX11_readsNumber_77 : decode cX11_readsNumber 77 = .ok (.iastore, 1) := by decide +kernel
theorem dX11_readsNumber_78 : decode cX11_readsNumber 78 = .ok (.aload_n 0, 1) := by decide +kernel
theorem dX11_readsNumber_79 : decode cX11_readsNumber 79 = .ok (.dup, 1) := by decide +kernel
theorem dX11_readsNumber_80 : decode cX11_readsNumber 80 = .ok (.getfield 214, 3) := by decide +kernel
theorem dX11_readsNumber_83 : decode cX11_readsNumber 83 = .ok (.iconst 1, 1) := by decide +kernel
theorem dX11_readsNumber_84 : decode cX11_readsNumber 84 = .ok (.iadd, 1) := by decide +kernel
theorem dX11_readsNumber_85 : decode cX11_readsNumber 85 = .ok (.putfield 214, 3) := by decide +kernel
theorem dX11_readsNumber_88 : decode cX11_readsNumber 88 = .ok (.goto (-59), 3) := by decide +kernel
theorem dX11_readsNumber_91 : decode cX11_readsNumber 91 = .ok (.aload_n 0, 1) := by decide +kernel
theorem dX11_readsNumber_92 : decode cX11_readsNumber 92 = .ok (.getfield 214, 3) := by decide +kernel
theorem dX11_readsNumber_95 : decode cX11_readsNumber 95 = .ok (.iload_n 2, 1) := by decide +kernel
theorem dX11_readsNumber_96 : decode cX11_readsNumber 96 = .ok (.if_icmp .le 7, 3) := by decide +kernel
theorem dX11_readsNumber_99 : decode cX11_readsNumber 99 = .ok (.iconst 1, 1) := by decide +kernel
theorem dX11_readsNumber_100 : decode cX11_readsNumber 100 = .ok (.goto 4, 3) := by decide +kernel
theorem dX11_readsNumber_103 : decode cX11_readsNumber 103 = .ok (.iconst 0, 1) := by decide +kernel
theorem dX11_readsNumber_104 : decode cX11_readsNumber 104 = .ok (.ireturn, 1) := by decide +kernel
theorem dX11_readsCommand_0 : decode cX11_readsCommand 0 = .ok (.aload_n 0, 1) := by decide +kernel
theorem dX11_readsCommand_1 : decode cX11_readsCommand 1 = .ok (.invokevirtual 253, 3) := by decide +kernel
theorem dX11_readsCommand_4 : decode cX11_readsCommand 4 = .ok (.ifCond .ne 5, 3) := by decide +kernel
theorem dX11_readsCommand_7 : decode cX11_readsCommand 7 = .ok (.iconst 0, 1) := by decide +kernel
theorem dX11_readsCommand_8 : decode cX11_readsCommand 8 = .ok (.ireturn, 1) := by decide +kernel
theorem dX11_readsCommand_9 : decode cX11_readsCommand 9 = .ok (.aload_n 0, 1) := by decide +kernel
theorem dX11_readsCommand_10 : decode cX11_readsCommand 10 = .ok (.getfield 238, 3) := by decide +kernel
theorem dX11_readsCommand_13 : decode cX11_readsCommand 13 = .ok (.invokestatic 246, 3) := by decide +kernel
theorem dX11_readsCommand_16 : decode cX11_readsCommand 16 = .ok (.istore_n 1, 1) := by decide +kernel
theorem dX11_readsCommand_17 : decode cX11_readsCommand 17 = .ok (.iconst 0, 1) := by decide +kernel
theorem dX11_readsCommand_18 : decode cX11_readsCommand 18 = .ok (.istore_n 2, 1) := by decide +kernel
theorem dX11_readsCommand_19 : decode cX11_readsCommand 19 = .ok (.iload_n 2, 1) := by decide +kernel
theorem dX11_readsCommand_20 : decode cX11_readsCommand 20 = .ok (.iload_n 1, 1) := by decide +kernel
theorem dX11_readsCommand_21 : decode cX11_readsCommand 21 = .ok (.if_icmp .ge 19, 3) := by decide +kernel
theorem dX11_readsCommand_24 : decode cX11_readsCommand 24 = .ok (.aload_n 0, 1) := by decide +kernel
theorem dX11_readsCommand_25 : decode cX11_readsCommand 25 = .ok (.iload_n 2, 1) := by decide +kernel
theorem dX11_readsCommand_26 : decode cX11_readsCommand 26 = .ok (.invokevirtual 256, 3) := by decide +kernel
theorem dX11_readsCommand_29 : decode cX11_readsCommand 29 = .ok (.ifCond .ne 5, 3) := by decide +kernel
theorem dX11_readsCommand_32 : decode cX11_readsCommand 32 = .ok (.iconst 0, 1) := by decide +kernel
theorem dX11_readsCommand_33 : decode cX11_readsCommand 33 = .ok (.ireturn, 1) := by decide +kernel
theorem dX11_readsCommand_34 : decode cX11_readsCommand 34 = .ok (.iinc 2 1, 3) := by decide +kernel
theorem dX11_readsCommand_37 : decode cX11_readsCommand 37 = .ok (.goto (-18), 3) := by decide +kernel
theorem dX11_readsCommand_40 : decode cX11_readsCommand 40 = .ok (.aload_n 0, 1) := by decide +kernel
theorem dX11_readsCommand_41 : decode cX11_readsCommand 41 = .ok (.invokevirtual 250, 3) := by decide +kernel
theorem dX11_readsCommand_44 : decode cX11_readsCommand 44 = .ok (.aload_n 0, 1) := by decide +kernel
theorem dX11_readsCommand_45 : decode cX11_readsCommand 45 = .ok (.bipush 59, 2) := by decide +kernel
theorem dX11_readsCommand_47 : decode cX11_readsCommand 47 = .ok (.bipush 59, 2) := by decide +kernel
theorem dX11_readsCommand_49 : decode cX11_readsCommand 49 = .ok (.invokevirtual 217, 3) := by decide +kernel
theorem dX11_readsCommand_52 : decode cX11_readsCommand 52 = .ok (.istore_n 2, 1) := by decide +kernel
theorem dX11_readsCommand_53 : decode cX11_readsCommand 53 = .ok (.aload_n 0, 1) := by decide +kernel
theorem dX11_readsCommand_54 : decode cX11_readsCommand 54 = .ok (.dup, 1) := by decide +kernel
theorem dX11_readsCommand_55 : decode cX11_readsCommand 55 = .ok (.getfield 214, 3) := by decide +kernel
theorem dX11_readsCommand_58 : decode cX11_readsCommand 58 = .ok (.iload_n 2, 1) := by decide +kernel
theorem dX11_readsCommand_59 : decode cX11_readsCommand 59 = .ok (.ifCond .eq 7, 3) := by decide +kernel
theorem dX11_readsCommand_62 : decode cX11_readsCommand 62 = .ok (.iconst 1, 1) := by decide +kernel
theorem dX11_readsCommand_63 : decode cX11_readsCommand 63 = .ok (.goto 4, 3) := by decide +kernel
theorem dX11_readsCommand_66 : decode cX11_readsCommand 66 = .ok (.iconst 0, 1) := by decide +kernel
theorem dX11_readsCommand_67 : decode cX11_readsCommand 67 = .ok (.iadd, 1) := by decide +kernel
theorem dX11_readsCommand_68 : decode cX11_readsCommand 68 = .ok (.putfield 214, 3) := by decide +kernel
theorem dX11_readsCommand_71 : decode cX11_readsCommand 71 = .ok (.aload_n 0, 1) := by decide +kernel
theorem dX11_readsCommand_72 : decode cX11_readsCommand 72 = .ok (.invokevirtual 250, 3) := by decide +kernel
theorem dX11_readsCommand_75 : decode cX11_readsCommand 75 = .ok (.iload_n 2, 1) := by decide +kernel
theorem dX11_readsCommand_76 : decode cX11_readsCommand 76 = .ok (.ireturn, 1) := by decide +kernel
theorem dX11_does_0 : decode cX11_does 0 = .ok (.aload_n 0, 1) := by decide +kernel
theorem dX11_does_1 : decode cX11_does 1 = .ok (.getfield 23, 3) := by decide +kernel
theorem dX11_does_4 : decode cX11_does 4 = .ok (.iconst 0, 1) := by decide +kernel
theorem dX11_does_5 : decode cX11_does 5 = .ok (.iaload, 1) := by decide +kernel
theorem dX11_does_6 : decode cX11_does 6 = .ok (.istore_n 1, 1) := by decide +kernel
theorem dX11_does_7 : decode cX11_does 7 = .ok (.aload_n 0, 1) := by decide +kernel
theorem dX11_does_8 : decode cX11_does 8 = .ok (.getfield 23, 3) := by decide +kernel
theorem dX11_does_11 : decode cX11_does 11 = .ok (.iconst 1, 1) := by decide +kernel
theorem dX11_does_12 : decode cX11_does 12 = .ok (.iaload, 1) := by decide +kernel
theorem dX11_does_13 : decode cX11_does 13 = .ok (.istore_n 2, 1) := by decide +kernel
theorem dX11_does_14 : decode cX11_does 14 = .ok (.aload_n 0, 1) := by decide +kernel
theorem dX11_does_15 : decode cX11_does 15 = .ok (.getfield 238, 3) := by decide +kernel
theorem dX11_does_18 : decode cX11_does 18 = .ok (.ldc2_w 220, 3) := by decide +kernel
theorem dX11_does_21 : decode cX11_does 21 = .ok (.lcmp, 1) := by decide +kernel
theorem dX11_does_22 : decode cX11_does 22 = .ok (.ifCond .ne 19, 3) := by decide +kernel
theorem dX11_does_25 : decode cX11_does 25 = .ok (.aload_n 0, 1) := by decide +kernel
theorem dX11_does_26 : decode cX11_does 26 = .ok (.iload_n 1, 1) := by decide +kernel
theorem dX11_does_27 : decode cX11_does 27 = .ok (.invokevirtual 127, 3) := by decide +kernel
theorem dX11_does_30 : decode cX11_does 30 = .ok (.ifCond .eq 11, 3) := by decide +kernel
theorem dX11_does_33 : decode cX11_does 33 = .ok (.aload_n 0, 1) := by decide +kernel
theorem dX11_does_34 : decode cX11_does 34 = .ok (.iload_n 1, 1) := by decide +kernel
theorem dX11_does_35 : decode cX11_does 35 = .ok (.invokevirtual 26, 3) := by decide +kernel
theorem dX11_does_38 : decode cX11_does 38 = .ok (.goto 279, 3) := by decide +kernel
theorem dX11_does_41 : decode cX11_does 41 = .ok (.aload_n 0, 1) := by decide +kernel
theorem dX11_does_42 : decode cX11_does 42 = .ok (.getfield 238, 3) := by decide +kernel
theorem dX11_does_45 : decode cX11_does 45 = .ok (.ldc2_w 222, 3) := by decide +kernel
theorem dX11_does_48 : decode cX11_does 48 = .ok (.lcmp, 1) := by decide +kernel
theorem dX11_does_49 : decode cX11_does 49 = .ok (.ifCond .ne 21, 3) := by decide +kernel
theorem dX11_does_52 : decode cX11_does 52 = .ok (.aload_n 0, 1) := by decide +kernel
theorem dX11_does_53 : decode cX11_does 53 = .ok (.iload_n 1, 1) := by decide +kernel
theorem dX11_does_54 : decode cX11_does 54 = .ok (.invokevirtual 133, 3) := by decide +kernel
theorem dX11_does_57 : decode cX11_does 57 = .ok (.ifCond .eq 13, 3) := by decide +kernel
theorem dX11_does_60 : decode cX11_does 60 = .ok (.aload_n 0, 1) := by decide +kernel
theorem dX11_does_61 : decode cX11_does 61 = .ok (.getfield 7, 3) := by decide +kernel
theorem dX11_does_64 : decode cX11_does 64 = .ok (.iconst 1, 1) := by decide +kernel
theorem dX11_does_65 : decode cX11_does 65 = .ok (.iload_n 1, 1) := by decide +kernel
theorem dX11_does_66 : decode cX11_does 66 = .ok (.iastore, 1) := by decide +kernel
theorem dX11_does_67 : decode cX11_does 67 = .ok (.goto 250, 3) := by decide +kernel
theorem dX11_does_70 : decode cX11_does 70 = .ok (.aload_n 0, 1) := by decide +kernel
theorem dX11_does_71 : decode cX11_does 71 = .ok (.getfield 238, 3) := by decide +kernel
theorem dX11_does_74 : decode cX11_does 74 = .ok (.ldc2_w 224, 3) := by decide +kernel
theorem dX11_does_77 : decode cX11_does 77 = .ok (.lcmp, 1) := by decide +kernel
theorem dX11_does_78 : decode cX11_does 78 = .ok (.ifCond .ne 21, 3) := by decide +kernel
theorem dX11_does_81 : decode cX11_does 81 = .ok (.aload_n 0, 1) := by decide +kernel
theorem dX11_does_82 : decode cX11_does 82 = .ok (.iload_n 1, 1) := by decide +kernel
theorem dX11_does_83 : decode cX11_does 83 = .ok (.invokevirtual 139, 3) := by decide +kernel
theorem dX11_does_86 : decode cX11_does 86 = .ok (.ifCond .eq 13, 3) := by decide +kernel
theorem dX11_does_89 : decode cX11_does 89 = .ok (.aload_n 0, 1) := by decide +kernel
theorem dX11_does_90 : decode cX11_does 90 = .ok (.getfield 7, 3) := by decide +kernel
theorem dX11_does_93 : decode cX11_does 93 = .ok (.iconst 2, 1) := by decide +kernel
theorem dX11_does_94 : decode cX11_does 94 = .ok (.iload_n 1, 1) := by decide +kernel
theorem dX11_does_95 : decode cX11_does 95 = .ok (.iastore, 1) := by decide +kernel
theorem dX11_does_96 : decode cX11_does 96 = .ok (.goto 221, 3) := by decide +kernel
theorem dX11_does_99 : decode cX11_does 99 = .ok (.aload_n 0, 1) := by decide +kernel
theorem dX11_does_100 : decode cX11_does 100 = .ok (.getfield 238, 3) := by decide +kernel
theorem dX11_does_103 : decode cX11_does 103 = .ok (.ldc2_w 226, 3) := by decide +kernel
theorem dX11_does_106 : decode cX11_does 106 = .ok (.lcmp, 1) := by decide +kernel
theorem dX11_does_107 : decode cX11_does 107 = .ok (.ifCond .ne 21, 3) := by decide +kernel
theorem dX11_does_110 : decode cX11_does 110 = .ok (.aload_n 0, 1) := by decide +kernel
theorem dX11_does_111 : decode cX11_does 111 = .ok (.iload_n 1, 1) := by decide +kernel
theorem dX11_does_112 : decode cX11_does 112 = .ok (.invokevirtual 142, 3) := by decide +kernel
theorem dX11_does_115 : decode cX11_does 115 = .ok (.ifCond .eq 13, 3) := by decide +kernel
theorem dX11_does_118 : decode cX11_does 118 = .ok (.aload_n 0, 1) := by decide +kernel
theorem dX11_does_119 : decode cX11_does 119 = .ok (.getfield 7, 3) := by decide +kernel
theorem dX11_does_122 : decode cX11_does 122 = .ok (.iconst 3, 1) := by decide +kernel
theorem dX11_does_123 : decode cX11_does 123 = .ok (.iload_n 1, 1) := by decide +kernel
theorem dX11_does_124 : decode cX11_does 124 = .ok (.iastore, 1) := by decide +kernel
theorem dX11_does_125 : decode cX11_does 125 = .ok (.goto 192, 3) := by decide +kernel
theorem dX11_does_128 : decode cX11_does 128 = .ok (.aload_n 0, 1) := by decide +kernel
theorem dX11_does_129 : decode cX11_does 129 = .ok (.getfield 238, 3) := by decide +kernel
theorem dX11_does_132 : decode cX11_does 132 = .ok (.ldc2_w 232, 3) := by decide +kernel
theorem dX11_does_135 : decode cX11_does 135 = .ok (.lcmp, 1) := by decide +kernel
theorem dX11_does_136 : decode cX11_does 136 = .ok (.ifCond .ne 32, 3) := by decide +kernel
theorem dX11_does_139 : decode cX11_does 139 = .ok (.aload_n 0, 1) := by decide +kernel
theorem dX11_does_140 : decode cX11_does 140 = .ok (.iload_n 1, 1) := by decide +kernel
theorem dX11_does_141 : decode cX11_does 141 = .ok (.iload_n 2, 1) := by decide +kernel
theorem dX11_does_142 : decode cX11_does 142 = .ok (.invokevirtual 145, 3) := by decide +kernel
theorem dX11_does_145 : decode cX11_does 145 = .ok (.ifCond .eq 23, 3) := by decide +kernel
theorem dX11_does_148 : decode cX11_does 148 = .ok (.aload_n 0, 1) := by decide +kernel
theorem dX11_does_149 : decode cX11_does 149 = .ok (.getfield 7, 3) := by decide +kernel
theorem dX11_does_152 : decode cX11_does 152 = .ok (.iconst 4, 1) := by decide +kernel
theorem dX11_does_153 : decode cX11_does 153 = .ok (.iaload, 1) := by decide +kernel
theorem dX11_does_154 : decode cX11_does 154 = .ok (.bipush 6, 2) := by decide +kernel
theorem dX11_does_156 : decode cX11_does 156 = .ok (.if_icmp .ge 12, 3) := by decide +kernel
theorem dX11_does_159 : decode cX11_does 159 = .ok (.aload_n 0, 1) := by decide +kernel
theorem dX11_does_160 : decode cX11_does 160 = .ok (.iload_n 1, 1) := by decide +kernel
theorem dX11_does_161 : decode cX11_does 161 = .ok (.iload_n 2, 1) := by decide +kernel
theorem dX11_does_162 : decode cX11_does 162 = .ok (.invokevirtual 148, 3) := by decide +kernel
theorem dX11_does_165 : decode cX11_does 165 = .ok (.goto 152, 3) := by decide +kernel
theorem dX11_does_168 : decode cX11_does 168 = .ok (.aload_n 0, 1) := by decide +kernel
theorem dX11_does_169 : decode cX11_does 169 = .ok (.getfield 238, 3) := by decide +kernel
theorem dX11_does_172 : decode cX11_does 172 = .ok (.ldc2_w 236, 3) := by decide +kernel
theorem dX11_does_175 : decode cX11_does 175 = .ok (.lcmp, 1) := by decide +kernel
theorem dX11_does_176 : decode cX11_does 176 = .ok (.ifCond .ne 57, 3) := by decide +kernel
theorem dX11_does_179 : decode cX11_does 179 = .ok (.aload_n 0, 1) := by decide +kernel
theorem dX11_does_180 : decode cX11_does 180 = .ok (.iload_n 1, 1) := by decide +kernel
theorem dX11_does_181 : decode cX11_does 181 = .ok (.iload_n 2, 1) := by decide +kernel
theorem dX11_does_182 : decode cX11_does 182 = .ok (.aload_n 0, 1) := by decide +kernel
theorem dX11_does_183 : decode cX11_does 183 = .ok (.getfield 23, 3) := by decide +kernel
theorem dX11_does_186 : decode cX11_does 186 = .ok (.iconst 2, 1) := by decide +kernel
theorem dX11_does_187 : decode cX11_does 187 = .ok (.iaload, 1) := by decide +kernel
theorem dX11_does_188 : decode cX11_does 188 = .ok (.aload_n 0, 1) := by decide +kernel
theorem dX11_does_189 : decode cX11_does 189 = .ok (.getfield 23, 3) := by decide +kernel
theorem dX11_does_192 : decode cX11_does 192 = .ok (.iconst 3, 1) := by decide +kernel
theorem dX11_does_193 : decode cX11_does 193 = .ok (.iaload, 1) := by decide +kernel
theorem dX11_does_194 : decode cX11_does 194 = .ok (.aload_n 0, 1) := by decide +kernel
theorem dX11_does_195 : decode cX11_does 195 = .ok (.getfield 23, 3) := by decide +kernel
theorem dX11_does_198 : decode cX11_does 198 = .ok (.iconst 4, 1) := by decide +kernel
theorem dX11_does_199 : decode cX11_does 199 = .ok (.iaload, 1) := by decide +kernel
theorem dX11_does_200 : decode cX11_does 200 = .ok (.invokevirtual 155, 3) := by decide +kernel
theorem dX11_does_203 : decode cX11_does 203 = .ok (.ifCond .eq 30, 3) := by decide +kernel
theorem dX11_does_206 : decode cX11_does 206 = .ok (.aload_n 0, 1) := by decide +kernel
theorem dX11_does_207 : decode cX11_does 207 = .ok (.iload_n 1, 1) := by decide +kernel
theorem dX11_does_208 : decode cX11_does 208 = .ok (.iload_n 2, 1) := by decide +kernel
theorem dX11_does_209 : decode cX11_does 209 = .ok (.aload_n 0, 1) := by decide +kernel
theorem dX11_does_210 : decode cX11_does 210 = .ok (.getfield 23, 3) := by decide +kernel
theorem dX11_does_213 : decode cX11_does 213 = .ok (.iconst 2, 1) := by decide +kernel
theorem dX11_does_214 : decode cX11_does 214 = .ok (.iaload, 1) := by decide +kernel
theorem dX11_does_215 : decode cX11_does 215 = .ok (.aload_n 0, 1) := by decide +kernel
theorem dX11_does_216 : decode cX11_does 216 = .ok (.getfield 23, 3) := by decide +kernel
theorem dX11_does_219 : decode cX11_does 219 = .ok (.iconst 3, 1) := by decide +kernel
theorem dX11_does_220 : decode cX11_does 220 = .ok (.iaload, 1) := by decide +kernel
theorem dX11_does_221 : decode cX11_does 221 = .ok (.aload_n 0, 1) := by decide +kernel
theorem dX11_does_222 : decode cX11_does 222 = .ok (.getfield 23, 3) := by decide +kernel
theorem dX11_does_225 : decode cX11_does 225 = .ok (.iconst 4, 1) := by decide +kernel
theorem dX11_does_226 : decode cX11_does 226 = .ok (.iaload, 1) := by decide +kernel
theorem dX11_does_227 : decode cX11_does 227 = .ok (.invokevirtual 159, 3) := by decide +kernel
theorem dX11_does_230 : decode cX11_does 230 = .ok (.goto 87, 3) := by decide +kernel
theorem dX11_does_233 : decode cX11_does 233 = .ok (.aload_n 0, 1) := by decide +kernel
theorem dX11_does_234 : decode cX11_does 234 = .ok (.getfield 238, 3) := by decide +kernel
theorem dX11_does_237 : decode cX11_does 237 = .ok (.ldc2_w 234, 3) := by decide +kernel
theorem dX11_does_240 : decode cX11_does 240 = .ok (.lcmp, 1) := by decide +kernel
theorem dX11_does_241 : decode cX11_does 241 = .ok (.ifCond .ne 21, 3) := by decide +kernel
theorem dX11_does_244 : decode cX11_does 244 = .ok (.aload_n 0, 1) := by decide +kernel
theorem dX11_does_245 : decode cX11_does 245 = .ok (.iload_n 1, 1) := by decide +kernel
theorem dX11_does_246 : decode cX11_does 246 = .ok (.iload_n 2, 1) := by decide +kernel
theorem dX11_does_247 : decode cX11_does 247 = .ok (.invokevirtual 169, 3) := by decide +kernel
theorem dX11_does_250 : decode cX11_does 250 = .ok (.ifCond .eq 12, 3) := by decide +kernel
theorem dX11_does_253 : decode cX11_does 253 = .ok (.aload_n 0, 1) := by decide +kernel
theorem dX11_does_254 : decode cX11_does 254 = .ok (.iload_n 1, 1) := by decide +kernel
theorem dX11_does_255 : decode cX11_does 255 = .ok (.iload_n 2, 1) := by decide +kernel
theorem dX11_does_256 : decode cX11_does 256 = .ok (.invokevirtual 172, 3) := by decide +kernel
theorem dX11_does_259 : decode cX11_does 259 = .ok (.goto 58, 3) := by decide +kernel
theorem dX11_does_262 : decode cX11_does 262 = .ok (.aload_n 0, 1) := by decide +kernel
theorem dX11_does_263 : decode cX11_does 263 = .ok (.getfield 238, 3) := by decide +kernel
theorem dX11_does_266 : decode cX11_does 266 = .ok (.ldc2_w 228, 3) := by decide +kernel
theorem dX11_does_269 : decode cX11_does 269 = .ok (.lcmp, 1) := by decide +kernel
theorem dX11_does_270 : decode cX11_does 270 = .ok (.ifCond .ne 18, 3) := by decide +kernel
theorem dX11_does_273 : decode cX11_does 273 = .ok (.iload_n 1, 1) := by decide +kernel
theorem dX11_does_274 : decode cX11_does 274 = .ok (.invokestatic 175, 3) := by decide +kernel
theorem dX11_does_277 : decode cX11_does 277 = .ok (.ifCond .eq 11, 3) := by decide +kernel
theorem dX11_does_280 : decode cX11_does 280 = .ok (.aload_n 0, 1) := by decide +kernel
theorem dX11_does_281 : decode cX11_does 281 = .ok (.iload_n 1, 1) := by decide +kernel
theorem dX11_does_282 : decode cX11_does 282 = .ok (.invokevirtual 178, 3) := by decide +kernel
theorem dX11_does_285 : decode cX11_does 285 = .ok (.goto 32, 3) := by decide +kernel
theorem dX11_does_288 : decode cX11_does 288 = .ok (.aload_n 0, 1) := by decide +kernel
theorem dX11_does_289 : decode cX11_does 289 = .ok (.getfield 238, 3) := by decide +kernel
theorem dX11_does_292 : decode cX11_does 292 = .ok (.ldc2_w 230, 3) := by decide +kernel
theorem dX11_does_295 : decode cX11_does 295 = .ok (.lcmp, 1) := by decide +kernel
theorem dX11_does_296 : decode cX11_does 296 = .ok (.ifCond .ne 19, 3) := by decide +kernel
theorem dX11_does_299 : decode cX11_does 299 = .ok (.iload_n 1, 1) := by decide +kernel
theorem dX11_does_300 : decode cX11_does 300 = .ok (.invokestatic 188, 3) := by decide +kernel
theorem dX11_does_303 : decode cX11_does 303 = .ok (.ifCond .eq 12, 3) := by decide +kernel
theorem dX11_does_306 : decode cX11_does 306 = .ok (.aload_n 0, 1) := by decide +kernel
theorem dX11_does_307 : decode cX11_does 307 = .ok (.iload_n 1, 1) := by decide +kernel
theorem dX11_does_308 : decode cX11_does 308 = .ok (.invokevirtual 191, 3) := by decide +kernel
theorem dX11_does_311 : decode cX11_does 311 = .ok (.pop, 1) := by decide +kernel
theorem dX11_does_312 : decode cX11_does 312 = .ok (.goto 5, 3) := by decide +kernel
theorem dX11_does_315 : decode cX11_does 315 = .ok (.iconst 0, 1) := by decide +kernel
theorem dX11_does_316 : decode cX11_does 316 = .ok (.ireturn, 1) := by decide +kernel
theorem dX11_does_317 : decode cX11_does 317 = .ok (.iconst 1, 1) := by decide +kernel
theorem dX11_does_318 : decode cX11_does 318 = .ok (.ireturn, 1) := by decide +kernel
theorem dX11_runCommands_0 : decode cX11_runCommands 0 = .ok (.aload_n 0, 1) := by decide +kernel
theorem dX11_runCommands_1 : decode cX11_runCommands 1 = .ok (.iconst 0, 1) := by decide +kernel
theorem dX11_runCommands_2 : decode cX11_runCommands 2 = .ok (.putfield 30, 3) := by decide +kernel
theorem dX11_runCommands_5 : decode cX11_runCommands 5 = .ok (.aload_n 0, 1) := by decide +kernel
theorem dX11_runCommands_6 : decode cX11_runCommands 6 = .ok (.iconst 0, 1) := by decide +kernel
theorem dX11_runCommands_7 : decode cX11_runCommands 7 = .ok (.putfield 214, 3) := by decide +kernel
theorem dX11_runCommands_10 : decode cX11_runCommands 10 = .ok (.aload_n 0, 1) := by decide +kernel
theorem dX11_runCommands_11 : decode cX11_runCommands 11 = .ok (.invokevirtual 250, 3) := by decide +kernel
theorem dX11_runCommands_14 : decode cX11_runCommands 14 = .ok (.iconst 1, 1) := by decide +kernel
theorem dX11_runCommands_15 : decode cX11_runCommands 15 = .ok (.istore_n 1, 1) := by decide +kernel
theorem dX11_runCommands_16 : decode cX11_runCommands 16 = .ok (.iload_n 1, 1) := by decide +kernel
theorem dX11_runCommands_17 : decode cX11_runCommands 17 = .ok (.ifCond .eq 22, 3) := by decide +kernel
theorem dX11_runCommands_20 : decode cX11_runCommands 20 = .ok (.aload_n 0, 1) := by decide +kernel
theorem dX11_runCommands_21 : decode cX11_runCommands 21 = .ok (.getfield 214, 3) := by decide +kernel
theorem dX11_runCommands_24 : decode cX11_runCommands 24 = .ok (.aload_n 0, 1) := by decide +kernel
theorem dX11_runCommands_25 : decode cX11_runCommands 25 = .ok (.getfield 211, 3) := by decide +kernel
theorem dX11_runCommands_28 : decode cX11_runCommands 28 = .ok (.if_icmp .ge 11, 3) := by decide +kernel
theorem dX11_runCommands_31 : decode cX11_runCommands 31 = .ok (.aload_n 0, 1) := by decide +kernel
theorem dX11_runCommands_32 : decode cX11_runCommands 32 = .ok (.invokevirtual 259, 3) := by decide +kernel
theorem dX11_runCommands_35 : decode cX11_runCommands 35 = .ok (.istore_n 1, 1) := by decide +kernel
theorem dX11_runCommands_36 : decode cX11_runCommands 36 = .ok (.goto (-20), 3) := by decide +kernel
theorem dX11_runCommands_39 : decode cX11_runCommands 39 = .ok (.iload_n 1, 1) := by decide +kernel
theorem dX11_runCommands_40 : decode cX11_runCommands 40 = .ok (.ifCond .ne 11, 3) := by decide +kernel
theorem dX11_runCommands_43 : decode cX11_runCommands 43 = .ok (.bipush (-10), 2) := by decide +kernel
theorem dX11_runCommands_45 : decode cX11_runCommands 45 = .ok (.aload_n 0, 1) := by decide +kernel
theorem dX11_runCommands_46 : decode cX11_runCommands 46 = .ok (.getfield 214, 3) := by decide +kernel
theorem dX11_runCommands_49 : decode cX11_runCommands 49 = .ok (.isub, 1) := by decide +kernel
theorem dX11_runCommands_50 : decode cX11_runCommands 50 = .ok (.ireturn, 1) := by decide +kernel
theorem dX11_runCommands_51 : decode cX11_runCommands 51 = .ok (.aload_n 0, 1) := by decide +kernel
theorem dX11_runCommands_52 : decode cX11_runCommands 52 = .ok (.invokevirtual 130, 3) := by decide +kernel
theorem dX11_runCommands_55 : decode cX11_runCommands 55 = .ok (.aload_n 0, 1) := by decide +kernel
theorem dX11_runCommands_56 : decode cX11_runCommands 56 = .ok (.iconst 0, 1) := by decide +kernel
theorem dX11_runCommands_57 : decode cX11_runCommands 57 = .ok (.putfield 214, 3) := by decide +kernel
theorem dX11_runCommands_60 : decode cX11_runCommands 60 = .ok (.aload_n 0, 1) := by decide +kernel
theorem dX11_runCommands_61 : decode cX11_runCommands 61 = .ok (.invokevirtual 250, 3) := by decide +kernel
theorem dX11_runCommands_64 : decode cX11_runCommands 64 = .ok (.iconst 0, 1) := by decide +kernel
theorem dX11_runCommands_65 : decode cX11_runCommands 65 = .ok (.istore_n 2, 1) := by decide +kernel
theorem dX11_runCommands_66 : decode cX11_runCommands 66 = .ok (.aload_n 0, 1) := by decide +kernel
theorem dX11_runCommands_67 : decode cX11_runCommands 67 = .ok (.getfield 214, 3) := by decide +kernel
theorem dX11_runCommands_70 : decode cX11_runCommands 70 = .ok (.aload_n 0, 1) := by decide +kernel
theorem dX11_runCommands_71 : decode cX11_runCommands 71 = .ok (.getfield 211, 3) := by decide +kernel
theorem dX11_runCommands_74 : decode cX11_runCommands 74 = .ok (.if_icmp .ge 23, 3) := by decide +kernel
theorem dX11_runCommands_77 : decode cX11_runCommands 77 = .ok (.aload_n 0, 1) := by decide +kernel
theorem dX11_runCommands_78 : decode cX11_runCommands 78 = .ok (.invokevirtual 259, 3) := by decide +kernel
theorem dX11_runCommands_81 : decode cX11_runCommands 81 = .ok (.ifCond .eq 16, 3) := by decide +kernel
theorem dX11_runCommands_84 : decode cX11_runCommands 84 = .ok (.aload_n 0, 1) := by decide +kernel
theorem dX11_runCommands_85 : decode cX11_runCommands 85 = .ok (.invokevirtual 262, 3) := by decide +kernel
theorem dX11_runCommands_88 : decode cX11_runCommands 88 = .ok (.ifCond .eq 9, 3) := by decide +kernel
theorem dX11_runCommands_91 : decode cX11_runCommands 91 = .ok (.iinc 2 1, 3) := by decide +kernel
theorem dX11_runCommands_94 : decode cX11_runCommands 94 = .ok (.goto (-28), 3) := by decide +kernel
theorem dX11_runCommands_97 : decode cX11_runCommands 97 = .ok (.iload_n 2, 1) := by decide +kernel
theorem dX11_runCommands_98 : decode cX11_runCommands 98 = .ok (.ireturn, 1) := by decide +kernel
theorem dX11_mixes_0 : decode cX11_mixes 0 = .ok (.aload_n 0, 1) := by decide +kernel
theorem dX11_mixes_1 : decode cX11_mixes 1 = .ok (.ldc2_w 265, 3) := by decide +kernel
theorem dX11_mixes_4 : decode cX11_mixes 4 = .ok (.aload_n 0, 1) := by decide +kernel
theorem dX11_mixes_5 : decode cX11_mixes 5 = .ok (.getfield 267, 3) := by decide +kernel
theorem dX11_mixes_8 : decode cX11_mixes 8 = .ok (.lmul, 1) := by decide +kernel
theorem dX11_mixes_9 : decode cX11_mixes 9 = .ok (.iload_n 1, 1) := by decide +kernel
theorem dX11_mixes_10 : decode cX11_mixes 10 = .ok (.i2l, 1) := by decide +kernel
theorem dX11_mixes_11 : decode cX11_mixes 11 = .ok (.ladd, 1) := by decide +kernel
theorem dX11_mixes_12 : decode cX11_mixes 12 = .ok (.putfield 267, 3) := by decide +kernel
theorem dX11_mixes_15 : decode cX11_mixes 15 = .ok (.return_, 1) := by decide +kernel
theorem dX11_digest_0 : decode cX11_digest 0 = .ok (.aload_n 0, 1) := by decide +kernel
theorem dX11_digest_1 : decode cX11_digest 1 = .ok (.iconst 0, 1) := by decide +kernel
theorem dX11_digest_2 : decode cX11_digest 2 = .ok (.putfield 30, 3) := by decide +kernel
theorem dX11_digest_5 : decode cX11_digest 5 = .ok (.aload_n 0, 1) := by decide +kernel
theorem dX11_digest_6 : decode cX11_digest 6 = .ok (.ldc2_w 270, 3) := by decide +kernel
theorem dX11_digest_9 : decode cX11_digest 9 = .ok (.putfield 267, 3) := by decide +kernel
theorem dX11_digest_12 : decode cX11_digest 12 = .ok (.aload_n 0, 1) := by decide +kernel
theorem dX11_digest_13 : decode cX11_digest 13 = .ok (.aload_n 0, 1) := by decide +kernel
theorem dX11_digest_14 : decode cX11_digest 14 = .ok (.getfield 34, 3) := by decide +kernel
theorem dX11_digest_17 : decode cX11_digest 17 = .ok (.invokevirtual 272, 3) := by decide +kernel
theorem dX11_digest_20 : decode cX11_digest 20 = .ok (.aload_n 0, 1) := by decide +kernel
theorem dX11_digest_21 : decode cX11_digest 21 = .ok (.aload_n 0, 1) := by decide +kernel
theorem dX11_digest_22 : decode cX11_digest 22 = .ok (.getfield 211, 3) := by decide +kernel
theorem dX11_digest_25 : decode cX11_digest 25 = .ok (.invokevirtual 272, 3) := by decide +kernel
theorem dX11_digest_28 : decode cX11_digest 28 = .ok (.iconst 0, 1) := by decide +kernel
theorem dX11_digest_29 : decode cX11_digest 29 = .ok (.istore_n 1, 1) := by decide +kernel
theorem dX11_digest_30 : decode cX11_digest 30 = .ok (.iload_n 1, 1) := by decide +kernel
theorem dX11_digest_31 : decode cX11_digest 31 = .ok (.bipush 24, 2) := by decide +kernel
theorem dX11_digest_33 : decode cX11_digest 33 = .ok (.if_icmp .ge 19, 3) := by decide +kernel
theorem dX11_digest_36 : decode cX11_digest 36 = .ok (.aload_n 0, 1) := by decide +kernel
theorem dX11_digest_37 : decode cX11_digest 37 = .ok (.aload_n 0, 1) := by decide +kernel
theorem dX11_digest_38 : decode cX11_digest 38 = .ok (.getfield 7, 3) := by decide +kernel
theorem dX11_digest_41 : decode cX11_digest 41 = .ok (.iload_n 1, 1) := by decide +kernel
theorem dX11_digest_42 : decode cX11_digest 42 = .ok (.iaload, 1) := by decide +kernel
theorem dX11_digest_43 : decode cX11_digest 43 = .ok (.invokevirtual 272, 3) := by decide +kernel
theorem dX11_digest_46 : decode cX11_digest 46 = .ok (.iinc 1 1, 3) := by decide +kernel
theorem dX11_digest_49 : decode cX11_digest 49 = .ok (.goto (-19), 3) := by decide +kernel
theorem dX11_digest_52 : decode cX11_digest 52 = .ok (.iconst 0, 1) := by decide +kernel
theorem dX11_digest_53 : decode cX11_digest 53 = .ok (.istore_n 1, 1) := by decide +kernel
theorem dX11_digest_54 : decode cX11_digest 54 = .ok (.iload_n 1, 1) := by decide +kernel
theorem dX11_digest_55 : decode cX11_digest 55 = .ok (.bipush 13, 2) := by decide +kernel
theorem dX11_digest_57 : decode cX11_digest 57 = .ok (.if_icmp .ge 18, 3) := by decide +kernel
theorem dX11_digest_60 : decode cX11_digest 60 = .ok (.aload_n 0, 1) := by decide +kernel
theorem dX11_digest_61 : decode cX11_digest 61 = .ok (.aload_n 0, 1) := by decide +kernel
theorem dX11_digest_62 : decode cX11_digest 62 = .ok (.iload_n 1, 1) := by decide +kernel
theorem dX11_digest_63 : decode cX11_digest 63 = .ok (.invokevirtual 197, 3) := by decide +kernel
theorem dX11_digest_66 : decode cX11_digest 66 = .ok (.invokevirtual 272, 3) := by decide +kernel
theorem dX11_digest_69 : decode cX11_digest 69 = .ok (.iinc 1 1, 3) := by decide +kernel
theorem dX11_digest_72 : decode cX11_digest 72 = .ok (.goto (-18), 3) := by decide +kernel
theorem dX11_digest_75 : decode cX11_digest 75 = .ok (.iconst 0, 1) := by decide +kernel
theorem dX11_digest_76 : decode cX11_digest 76 = .ok (.istore_n 1, 1) := by decide +kernel
theorem dX11_digest_77 : decode cX11_digest 77 = .ok (.iload_n 1, 1) := by decide +kernel
theorem dX11_digest_78 : decode cX11_digest 78 = .ok (.iconst 2, 1) := by decide +kernel
theorem dX11_digest_79 : decode cX11_digest 79 = .ok (.aload_n 0, 1) := by decide +kernel
theorem dX11_digest_80 : decode cX11_digest 80 = .ok (.getfield 7, 3) := by decide +kernel
theorem dX11_digest_83 : decode cX11_digest 83 = .ok (.iconst 4, 1) := by decide +kernel
theorem dX11_digest_84 : decode cX11_digest 84 = .ok (.iaload, 1) := by decide +kernel
theorem dX11_digest_85 : decode cX11_digest 85 = .ok (.imul, 1) := by decide +kernel
theorem dX11_digest_86 : decode cX11_digest 86 = .ok (.if_icmp .ge 23, 3) := by decide +kernel
theorem dX11_digest_89 : decode cX11_digest 89 = .ok (.aload_n 0, 1) := by decide +kernel
theorem dX11_digest_90 : decode cX11_digest 90 = .ok (.aload_n 0, 1) := by decide +kernel
theorem dX11_digest_91 : decode cX11_digest 91 = .ok (.getfield 7, 3) := by decide +kernel
theorem dX11_digest_94 : decode cX11_digest 94 = .ok (.sipush 134, 3) := by decide +kernel
theorem dX11_digest_97 : decode cX11_digest 97 = .ok (.iload_n 1, 1) := by decide +kernel
theorem dX11_digest_98 : decode cX11_digest 98 = .ok (.iadd, 1) := by decide +kernel
theorem dX11_digest_99 : decode cX11_digest 99 = .ok (.iaload, 1) := by decide +kernel
theorem dX11_digest_100 : decode cX11_digest 100 = .ok (.invokevirtual 272, 3) := by decide +kernel
theorem dX11_digest_103 : decode cX11_digest 103 = .ok (.iinc 1 1, 3) := by decide +kernel
theorem dX11_digest_106 : decode cX11_digest 106 = .ok (.goto (-29), 3) := by decide +kernel
theorem dX11_digest_109 : decode cX11_digest 109 = .ok (.iconst 0, 1) := by decide +kernel
theorem dX11_digest_110 : decode cX11_digest 110 = .ok (.istore_n 1, 1) := by decide +kernel
theorem dX11_digest_111 : decode cX11_digest 111 = .ok (.iload_n 1, 1) := by decide +kernel
theorem dX11_digest_112 : decode cX11_digest 112 = .ok (.aload_n 0, 1) := by decide +kernel
theorem dX11_digest_113 : decode cX11_digest 113 = .ok (.getfield 7, 3) := by decide +kernel
theorem dX11_digest_116 : decode cX11_digest 116 = .ok (.iconst 5, 1) := by decide +kernel
theorem dX11_digest_117 : decode cX11_digest 117 = .ok (.iaload, 1) := by decide +kernel
theorem dX11_digest_118 : decode cX11_digest 118 = .ok (.if_icmp .ge 18, 3) := by decide +kernel
theorem dX11_digest_121 : decode cX11_digest 121 = .ok (.aload_n 0, 1) := by decide +kernel
theorem dX11_digest_122 : decode cX11_digest 122 = .ok (.aload_n 0, 1) := by decide +kernel
theorem dX11_digest_123 : decode cX11_digest 123 = .ok (.iload_n 1, 1) := by decide +kernel
theorem dX11_digest_124 : decode cX11_digest 124 = .ok (.invokevirtual 56, 3) := by decide +kernel
theorem dX11_digest_127 : decode cX11_digest 127 = .ok (.invokevirtual 272, 3) := by decide +kernel
theorem dX11_digest_130 : decode cX11_digest 130 = .ok (.iinc 1 1, 3) := by decide +kernel
theorem dX11_digest_133 : decode cX11_digest 133 = .ok (.goto (-22), 3) := by decide +kernel
theorem dX11_digest_136 : decode cX11_digest 136 = .ok (.iconst 0, 1) := by decide +kernel
theorem dX11_digest_137 : decode cX11_digest 137 = .ok (.istore_n 1, 1) := by decide +kernel
theorem dX11_digest_138 : decode cX11_digest 138 = .ok (.iload_n 1, 1) := by decide +kernel
theorem dX11_digest_139 : decode cX11_digest 139 = .ok (.bipush 6, 2) := by decide +kernel
theorem dX11_digest_141 : decode cX11_digest 141 = .ok (.aload_n 0, 1) := by decide +kernel
theorem dX11_digest_142 : decode cX11_digest 142 = .ok (.getfield 7, 3) := by decide +kernel
theorem dX11_digest_145 : decode cX11_digest 145 = .ok (.bipush 41, 2) := by decide +kernel
theorem dX11_digest_147 : decode cX11_digest 147 = .ok (.iaload, 1) := by decide +kernel
theorem dX11_digest_148 : decode cX11_digest 148 = .ok (.imul, 1) := by decide +kernel
theorem dX11_digest_149 : decode cX11_digest 149 = .ok (.if_icmp .ge 25, 3) := by decide +kernel
theorem dX11_digest_152 : decode cX11_digest 152 = .ok (.aload_n 0, 1) := by decide +kernel
theorem dX11_digest_153 : decode cX11_digest 153 = .ok (.aload_n 0, 1) := by decide +kernel
theorem dX11_digest_154 : decode cX11_digest 154 = .ok (.iload_n 1, 1) := by decide +kernel
theorem dX11_digest_155 : decode cX11_digest 155 = .ok (.bipush 6, 2) := by decide +kernel
theorem dX11_digest_157 : decode cX11_digest 157 = .ok (.idiv, 1) := by decide +kernel
theorem dX11_digest_158 : decode cX11_digest 158 = .ok (.iload_n 1, 1) := by decide +kernel
theorem dX11_digest_159 : decode cX11_digest 159 = .ok (.bipush 6, 2) := by decide +kernel
theorem dX11_digest_161 : decode cX11_digest 161 = .ok (.irem, 1) := by decide +kernel
theorem dX11_digest_162 : decode cX11_digest 162 = .ok (.invokevirtual 194, 3) := by decide +kernel
theorem dX11_digest_165 : decode cX11_digest 165 = .ok (.invokevirtual 272, 3) := by decide +kernel
theorem dX11_digest_168 : decode cX11_digest 168 = .ok (.iinc 1 1, 3) := by decide +kernel
theorem dX11_digest_171 : decode cX11_digest 171 = .ok (.goto (-33), 3) := by decide +kernel
theorem dX11_digest_174 : decode cX11_digest 174 = .ok (.iconst 0, 1) := by decide +kernel
theorem dX11_digest_175 : decode cX11_digest 175 = .ok (.istore_n 1, 1) := by decide +kernel
theorem dX11_digest_176 : decode cX11_digest 176 = .ok (.iload_n 1, 1) := by decide +kernel
theorem dX11_digest_177 : decode cX11_digest 177 = .ok (.aload_n 0, 1) := by decide +kernel
theorem dX11_digest_178 : decode cX11_digest 178 = .ok (.getfield 7, 3) := by decide +kernel
theorem dX11_digest_181 : decode cX11_digest 181 = .ok (.bipush 18, 2) := by decide +kernel
theorem dX11_digest_183 : decode cX11_digest 183 = .ok (.iaload, 1) := by decide +kernel
theorem dX11_digest_184 : decode cX11_digest 184 = .ok (.if_icmp .ge 37, 3) := by decide +kernel
theorem dX11_digest_187 : decode cX11_digest 187 = .ok (.aload_n 0, 1) := by decide +kernel
theorem dX11_digest_188 : decode cX11_digest 188 = .ok (.iload_n 1, 1) := by decide +kernel
theorem dX11_digest_189 : decode cX11_digest 189 = .ok (.aload_n 0, 1) := by decide +kernel
theorem dX11_digest_190 : decode cX11_digest 190 = .ok (.getfield 7, 3) := by decide +kernel
theorem dX11_digest_193 : decode cX11_digest 193 = .ok (.bipush 31, 2) := by decide +kernel
theorem dX11_digest_195 : decode cX11_digest 195 = .ok (.iaload, 1) := by decide +kernel
theorem dX11_digest_196 : decode cX11_digest 196 = .ok (.if_icmp .ge 15, 3) := by decide +kernel
theorem dX11_digest_199 : decode cX11_digest 199 = .ok (.aload_n 0, 1) := by decide +kernel
theorem dX11_digest_200 : decode cX11_digest 200 = .ok (.getfield 7, 3) := by decide +kernel
theorem dX11_digest_203 : decode cX11_digest 203 = .ok (.bipush 32, 2) := by decide +kernel
theorem dX11_digest_205 : decode cX11_digest 205 = .ok (.iload_n 1, 1) := by decide +kernel
theorem dX11_digest_206 : decode cX11_digest 206 = .ok (.iadd, 1) := by decide +kernel
theorem dX11_digest_207 : decode cX11_digest 207 = .ok (.iaload, 1) := by decide +kernel
theorem dX11_digest_208 : decode cX11_digest 208 = .ok (.goto 4, 3) := by decide +kernel
theorem dX11_digest_211 : decode cX11_digest 211 = .ok (.iconst (-1), 1) := by decide +kernel
theorem dX11_digest_212 : decode cX11_digest 212 = .ok (.invokevirtual 272, 3) := by decide +kernel
theorem dX11_digest_215 : decode cX11_digest 215 = .ok (.iinc 1 1, 3) := by decide +kernel
theorem dX11_digest_218 : decode cX11_digest 218 = .ok (.goto (-42), 3) := by decide +kernel
theorem dX11_digest_221 : decode cX11_digest 221 = .ok (.iconst 0, 1) := by decide +kernel
theorem dX11_digest_222 : decode cX11_digest 222 = .ok (.istore_n 1, 1) := by decide +kernel
theorem dX11_digest_223 : decode cX11_digest 223 = .ok (.iload_n 1, 1) := by decide +kernel
theorem dX11_digest_224 : decode cX11_digest 224 = .ok (.sipush 501, 3) := by decide +kernel
theorem dX11_digest_227 : decode cX11_digest 227 = .ok (.if_icmp .ge 23, 3) := by decide +kernel
theorem dX11_digest_230 : decode cX11_digest 230 = .ok (.aload_n 0, 1) := by decide +kernel
theorem dX11_digest_231 : decode cX11_digest 231 = .ok (.aload_n 0, 1) := by decide +kernel
theorem dX11_digest_232 : decode cX11_digest 232 = .ok (.getfield 7, 3) := by decide +kernel
theorem dX11_digest_235 : decode cX11_digest 235 = .ok (.sipush 146, 3) := by decide +kernel
theorem dX11_digest_238 : decode cX11_digest 238 = .ok (.iload_n 1, 1) := by decide +kernel
theorem dX11_digest_239 : decode cX11_digest 239 = .ok (.iadd, 1) := by decide +kernel
theorem dX11_digest_240 : decode cX11_digest 240 = .ok (.iaload, 1) := by decide +kernel
theorem dX11_digest_241 : decode cX11_digest 241 = .ok (.invokevirtual 272, 3) := by decide +kernel
theorem dX11_digest_244 : decode cX11_digest 244 = .ok (.iinc 1 1, 3) := by decide +kernel
theorem dX11_digest_247 : decode cX11_digest 247 = .ok (.goto (-24), 3) := by decide +kernel
theorem dX11_digest_250 : decode cX11_digest 250 = .ok (.aload_n 0, 1) := by decide +kernel
theorem dX11_digest_251 : decode cX11_digest 251 = .ok (.getfield 267, 3) := by decide +kernel
theorem dX11_digest_254 : decode cX11_digest 254 = .ok (.lreturn, 1) := by decide +kernel
theorem dJx29ce0_ordinal_8abf5_0 : decode cJx29ce0_ordinal_8abf5 0 = .ok (.aload_n 0, 1) := by decide +kernel
theorem dJx29ce0_ordinal_8abf5_1 : decode cJx29ce0_ordinal_8abf5 1 = .ok (.getfield 7, 3) := by decide +kernel
theorem dJx29ce0_ordinal_8abf5_4 : decode cJx29ce0_ordinal_8abf5 4 = .ok (.ireturn, 1) := by decide +kernel
theorem dJ9_abs_0f7a4_0 : decode cJ9_abs_0f7a4 0 = .ok (.iload_n 0, 1) := by decide +kernel
theorem dJ9_abs_0f7a4_1 : decode cJ9_abs_0f7a4 1 = .ok (.ifCond .ge 8, 3) := by decide +kernel
theorem dJ9_abs_0f7a4_4 : decode cJ9_abs_0f7a4 4 = .ok (.iload_n 0, 1) := by decide +kernel
theorem dJ9_abs_0f7a4_5 : decode cJ9_abs_0f7a4 5 = .ok (.ineg, 1) := by decide +kernel
theorem dJ9_abs_0f7a4_6 : decode cJ9_abs_0f7a4 6 = .ok (.goto 4, 3) := by decide +kernel
theorem dJ9_abs_0f7a4_9 : decode cJ9_abs_0f7a4 9 = .ok (.iload_n 0, 1) := by decide +kernel
theorem dJ9_abs_0f7a4_10 : decode cJ9_abs_0f7a4 10 = .ok (.ireturn, 1) := by decide +kernel
theorem dJ9_max_7cf53_0 : decode cJ9_max_7cf53 0 = .ok (.iload_n 0, 1) := by decide +kernel
theorem dJ9_max_7cf53_1 : decode cJ9_max_7cf53 1 = .ok (.iload_n 1, 1) := by decide +kernel
theorem dJ9_max_7cf53_2 : decode cJ9_max_7cf53 2 = .ok (.if_icmp .lt 7, 3) := by decide +kernel
theorem dJ9_max_7cf53_5 : decode cJ9_max_7cf53 5 = .ok (.iload_n 0, 1) := by decide +kernel
theorem dJ9_max_7cf53_6 : decode cJ9_max_7cf53 6 = .ok (.goto 4, 3) := by decide +kernel
theorem dJ9_max_7cf53_9 : decode cJ9_max_7cf53 9 = .ok (.iload_n 1, 1) := by decide +kernel
theorem dJ9_max_7cf53_10 : decode cJ9_max_7cf53 10 = .ok (.ireturn, 1) := by decide +kernel
theorem dJ9_min_7cf53_0 : decode cJ9_min_7cf53 0 = .ok (.iload_n 0, 1) := by decide +kernel
theorem dJ9_min_7cf53_1 : decode cJ9_min_7cf53 1 = .ok (.iload_n 1, 1) := by decide +kernel
theorem dJ9_min_7cf53_2 : decode cJ9_min_7cf53 2 = .ok (.if_icmp .gt 7, 3) := by decide +kernel
theorem dJ9_min_7cf53_5 : decode cJ9_min_7cf53 5 = .ok (.iload_n 0, 1) := by decide +kernel
theorem dJ9_min_7cf53_6 : decode cJ9_min_7cf53 6 = .ok (.goto 4, 3) := by decide +kernel
theorem dJ9_min_7cf53_9 : decode cJ9_min_7cf53 9 = .ok (.iload_n 1, 1) := by decide +kernel
theorem dJ9_min_7cf53_10 : decode cJ9_min_7cf53 10 = .ok (.ireturn, 1) := by decide +kernel
theorem dJ0_length_8abf5_0 : decode cJ0_length_8abf5 0 = .ok (.aload_n 0, 1) := by decide +kernel
theorem dJ0_length_8abf5_1 : decode cJ0_length_8abf5 1 = .ok (.getfield 9, 3) := by decide +kernel
theorem dJ0_length_8abf5_4 : decode cJ0_length_8abf5 4 = .ok (.arraylength, 1) := by decide +kernel
theorem dJ0_length_8abf5_5 : decode cJ0_length_8abf5 5 = .ok (.aload_n 0, 1) := by decide +kernel
theorem dJ0_length_8abf5_6 : decode cJ0_length_8abf5 6 = .ok (.invokevirtual 335, 3) := by decide +kernel
theorem dJ0_length_8abf5_9 : decode cJ0_length_8abf5 9 = .ok (.ishr, 1) := by decide +kernel
theorem dJ0_length_8abf5_10 : decode cJ0_length_8abf5 10 = .ok (.ireturn, 1) := by decide +kernel
theorem dJ0_charAt_5068e_0 : decode cJ0_charAt_5068e 0 = .ok (.aload_n 0, 1) := by decide +kernel
theorem dJ0_charAt_5068e_1 : decode cJ0_charAt_5068e 1 = .ok (.invokevirtual 492, 3) := by decide +kernel
theorem dJ0_charAt_5068e_4 : decode cJ0_charAt_5068e 4 = .ok (.ifCond .eq 12, 3) := by decide +kernel
theorem dJ0_charAt_5068e_7 : decode cJ0_charAt_5068e 7 = .ok (.aload_n 0, 1) := by decide +kernel
theorem dJ0_charAt_5068e_8 : decode cJ0_charAt_5068e 8 = .ok (.getfield 9, 3) := by decide +kernel
theorem dJ0_charAt_5068e_11 : decode cJ0_charAt_5068e 11 = .ok (.iload_n 1, 1) := by decide +kernel
theorem dJ0_charAt_5068e_12 : decode cJ0_charAt_5068e 12 = .ok (.invokestatic 495, 3) := by decide +kernel
theorem dJ0_charAt_5068e_15 : decode cJ0_charAt_5068e 15 = .ok (.ireturn, 1) := by decide +kernel
theorem dJ0_charAt_5068e_16 : decode cJ0_charAt_5068e 16 = .ok (.aload_n 0, 1) := by decide +kernel
theorem dJ0_charAt_5068e_17 : decode cJ0_charAt_5068e 17 = .ok (.getfield 9, 3) := by decide +kernel
theorem dJ0_charAt_5068e_20 : decode cJ0_charAt_5068e 20 = .ok (.iload_n 1, 1) := by decide +kernel
theorem dJ0_charAt_5068e_21 : decode cJ0_charAt_5068e 21 = .ok (.invokestatic 498, 3) := by decide +kernel
theorem dJ0_charAt_5068e_24 : decode cJ0_charAt_5068e 24 = .ok (.ireturn, 1) := by decide +kernel
theorem dJ0_coder_7d493_0 : decode cJ0_coder_7d493 0 = .ok (.getstatic 38, 3) := by decide +kernel
theorem dJ0_coder_7d493_3 : decode cJ0_coder_7d493 3 = .ok (.ifCond .eq 10, 3) := by decide +kernel
theorem dJ0_coder_7d493_6 : decode cJ0_coder_7d493 6 = .ok (.aload_n 0, 1) := by decide +kernel
theorem dJ0_coder_7d493_7 : decode cJ0_coder_7d493 7 = .ok (.getfield 15, 3) := by decide +kernel
theorem dJ0_coder_7d493_10 : decode cJ0_coder_7d493 10 = .ok (.goto 4, 3) := by decide +kernel
theorem dJ0_coder_7d493_13 : decode cJ0_coder_7d493 13 = .ok (.iconst 1, 1) := by decide +kernel
theorem dJ0_coder_7d493_14 : decode cJ0_coder_7d493 14 = .ok (.ireturn, 1) := by decide +kernel
theorem dJ0_isLatin1_aae02_0 : decode cJ0_isLatin1_aae02 0 = .ok (.getstatic 38, 3) := by decide +kernel
theorem dJ0_isLatin1_aae02_3 : decode cJ0_isLatin1_aae02 3 = .ok (.ifCond .eq 14, 3) := by decide +kernel
theorem dJ0_isLatin1_aae02_6 : decode cJ0_isLatin1_aae02 6 = .ok (.aload_n 0, 1) := by decide +kernel
theorem dJ0_isLatin1_aae02_7 : decode cJ0_isLatin1_aae02 7 = .ok (.getfield 15, 3) := by decide +kernel
theorem dJ0_isLatin1_aae02_10 : decode cJ0_isLatin1_aae02 10 = .ok (.ifCond .ne 7, 3) := by decide +kernel
theorem dJ0_isLatin1_aae02_13 : decode cJ0_isLatin1_aae02 13 = .ok (.iconst 1, 1) := by decide +kernel
theorem dJ0_isLatin1_aae02_14 : decode cJ0_isLatin1_aae02 14 = .ok (.goto 4, 3) := by decide +kernel
theorem dJ0_isLatin1_aae02_17 : decode cJ0_isLatin1_aae02 17 = .ok (.iconst 0, 1) := by decide +kernel
theorem dJ0_isLatin1_aae02_18 : decode cJ0_isLatin1_aae02 18 = .ok (.ireturn, 1) := by decide +kernel
theorem dJ0_checkIndex_df160_0 : decode cJ0_checkIndex_df160 0 = .ok (.iload_n 0, 1) := by decide +kernel
theorem dJ0_checkIndex_df160_1 : decode cJ0_checkIndex_df160 1 = .ok (.iload_n 1, 1) := by decide +kernel
theorem dJ0_checkIndex_df160_2 : decode cJ0_checkIndex_df160 2 = .ok (.getstatic 1053, 3) := by decide +kernel
theorem dJ0_checkIndex_df160_5 : decode cJ0_checkIndex_df160 5 = .ok (.invokestatic 1059, 3) := by decide +kernel
theorem dJ0_checkIndex_df160_8 : decode cJ0_checkIndex_df160 8 = .ok (.pop, 1) := by decide +kernel
theorem dJ0_checkIndex_df160_9 : decode cJ0_checkIndex_df160 9 = .ok (.return_, 1) := by decide +kernel
theorem dJ1_charAt_3b067_0 : decode cJ1_charAt_3b067 0 = .ok (.iload_n 1, 1) := by decide +kernel
theorem dJ1_charAt_3b067_1 : decode cJ1_charAt_3b067 1 = .ok (.aload_n 0, 1) := by decide +kernel
theorem dJ1_charAt_3b067_2 : decode cJ1_charAt_3b067 2 = .ok (.arraylength, 1) := by decide +kernel
theorem dJ1_charAt_3b067_3 : decode cJ1_charAt_3b067 3 = .ok (.invokestatic 9, 3) := by decide +kernel
theorem dJ1_charAt_3b067_6 : decode cJ1_charAt_3b067 6 = .ok (.aload_n 0, 1) := by decide +kernel
theorem dJ1_charAt_3b067_7 : decode cJ1_charAt_3b067 7 = .ok (.iload_n 1, 1) := by decide +kernel
theorem dJ1_charAt_3b067_8 : decode cJ1_charAt_3b067 8 = .ok (.baload, 1) := by decide +kernel
theorem dJ1_charAt_3b067_9 : decode cJ1_charAt_3b067 9 = .ok (.sipush 255, 3) := by decide +kernel
theorem dJ1_charAt_3b067_12 : decode cJ1_charAt_3b067 12 = .ok (.iand, 1) := by decide +kernel
theorem dJ1_charAt_3b067_13 : decode cJ1_charAt_3b067 13 = .ok (.i2c, 1) := by decide +kernel
theorem dJ1_charAt_3b067_14 : decode cJ1_charAt_3b067 14 = .ok (.ireturn, 1) := by decide +kernel
theorem dJ2_getChar_3b067_0 : decode cJ2_getChar_3b067 0 = .ok (.getstatic 44, 3) := by decide +kernel
theorem dJ2_getChar_3b067_3 : decode cJ2_getChar_3b067 3 = .ok (.ifCond .ne 25, 3) := by decide +kernel
theorem dJ2_getChar_3b067_6 : decode cJ2_getChar_3b067 6 = .ok (.iload_n 1, 1) := by decide +kernel
theorem dJ2_getChar_3b067_7 : decode cJ2_getChar_3b067 7 = .ok (.ifCond .lt 11, 3) := by decide +kernel
theorem dJ2_getChar_3b067_10 : decode cJ2_getChar_3b067 10 = .ok (.iload_n 1, 1) := by decide +kernel
theorem dJ2_getChar_3b067_11 : decode cJ2_getChar_3b067 11 = .ok (.aload_n 0, 1) := by decide +kernel
theorem dJ2_getChar_3b067_12 : decode cJ2_getChar_3b067 12 = .ok (.invokestatic 48, 3) := by decide +kernel
theorem dJ2_getChar_3b067_15 : decode cJ2_getChar_3b067 15 = .ok (.if_icmp .lt 13, 3) := by decide +kernel
theorem dJ2_getChar_3b067_18 : decode cJ2_getChar_3b067 18 = .ok (.new 52, 3) := by decide +kernel
theorem dJ2_getChar_3b067_21 : decode cJ2_getChar_3b067 21 = .ok (.dup, 1) := by decide +kernel
theorem dJ2_getChar_3b067_22 : decode cJ2_getChar_3b067 22 = .ok (.ldc 54, 2) := by decide +kernel
theorem dJ2_getChar_3b067_24 : decode cJ2_getChar_3b067 24 = .ok (.invokespecial 56, 3) := by decide +kernel
theorem dJ2_getChar_3b067_27 : decode cJ2_getChar_3b067 27 = .ok (.athrow, 1) := by decide +kernel
theorem dJ2_getChar_3b067_28 : decode cJ2_getChar_3b067 28 = .ok (.iload_n 1, 1) := by decide +kernel
theorem dJ2_getChar_3b067_29 : decode cJ2_getChar_3b067 29 = .ok (.iconst 1, 1) := by decide +kernel
theorem dJ2_getChar_3b067_30 : decode cJ2_getChar_3b067 30 = .ok (.ishl, 1) := by decide +kernel
theorem dJ2_getChar_3b067_31 : decode cJ2_getChar_3b067 31 = .ok (.istore_n 1, 1) := by decide +kernel
theorem dJ2_getChar_3b067_32 : decode cJ2_getChar_3b067 32 = .ok (.aload_n 0, 1) := by decide +kernel
theorem dJ2_getChar_3b067_33 : decode cJ2_getChar_3b067 33 = .ok (.iload_n 1, 1) := by decide +kernel
theorem dJ2_getChar_3b067_34 : decode cJ2_getChar_3b067 34 = .ok (.iinc 1 1, 3) := by decide +kernel
theorem dJ2_getChar_3b067_37 : decode cJ2_getChar_3b067 37 = .ok (.baload, 1) := by decide +kernel
theorem dJ2_getChar_3b067_38 : decode cJ2_getChar_3b067 38 = .ok (.sipush 255, 3) := by decide +kernel
theorem dJ2_getChar_3b067_41 : decode cJ2_getChar_3b067 41 = .ok (.iand, 1) := by decide +kernel
theorem dJ2_getChar_3b067_42 : decode cJ2_getChar_3b067 42 = .ok (.getstatic 59, 3) := by decide +kernel
theorem dJ2_getChar_3b067_45 : decode cJ2_getChar_3b067 45 = .ok (.ishl, 1) := by decide +kernel
theorem dJ2_getChar_3b067_46 : decode cJ2_getChar_3b067 46 = .ok (.aload_n 0, 1) := by decide +kernel
theorem dJ2_getChar_3b067_47 : decode cJ2_getChar_3b067 47 = .ok (.iload_n 1, 1) := by decide +kernel
theorem dJ2_getChar_3b067_48 : decode cJ2_getChar_3b067 48 = .ok (.baload, 1) := by decide +kernel
theorem dJ2_getChar_3b067_49 : decode cJ2_getChar_3b067 49 = .ok (.sipush 255, 3) := by decide +kernel
theorem dJ2_getChar_3b067_52 : decode cJ2_getChar_3b067 52 = .ok (.iand, 1) := by decide +kernel
theorem dJ2_getChar_3b067_53 : decode cJ2_getChar_3b067 53 = .ok (.getstatic 63, 3) := by decide +kernel
theorem dJ2_getChar_3b067_56 : decode cJ2_getChar_3b067 56 = .ok (.ishl, 1) := by decide +kernel
theorem dJ2_getChar_3b067_57 : decode cJ2_getChar_3b067 57 = .ok (.ior, 1) := by decide +kernel
theorem dJ2_getChar_3b067_58 : decode cJ2_getChar_3b067 58 = .ok (.i2c, 1) := by decide +kernel
theorem dJ2_getChar_3b067_59 : decode cJ2_getChar_3b067 59 = .ok (.ireturn, 1) := by decide +kernel
theorem dJ2_length_9d52b_0 : decode cJ2_length_9d52b 0 = .ok (.aload_n 0, 1) := by decide +kernel
theorem dJ2_length_9d52b_1 : decode cJ2_length_9d52b 1 = .ok (.arraylength, 1) := by decide +kernel
theorem dJ2_length_9d52b_2 : decode cJ2_length_9d52b 2 = .ok (.iconst 1, 1) := by decide +kernel
theorem dJ2_length_9d52b_3 : decode cJ2_length_9d52b 3 = .ok (.ishr, 1) := by decide +kernel
theorem dJ2_length_9d52b_4 : decode cJ2_length_9d52b 4 = .ok (.ireturn, 1) := by decide +kernel
theorem dJ2_charAt_3b067_0 : decode cJ2_charAt_3b067 0 = .ok (.iload_n 1, 1) := by decide +kernel
theorem dJ2_charAt_3b067_1 : decode cJ2_charAt_3b067 1 = .ok (.aload_n 0, 1) := by decide +kernel
theorem dJ2_charAt_3b067_2 : decode cJ2_charAt_3b067 2 = .ok (.invokestatic 67, 3) := by decide +kernel
theorem dJ2_charAt_3b067_5 : decode cJ2_charAt_3b067 5 = .ok (.aload_n 0, 1) := by decide +kernel
theorem dJ2_charAt_3b067_6 : decode cJ2_charAt_3b067 6 = .ok (.iload_n 1, 1) := by decide +kernel
theorem dJ2_charAt_3b067_7 : decode cJ2_charAt_3b067 7 = .ok (.invokestatic 71, 3) := by decide +kernel
theorem dJ2_charAt_3b067_10 : decode cJ2_charAt_3b067 10 = .ok (.ireturn, 1) := by decide +kernel
theorem dJ2_checkIndex_2214a_0 : decode cJ2_checkIndex_2214a 0 = .ok (.iload_n 0, 1) := by decide +kernel
theorem dJ2_checkIndex_2214a_1 : decode cJ2_checkIndex_2214a 1 = .ok (.aload_n 1, 1) := by decide +kernel
theorem dJ2_checkIndex_2214a_2 : decode cJ2_checkIndex_2214a 2 = .ok (.invokestatic 48, 3) := by decide +kernel
theorem dJ2_checkIndex_2214a_5 : decode cJ2_checkIndex_2214a 5 = .ok (.invokestatic 414, 3) := by decide +kernel
theorem dJ2_checkIndex_2214a_8 : decode cJ2_checkIndex_2214a 8 = .ok (.return_, 1) := by decide +kernel
theorem dJ3_checkIndex_8e157_0 : decode cJ3_checkIndex_8e157 0 = .ok (.iload_n 0, 1) := by decide +kernel
theorem dJ3_checkIndex_8e157_1 : decode cJ3_checkIndex_8e157 1 = .ok (.ifCond .lt 8, 3) := by decide +kernel
theorem dJ3_checkIndex_8e157_4 : decode cJ3_checkIndex_8e157 4 = .ok (.iload_n 0, 1) := by decide +kernel
theorem dJ3_checkIndex_8e157_5 : decode cJ3_checkIndex_8e157 5 = .ok (.iload_n 1, 1) := by decide +kernel
theorem dJ3_checkIndex_8e157_6 : decode cJ3_checkIndex_8e157 6 = .ok (.if_icmp .lt 10, 3) := by decide +kernel
theorem dJ3_checkIndex_8e157_9 : decode cJ3_checkIndex_8e157 9 = .ok (.aload_n 2, 1) := by decide +kernel
theorem dJ3_checkIndex_8e157_10 : decode cJ3_checkIndex_8e157 10 = .ok (.iload_n 0, 1) := by decide +kernel
theorem dJ3_checkIndex_8e157_11 : decode cJ3_checkIndex_8e157 11 = .ok (.iload_n 1, 1) := by decide +kernel
theorem dJ3_checkIndex_8e157_12 : decode cJ3_checkIndex_8e157 12 = .ok (.invokestatic 95, 3) := by decide +kernel
theorem dJ3_checkIndex_8e157_15 : decode cJ3_checkIndex_8e157 15 = .ok (.athrow, 1) := by decide +kernel
theorem dJ3_checkIndex_8e157_16 : decode cJ3_checkIndex_8e157 16 = .ok (.iload_n 0, 1) := by decide +kernel
theorem dJ3_checkIndex_8e157_17 : decode cJ3_checkIndex_8e157 17 = .ok (.ireturn, 1) := by decide +kernel
theorem dL_begin_0 : decode cL_begin 0 = .ok (.aload_n 2, 1) := by decide +kernel
theorem dL_begin_1 : decode cL_begin 1 = .ok (.iconst 0, 1) := by decide +kernel
theorem dL_begin_2 : decode cL_begin 2 = .ok (.aload_n 0, 1) := by decide +kernel
theorem dL_begin_3 : decode cL_begin 3 = .ok (.iload_n 1, 1) := by decide +kernel
theorem dL_begin_4 : decode cL_begin 4 = .ok (.invokevirtual 7, 3) := by decide +kernel
theorem dL_begin_7 : decode cL_begin 7 = .ok (.i2l, 1) := by decide +kernel
theorem dL_begin_8 : decode cL_begin 8 = .ok (.lastore, 1) := by decide +kernel
theorem dL_begin_9 : decode cL_begin 9 = .ok (.goto 6, 3) := by decide +kernel
theorem dL_begin_12 : decode cL_begin 12 = .ok (.astore_n 3, 1) := by decide +kernel
theorem dL_begin_13 : decode cL_begin 13 = .ok (.iconst 1, 1) := by decide +kernel
theorem dL_begin_14 : decode cL_begin 14 = .ok (.ireturn, 1) := by decide +kernel
theorem dL_begin_15 : decode cL_begin 15 = .ok (.iconst 0, 1) := by decide +kernel
theorem dL_begin_16 : decode cL_begin 16 = .ok (.ireturn, 1) := by decide +kernel
theorem dL_setLevel_0 : decode cL_setLevel 0 = .ok (.aload_n 2, 1) := by decide +kernel
theorem dL_setLevel_1 : decode cL_setLevel 1 = .ok (.iconst 0, 1) := by decide +kernel
theorem dL_setLevel_2 : decode cL_setLevel 2 = .ok (.aload_n 0, 1) := by decide +kernel
theorem dL_setLevel_3 : decode cL_setLevel 3 = .ok (.iload_n 1, 1) := by decide +kernel
theorem dL_setLevel_4 : decode cL_setLevel 4 = .ok (.invokevirtual 15, 3) := by decide +kernel
theorem dL_setLevel_7 : decode cL_setLevel 7 = .ok (.i2l, 1) := by decide +kernel
theorem dL_setLevel_8 : decode cL_setLevel 8 = .ok (.lastore, 1) := by decide +kernel
theorem dL_setLevel_9 : decode cL_setLevel 9 = .ok (.goto 6, 3) := by decide +kernel
theorem dL_setLevel_12 : decode cL_setLevel 12 = .ok (.astore_n 3, 1) := by decide +kernel
theorem dL_setLevel_13 : decode cL_setLevel 13 = .ok (.iconst 1, 1) := by decide +kernel
theorem dL_setLevel_14 : decode cL_setLevel 14 = .ok (.ireturn, 1) := by decide +kernel
theorem dL_setLevel_15 : decode cL_setLevel 15 = .ok (.iconst 0, 1) := by decide +kernel
theorem dL_setLevel_16 : decode cL_setLevel 16 = .ok (.ireturn, 1) := by decide +kernel
theorem dL_setFlow_0 : decode cL_setFlow 0 = .ok (.aload_n 2, 1) := by decide +kernel
theorem dL_setFlow_1 : decode cL_setFlow 1 = .ok (.iconst 0, 1) := by decide +kernel
theorem dL_setFlow_2 : decode cL_setFlow 2 = .ok (.aload_n 0, 1) := by decide +kernel
theorem dL_setFlow_3 : decode cL_setFlow 3 = .ok (.iload_n 1, 1) := by decide +kernel
theorem dL_setFlow_4 : decode cL_setFlow 4 = .ok (.invokevirtual 18, 3) := by decide +kernel
theorem dL_setFlow_7 : decode cL_setFlow 7 = .ok (.i2l, 1) := by decide +kernel
theorem dL_setFlow_8 : decode cL_setFlow 8 = .ok (.lastore, 1) := by decide +kernel
theorem dL_setFlow_9 : decode cL_setFlow 9 = .ok (.goto 6, 3) := by decide +kernel
theorem dL_setFlow_12 : decode cL_setFlow 12 = .ok (.astore_n 3, 1) := by decide +kernel
theorem dL_setFlow_13 : decode cL_setFlow 13 = .ok (.iconst 1, 1) := by decide +kernel
theorem dL_setFlow_14 : decode cL_setFlow 14 = .ok (.ireturn, 1) := by decide +kernel
theorem dL_setFlow_15 : decode cL_setFlow 15 = .ok (.iconst 0, 1) := by decide +kernel
theorem dL_setFlow_16 : decode cL_setFlow 16 = .ok (.ireturn, 1) := by decide +kernel
theorem dL_setFoam_0 : decode cL_setFoam 0 = .ok (.aload_n 2, 1) := by decide +kernel
theorem dL_setFoam_1 : decode cL_setFoam 1 = .ok (.iconst 0, 1) := by decide +kernel
theorem dL_setFoam_2 : decode cL_setFoam 2 = .ok (.aload_n 0, 1) := by decide +kernel
theorem dL_setFoam_3 : decode cL_setFoam 3 = .ok (.iload_n 1, 1) := by decide +kernel
theorem dL_setFoam_4 : decode cL_setFoam 4 = .ok (.invokevirtual 21, 3) := by decide +kernel
theorem dL_setFoam_7 : decode cL_setFoam 7 = .ok (.i2l, 1) := by decide +kernel
theorem dL_setFoam_8 : decode cL_setFoam 8 = .ok (.lastore, 1) := by decide +kernel
theorem dL_setFoam_9 : decode cL_setFoam 9 = .ok (.goto 6, 3) := by decide +kernel
theorem dL_setFoam_12 : decode cL_setFoam 12 = .ok (.astore_n 3, 1) := by decide +kernel
theorem dL_setFoam_13 : decode cL_setFoam 13 = .ok (.iconst 1, 1) := by decide +kernel
theorem dL_setFoam_14 : decode cL_setFoam 14 = .ok (.ireturn, 1) := by decide +kernel
theorem dL_setFoam_15 : decode cL_setFoam 15 = .ok (.iconst 0, 1) := by decide +kernel
theorem dL_setFoam_16 : decode cL_setFoam 16 = .ok (.ireturn, 1) := by decide +kernel
theorem dL_addThing_0 : decode cL_addThing 0 = .ok (.aload_n 3, 1) := by decide +kernel
theorem dL_addThing_1 : decode cL_addThing 1 = .ok (.iconst 0, 1) := by decide +kernel
theorem dL_addThing_2 : decode cL_addThing 2 = .ok (.aload_n 0, 1) := by decide +kernel
theorem dL_addThing_3 : decode cL_addThing 3 = .ok (.iload_n 1, 1) := by decide +kernel
theorem dL_addThing_4 : decode cL_addThing 4 = .ok (.iload_n 2, 1) := by decide +kernel
theorem dL_addThing_5 : decode cL_addThing 5 = .ok (.invokevirtual 24, 3) := by decide +kernel
theorem dL_addThing_8 : decode cL_addThing 8 = .ok (.i2l, 1) := by decide +kernel
theorem dL_addThing_9 : decode cL_addThing 9 = .ok (.lastore, 1) := by decide +kernel
theorem dL_addThing_10 : decode cL_addThing 10 = .ok (.goto 11, 3) := by decide +kernel
theorem dL_addThing_13 : decode cL_addThing 13 = .ok (.astore 4, 2) := by decide +kernel
theorem dL_addThing_15 : decode cL_addThing 15 = .ok (.iconst 1, 1) := by decide +kernel
theorem dL_addThing_16 : decode cL_addThing 16 = .ok (.ireturn, 1) := by decide +kernel
theorem dL_addThing_17 : decode cL_addThing 17 = .ok (.astore 4, 2) := by decide +kernel
theorem dL_addThing_19 : decode cL_addThing 19 = .ok (.iconst 2, 1) := by decide +kernel
theorem dL_addThing_20 : decode cL_addThing 20 = .ok (.ireturn, 1) := by decide +kernel
theorem dL_addThing_21 : decode cL_addThing 21 = .ok (.iconst 0, 1) := by decide +kernel
theorem dL_addThing_22 : decode cL_addThing 22 = .ok (.ireturn, 1) := by decide +kernel
theorem dL_removeThing_0 : decode cL_removeThing 0 = .ok (.aload_n 2, 1) := by decide +kernel
theorem dL_removeThing_1 : decode cL_removeThing 1 = .ok (.iconst 0, 1) := by decide +kernel
theorem dL_removeThing_2 : decode cL_removeThing 2 = .ok (.aload_n 0, 1) := by decide +kernel
theorem dL_removeThing_3 : decode cL_removeThing 3 = .ok (.iload_n 1, 1) := by decide +kernel
theorem dL_removeThing_4 : decode cL_removeThing 4 = .ok (.invokevirtual 30, 3) := by decide +kernel
theorem dL_removeThing_7 : decode cL_removeThing 7 = .ok (.i2l, 1) := by decide +kernel
theorem dL_removeThing_8 : decode cL_removeThing 8 = .ok (.lastore, 1) := by decide +kernel
theorem dL_removeThing_9 : decode cL_removeThing 9 = .ok (.goto 6, 3) := by decide +kernel
theorem dL_removeThing_12 : decode cL_removeThing 12 = .ok (.astore_n 3, 1) := by decide +kernel
theorem dL_removeThing_13 : decode cL_removeThing 13 = .ok (.iconst 1, 1) := by decide +kernel
theorem dL_removeThing_14 : decode cL_removeThing 14 = .ok (.ireturn, 1) := by decide +kernel
theorem dL_removeThing_15 : decode cL_removeThing 15 = .ok (.iconst 0, 1) := by decide +kernel
theorem dL_removeThing_16 : decode cL_removeThing 16 = .ok (.ireturn, 1) := by decide +kernel
theorem dL_setStirrer_0 : decode cL_setStirrer 0 = .ok (.aload 6, 2) := by decide +kernel
theorem dL_setStirrer_2 : decode cL_setStirrer 2 = .ok (.iconst 0, 1) := by decide +kernel
theorem dL_setStirrer_3 : decode cL_setStirrer 3 = .ok (.aload_n 0, 1) := by decide +kernel
theorem dL_setStirrer_4 : decode cL_setStirrer 4 = .ok (.iload_n 1, 1) := by decide +kernel
theorem dL_setStirrer_5 : decode cL_setStirrer 5 = .ok (.iload_n 2, 1) := by decide +kernel
theorem dL_setStirrer_6 : decode cL_setStirrer 6 = .ok (.iload_n 3, 1) := by decide +kernel
theorem dL_setStirrer_7 : decode cL_setStirrer 7 = .ok (.iload 4, 2) := by decide +kernel
theorem dL_setStirrer_9 : decode cL_setStirrer 9 = .ok (.iload 5, 2) := by decide +kernel
theorem dL_setStirrer_11 : decode cL_setStirrer 11 = .ok (.invokevirtual 35, 3) := by decide +kernel
theorem dL_setStirrer_14 : decode cL_setStirrer 14 = .ok (.i2l, 1) := by decide +kernel
theorem dL_setStirrer_15 : decode cL_setStirrer 15 = .ok (.lastore, 1) := by decide +kernel
theorem dL_setStirrer_16 : decode cL_setStirrer 16 = .ok (.goto 7, 3) := by decide +kernel
theorem dL_setStirrer_19 : decode cL_setStirrer 19 = .ok (.astore 7, 2) := by decide +kernel
theorem dL_setStirrer_21 : decode cL_setStirrer 21 = .ok (.iconst 1, 1) := by decide +kernel
theorem dL_setStirrer_22 : decode cL_setStirrer 22 = .ok (.ireturn, 1) := by decide +kernel
theorem dL_setStirrer_23 : decode cL_setStirrer 23 = .ok (.iconst 0, 1) := by decide +kernel
theorem dL_setStirrer_24 : decode cL_setStirrer 24 = .ok (.ireturn, 1) := by decide +kernel
theorem dL_set_0 : decode cL_set 0 = .ok (.aload_n 3, 1) := by decide +kernel
theorem dL_set_1 : decode cL_set 1 = .ok (.iconst 0, 1) := by decide +kernel
theorem dL_set_2 : decode cL_set 2 = .ok (.aload_n 0, 1) := by decide +kernel
theorem dL_set_3 : decode cL_set 3 = .ok (.iload_n 1, 1) := by decide +kernel
theorem dL_set_4 : decode cL_set 4 = .ok (.iload_n 2, 1) := by decide +kernel
theorem dL_set_5 : decode cL_set 5 = .ok (.invokevirtual 39, 3) := by decide +kernel
theorem dL_set_8 : decode cL_set 8 = .ok (.i2l, 1) := by decide +kernel
theorem dL_set_9 : decode cL_set 9 = .ok (.lastore, 1) := by decide +kernel
theorem dL_set_10 : decode cL_set 10 = .ok (.goto 7, 3) := by decide +kernel
theorem dL_set_13 : decode cL_set 13 = .ok (.astore 4, 2) := by decide +kernel
theorem dL_set_15 : decode cL_set 15 = .ok (.iconst 1, 1) := by decide +kernel
theorem dL_set_16 : decode cL_set 16 = .ok (.ireturn, 1) := by decide +kernel
theorem dL_set_17 : decode cL_set 17 = .ok (.iconst 0, 1) := by decide +kernel
theorem dL_set_18 : decode cL_set 18 = .ok (.ireturn, 1) := by decide +kernel
theorem dL_setS_0 : decode cL_setS 0 = .ok (.aload_n 2, 1) := by decide +kernel
theorem dL_setS_1 : decode cL_setS 1 = .ok (.iconst 0, 1) := by decide +kernel
theorem dL_setS_2 : decode cL_setS 2 = .ok (.aload_n 0, 1) := by decide +kernel
theorem dL_setS_3 : decode cL_setS 3 = .ok (.iload_n 1, 1) := by decide +kernel
theorem dL_setS_4 : decode cL_setS 4 = .ok (.invokevirtual 42, 3) := by decide +kernel
theorem dL_setS_7 : decode cL_setS 7 = .ok (.i2l, 1) := by decide +kernel
theorem dL_setS_8 : decode cL_setS 8 = .ok (.lastore, 1) := by decide +kernel
theorem dL_setS_9 : decode cL_setS 9 = .ok (.goto 6, 3) := by decide +kernel
theorem dL_setS_12 : decode cL_setS 12 = .ok (.astore_n 3, 1) := by decide +kernel
theorem dL_setS_13 : decode cL_setS 13 = .ok (.iconst 1, 1) := by decide +kernel
theorem dL_setS_14 : decode cL_setS 14 = .ok (.ireturn, 1) := by decide +kernel
theorem dL_setS_15 : decode cL_setS 15 = .ok (.iconst 0, 1) := by decide +kernel
theorem dL_setS_16 : decode cL_setS 16 = .ok (.ireturn, 1) := by decide +kernel
theorem dL_mask_0 : decode cL_mask 0 = .ok (.aload_n 3, 1) := by decide +kernel
theorem dL_mask_1 : decode cL_mask 1 = .ok (.iconst 0, 1) := by decide +kernel
theorem dL_mask_2 : decode cL_mask 2 = .ok (.aload_n 0, 1) := by decide +kernel
theorem dL_mask_3 : decode cL_mask 3 = .ok (.iload_n 1, 1) := by decide +kernel
theorem dL_mask_4 : decode cL_mask 4 = .ok (.iload_n 2, 1) := by decide +kernel
theorem dL_mask_5 : decode cL_mask 5 = .ok (.invokevirtual 45, 3) := by decide +kernel
theorem dL_mask_8 : decode cL_mask 8 = .ok (.i2l, 1) := by decide +kernel
theorem dL_mask_9 : decode cL_mask 9 = .ok (.lastore, 1) := by decide +kernel
theorem dL_mask_10 : decode cL_mask 10 = .ok (.goto 7, 3) := by decide +kernel
theorem dL_mask_13 : decode cL_mask 13 = .ok (.astore 4, 2) := by decide +kernel
theorem dL_mask_15 : decode cL_mask 15 = .ok (.iconst 1, 1) := by decide +kernel
theorem dL_mask_16 : decode cL_mask 16 = .ok (.ireturn, 1) := by decide +kernel
theorem dL_mask_17 : decode cL_mask 17 = .ok (.iconst 0, 1) := by decide +kernel
theorem dL_mask_18 : decode cL_mask 18 = .ok (.ireturn, 1) := by decide +kernel
theorem dL_learn_0 : decode cL_learn 0 = .ok (.aload_n 2, 1) := by decide +kernel
theorem dL_learn_1 : decode cL_learn 1 = .ok (.iconst 0, 1) := by decide +kernel
theorem dL_learn_2 : decode cL_learn 2 = .ok (.aload_n 0, 1) := by decide +kernel
theorem dL_learn_3 : decode cL_learn 3 = .ok (.iload_n 1, 1) := by decide +kernel
theorem dL_learn_4 : decode cL_learn 4 = .ok (.invokevirtual 49, 3) := by decide +kernel
theorem dL_learn_7 : decode cL_learn 7 = .ok (.i2l, 1) := by decide +kernel
theorem dL_learn_8 : decode cL_learn 8 = .ok (.lastore, 1) := by decide +kernel
theorem dL_learn_9 : decode cL_learn 9 = .ok (.goto 6, 3) := by decide +kernel
theorem dL_learn_12 : decode cL_learn 12 = .ok (.astore_n 3, 1) := by decide +kernel
theorem dL_learn_13 : decode cL_learn 13 = .ok (.iconst 1, 1) := by decide +kernel
theorem dL_learn_14 : decode cL_learn 14 = .ok (.ireturn, 1) := by decide +kernel
theorem dL_learn_15 : decode cL_learn 15 = .ok (.iconst 0, 1) := by decide +kernel
theorem dL_learn_16 : decode cL_learn 16 = .ok (.ireturn, 1) := by decide +kernel
theorem dL_shoot_0 : decode cL_shoot 0 = .ok (.aload_n 2, 1) := by decide +kernel
theorem dL_shoot_1 : decode cL_shoot 1 = .ok (.iconst 0, 1) := by decide +kernel
theorem dL_shoot_2 : decode cL_shoot 2 = .ok (.aload_n 0, 1) := by decide +kernel
theorem dL_shoot_3 : decode cL_shoot 3 = .ok (.iload_n 1, 1) := by decide +kernel
theorem dL_shoot_4 : decode cL_shoot 4 = .ok (.invokevirtual 52, 3) := by decide +kernel
theorem dL_shoot_7 : decode cL_shoot 7 = .ok (.i2l, 1) := by decide +kernel
theorem dL_shoot_8 : decode cL_shoot 8 = .ok (.lastore, 1) := by decide +kernel
theorem dL_shoot_9 : decode cL_shoot 9 = .ok (.goto 6, 3) := by decide +kernel
theorem dL_shoot_12 : decode cL_shoot 12 = .ok (.astore_n 3, 1) := by decide +kernel
theorem dL_shoot_13 : decode cL_shoot 13 = .ok (.iconst 1, 1) := by decide +kernel
theorem dL_shoot_14 : decode cL_shoot 14 = .ok (.ireturn, 1) := by decide +kernel
theorem dL_shoot_15 : decode cL_shoot 15 = .ok (.iconst 0, 1) := by decide +kernel
theorem dL_shoot_16 : decode cL_shoot 16 = .ok (.ireturn, 1) := by decide +kernel
theorem dL_echo_0 : decode cL_echo 0 = .ok (.aload_n 3, 1) := by decide +kernel
theorem dL_echo_1 : decode cL_echo 1 = .ok (.iconst 0, 1) := by decide +kernel
theorem dL_echo_2 : decode cL_echo 2 = .ok (.aload_n 0, 1) := by decide +kernel
theorem dL_echo_3 : decode cL_echo 3 = .ok (.iload_n 1, 1) := by decide +kernel
theorem dL_echo_4 : decode cL_echo 4 = .ok (.iload_n 2, 1) := by decide +kernel
theorem dL_echo_5 : decode cL_echo 5 = .ok (.invokevirtual 55, 3) := by decide +kernel
theorem dL_echo_8 : decode cL_echo 8 = .ok (.i2l, 1) := by decide +kernel
theorem dL_echo_9 : decode cL_echo 9 = .ok (.lastore, 1) := by decide +kernel
theorem dL_echo_10 : decode cL_echo 10 = .ok (.goto 7, 3) := by decide +kernel
theorem dL_echo_13 : decode cL_echo 13 = .ok (.astore 4, 2) := by decide +kernel
theorem dL_echo_15 : decode cL_echo 15 = .ok (.iconst 1, 1) := by decide +kernel
theorem dL_echo_16 : decode cL_echo 16 = .ok (.ireturn, 1) := by decide +kernel
theorem dL_echo_17 : decode cL_echo 17 = .ok (.iconst 0, 1) := by decide +kernel
theorem dL_echo_18 : decode cL_echo 18 = .ok (.ireturn, 1) := by decide +kernel
theorem dL_pick_0 : decode cL_pick 0 = .ok (.aload_n 2, 1) := by decide +kernel
theorem dL_pick_1 : decode cL_pick 1 = .ok (.iconst 0, 1) := by decide +kernel
theorem dL_pick_2 : decode cL_pick 2 = .ok (.aload_n 0, 1) := by decide +kernel
theorem dL_pick_3 : decode cL_pick 3 = .ok (.iload_n 1, 1) := by decide +kernel
theorem dL_pick_4 : decode cL_pick 4 = .ok (.invokevirtual 58, 3) := by decide +kernel
theorem dL_pick_7 : decode cL_pick 7 = .ok (.i2l, 1) := by decide +kernel
theorem dL_pick_8 : decode cL_pick 8 = .ok (.lastore, 1) := by decide +kernel
theorem dL_pick_9 : decode cL_pick 9 = .ok (.goto 6, 3) := by decide +kernel
theorem dL_pick_12 : decode cL_pick 12 = .ok (.astore_n 3, 1) := by decide +kernel
theorem dL_pick_13 : decode cL_pick 13 = .ok (.iconst 1, 1) := by decide +kernel
theorem dL_pick_14 : decode cL_pick 14 = .ok (.ireturn, 1) := by decide +kernel
theorem dL_pick_15 : decode cL_pick 15 = .ok (.iconst 0, 1) := by decide +kernel
theorem dL_pick_16 : decode cL_pick 16 = .ok (.ireturn, 1) := by decide +kernel
theorem dL_isMasked_0 : decode cL_isMasked 0 = .ok (.aload_n 2, 1) := by decide +kernel
theorem dL_isMasked_1 : decode cL_isMasked 1 = .ok (.iconst 0, 1) := by decide +kernel
theorem dL_isMasked_2 : decode cL_isMasked 2 = .ok (.aload_n 0, 1) := by decide +kernel
theorem dL_isMasked_3 : decode cL_isMasked 3 = .ok (.iload_n 1, 1) := by decide +kernel
theorem dL_isMasked_4 : decode cL_isMasked 4 = .ok (.invokevirtual 61, 3) := by decide +kernel
theorem dL_isMasked_7 : decode cL_isMasked 7 = .ok (.ifCond .eq 7, 3) := by decide +kernel
theorem dL_isMasked_10 : decode cL_isMasked 10 = .ok (.lconst 1, 1) := by decide +kernel
theorem dL_isMasked_11 : decode cL_isMasked 11 = .ok (.goto 4, 3) := by decide +kernel
theorem dL_isMasked_14 : decode cL_isMasked 14 = .ok (.lconst 0, 1) := by decide +kernel
theorem dL_isMasked_15 : decode cL_isMasked 15 = .ok (.lastore, 1) := by decide +kernel
theorem dL_isMasked_16 : decode cL_isMasked 16 = .ok (.goto 6, 3) := by decide +kernel
theorem dL_isMasked_19 : decode cL_isMasked 19 = .ok (.astore_n 3, 1) := by decide +kernel
theorem dL_isMasked_20 : decode cL_isMasked 20 = .ok (.iconst 1, 1) := by decide +kernel
theorem dL_isMasked_21 : decode cL_isMasked 21 = .ok (.ireturn, 1) := by decide +kernel
theorem dL_isMasked_22 : decode cL_isMasked 22 = .ok (.iconst 0, 1) := by decide +kernel
theorem dL_isMasked_23 : decode cL_isMasked 23 = .ok (.ireturn, 1) := by decide +kernel
theorem dL_need_0 : decode cL_need 0 = .ok (.aload_n 2, 1) := by decide +kernel
theorem dL_need_1 : decode cL_need 1 = .ok (.iconst 0, 1) := by decide +kernel
theorem dL_need_2 : decode cL_need 2 = .ok (.aload_n 0, 1) := by decide +kernel
theorem dL_need_3 : decode cL_need 3 = .ok (.iload_n 1, 1) := by decide +kernel
theorem dL_need_4 : decode cL_need 4 = .ok (.invokevirtual 65, 3) := by decide +kernel
theorem dL_need_7 : decode cL_need 7 = .ok (.i2l, 1) := by decide +kernel
theorem dL_need_8 : decode cL_need 8 = .ok (.lastore, 1) := by decide +kernel
theorem dL_need_9 : decode cL_need 9 = .ok (.goto 6, 3) := by decide +kernel
theorem dL_need_12 : decode cL_need 12 = .ok (.astore_n 3, 1) := by decide +kernel
theorem dL_need_13 : decode cL_need 13 = .ok (.iconst 1, 1) := by decide +kernel
theorem dL_need_14 : decode cL_need 14 = .ok (.ireturn, 1) := by decide +kernel
theorem dL_need_15 : decode cL_need 15 = .ok (.iconst 0, 1) := by decide +kernel
theorem dL_need_16 : decode cL_need 16 = .ok (.ireturn, 1) := by decide +kernel
theorem dL_thing_0 : decode cL_thing 0 = .ok (.aload_n 3, 1) := by decide +kernel
theorem dL_thing_1 : decode cL_thing 1 = .ok (.iconst 0, 1) := by decide +kernel
theorem dL_thing_2 : decode cL_thing 2 = .ok (.aload_n 0, 1) := by decide +kernel
theorem dL_thing_3 : decode cL_thing 3 = .ok (.iload_n 1, 1) := by decide +kernel
theorem dL_thing_4 : decode cL_thing 4 = .ok (.iload_n 2, 1) := by decide +kernel
theorem dL_thing_5 : decode cL_thing 5 = .ok (.invokevirtual 68, 3) := by decide +kernel
theorem dL_thing_8 : decode cL_thing 8 = .ok (.i2l, 1) := by decide +kernel
theorem dL_thing_9 : decode cL_thing 9 = .ok (.lastore, 1) := by decide +kernel
theorem dL_thing_10 : decode cL_thing 10 = .ok (.goto 11, 3) := by decide +kernel
theorem dL_thing_13 : decode cL_thing 13 = .ok (.astore 4, 2) := by decide +kernel
theorem dL_thing_15 : decode cL_thing 15 = .ok (.iconst 1, 1) := by decide +kernel
theorem dL_thing_16 : decode cL_thing 16 = .ok (.ireturn, 1) := by decide +kernel
theorem dL_thing_17 : decode cL_thing 17 = .ok (.astore 4, 2) := by decide +kernel
theorem dL_thing_19 : decode cL_thing 19 = .ok (.iconst 2, 1) := by decide +kernel
theorem dL_thing_20 : decode cL_thing 20 = .ok (.ireturn, 1) := by decide +kernel
theorem dL_thing_21 : decode cL_thing 21 = .ok (.iconst 0, 1) := by decide +kernel
theorem dL_thing_22 : decode cL_thing 22 = .ok (.ireturn, 1) := by decide +kernel
theorem dL_angle_0 : decode cL_angle 0 = .ok (.aload_n 2, 1) := by decide +kernel
theorem dL_angle_1 : decode cL_angle 1 = .ok (.iconst 0, 1) := by decide +kernel
theorem dL_angle_2 : decode cL_angle 2 = .ok (.aload_n 0, 1) := by decide +kernel
theorem dL_angle_3 : decode cL_angle 3 = .ok (.iload_n 1, 1) := by decide +kernel
theorem dL_angle_4 : decode cL_angle 4 = .ok (.invokevirtual 71, 3) := by decide +kernel
theorem dL_angle_7 : decode cL_angle 7 = .ok (.i2l, 1) := by decide +kernel
theorem dL_angle_8 : decode cL_angle 8 = .ok (.lastore, 1) := by decide +kernel
theorem dL_angle_9 : decode cL_angle 9 = .ok (.goto 6, 3) := by decide +kernel
theorem dL_angle_12 : decode cL_angle 12 = .ok (.astore_n 3, 1) := by decide +kernel
theorem dL_angle_13 : decode cL_angle 13 = .ok (.iconst 1, 1) := by decide +kernel
theorem dL_angle_14 : decode cL_angle 14 = .ok (.ireturn, 1) := by decide +kernel
theorem dL_angle_15 : decode cL_angle 15 = .ok (.iconst 0, 1) := by decide +kernel
theorem dL_angle_16 : decode cL_angle 16 = .ok (.ireturn, 1) := by decide +kernel
theorem dL_tank_0 : decode cL_tank 0 = .ok (.aload_n 2, 1) := by decide +kernel
theorem dL_tank_1 : decode cL_tank 1 = .ok (.iconst 0, 1) := by decide +kernel
theorem dL_tank_2 : decode cL_tank 2 = .ok (.aload_n 0, 1) := by decide +kernel
theorem dL_tank_3 : decode cL_tank 3 = .ok (.iload_n 1, 1) := by decide +kernel
theorem dL_tank_4 : decode cL_tank 4 = .ok (.invokevirtual 74, 3) := by decide +kernel
theorem dL_tank_7 : decode cL_tank 7 = .ok (.i2l, 1) := by decide +kernel
theorem dL_tank_8 : decode cL_tank 8 = .ok (.lastore, 1) := by decide +kernel
theorem dL_tank_9 : decode cL_tank 9 = .ok (.goto 6, 3) := by decide +kernel
theorem dL_tank_12 : decode cL_tank 12 = .ok (.astore_n 3, 1) := by decide +kernel
theorem dL_tank_13 : decode cL_tank 13 = .ok (.iconst 1, 1) := by decide +kernel
theorem dL_tank_14 : decode cL_tank 14 = .ok (.ireturn, 1) := by decide +kernel
theorem dL_tank_15 : decode cL_tank 15 = .ok (.iconst 0, 1) := by decide +kernel
theorem dL_tank_16 : decode cL_tank 16 = .ok (.ireturn, 1) := by decide +kernel
theorem dL_setting_0 : decode cL_setting 0 = .ok (.aload_n 2, 1) := by decide +kernel
theorem dL_setting_1 : decode cL_setting 1 = .ok (.iconst 0, 1) := by decide +kernel
theorem dL_setting_2 : decode cL_setting 2 = .ok (.aload_n 0, 1) := by decide +kernel
theorem dL_setting_3 : decode cL_setting 3 = .ok (.iload_n 1, 1) := by decide +kernel
theorem dL_setting_4 : decode cL_setting 4 = .ok (.invokevirtual 77, 3) := by decide +kernel
theorem dL_setting_7 : decode cL_setting 7 = .ok (.i2l, 1) := by decide +kernel
theorem dL_setting_8 : decode cL_setting 8 = .ok (.lastore, 1) := by decide +kernel
theorem dL_setting_9 : decode cL_setting 9 = .ok (.goto 6, 3) := by decide +kernel
theorem dL_setting_12 : decode cL_setting 12 = .ok (.astore_n 3, 1) := by decide +kernel
theorem dL_setting_13 : decode cL_setting 13 = .ok (.iconst 1, 1) := by decide +kernel
theorem dL_setting_14 : decode cL_setting 14 = .ok (.ireturn, 1) := by decide +kernel
theorem dL_setting_15 : decode cL_setting 15 = .ok (.iconst 0, 1) := by decide +kernel
theorem dL_setting_16 : decode cL_setting 16 = .ok (.ireturn, 1) := by decide +kernel
theorem dL_gauge_0 : decode cL_gauge 0 = .ok (.aload_n 2, 1) := by decide +kernel
theorem dL_gauge_1 : decode cL_gauge 1 = .ok (.iconst 0, 1) := by decide +kernel
theorem dL_gauge_2 : decode cL_gauge 2 = .ok (.aload_n 0, 1) := by decide +kernel
theorem dL_gauge_3 : decode cL_gauge 3 = .ok (.iload_n 1, 1) := by decide +kernel
theorem dL_gauge_4 : decode cL_gauge 4 = .ok (.invokevirtual 80, 3) := by decide +kernel
theorem dL_gauge_7 : decode cL_gauge 7 = .ok (.i2l, 1) := by decide +kernel
theorem dL_gauge_8 : decode cL_gauge 8 = .ok (.lastore, 1) := by decide +kernel
theorem dL_gauge_9 : decode cL_gauge 9 = .ok (.goto 6, 3) := by decide +kernel
theorem dL_gauge_12 : decode cL_gauge 12 = .ok (.astore_n 3, 1) := by decide +kernel
theorem dL_gauge_13 : decode cL_gauge 13 = .ok (.iconst 1, 1) := by decide +kernel
theorem dL_gauge_14 : decode cL_gauge 14 = .ok (.ireturn, 1) := by decide +kernel
theorem dL_gauge_15 : decode cL_gauge 15 = .ok (.iconst 0, 1) := by decide +kernel
theorem dL_gauge_16 : decode cL_gauge 16 = .ok (.ireturn, 1) := by decide +kernel
theorem dL_toldAfter_0 : decode cL_toldAfter 0 = .ok (.aload_n 2, 1) := by decide +kernel
theorem dL_toldAfter_1 : decode cL_toldAfter 1 = .ok (.iconst 0, 1) := by decide +kernel
theorem dL_toldAfter_2 : decode cL_toldAfter 2 = .ok (.aload_n 0, 1) := by decide +kernel
theorem dL_toldAfter_3 : decode cL_toldAfter 3 = .ok (.iload_n 1, 1) := by decide +kernel
theorem dL_toldAfter_4 : decode cL_toldAfter 4 = .ok (.invokevirtual 83, 3) := by decide +kernel
theorem dL_toldAfter_7 : decode cL_toldAfter 7 = .ok (.i2l, 1) := by decide +kernel
theorem dL_toldAfter_8 : decode cL_toldAfter 8 = .ok (.lastore, 1) := by decide +kernel
theorem dL_toldAfter_9 : decode cL_toldAfter 9 = .ok (.goto 6, 3) := by decide +kernel
theorem dL_toldAfter_12 : decode cL_toldAfter 12 = .ok (.astore_n 3, 1) := by decide +kernel
theorem dL_toldAfter_13 : decode cL_toldAfter 13 = .ok (.iconst 1, 1) := by decide +kernel
theorem dL_toldAfter_14 : decode cL_toldAfter 14 = .ok (.ireturn, 1) := by decide +kernel
theorem dL_toldAfter_15 : decode cL_toldAfter 15 = .ok (.iconst 0, 1) := by decide +kernel
theorem dL_toldAfter_16 : decode cL_toldAfter 16 = .ok (.ireturn, 1) := by decide +kernel
theorem dL_worstError_0 : decode cL_worstError 0 = .ok (.aload_n 2, 1) := by decide +kernel
theorem dL_worstError_1 : decode cL_worstError 1 = .ok (.iconst 0, 1) := by decide +kernel
theorem dL_worstError_2 : decode cL_worstError 2 = .ok (.aload_n 0, 1) := by decide +kernel
theorem dL_worstError_3 : decode cL_worstError 3 = .ok (.iload_n 1, 1) := by decide +kernel
theorem dL_worstError_4 : decode cL_worstError 4 = .ok (.invokevirtual 86, 3) := by decide +kernel
theorem dL_worstError_7 : decode cL_worstError 7 = .ok (.i2l, 1) := by decide +kernel
theorem dL_worstError_8 : decode cL_worstError 8 = .ok (.lastore, 1) := by decide +kernel
theorem dL_worstError_9 : decode cL_worstError 9 = .ok (.goto 6, 3) := by decide +kernel
theorem dL_worstError_12 : decode cL_worstError 12 = .ok (.astore_n 3, 1) := by decide +kernel
theorem dL_worstError_13 : decode cL_worstError 13 = .ok (.iconst 1, 1) := by decide +kernel
theorem dL_worstError_14 : decode cL_worstError 14 = .ok (.ireturn, 1) := by decide +kernel
theorem dL_worstError_15 : decode cL_worstError 15 = .ok (.iconst 0, 1) := by decide +kernel
theorem dL_worstError_16 : decode cL_worstError 16 = .ok (.ireturn, 1) := by decide +kernel
theorem dL_bestMode_0 : decode cL_bestMode 0 = .ok (.aload_n 2, 1) := by decide +kernel
theorem dL_bestMode_1 : decode cL_bestMode 1 = .ok (.iconst 0, 1) := by decide +kernel
theorem dL_bestMode_2 : decode cL_bestMode 2 = .ok (.aload_n 0, 1) := by decide +kernel
theorem dL_bestMode_3 : decode cL_bestMode 3 = .ok (.iload_n 1, 1) := by decide +kernel
theorem dL_bestMode_4 : decode cL_bestMode 4 = .ok (.invokevirtual 89, 3) := by decide +kernel
theorem dL_bestMode_7 : decode cL_bestMode 7 = .ok (.i2l, 1) := by decide +kernel
theorem dL_bestMode_8 : decode cL_bestMode 8 = .ok (.lastore, 1) := by decide +kernel
theorem dL_bestMode_9 : decode cL_bestMode 9 = .ok (.goto 6, 3) := by decide +kernel
theorem dL_bestMode_12 : decode cL_bestMode 12 = .ok (.astore_n 3, 1) := by decide +kernel
theorem dL_bestMode_13 : decode cL_bestMode 13 = .ok (.iconst 1, 1) := by decide +kernel
theorem dL_bestMode_14 : decode cL_bestMode 14 = .ok (.ireturn, 1) := by decide +kernel
theorem dL_bestMode_15 : decode cL_bestMode 15 = .ok (.iconst 0, 1) := by decide +kernel
theorem dL_bestMode_16 : decode cL_bestMode 16 = .ok (.ireturn, 1) := by decide +kernel
theorem dL_type_0 : decode cL_type 0 = .ok (.aload_n 2, 1) := by decide +kernel
theorem dL_type_1 : decode cL_type 1 = .ok (.iconst 0, 1) := by decide +kernel
theorem dL_type_2 : decode cL_type 2 = .ok (.aload_n 0, 1) := by decide +kernel
theorem dL_type_3 : decode cL_type 3 = .ok (.iload_n 1, 1) := by decide +kernel
theorem dL_type_4 : decode cL_type 4 = .ok (.invokevirtual 92, 3) := by decide +kernel
theorem dL_type_7 : decode cL_type 7 = .ok (.i2l, 1) := by decide +kernel
theorem dL_type_8 : decode cL_type 8 = .ok (.lastore, 1) := by decide +kernel
theorem dL_type_9 : decode cL_type 9 = .ok (.goto 9, 3) := by decide +kernel
theorem dL_type_12 : decode cL_type 12 = .ok (.astore_n 3, 1) := by decide +kernel
theorem dL_type_13 : decode cL_type 13 = .ok (.iconst 1, 1) := by decide +kernel
theorem dL_type_14 : decode cL_type 14 = .ok (.ireturn, 1) := by decide +kernel
theorem dL_type_15 : decode cL_type 15 = .ok (.astore_n 3, 1) := by decide +kernel
theorem dL_type_16 : decode cL_type 16 = .ok (.iconst 2, 1) := by decide +kernel
theorem dL_type_17 : decode cL_type 17 = .ok (.ireturn, 1) := by decide +kernel
theorem dL_type_18 : decode cL_type 18 = .ok (.iconst 0, 1) := by decide +kernel
theorem dL_type_19 : decode cL_type 19 = .ok (.ireturn, 1) := by decide +kernel
theorem dL_undo_0 : decode cL_undo 0 = .ok (.aload_n 1, 1) := by decide +kernel
theorem dL_undo_1 : decode cL_undo 1 = .ok (.iconst 0, 1) := by decide +kernel
theorem dL_undo_2 : decode cL_undo 2 = .ok (.aload_n 0, 1) := by decide +kernel
theorem dL_undo_3 : decode cL_undo 3 = .ok (.invokevirtual 95, 3) := by decide +kernel
theorem dL_undo_6 : decode cL_undo 6 = .ok (.i2l, 1) := by decide +kernel
theorem dL_undo_7 : decode cL_undo 7 = .ok (.lastore, 1) := by decide +kernel
theorem dL_undo_8 : decode cL_undo 8 = .ok (.goto 6, 3) := by decide +kernel
theorem dL_undo_11 : decode cL_undo 11 = .ok (.astore_n 2, 1) := by decide +kernel
theorem dL_undo_12 : decode cL_undo 12 = .ok (.iconst 1, 1) := by decide +kernel
theorem dL_undo_13 : decode cL_undo 13 = .ok (.ireturn, 1) := by decide +kernel
theorem dL_undo_14 : decode cL_undo 14 = .ok (.iconst 0, 1) := by decide +kernel
theorem dL_undo_15 : decode cL_undo 15 = .ok (.ireturn, 1) := by decide +kernel
theorem dL_law_0 : decode cL_law 0 = .ok (.new 8, 3) := by decide +kernel
theorem dL_law_3 : decode cL_law 3 = .ok (.dup, 1) := by decide +kernel
theorem dL_law_4 : decode cL_law 4 = .ok (.invokespecial 99, 3) := by decide +kernel
theorem dL_law_7 : decode cL_law 7 = .ok (.astore_n 1, 1) := by decide +kernel
theorem dL_law_8 : decode cL_law 8 = .ok (.new 100, 3) := by decide +kernel
theorem dL_law_11 : decode cL_law 11 = .ok (.dup, 1) := by decide +kernel
theorem dL_law_12 : decode cL_law 12 = .ok (.invokespecial 102, 3) := by decide +kernel
theorem dL_law_15 : decode cL_law 15 = .ok (.astore_n 2, 1) := by decide +kernel
theorem dL_law_16 : decode cL_law 16 = .ok (.iconst 1, 1) := by decide +kernel
theorem dL_law_17 : decode cL_law 17 = .ok (.newarray .long, 2) := by decide +kernel
theorem dL_law_19 : decode cL_law 19 = .ok (.astore_n 3, 1) := by decide +kernel
theorem dL_law_20 : decode cL_law 20 = .ok (.iconst 0, 1) := by decide +kernel
theorem dL_law_21 : decode cL_law 21 = .ok (.istore 4, 2) := by decide +kernel
theorem dL_law_23 : decode cL_law 23 = .ok (.iload 4, 2) := by decide +kernel
theorem dL_law_25 : decode cL_law 25 = .ok (.aload_n 0, 1) := by decide +kernel
theorem dL_law_26 : decode cL_law 26 = .ok (.arraylength, 1) := by decide +kernel
theorem dL_law_27 : decode cL_law 27 = .ok (.bipush 6, 2) := by decide +kernel
theorem dL_law_29 : decode cL_law 29 = .ok (.isub, 1) := by decide +kernel
theorem dL_law_30 : decode cL_law 30 = .ok (.if_icmp .gt 1825, 3) := by decide +kernel
theorem dL_law_33 : decode cL_law 33 = .ok (.aload_n 0, 1) := by decide +kernel
theorem dL_law_34 : decode cL_law 34 = .ok (.iload 4, 2) := by decide +kernel
theorem dL_law_36 : decode cL_law 36 = .ok (.iaload, 1) := by decide +kernel
theorem dL_law_37 : decode cL_law 37 = .ok (.bipush 31, 2) := by decide +kernel
theorem dL_law_39 : decode cL_law 39 = .ok (.iand, 1) := by decide +kernel
theorem dL_law_40 : decode cL_law 40 = .ok (.tableswitch 1809 0 30 #[140, 196, 252, 308, 364, 432, 488, 592, 660, 716, 800, 856, 869, 925, 993, 1049, 1112, 1168, 1236, 1292, 1348, 1404, 1460, 1501, 1557, 1613, 1669, 1725, 1738, 1751, 1795], 140) := by decide +kernel
theorem dL_law_180 : decode cL_law 180 = .ok (.aload_n 1, 1) := by decide +kernel
theorem dL_law_181 : decode cL_law 181 = .ok (.aload_n 0, 1) := by decide +kernel
theorem dL_law_182 : decode cL_law 182 = .ok (.iload 4, 2) := by decide +kernel
theorem dL_law_184 : decode cL_law 184 = .ok (.iconst 1, 1) := by decide +kernel
theorem dL_law_185 : decode cL_law 185 = .ok (.iadd, 1) := by decide +kernel
theorem dL_law_186 : decode cL_law 186 = .ok (.iaload, 1) := by decide +kernel
theorem dL_law_187 : decode cL_law 187 = .ok (.aload_n 3, 1) := by decide +kernel
theorem dL_law_188 : decode cL_law 188 = .ok (.invokestatic 103, 3) := by decide +kernel
theorem dL_law_191 : decode cL_law 191 = .ok (.istore 5, 2) := by decide +kernel
theorem dL_law_193 : decode cL_law 193 = .ok (.aload_n 2, 1) := by decide +kernel
theorem dL_law_194 : decode cL_law 194 = .ok (.aload_n 0, 1) := by decide +kernel
theorem dL_law_195 : decode cL_law 195 = .ok (.iload 4, 2) := by decide +kernel
theorem dL_law_197 : decode cL_law 197 = .ok (.iconst 1, 1) := by decide +kernel
theorem dL_law_198 : decode cL_law 198 = .ok (.iadd, 1) := by decide +kernel
theorem dL_law_199 : decode cL_law 199 = .ok (.iaload, 1) := by decide +kernel
theorem dL_law_200 : decode cL_law 200 = .ok (.invokevirtual 108, 3) := by decide +kernel
theorem dL_law_203 : decode cL_law 203 = .ok (.istore 6, 2) := by decide +kernel
theorem dL_law_205 : decode cL_law 205 = .ok (.aload_n 2, 1) := by decide +kernel
theorem dL_law_206 : decode cL_law 206 = .ok (.invokevirtual 109, 3) := by decide +kernel
theorem dL_law_209 : decode cL_law 209 = .ok (.iload 5, 2) := by decide +kernel
theorem dL_law_211 : decode cL_law 211 = .ok (.if_icmp .eq 5, 3) := by decide +kernel
theorem dL_law_214 : decode cL_law 214 = .ok (.iconst 0, 1) := by decide +kernel
theorem dL_law_215 : decode cL_law 215 = .ok (.ireturn, 1) := by decide +kernel
theorem dL_law_216 : decode cL_law 216 = .ok (.iload 5, 2) := by decide +kernel
theorem dL_law_218 : decode cL_law 218 = .ok (.ifCond .ne 15, 3) := by decide +kernel
theorem dL_law_221 : decode cL_law 221 = .ok (.aload_n 3, 1) := by decide +kernel
theorem dL_law_222 : decode cL_law 222 = .ok (.iconst 0, 1) := by decide +kernel
theorem dL_law_223 : decode cL_law 223 = .ok (.laload, 1) := by decide +kernel
theorem dL_law_224 : decode cL_law 224 = .ok (.iload 6, 2) := by decide +kernel
theorem dL_law_226 : decode cL_law 226 = .ok (.i2l, 1) := by decide +kernel
theorem dL_law_227 : decode cL_law 227 = .ok (.lcmp, 1) := by decide +kernel
theorem dL_law_228 : decode cL_law 228 = .ok (.ifCond .eq 5, 3) := by decide +kernel
theorem dL_law_231 : decode cL_law 231 = .ok (.iconst 0, 1) := by decide +kernel
theorem dL_law_232 : decode cL_law 232 = .ok (.ireturn, 1) := by decide +kernel
theorem dL_law_233 : decode cL_law 233 = .ok (.goto 1616, 3) := by decide +kernel
theorem dL_law_236 : decode cL_law 236 = .ok (.aload_n 1, 1) := by decide +kernel
theorem dL_law_237 : decode cL_law 237 = .ok (.aload_n 0, 1) := by decide +kernel
theorem dL_law_238 : decode cL_law 238 = .ok (.iload 4, 2) := by decide +kernel
theorem dL_law_240 : decode cL_law 240 = .ok (.iconst 1, 1) := by decide +kernel
theorem dL_law_241 : decode cL_law 241 = .ok (.iadd, 1) := by decide +kernel
theorem dL_law_242 : decode cL_law 242 = .ok (.iaload, 1) := by decide +kernel
theorem dL_law_243 : decode cL_law 243 = .ok (.aload_n 3, 1) := by decide +kernel
theorem dL_law_244 : decode cL_law 244 = .ok (.invokestatic 112, 3) := by decide +kernel
theorem dL_law_247 : decode cL_law 247 = .ok (.istore 5, 2) := by decide +kernel
theorem dL_law_249 : decode cL_law 249 = .ok (.aload_n 2, 1) := by decide +kernel
theorem dL_law_250 : decode cL_law 250 = .ok (.aload_n 0, 1) := by decide +kernel
theorem dL_law_251 : decode cL_law 251 = .ok (.iload 4, 2) := by decide +kernel
theorem dL_law_253 : decode cL_law 253 = .ok (.iconst 1, 1) := by decide +kernel
theorem dL_law_254 : decode cL_law 254 = .ok (.iadd, 1) := by decide +kernel
theorem dL_law_255 : decode cL_law 255 = .ok (.iaload, 1) := by decide +kernel
theorem dL_law_256 : decode cL_law 256 = .ok (.invokevirtual 114, 3) := by decide +kernel
theorem dL_law_259 : decode cL_law 259 = .ok (.istore 6, 2) := by decide +kernel
theorem dL_law_261 : decode cL_law 261 = .ok (.aload_n 2, 1) := by decide +kernel
theorem dL_law_262 : decode cL_law 262 = .ok (.invokevirtual 109, 3) := by decide +kernel
theorem dL_law_265 : decode cL_law 265 = .ok (.iload 5, 2) := by decide +kernel
theorem dL_law_267 : decode cL_law 267 = .ok (.if_icmp .eq 5, 3) := by decide +kernel
theorem dL_law_270 : decode cL_law 270 = .ok (.iconst 0, 1) := by decide +kernel
theorem dL_law_271 : decode cL_law 271 = .ok (.ireturn, 1) := by decide +kernel
theorem dL_law_272 : decode cL_law 272 = .ok (.iload 5, 2) := by decide +kernel
theorem dL_law_274 : decode cL_law 274 = .ok (.ifCond .ne 15, 3) := by decide +kernel
theorem dL_law_277 : decode cL_law 277 = .ok (.aload_n 3, 1) := by decide +kernel
theorem dL_law_278 : decode cL_law 278 = .ok (.iconst 0, 1) := by decide +kernel
theorem dL_law_279 : decode cL_law 279 = .ok (.laload, 1) := by decide +kernel
theorem dL_law_280 : decode cL_law 280 = .ok (.iload 6, 2) := by decide +kernel
theorem dL_law_282 : decode cL_law 282 = .ok (.i2l, 1) := by decide +kernel
theorem dL_law_283 : decode cL_law 283 = .ok (.lcmp, 1) := by decide +kernel
theorem dL_law_284 : decode cL_law 284 = .ok (.ifCond .eq 5, 3) := by decide +kernel
theorem dL_law_287 : decode cL_law 287 = .ok (.iconst 0, 1) := by decide +kernel
theorem dL_law_288 : decode cL_law 288 = .ok (.ireturn, 1) := by decide +kernel
theorem dL_law_289 : decode cL_law 289 = .ok (.goto 1560, 3) := by decide +kernel
theorem dL_law_292 : decode cL_law 292 = .ok (.aload_n 1, 1) := by decide +kernel
theorem dL_law_293 : decode cL_law 293 = .ok (.aload_n 0, 1) := by decide +kernel
theorem dL_law_294 : decode cL_law 294 = .ok (.iload 4, 2) := by decide +kernel
theorem dL_law_296 : decode cL_law 296 = .ok (.iconst 1, 1) := by decide +kernel
theorem dL_law_297 : decode cL_law 297 = .ok (.iadd, 1) := by decide +kernel
theorem dL_law_298 : decode cL_law 298 = .ok (.iaload, 1) := by decide +kernel
theorem dL_law_299 : decode cL_law 299 = .ok (.aload_n 3, 1) := by decide +kernel
theorem dL_law_300 : decode cL_law 300 = .ok (.invokestatic 115, 3) := by decide +kernel
theorem dL_law_303 : decode cL_law 303 = .ok (.istore 5, 2) := by decide +kernel
theorem dL_law_305 : decode cL_law 305 = .ok (.aload_n 2, 1) := by decide +kernel
theorem dL_law_306 : decode cL_law 306 = .ok (.aload_n 0, 1) := by decide +kernel
theorem dL_law_307 : decode cL_law 307 = .ok (.iload 4, 2) := by decide +kernel
theorem dL_law_309 : decode cL_law 309 = .ok (.iconst 1, 1) := by decide +kernel
theorem dL_law_310 : decode cL_law 310 = .ok (.iadd, 1) := by decide +kernel
theorem dL_law_311 : decode cL_law 311 = .ok (.iaload, 1) := by decide +kernel
theorem dL_law_312 : decode cL_law 312 = .ok (.invokevirtual 117, 3) := by decide +kernel
theorem dL_law_315 : decode cL_law 315 = .ok (.istore 6, 2) := by decide +kernel
theorem dL_law_317 : decode cL_law 317 = .ok (.aload_n 2, 1) := by decide +kernel
theorem dL_law_318 : decode cL_law 318 = .ok (.invokevirtual 109, 3) := by decide +kernel
theorem dL_law_321 : decode cL_law 321 = .ok (.iload 5, 2) := by decide +kernel
theorem dL_law_323 : decode cL_law 323 = .ok (.if_icmp .eq 5, 3) := by decide +kernel
theorem dL_law_326 : decode cL_law 326 = .ok (.iconst 0, 1) := by decide +kernel
theorem dL_law_327 : decode cL_law 327 = .ok (.ireturn, 1) := by decide +kernel
theorem dL_law_328 : decode cL_law 328 = .ok (.iload 5, 2) := by decide +kernel
theorem dL_law_330 : decode cL_law 330 = .ok (.ifCond .ne 15, 3) := by decide +kernel
theorem dL_law_333 : decode cL_law 333 = .ok (.aload_n 3, 1) := by decide +kernel
theorem dL_law_334 : decode cL_law 334 = .ok (.iconst 0, 1) := by decide +kernel
theorem dL_law_335 : decode cL_law 335 = .ok (.laload, 1) := by decide +kernel
theorem dL_law_336 : decode cL_law 336 = .ok (.iload 6, 2) := by decide +kernel
theorem dL_law_338 : decode cL_law 338 = .ok (.i2l, 1) := by decide +kernel
theorem dL_law_339 : decode cL_law 339 = .ok (.lcmp, 1) := by decide +kernel
theorem dL_law_340 : decode cL_law 340 = .ok (.ifCond .eq 5, 3) := by decide +kernel
theorem dL_law_343 : decode cL_law 343 = .ok (.iconst 0, 1) := by decide +kernel
theorem dL_law_344 : decode cL_law 344 = .ok (.ireturn, 1) := by decide +kernel
theorem dL_law_345 : decode cL_law 345 = .ok (.goto 1504, 3) := by decide +kernel
theorem dL_law_348 : decode cL_law 348 = .ok (.aload_n 1, 1) := by decide +kernel
theorem dL_law_349 : decode cL_law 349 = .ok (.aload_n 0, 1) := by decide +kernel
theorem dL_law_350 : decode cL_law 350 = .ok (.iload 4, 2) := by decide +kernel
theorem dL_law_352 : decode cL_law 352 = .ok (.iconst 1, 1) := by decide +kernel
theorem dL_law_353 : decode cL_law 353 = .ok (.iadd, 1) := by decide +kernel
theorem dL_law_354 : decode cL_law 354 = .ok (.iaload, 1) := by decide +kernel
theorem dL_law_355 : decode cL_law 355 = .ok (.aload_n 3, 1) := by decide +kernel
theorem dL_law_356 : decode cL_law 356 = .ok (.invokestatic 118, 3) := by decide +kernel
theorem dL_law_359 : decode cL_law 359 = .ok (.istore 5, 2) := by decide +kernel
theorem dL_law_361 : decode cL_law 361 = .ok (.aload_n 2, 1) := by decide +kernel
theorem dL_law_362 : decode cL_law 362 = .ok (.aload_n 0, 1) := by decide +kernel
theorem dL_law_363 : decode cL_law 363 = .ok (.iload 4, 2) := by decide +kernel
theorem dL_law_365 : decode cL_law 365 = .ok (.iconst 1, 1) := by decide +kernel
theorem dL_law_366 : decode cL_law 366 = .ok (.iadd, 1) := by decide +kernel
theorem dL_law_367 : decode cL_law 367 = .ok (.iaload, 1) := by decide +kernel
theorem dL_law_368 : decode cL_law 368 = .ok (.invokevirtual 120, 3) := by decide +kernel
theorem dL_law_371 : decode cL_law 371 = .ok (.istore 6, 2) := by decide +kernel
theorem dL_law_373 : decode cL_law 373 = .ok (.aload_n 2, 1) := by decide +kernel
theorem dL_law_374 : decode cL_law 374 = .ok (.invokevirtual 109, 3) := by decide +kernel
theorem dL_law_377 : decode cL_law 377 = .ok (.iload 5, 2) := by decide +kernel
theorem dL_law_379 : decode cL_law 379 = .ok (.if_icmp .eq 5, 3) := by decide +kernel
theorem dL_law_382 : decode cL_law 382 = .ok (.iconst 0, 1) := by decide +kernel
theorem dL_law_383 : decode cL_law 383 = .ok (.ireturn, 1) := by decide +kernel
theorem dL_law_384 : decode cL_law 384 = .ok (.iload 5, 2) := by decide +kernel
theorem dL_law_386 : decode cL_law 386 = .ok (.ifCond .ne 15, 3) := by decide +kernel
theorem dL_law_389 : decode cL_law 389 = .ok (.aload_n 3, 1) := by decide +kernel
theorem dL_law_390 : decode cL_law 390 = .ok (.iconst 0, 1) := by decide +kernel
theorem dL_law_391 : decode cL_law 391 = .ok (.laload, 1) := by decide +kernel
theorem dL_law_392 : decode cL_law 392 = .ok (.iload 6, 2) := by decide +kernel
theorem dL_law_394 : decode cL_law 394 = .ok (.i2l, 1) := by decide +kernel
theorem dL_law_395 : decode cL_law 395 = .ok (.lcmp, 1) := by decide +kernel
theorem dL_law_396 : decode cL_law 396 = .ok (.ifCond .eq 5, 3) := by decide +kernel
theorem dL_law_399 : decode cL_law 399 = .ok (.iconst 0, 1) := by decide +kernel
theorem dL_law_400 : decode cL_law 400 = .ok (.ireturn, 1) := by decide +kernel
theorem dL_law_401 : decode cL_law 401 = .ok (.goto 1448, 3) := by decide +kernel
theorem dL_law_404 : decode cL_law 404 = .ok (.aload_n 1, 1) := by decide +kernel
theorem dL_law_405 : decode cL_law 405 = .ok (.aload_n 0, 1) := by decide +kernel
theorem dL_law_406 : decode cL_law 406 = .ok (.iload 4, 2) := by decide +kernel
theorem dL_law_408 : decode cL_law 408 = .ok (.iconst 1, 1) := by decide +kernel
theorem dL_law_409 : decode cL_law 409 = .ok (.iadd, 1) := by decide +kernel
theorem dL_law_410 : decode cL_law 410 = .ok (.iaload, 1) := by decide +kernel
theorem dL_law_411 : decode cL_law 411 = .ok (.aload_n 0, 1) := by decide +kernel
theorem dL_law_412 : decode cL_law 412 = .ok (.iload 4, 2) := by decide +kernel
theorem dL_law_414 : decode cL_law 414 = .ok (.iconst 2, 1) := by decide +kernel
theorem dL_law_415 : decode cL_law 415 = .ok (.iadd, 1) := by decide +kernel
theorem dL_law_416 : decode cL_law 416 = .ok (.iaload, 1) := by decide +kernel
theorem dL_law_417 : decode cL_law 417 = .ok (.aload_n 3, 1) := by decide +kernel
theorem dL_law_418 : decode cL_law 418 = .ok (.invokestatic 121, 3) := by decide +kernel
theorem dL_law_421 : decode cL_law 421 = .ok (.istore 5, 2) := by decide +kernel
theorem dL_law_423 : decode cL_law 423 = .ok (.aload_n 2, 1) := by decide +kernel
theorem dL_law_424 : decode cL_law 424 = .ok (.aload_n 0, 1) := by decide +kernel
theorem dL_law_425 : decode cL_law 425 = .ok (.iload 4, 2) := by decide +kernel
theorem dL_law_427 : decode cL_law 427 = .ok (.iconst 1, 1) := by decide +kernel
theorem dL_law_428 : decode cL_law 428 = .ok (.iadd, 1) := by decide +kernel
theorem dL_law_429 : decode cL_law 429 = .ok (.iaload, 1) := by decide +kernel
theorem dL_law_430 : decode cL_law 430 = .ok (.aload_n 0, 1) := by decide +kernel
theorem dL_law_431 : decode cL_law 431 = .ok (.iload 4, 2) := by decide +kernel
theorem dL_law_433 : decode cL_law 433 = .ok (.iconst 2, 1) := by decide +kernel
theorem dL_law_434 : decode cL_law 434 = .ok (.iadd, 1) := by decide +kernel
theorem dL_law_435 : decode cL_law 435 = .ok (.iaload, 1) := by decide +kernel
theorem dL_law_436 : decode cL_law 436 = .ok (.invokevirtual 124, 3) := by decide +kernel
theorem dL_law_439 : decode cL_law 439 = .ok (.istore 6, 2) := by decide +kernel
theorem dL_law_441 : decode cL_law 441 = .ok (.aload_n 2, 1) := by decide +kernel
theorem dL_law_442 : decode cL_law 442 = .ok (.invokevirtual 109, 3) := by decide +kernel
theorem dL_law_445 : decode cL_law 445 = .ok (.iload 5, 2) := by decide +kernel
theorem dL_law_447 : decode cL_law 447 = .ok (.if_icmp .eq 5, 3) := by decide +kernel
theorem dL_law_450 : decode cL_law 450 = .ok (.iconst 0, 1) := by decide +kernel
theorem dL_law_451 : decode cL_law 451 = .ok (.ireturn, 1) := by decide +kernel
theorem dL_law_452 : decode cL_law 452 = .ok (.iload 5, 2) := by decide +kernel
theorem dL_law_454 : decode cL_law 454 = .ok (.ifCond .ne 15, 3) := by decide +kernel
theorem dL_law_457 : decode cL_law 457 = .ok (.aload_n 3, 1) := by decide +kernel
theorem dL_law_458 : decode cL_law 458 = .ok (.iconst 0, 1) := by decide +kernel
theorem dL_law_459 : decode cL_law 459 = .ok (.laload, 1) := by decide +kernel
theorem dL_law_460 : decode cL_law 460 = .ok (.iload 6, 2) := by decide +kernel
theorem dL_law_462 : decode cL_law 462 = .ok (.i2l, 1) := by decide +kernel
theorem dL_law_463 : decode cL_law 463 = .ok (.lcmp, 1) := by decide +kernel
theorem dL_law_464 : decode cL_law 464 = .ok (.ifCond .eq 5, 3) := by decide +kernel
theorem dL_law_467 : decode cL_law 467 = .ok (.iconst 0, 1) := by decide +kernel
theorem dL_law_468 : decode cL_law 468 = .ok (.ireturn, 1) := by decide +kernel
theorem dL_law_469 : decode cL_law 469 = .ok (.goto 1380, 3) := by decide +kernel
theorem dL_law_472 : decode cL_law 472 = .ok (.aload_n 1, 1) := by decide +kernel
theorem dL_law_473 : decode cL_law 473 = .ok (.aload_n 0, 1) := by decide +kernel
theorem dL_law_474 : decode cL_law 474 = .ok (.iload 4, 2) := by decide +kernel
theorem dL_law_476 : decode cL_law 476 = .ok (.iconst 1, 1) := by decide +kernel
theorem dL_law_477 : decode cL_law 477 = .ok (.iadd, 1) := by decide +kernel
theorem dL_law_478 : decode cL_law 478 = .ok (.iaload, 1) := by decide +kernel
theorem dL_law_479 : decode cL_law 479 = .ok (.aload_n 3, 1) := by decide +kernel
theorem dL_law_480 : decode cL_law 480 = .ok (.invokestatic 125, 3) := by decide +kernel
theorem dL_law_483 : decode cL_law 483 = .ok (.istore 5, 2) := by decide +kernel
theorem dL_law_485 : decode cL_law 485 = .ok (.aload_n 2, 1) := by decide +kernel
theorem dL_law_486 : decode cL_law 486 = .ok (.aload_n 0, 1) := by decide +kernel
theorem dL_law_487 : decode cL_law 487 = .ok (.iload 4, 2) := by decide +kernel
theorem dL_law_489 : decode cL_law 489 = .ok (.iconst 1, 1) := by decide +kernel
theorem dL_law_490 : decode cL_law 490 = .ok (.iadd, 1) := by decide +kernel
theorem dL_law_491 : decode cL_law 491 = .ok (.iaload, 1) := by decide +kernel
theorem dL_law_492 : decode cL_law 492 = .ok (.invokevirtual 127, 3) := by decide +kernel
theorem dL_law_495 : decode cL_law 495 = .ok (.istore 6, 2) := by decide +kernel
theorem dL_law_497 : decode cL_law 497 = .ok (.aload_n 2, 1) := by decide +kernel
theorem dL_law_498 : decode cL_law 498 = .ok (.invokevirtual 109, 3) := by decide +kernel
theorem dL_law_501 : decode cL_law 501 = .ok (.iload 5, 2) := by decide +kernel
theorem dL_law_503 : decode cL_law 503 = .ok (.if_icmp .eq 5, 3) := by decide +kernel
theorem dL_law_506 : decode cL_law 506 = .ok (.iconst 0, 1) := by decide +kernel
theorem dL_law_507 : decode cL_law 507 = .ok (.ireturn, 1) := by decide +kernel
theorem dL_law_508 : decode cL_law 508 = .ok (.iload 5, 2) := by decide +kernel
theorem dL_law_510 : decode cL_law 510 = .ok (.ifCond .ne 15, 3) := by decide +kernel
theorem dL_law_513 : decode cL_law 513 = .ok (.aload_n 3, 1) := by decide +kernel
theorem dL_law_514 : decode cL_law 514 = .ok (.iconst 0, 1) := by decide +kernel
theorem dL_law_515 : decode cL_law 515 = .ok (.laload, 1) := by decide +kernel
theorem dL_law_516 : decode cL_law 516 = .ok (.iload 6, 2) := by decide +kernel
theorem dL_law_518 : decode cL_law 518 = .ok (.i2l, 1) := by decide +kernel
theorem dL_law_519 : decode cL_law 519 = .ok (.lcmp, 1) := by decide +kernel
theorem dL_law_520 : decode cL_law 520 = .ok (.ifCond .eq 5, 3) := by decide +kernel
theorem dL_law_523 : decode cL_law 523 = .ok (.iconst 0, 1) := by decide +kernel
theorem dL_law_524 : decode cL_law 524 = .ok (.ireturn, 1) := by decide +kernel
theorem dL_law_525 : decode cL_law 525 = .ok (.goto 1324, 3) := by decide +kernel
theorem dL_law_528 : decode cL_law 528 = .ok (.aload_n 1, 1) := by decide +kernel
theorem dL_law_529 : decode cL_law 529 = .ok (.aload_n 0, 1) := by decide +kernel
theorem dL_law_530 : decode cL_law 530 = .ok (.iload 4, 2) := by decide +kernel
theorem dL_law_532 : decode cL_law 532 = .ok (.iconst 1, 1) := by decide +kernel
theorem dL_law_533 : decode cL_law 533 = .ok (.iadd, 1) := by decide +kernel
theorem dL_law_534 : decode cL_law 534 = .ok (.iaload, 1) := by decide +kernel
theorem dL_law_535 : decode cL_law 535 = .ok (.aload_n 0, 1) := by decide +kernel
theorem dL_law_536 : decode cL_law 536 = .ok (.iload 4, 2) := by decide +kernel
theorem dL_law_538 : decode cL_law 538 = .ok (.iconst 2, 1) := by decide +kernel
theorem dL_law_539 : decode cL_law 539 = .ok (.iadd, 1) := by decide +kernel
theorem dL_law_540 : decode cL_law 540 = .ok (.iaload, 1) := by decide +kernel
theorem dL_law_541 : decode cL_law 541 = .ok (.aload_n 0, 1) := by decide +kernel
theorem dL_law_542 : decode cL_law 542 = .ok (.iload 4, 2) := by decide +kernel
theorem dL_law_544 : decode cL_law 544 = .ok (.iconst 3, 1) := by decide +kernel
theorem dL_law_545 : decode cL_law 545 = .ok (.iadd, 1) := by decide +kernel
theorem dL_law_546 : decode cL_law 546 = .ok (.iaload, 1) := by decide +kernel
theorem dL_law_547 : decode cL_law 547 = .ok (.aload_n 0, 1) := by decide +kernel
theorem dL_law_548 : decode cL_law 548 = .ok (.iload 4, 2) := by decide +kernel
theorem dL_law_550 : decode cL_law 550 = .ok (.iconst 4, 1) := by decide +kernel
theorem dL_law_551 : decode cL_law 551 = .ok (.iadd, 1) := by decide +kernel
theorem dL_law_552 : decode cL_law 552 = .ok (.iaload, 1) := by decide +kernel
theorem dL_law_553 : decode cL_law 553 = .ok (.aload_n 0, 1) := by decide +kernel
theorem dL_law_554 : decode cL_law 554 = .ok (.iload 4, 2) := by decide +kernel
theorem dL_law_556 : decode cL_law 556 = .ok (.iconst 5, 1) := by decide +kernel
theorem dL_law_557 : decode cL_law 557 = .ok (.iadd, 1) := by decide +kernel
theorem dL_law_558 : decode cL_law 558 = .ok (.iaload, 1) := by decide +kernel
theorem dL_law_559 : decode cL_law 559 = .ok (.aload_n 3, 1) := by decide +kernel
theorem dL_law_560 : decode cL_law 560 = .ok (.invokestatic 128, 3) := by decide +kernel
theorem dL_law_563 : decode cL_law 563 = .ok (.istore 5, 2) := by decide +kernel
theorem dL_law_565 : decode cL_law 565 = .ok (.aload_n 2, 1) := by decide +kernel
theorem dL_law_566 : decode cL_law 566 = .ok (.aload_n 0, 1) := by decide +kernel
theorem dL_law_567 : decode cL_law 567 = .ok (.iload 4, 2) := by decide +kernel
theorem dL_law_569 : decode cL_law 569 = .ok (.iconst 1, 1) := by decide +kernel
theorem dL_law_570 : decode cL_law 570 = .ok (.iadd, 1) := by decide +kernel
theorem dL_law_571 : decode cL_law 571 = .ok (.iaload, 1) := by decide +kernel
theorem dL_law_572 : decode cL_law 572 = .ok (.aload_n 0, 1) := by decide +kernel
theorem dL_law_573 : decode cL_law 573 = .ok (.iload 4, 2) := by decide +kernel
theorem dL_law_575 : decode cL_law 575 = .ok (.iconst 2, 1) := by decide +kernel
theorem dL_law_576 : decode cL_law 576 = .ok (.iadd, 1) := by decide +kernel
theorem dL_law_577 : decode cL_law 577 = .ok (.iaload, 1) := by decide +kernel
theorem dL_law_578 : decode cL_law 578 = .ok (.aload_n 0, 1) := by decide +kernel
theorem dL_law_579 : decode cL_law 579 = .ok (.iload 4, 2) := by decide +kernel
theorem dL_law_581 : decode cL_law 581 = .ok (.iconst 3, 1) := by decide +kernel
theorem dL_law_582 : decode cL_law 582 = .ok (.iadd, 1) := by decide +kernel
theorem dL_law_583 : decode cL_law 583 = .ok (.iaload, 1) := by decide +kernel
theorem dL_law_584 : decode cL_law 584 = .ok (.aload_n 0, 1) := by decide +kernel
theorem dL_law_585 : decode cL_law 585 = .ok (.iload 4, 2) := by decide +kernel
theorem dL_law_587 : decode cL_law 587 = .ok (.iconst 4, 1) := by decide +kernel
theorem dL_law_588 : decode cL_law 588 = .ok (.iadd, 1) := by decide +kernel
theorem dL_law_589 : decode cL_law 589 = .ok (.iaload, 1) := by decide +kernel
theorem dL_law_590 : decode cL_law 590 = .ok (.aload_n 0, 1) := by decide +kernel
theorem dL_law_591 : decode cL_law 591 = .ok (.iload 4, 2) := by decide +kernel
theorem dL_law_593 : decode cL_law 593 = .ok (.iconst 5, 1) := by decide +kernel
theorem dL_law_594 : decode cL_law 594 = .ok (.iadd, 1) := by decide +kernel
theorem dL_law_595 : decode cL_law 595 = .ok (.iaload, 1) := by decide +kernel
theorem dL_law_596 : decode cL_law 596 = .ok (.invokevirtual 131, 3) := by decide +kernel
theorem dL_law_599 : decode cL_law 599 = .ok (.istore 6, 2) := by decide +kernel
theorem dL_law_601 : decode cL_law 601 = .ok (.aload_n 2, 1) := by decide +kernel
theorem dL_law_602 : decode cL_law 602 = .ok (.invokevirtual 109, 3) := by decide +kernel
theorem dL_law_605 : decode cL_law 605 = .ok (.iload 5, 2) := by decide +kernel
theorem dL_law_607 : decode cL_law 607 = .ok (.if_icmp .eq 5, 3) := by decide +kernel
theorem dL_law_610 : decode cL_law 610 = .ok (.iconst 0, 1) := by decide +kernel
theorem dL_law_611 : decode cL_law 611 = .ok (.ireturn, 1) := by decide +kernel
theorem dL_law_612 : decode cL_law 612 = .ok (.iload 5, 2) := by decide +kernel
theorem dL_law_614 : decode cL_law 614 = .ok (.ifCond .ne 15, 3) := by decide +kernel
theorem dL_law_617 : decode cL_law 617 = .ok (.aload_n 3, 1) := by decide +kernel
theorem dL_law_618 : decode cL_law 618 = .ok (.iconst 0, 1) := by decide +kernel
theorem dL_law_619 : decode cL_law 619 = .ok (.laload, 1) := by decide +kernel
theorem dL_law_620 : decode cL_law 620 = .ok (.iload 6, 2) := by decide +kernel
theorem dL_law_622 : decode cL_law 622 = .ok (.i2l, 1) := by decide +kernel
theorem dL_law_623 : decode cL_law 623 = .ok (.lcmp, 1) := by decide +kernel
theorem dL_law_624 : decode cL_law 624 = .ok (.ifCond .eq 5, 3) := by decide +kernel
theorem dL_law_627 : decode cL_law 627 = .ok (.iconst 0, 1) := by decide +kernel
theorem dL_law_628 : decode cL_law 628 = .ok (.ireturn, 1) := by decide +kernel
theorem dL_law_629 : decode cL_law 629 = .ok (.goto 1220, 3) := by decide +kernel
theorem dL_law_632 : decode cL_law 632 = .ok (.aload_n 1, 1) := by decide +kernel
theorem dL_law_633 : decode cL_law 633 = .ok (.aload_n 0, 1) := by decide +kernel
theorem dL_law_634 : decode cL_law 634 = .ok (.iload 4, 2) := by decide +kernel
theorem dL_law_636 : decode cL_law 636 = .ok (.iconst 1, 1) := by decide +kernel
theorem dL_law_637 : decode cL_law 637 = .ok (.iadd, 1) := by decide +kernel
theorem dL_law_638 : decode cL_law 638 = .ok (.iaload, 1) := by decide +kernel
theorem dL_law_639 : decode cL_law 639 = .ok (.aload_n 0, 1) := by decide +kernel
theorem dL_law_640 : decode cL_law 640 = .ok (.iload 4, 2) := by decide +kernel
theorem dL_law_642 : decode cL_law 642 = .ok (.iconst 2, 1) := by decide +kernel
theorem dL_law_643 : decode cL_law 643 = .ok (.iadd, 1) := by decide +kernel
theorem dL_law_644 : decode cL_law 644 = .ok (.iaload, 1) := by decide +kernel
theorem dL_law_645 : decode cL_law 645 = .ok (.aload_n 3, 1) := by decide +kernel
theorem dL_law_646 : decode cL_law 646 = .ok (.invokestatic 132, 3) := by decide +kernel
theorem dL_law_649 : decode cL_law 649 = .ok (.istore 5, 2) := by decide +kernel
theorem dL_law_651 : decode cL_law 651 = .ok (.aload_n 2, 1) := by decide +kernel
theorem dL_law_652 : decode cL_law 652 = .ok (.aload_n 0, 1) := by decide +kernel
theorem dL_law_653 : decode cL_law 653 = .ok (.iload 4, 2) := by decide +kernel
theorem dL_law_655 : decode cL_law 655 = .ok (.iconst 1, 1) := by decide +kernel
theorem dL_law_656 : decode cL_law 656 = .ok (.iadd, 1) := by decide +kernel
theorem dL_law_657 : decode cL_law 657 = .ok (.iaload, 1) := by decide +kernel
theorem dL_law_658 : decode cL_law 658 = .ok (.aload_n 0, 1) := by decide +kernel
theorem dL_law_659 : decode cL_law 659 = .ok (.iload 4, 2) := by decide +kernel
theorem dL_law_661 : decode cL_law 661 = .ok (.iconst 2, 1) := by decide +kernel
theorem dL_law_662 : decode cL_law 662 = .ok (.iadd, 1) := by decide +kernel
theorem dL_law_663 : decode cL_law 663 = .ok (.iaload, 1) := by decide +kernel
theorem dL_law_664 : decode cL_law 664 = .ok (.invokevirtual 134, 3) := by decide +kernel
theorem dL_law_667 : decode cL_law 667 = .ok (.istore 6, 2) := by decide +kernel
theorem dL_law_669 : decode cL_law 669 = .ok (.aload_n 2, 1) := by decide +kernel
theorem dL_law_670 : decode cL_law 670 = .ok (.invokevirtual 109, 3) := by decide +kernel
theorem dL_law_673 : decode cL_law 673 = .ok (.iload 5, 2) := by decide +kernel
theorem dL_law_675 : decode cL_law 675 = .ok (.if_icmp .eq 5, 3) := by decide +kernel
theorem dL_law_678 : decode cL_law 678 = .ok (.iconst 0, 1) := by decide +kernel
theorem dL_law_679 : decode cL_law 679 = .ok (.ireturn, 1) := by decide +kernel
theorem dL_law_680 : decode cL_law 680 = .ok (.iload 5, 2) := by decide +kernel
theorem dL_law_682 : decode cL_law 682 = .ok (.ifCond .ne 15, 3) := by decide +kernel
theorem dL_law_685 : decode cL_law 685 = .ok (.aload_n 3, 1) := by decide +kernel
theorem dL_law_686 : decode cL_law 686 = .ok (.iconst 0, 1) := by decide +kernel
theorem dL_law_687 : decode cL_law 687 = .ok (.laload, 1) := by decide +kernel
theorem dL_law_688 : decode cL_law 688 = .ok (.iload 6, 2) := by decide +kernel
theorem dL_law_690 : decode cL_law 690 = .ok (.i2l, 1) := by decide +kernel
theorem dL_law_691 : decode cL_law 691 = .ok (.lcmp, 1) := by decide +kernel
theorem dL_law_692 : decode cL_law 692 = .ok (.ifCond .eq 5, 3) := by decide +kernel
theorem dL_law_695 : decode cL_law 695 = .ok (.iconst 0, 1) := by decide +kernel
theorem dL_law_696 : decode cL_law 696 = .ok (.ireturn, 1) := by decide +kernel
theorem dL_law_697 : decode cL_law 697 = .ok (.goto 1152, 3) := by decide +kernel
theorem dL_law_700 : decode cL_law 700 = .ok (.aload_n 1, 1) := by decide +kernel
theorem dL_law_701 : decode cL_law 701 = .ok (.aload_n 0, 1) := by decide +kernel
theorem dL_law_702 : decode cL_law 702 = .ok (.iload 4, 2) := by decide +kernel
theorem dL_law_704 : decode cL_law 704 = .ok (.iconst 1, 1) := by decide +kernel
theorem dL_law_705 : decode cL_law 705 = .ok (.iadd, 1) := by decide +kernel
theorem dL_law_706 : decode cL_law 706 = .ok (.iaload, 1) := by decide +kernel
theorem dL_law_707 : decode cL_law 707 = .ok (.aload_n 3, 1) := by decide +kernel
theorem dL_law_708 : decode cL_law 708 = .ok (.invokestatic 135, 3) := by decide +kernel
theorem dL_law_711 : decode cL_law 711 = .ok (.istore 5, 2) := by decide +kernel
theorem dL_law_713 : decode cL_law 713 = .ok (.aload_n 2, 1) := by decide +kernel
theorem dL_law_714 : decode cL_law 714 = .ok (.aload_n 0, 1) := by decide +kernel
theorem dL_law_715 : decode cL_law 715 = .ok (.iload 4, 2) := by decide +kernel
theorem dL_law_717 : decode cL_law 717 = .ok (.iconst 1, 1) := by decide +kernel
theorem dL_law_718 : decode cL_law 718 = .ok (.iadd, 1) := by decide +kernel
theorem dL_law_719 : decode cL_law 719 = .ok (.iaload, 1) := by decide +kernel
theorem dL_law_720 : decode cL_law 720 = .ok (.invokevirtual 137, 3) := by decide +kernel
theorem dL_law_723 : decode cL_law 723 = .ok (.istore 6, 2) := by decide +kernel
theorem dL_law_725 : decode cL_law 725 = .ok (.aload_n 2, 1) := by decide +kernel
theorem dL_law_726 : decode cL_law 726 = .ok (.invokevirtual 109, 3) := by decide +kernel
theorem dL_law_729 : decode cL_law 729 = .ok (.iload 5, 2) := by decide +kernel
theorem dL_law_731 : decode cL_law 731 = .ok (.if_icmp .eq 5, 3) := by decide +kernel
theorem dL_law_734 : decode cL_law 734 = .ok (.iconst 0, 1) := by decide +kernel
theorem dL_law_735 : decode cL_law 735 = .ok (.ireturn, 1) := by decide +kernel
theorem dL_law_736 : decode cL_law 736 = .ok (.iload 5, 2) := by decide +kernel
theorem dL_law_738 : decode cL_law 738 = .ok (.ifCond .ne 15, 3) := by decide +kernel
theorem dL_law_741 : decode cL_law 741 = .ok (.aload_n 3, 1) := by decide +kernel
theorem dL_law_742 : decode cL_law 742 = .ok (.iconst 0, 1) := by decide +kernel
theorem dL_law_743 : decode cL_law 743 = .ok (.laload, 1) := by decide +kernel
theorem dL_law_744 : decode cL_law 744 = .ok (.iload 6, 2) := by decide +kernel
theorem dL_law_746 : decode cL_law 746 = .ok (.i2l, 1) := by decide +kernel
theorem dL_law_747 : decode cL_law 747 = .ok (.lcmp, 1) := by decide +kernel
theorem dL_law_748 : decode cL_law 748 = .ok (.ifCond .eq 5, 3) := by decide +kernel
theorem dL_law_751 : decode cL_law 751 = .ok (.iconst 0, 1) := by decide +kernel
theorem dL_law_752 : decode cL_law 752 = .ok (.ireturn, 1) := by decide +kernel
theorem dL_law_753 : decode cL_law 753 = .ok (.goto 1096, 3) := by decide +kernel
theorem dL_law_756 : decode cL_law 756 = .ok (.aload_n 1, 1) := by decide +kernel
theorem dL_law_757 : decode cL_law 757 = .ok (.aload_n 0, 1) := by decide +kernel
theorem dL_law_758 : decode cL_law 758 = .ok (.iload 4, 2) := by decide +kernel
theorem dL_law_760 : decode cL_law 760 = .ok (.iconst 1, 1) := by decide +kernel
theorem dL_law_761 : decode cL_law 761 = .ok (.iadd, 1) := by decide +kernel
theorem dL_law_762 : decode cL_law 762 = .ok (.iaload, 1) := by decide +kernel
theorem dL_law_763 : decode cL_law 763 = .ok (.aload_n 0, 1) := by decide +kernel
theorem dL_law_764 : decode cL_law 764 = .ok (.iload 4, 2) := by decide +kernel
theorem dL_law_766 : decode cL_law 766 = .ok (.iconst 2, 1) := by decide +kernel
theorem dL_law_767 : decode cL_law 767 = .ok (.iadd, 1) := by decide +kernel
theorem dL_law_768 : decode cL_law 768 = .ok (.iaload, 1) := by decide +kernel
theorem dL_law_769 : decode cL_law 769 = .ok (.ifCond .eq 7, 3) := by decide +kernel
theorem dL_law_772 : decode cL_law 772 = .ok (.iconst 1, 1) := by decide +kernel
theorem dL_law_773 : decode cL_law 773 = .ok (.goto 4, 3) := by decide +kernel
theorem dL_law_776 : decode cL_law 776 = .ok (.iconst 0, 1) := by decide +kernel
theorem dL_law_777 : decode cL_law 777 = .ok (.aload_n 3, 1) := by decide +kernel
theorem dL_law_778 : decode cL_law 778 = .ok (.invokestatic 138, 3) := by decide +kernel
theorem dL_law_781 : decode cL_law 781 = .ok (.istore 5, 2) := by decide +kernel
theorem dL_law_783 : decode cL_law 783 = .ok (.aload_n 2, 1) := by decide +kernel
theorem dL_law_784 : decode cL_law 784 = .ok (.aload_n 0, 1) := by decide +kernel
theorem dL_law_785 : decode cL_law 785 = .ok (.iload 4, 2) := by decide +kernel
theorem dL_law_787 : decode cL_law 787 = .ok (.iconst 1, 1) := by decide +kernel
theorem dL_law_788 : decode cL_law 788 = .ok (.iadd, 1) := by decide +kernel
theorem dL_law_789 : decode cL_law 789 = .ok (.iaload, 1) := by decide +kernel
theorem dL_law_790 : decode cL_law 790 = .ok (.aload_n 0, 1) := by decide +kernel
theorem dL_law_791 : decode cL_law 791 = .ok (.iload 4, 2) := by decide +kernel
theorem dL_law_793 : decode cL_law 793 = .ok (.iconst 2, 1) := by decide +kernel
theorem dL_law_794 : decode cL_law 794 = .ok (.iadd, 1) := by decide +kernel
theorem dL_law_795 : decode cL_law 795 = .ok (.iaload, 1) := by decide +kernel
theorem dL_law_796 : decode cL_law 796 = .ok (.ifCond .eq 7, 3) := by decide +kernel
theorem dL_law_799 : decode cL_law 799 = .ok (.iconst 1, 1) := by decide +kernel
theorem dL_law_800 : decode cL_law 800 = .ok (.goto 4, 3) := by decide +kernel
theorem dL_law_803 : decode cL_law 803 = .ok (.iconst 0, 1) := by decide +kernel
theorem dL_law_804 : decode cL_law 804 = .ok (.invokevirtual 141, 3) := by decide +kernel
theorem dL_law_807 : decode cL_law 807 = .ok (.istore 6, 2) := by decide +kernel
theorem dL_law_809 : decode cL_law 809 = .ok (.aload_n 2, 1) := by decide +kernel
theorem dL_law_810 : decode cL_law 810 = .ok (.invokevirtual 109, 3) := by decide +kernel
theorem dL_law_813 : decode cL_law 813 = .ok (.iload 5, 2) := by decide +kernel
theorem dL_law_815 : decode cL_law 815 = .ok (.if_icmp .eq 5, 3) := by decide +kernel
theorem dL_law_818 : decode cL_law 818 = .ok (.iconst 0, 1) := by decide +kernel
theorem dL_law_819 : decode cL_law 819 = .ok (.ireturn, 1) := by decide +kernel
theorem dL_law_820 : decode cL_law 820 = .ok (.iload 5, 2) := by decide +kernel
theorem dL_law_822 : decode cL_law 822 = .ok (.ifCond .ne 15, 3) := by decide +kernel
theorem dL_law_825 : decode cL_law 825 = .ok (.aload_n 3, 1) := by decide +kernel
theorem dL_law_826 : decode cL_law 826 = .ok (.iconst 0, 1) := by decide +kernel
theorem dL_law_827 : decode cL_law 827 = .ok (.laload, 1) := by decide +kernel
theorem dL_law_828 : decode cL_law 828 = .ok (.iload 6, 2) := by decide +kernel
theorem dL_law_830 : decode cL_law 830 = .ok (.i2l, 1) := by decide +kernel
theorem dL_law_831 : decode cL_law 831 = .ok (.lcmp, 1) := by decide +kernel
theorem dL_law_832 : decode cL_law 832 = .ok (.ifCond .eq 5, 3) := by decide +kernel
theorem dL_law_835 : decode cL_law 835 = .ok (.iconst 0, 1) := by decide +kernel
theorem dL_law_836 : decode cL_law 836 = .ok (.ireturn, 1) := by decide +kernel
theorem dL_law_837 : decode cL_law 837 = .ok (.goto 1012, 3) := by decide +kernel
theorem dL_law_840 : decode cL_law 840 = .ok (.aload_n 1, 1) := by decide +kernel
theorem dL_law_841 : decode cL_law 841 = .ok (.aload_n 0, 1) := by decide +kernel
theorem dL_law_842 : decode cL_law 842 = .ok (.iload 4, 2) := by decide +kernel
theorem dL_law_844 : decode cL_law 844 = .ok (.iconst 1, 1) := by decide +kernel
theorem dL_law_845 : decode cL_law 845 = .ok (.iadd, 1) := by decide +kernel
theorem dL_law_846 : decode cL_law 846 = .ok (.iaload, 1) := by decide +kernel
theorem dL_law_847 : decode cL_law 847 = .ok (.aload_n 3, 1) := by decide +kernel
theorem dL_law_848 : decode cL_law 848 = .ok (.invokestatic 142, 3) := by decide +kernel
theorem dL_law_851 : decode cL_law 851 = .ok (.istore 5, 2) := by decide +kernel
theorem dL_law_853 : decode cL_law 853 = .ok (.aload_n 2, 1) := by decide +kernel
theorem dL_law_854 : decode cL_law 854 = .ok (.aload_n 0, 1) := by decide +kernel
theorem dL_law_855 : decode cL_law 855 = .ok (.iload 4, 2) := by decide +kernel
theorem dL_law_857 : decode cL_law 857 = .ok (.iconst 1, 1) := by decide +kernel
theorem dL_law_858 : decode cL_law 858 = .ok (.iadd, 1) := by decide +kernel
theorem dL_law_859 : decode cL_law 859 = .ok (.iaload, 1) := by decide +kernel
theorem dL_law_860 : decode cL_law 860 = .ok (.invokevirtual 144, 3) := by decide +kernel
theorem dL_law_863 : decode cL_law 863 = .ok (.istore 6, 2) := by decide +kernel
theorem dL_law_865 : decode cL_law 865 = .ok (.aload_n 2, 1) := by decide +kernel
theorem dL_law_866 : decode cL_law 866 = .ok (.invokevirtual 109, 3) := by decide +kernel
theorem dL_law_869 : decode cL_law 869 = .ok (.iload 5, 2) := by decide +kernel
theorem dL_law_871 : decode cL_law 871 = .ok (.if_icmp .eq 5, 3) := by decide +kernel
theorem dL_law_874 : decode cL_law 874 = .ok (.iconst 0, 1) := by decide +kernel
theorem dL_law_875 : decode cL_law 875 = .ok (.ireturn, 1) := by decide +kernel
theorem dL_law_876 : decode cL_law 876 = .ok (.iload 5, 2) := by decide +kernel
theorem dL_law_878 : decode cL_law 878 = .ok (.ifCond .ne 15, 3) := by decide +kernel
theorem dL_law_881 : decode cL_law 881 = .ok (.aload_n 3, 1) := by decide +kernel
theorem dL_law_882 : decode cL_law 882 = .ok (.iconst 0, 1) := by decide +kernel
theorem dL_law_883 : decode cL_law 883 = .ok (.laload, 1) := by decide +kernel
theorem dL_law_884 : decode cL_law 884 = .ok (.iload 6, 2) := by decide +kernel
theorem dL_law_886 : decode cL_law 886 = .ok (.i2l, 1) := by decide +kernel
theorem dL_law_887 : decode cL_law 887 = .ok (.lcmp, 1) := by decide +kernel
theorem dL_law_888 : decode cL_law 888 = .ok (.ifCond .eq 5, 3) := by decide +kernel
theorem dL_law_891 : decode cL_law 891 = .ok (.iconst 0, 1) := by decide +kernel
theorem dL_law_892 : decode cL_law 892 = .ok (.ireturn, 1) := by decide +kernel
theorem dL_law_893 : decode cL_law 893 = .ok (.goto 956, 3) := by decide +kernel
theorem dL_law_896 : decode cL_law 896 = .ok (.aload_n 1, 1) := by decide +kernel
theorem dL_law_897 : decode cL_law 897 = .ok (.invokevirtual 145, 3) := by decide +kernel
theorem dL_law_900 : decode cL_law 900 = .ok (.aload_n 2, 1) := by decide +kernel
theorem dL_law_901 : decode cL_law 901 = .ok (.invokevirtual 148, 3) := by decide +kernel
theorem dL_law_904 : decode cL_law 904 = .ok (.if_icmp .eq 945, 3) := by decide +kernel
theorem dL_law_907 : decode cL_law 907 = .ok (.iconst 0, 1) := by decide +kernel
theorem dL_law_908 : decode cL_law 908 = .ok (.ireturn, 1) := by decide +kernel
theorem dL_law_909 : decode cL_law 909 = .ok (.aload_n 1, 1) := by decide +kernel
theorem dL_law_910 : decode cL_law 910 = .ok (.aload_n 0, 1) := by decide +kernel
theorem dL_law_911 : decode cL_law 911 = .ok (.iload 4, 2) := by decide +kernel
theorem dL_law_913 : decode cL_law 913 = .ok (.iconst 1, 1) := by decide +kernel
theorem dL_law_914 : decode cL_law 914 = .ok (.iadd, 1) := by decide +kernel
theorem dL_law_915 : decode cL_law 915 = .ok (.iaload, 1) := by decide +kernel
theorem dL_law_916 : decode cL_law 916 = .ok (.aload_n 3, 1) := by decide +kernel
theorem dL_law_917 : decode cL_law 917 = .ok (.invokestatic 149, 3) := by decide +kernel
theorem dL_law_920 : decode cL_law 920 = .ok (.istore 5, 2) := by decide +kernel
theorem dL_law_922 : decode cL_law 922 = .ok (.aload_n 2, 1) := by decide +kernel
theorem dL_law_923 : decode cL_law 923 = .ok (.aload_n 0, 1) := by decide +kernel
theorem dL_law_924 : decode cL_law 924 = .ok (.iload 4, 2) := by decide +kernel
theorem dL_law_926 : decode cL_law 926 = .ok (.iconst 1, 1) := by decide +kernel
theorem dL_law_927 : decode cL_law 927 = .ok (.iadd, 1) := by decide +kernel
theorem dL_law_928 : decode cL_law 928 = .ok (.iaload, 1) := by decide +kernel
theorem dL_law_929 : decode cL_law 929 = .ok (.invokevirtual 151, 3) := by decide +kernel
theorem dL_law_932 : decode cL_law 932 = .ok (.istore 6, 2) := by decide +kernel
theorem dL_law_934 : decode cL_law 934 = .ok (.aload_n 2, 1) := by decide +kernel
theorem dL_law_935 : decode cL_law 935 = .ok (.invokevirtual 109, 3) := by decide +kernel
theorem dL_law_938 : decode cL_law 938 = .ok (.iload 5, 2) := by decide +kernel
theorem dL_law_940 : decode cL_law 940 = .ok (.if_icmp .eq 5, 3) := by decide +kernel
theorem dL_law_943 : decode cL_law 943 = .ok (.iconst 0, 1) := by decide +kernel
theorem dL_law_944 : decode cL_law 944 = .ok (.ireturn, 1) := by decide +kernel
theorem dL_law_945 : decode cL_law 945 = .ok (.iload 5, 2) := by decide +kernel
theorem dL_law_947 : decode cL_law 947 = .ok (.ifCond .ne 15, 3) := by decide +kernel
theorem dL_law_950 : decode cL_law 950 = .ok (.aload_n 3, 1) := by decide +kernel
theorem dL_law_951 : decode cL_law 951 = .ok (.iconst 0, 1) := by decide +kernel
theorem dL_law_952 : decode cL_law 952 = .ok (.laload, 1) := by decide +kernel
theorem dL_law_953 : decode cL_law 953 = .ok (.iload 6, 2) := by decide +kernel
theorem dL_law_955 : decode cL_law 955 = .ok (.i2l, 1) := by decide +kernel
theorem dL_law_956 : decode cL_law 956 = .ok (.lcmp, 1) := by decide +kernel
theorem dL_law_957 : decode cL_law 957 = .ok (.ifCond .eq 5, 3) := by decide +kernel
theorem dL_law_960 : decode cL_law 960 = .ok (.iconst 0, 1) := by decide +kernel
theorem dL_law_961 : decode cL_law 961 = .ok (.ireturn, 1) := by decide +kernel
theorem dL_law_962 : decode cL_law 962 = .ok (.goto 887, 3) := by decide +kernel
theorem dL_law_965 : decode cL_law 965 = .ok (.aload_n 1, 1) := by decide +kernel
theorem dL_law_966 : decode cL_law 966 = .ok (.aload_n 0, 1) := by decide +kernel
theorem dL_law_967 : decode cL_law 967 = .ok (.iload 4, 2) := by decide +kernel
theorem dL_law_969 : decode cL_law 969 = .ok (.iconst 1, 1) := by decide +kernel
theorem dL_law_970 : decode cL_law 970 = .ok (.iadd, 1) := by decide +kernel
theorem dL_law_971 : decode cL_law 971 = .ok (.iaload, 1) := by decide +kernel
theorem dL_law_972 : decode cL_law 972 = .ok (.aload_n 0, 1) := by decide +kernel
theorem dL_law_973 : decode cL_law 973 = .ok (.iload 4, 2) := by decide +kernel
theorem dL_law_975 : decode cL_law 975 = .ok (.iconst 2, 1) := by decide +kernel
theorem dL_law_976 : decode cL_law 976 = .ok (.iadd, 1) := by decide +kernel
theorem dL_law_977 : decode cL_law 977 = .ok (.iaload, 1) := by decide +kernel
theorem dL_law_978 : decode cL_law 978 = .ok (.aload_n 3, 1) := by decide +kernel
theorem dL_law_979 : decode cL_law 979 = .ok (.invokestatic 152, 3) := by decide +kernel
theorem dL_law_982 : decode cL_law 982 = .ok (.istore 5, 2) := by decide +kernel
theorem dL_law_984 : decode cL_law 984 = .ok (.aload_n 2, 1) := by decide +kernel
theorem dL_law_985 : decode cL_law 985 = .ok (.aload_n 0, 1) := by decide +kernel
theorem dL_law_986 : decode cL_law 986 = .ok (.iload 4, 2) := by decide +kernel
theorem dL_law_988 : decode cL_law 988 = .ok (.iconst 1, 1) := by decide +kernel
theorem dL_law_989 : decode cL_law 989 = .ok (.iadd, 1) := by decide +kernel
theorem dL_law_990 : decode cL_law 990 = .ok (.iaload, 1) := by decide +kernel
theorem dL_law_991 : decode cL_law 991 = .ok (.aload_n 0, 1) := by decide +kernel
theorem dL_law_992 : decode cL_law 992 = .ok (.iload 4, 2) := by decide +kernel
theorem dL_law_994 : decode cL_law 994 = .ok (.iconst 2, 1) := by decide +kernel
theorem dL_law_995 : decode cL_law 995 = .ok (.iadd, 1) := by decide +kernel
theorem dL_law_996 : decode cL_law 996 = .ok (.iaload, 1) := by decide +kernel
theorem dL_law_997 : decode cL_law 997 = .ok (.invokevirtual 154, 3) := by decide +kernel
theorem dL_law_1000 : decode cL_law 1000 = .ok (.istore 6, 2) := by decide +kernel
theorem dL_law_1002 : decode cL_law 1002 = .ok (.aload_n 2, 1) := by decide +kernel
theorem dL_law_1003 : decode cL_law 1003 = .ok (.invokevirtual 109, 3) := by decide +kernel
theorem dL_law_1006 : decode cL_law 1006 = .ok (.iload 5, 2) := by decide +kernel
theorem dL_law_1008 : decode cL_law 1008 = .ok (.if_icmp .eq 5, 3) := by decide +kernel
theorem dL_law_1011 : decode cL_law 1011 = .ok (.iconst 0, 1) := by decide +kernel
theorem dL_law_1012 : decode cL_law 1012 = .ok (.ireturn, 1) := by decide +kernel
theorem dL_law_1013 : decode cL_law 1013 = .ok (.iload 5, 2) := by decide +kernel
theorem dL_law_1015 : decode cL_law 1015 = .ok (.ifCond .ne 15, 3) := by decide +kernel
theorem dL_law_1018 : decode cL_law 1018 = .ok (.aload_n 3, 1) := by decide +kernel
theorem dL_law_1019 : decode cL_law 1019 = .ok (.iconst 0, 1) := by decide +kernel
theorem dL_law_1020 : decode cL_law 1020 = .ok (.laload, 1) := by decide +kernel
theorem dL_law_1021 : decode cL_law 1021 = .ok (.iload 6, 2) := by decide +kernel
theorem dL_law_1023 : decode cL_law 1023 = .ok (.i2l, 1) := by decide +kernel
theorem dL_law_1024 : decode cL_law 1024 = .ok (.lcmp, 1) := by decide +kernel
theorem dL_law_1025 : decode cL_law 1025 = .ok (.ifCond .eq 5, 3) := by decide +kernel
theorem dL_law_1028 : decode cL_law 1028 = .ok (.iconst 0, 1) := by decide +kernel
theorem dL_law_1029 : decode cL_law 1029 = .ok (.ireturn, 1) := by decide +kernel
theorem dL_law_1030 : decode cL_law 1030 = .ok (.goto 819, 3) := by decide +kernel
theorem dL_law_1033 : decode cL_law 1033 = .ok (.aload_n 1, 1) := by decide +kernel
theorem dL_law_1034 : decode cL_law 1034 = .ok (.aload_n 0, 1) := by decide +kernel
theorem dL_law_1035 : decode cL_law 1035 = .ok (.iload 4, 2) := by decide +kernel
theorem dL_law_1037 : decode cL_law 1037 = .ok (.iconst 1, 1) := by decide +kernel
theorem dL_law_1038 : decode cL_law 1038 = .ok (.iadd, 1) := by decide +kernel
theorem dL_law_1039 : decode cL_law 1039 = .ok (.iaload, 1) := by decide +kernel
theorem dL_law_1040 : decode cL_law 1040 = .ok (.aload_n 3, 1) := by decide +kernel
theorem dL_law_1041 : decode cL_law 1041 = .ok (.invokestatic 155, 3) := by decide +kernel
theorem dL_law_1044 : decode cL_law 1044 = .ok (.istore 5, 2) := by decide +kernel
theorem dL_law_1046 : decode cL_law 1046 = .ok (.aload_n 2, 1) := by decide +kernel
theorem dL_law_1047 : decode cL_law 1047 = .ok (.aload_n 0, 1) := by decide +kernel
theorem dL_law_1048 : decode cL_law 1048 = .ok (.iload 4, 2) := by decide +kernel
theorem dL_law_1050 : decode cL_law 1050 = .ok (.iconst 1, 1) := by decide +kernel
theorem dL_law_1051 : decode cL_law 1051 = .ok (.iadd, 1) := by decide +kernel
theorem dL_law_1052 : decode cL_law 1052 = .ok (.iaload, 1) := by decide +kernel
theorem dL_law_1053 : decode cL_law 1053 = .ok (.invokevirtual 157, 3) := by decide +kernel
theorem dL_law_1056 : decode cL_law 1056 = .ok (.istore 6, 2) := by decide +kernel
theorem dL_law_1058 : decode cL_law 1058 = .ok (.aload_n 2, 1) := by decide +kernel
theorem dL_law_1059 : decode cL_law 1059 = .ok (.invokevirtual 109, 3) := by decide +kernel
theorem dL_law_1062 : decode cL_law 1062 = .ok (.iload 5, 2) := by decide +kernel
theorem dL_law_1064 : decode cL_law 1064 = .ok (.if_icmp .eq 5, 3) := by decide +kernel
theorem dL_law_1067 : decode cL_law 1067 = .ok (.iconst 0, 1) := by decide +kernel
theorem dL_law_1068 : decode cL_law 1068 = .ok (.ireturn, 1) := by decide +kernel
theorem dL_law_1069 : decode cL_law 1069 = .ok (.iload 5, 2) := by decide +kernel
theorem dL_law_1071 : decode cL_law 1071 = .ok (.ifCond .ne 15, 3) := by decide +kernel
theorem dL_law_1074 : decode cL_law 1074 = .ok (.aload_n 3, 1) := by decide +kernel
theorem dL_law_1075 : decode cL_law 1075 = .ok (.iconst 0, 1) := by decide +kernel
theorem dL_law_1076 : decode cL_law 1076 = .ok (.laload, 1) := by decide +kernel
theorem dL_law_1077 : decode cL_law 1077 = .ok (.iload 6, 2) := by decide +kernel
theorem dL_law_1079 : decode cL_law 1079 = .ok (.i2l, 1) := by decide +kernel
theorem dL_law_1080 : decode cL_law 1080 = .ok (.lcmp, 1) := by decide +kernel
theorem dL_law_1081 : decode cL_law 1081 = .ok (.ifCond .eq 5, 3) := by decide +kernel
theorem dL_law_1084 : decode cL_law 1084 = .ok (.iconst 0, 1) := by decide +kernel
theorem dL_law_1085 : decode cL_law 1085 = .ok (.ireturn, 1) := by decide +kernel
theorem dL_law_1086 : decode cL_law 1086 = .ok (.goto 763, 3) := by decide +kernel
theorem dL_law_1089 : decode cL_law 1089 = .ok (.aload_n 1, 1) := by decide +kernel
theorem dL_law_1090 : decode cL_law 1090 = .ok (.aload_n 0, 1) := by decide +kernel
theorem dL_law_1091 : decode cL_law 1091 = .ok (.iload 4, 2) := by decide +kernel
theorem dL_law_1093 : decode cL_law 1093 = .ok (.iconst 1, 1) := by decide +kernel
theorem dL_law_1094 : decode cL_law 1094 = .ok (.iadd, 1) := by decide +kernel
theorem dL_law_1095 : decode cL_law 1095 = .ok (.iaload, 1) := by decide +kernel
theorem dL_law_1096 : decode cL_law 1096 = .ok (.aload_n 3, 1) := by decide +kernel
theorem dL_law_1097 : decode cL_law 1097 = .ok (.invokestatic 158, 3) := by decide +kernel
theorem dL_law_1100 : decode cL_law 1100 = .ok (.istore 5, 2) := by decide +kernel
theorem dL_law_1102 : decode cL_law 1102 = .ok (.aload_n 2, 1) := by decide +kernel
theorem dL_law_1103 : decode cL_law 1103 = .ok (.aload_n 0, 1) := by decide +kernel
theorem dL_law_1104 : decode cL_law 1104 = .ok (.iload 4, 2) := by decide +kernel
theorem dL_law_1106 : decode cL_law 1106 = .ok (.iconst 1, 1) := by decide +kernel
theorem dL_law_1107 : decode cL_law 1107 = .ok (.iadd, 1) := by decide +kernel
theorem dL_law_1108 : decode cL_law 1108 = .ok (.iaload, 1) := by decide +kernel
theorem dL_law_1109 : decode cL_law 1109 = .ok (.invokevirtual 160, 3) := by decide +kernel
theorem dL_law_1112 : decode cL_law 1112 = .ok (.istore 6, 2) := by decide +kernel
theorem dL_law_1114 : decode cL_law 1114 = .ok (.aload_n 2, 1) := by decide +kernel
theorem dL_law_1115 : decode cL_law 1115 = .ok (.invokevirtual 109, 3) := by decide +kernel
theorem dL_law_1118 : decode cL_law 1118 = .ok (.iload 5, 2) := by decide +kernel
theorem dL_law_1120 : decode cL_law 1120 = .ok (.if_icmp .eq 5, 3) := by decide +kernel
theorem dL_law_1123 : decode cL_law 1123 = .ok (.iconst 0, 1) := by decide +kernel
theorem dL_law_1124 : decode cL_law 1124 = .ok (.ireturn, 1) := by decide +kernel
theorem dL_law_1125 : decode cL_law 1125 = .ok (.iload 5, 2) := by decide +kernel
theorem dL_law_1127 : decode cL_law 1127 = .ok (.ifCond .ne 22, 3) := by decide +kernel
theorem dL_law_1130 : decode cL_law 1130 = .ok (.aload_n 3, 1) := by decide +kernel
theorem dL_law_1131 : decode cL_law 1131 = .ok (.iconst 0, 1) := by decide +kernel
theorem dL_law_1132 : decode cL_law 1132 = .ok (.laload, 1) := by decide +kernel
theorem dL_law_1133 : decode cL_law 1133 = .ok (.iload 6, 2) := by decide +kernel
theorem dL_law_1135 : decode cL_law 1135 = .ok (.ifCond .eq 7, 3) := by decide +kernel
theorem dL_law_1138 : decode cL_law 1138 = .ok (.lconst 1, 1) := by decide +kernel
theorem dL_law_1139 : decode cL_law 1139 = .ok (.goto 4, 3) := by decide +kernel
theorem dL_law_1142 : decode cL_law 1142 = .ok (.lconst 0, 1) := by decide +kernel
theorem dL_law_1143 : decode cL_law 1143 = .ok (.lcmp, 1) := by decide +kernel
theorem dL_law_1144 : decode cL_law 1144 = .ok (.ifCond .eq 5, 3) := by decide +kernel
theorem dL_law_1147 : decode cL_law 1147 = .ok (.iconst 0, 1) := by decide +kernel
theorem dL_law_1148 : decode cL_law 1148 = .ok (.ireturn, 1) := by decide +kernel
theorem dL_law_1149 : decode cL_law 1149 = .ok (.goto 700, 3) := by decide +kernel
theorem dL_law_1152 : decode cL_law 1152 = .ok (.aload_n 1, 1) := by decide +kernel
theorem dL_law_1153 : decode cL_law 1153 = .ok (.aload_n 0, 1) := by decide +kernel
theorem dL_law_1154 : decode cL_law 1154 = .ok (.iload 4, 2) := by decide +kernel
theorem dL_law_1156 : decode cL_law 1156 = .ok (.iconst 1, 1) := by decide +kernel
theorem dL_law_1157 : decode cL_law 1157 = .ok (.iadd, 1) := by decide +kernel
theorem dL_law_1158 : decode cL_law 1158 = .ok (.iaload, 1) := by decide +kernel
theorem dL_law_1159 : decode cL_law 1159 = .ok (.aload_n 3, 1) := by decide +kernel
theorem dL_law_1160 : decode cL_law 1160 = .ok (.invokestatic 161, 3) := by decide +kernel
theorem dL_law_1163 : decode cL_law 1163 = .ok (.istore 5, 2) := by decide +kernel
theorem dL_law_1165 : decode cL_law 1165 = .ok (.aload_n 2, 1) := by decide +kernel
theorem dL_law_1166 : decode cL_law 1166 = .ok (.aload_n 0, 1) := by decide +kernel
theorem dL_law_1167 : decode cL_law 1167 = .ok (.iload 4, 2) := by decide +kernel
theorem dL_law_1169 : decode cL_law 1169 = .ok (.iconst 1, 1) := by decide +kernel
theorem dL_law_1170 : decode cL_law 1170 = .ok (.iadd, 1) := by decide +kernel
theorem dL_law_1171 : decode cL_law 1171 = .ok (.iaload, 1) := by decide +kernel
theorem dL_law_1172 : decode cL_law 1172 = .ok (.invokevirtual 163, 3) := by decide +kernel
theorem dL_law_1175 : decode cL_law 1175 = .ok (.istore 6, 2) := by decide +kernel
theorem dL_law_1177 : decode cL_law 1177 = .ok (.aload_n 2, 1) := by decide +kernel
theorem dL_law_1178 : decode cL_law 1178 = .ok (.invokevirtual 109, 3) := by decide +kernel
theorem dL_law_1181 : decode cL_law 1181 = .ok (.iload 5, 2) := by decide +kernel
theorem dL_law_1183 : decode cL_law 1183 = .ok (.if_icmp .eq 5, 3) := by decide +kernel
theorem dL_law_1186 : decode cL_law 1186 = .ok (.iconst 0, 1) := by decide +kernel
theorem dL_law_1187 : decode cL_law 1187 = .ok (.ireturn, 1) := by decide +kernel
theorem dL_law_1188 : decode cL_law 1188 = .ok (.iload 5, 2) := by decide +kernel
theorem dL_law_1190 : decode cL_law 1190 = .ok (.ifCond .ne 15, 3) := by decide +kernel
theorem dL_law_1193 : decode cL_law 1193 = .ok (.aload_n 3, 1) := by decide +kernel
theorem dL_law_1194 : decode cL_law 1194 = .ok (.iconst 0, 1) := by decide +kernel
theorem dL_law_1195 : decode cL_law 1195 = .ok (.laload, 1) := by decide +kernel
theorem dL_law_1196 : decode cL_law 1196 = .ok (.iload 6, 2) := by decide +kernel
theorem dL_law_1198 : decode cL_law 1198 = .ok (.i2l, 1) := by decide +kernel
theorem dL_law_1199 : decode cL_law 1199 = .ok (.lcmp, 1) := by decide +kernel
theorem dL_law_1200 : decode cL_law 1200 = .ok (.ifCond .eq 5, 3) := by decide +kernel
theorem dL_law_1203 : decode cL_law 1203 = .ok (.iconst 0, 1) := by decide +kernel
theorem dL_law_1204 : decode cL_law 1204 = .ok (.ireturn, 1) := by decide +kernel
theorem dL_law_1205 : decode cL_law 1205 = .ok (.goto 644, 3) := by decide +kernel
theorem dL_law_1208 : decode cL_law 1208 = .ok (.aload_n 1, 1) := by decide +kernel
theorem dL_law_1209 : decode cL_law 1209 = .ok (.aload_n 0, 1) := by decide +kernel
theorem dL_law_1210 : decode cL_law 1210 = .ok (.iload 4, 2) := by decide +kernel
theorem dL_law_1212 : decode cL_law 1212 = .ok (.iconst 1, 1) := by decide +kernel
theorem dL_law_1213 : decode cL_law 1213 = .ok (.iadd, 1) := by decide +kernel
theorem dL_law_1214 : decode cL_law 1214 = .ok (.iaload, 1) := by decide +kernel
theorem dL_law_1215 : decode cL_law 1215 = .ok (.aload_n 0, 1) := by decide +kernel
theorem dL_law_1216 : decode cL_law 1216 = .ok (.iload 4, 2) := by decide +kernel
theorem dL_law_1218 : decode cL_law 1218 = .ok (.iconst 2, 1) := by decide +kernel
theorem dL_law_1219 : decode cL_law 1219 = .ok (.iadd, 1) := by decide +kernel
theorem dL_law_1220 : decode cL_law 1220 = .ok (.iaload, 1) := by decide +kernel
theorem dL_law_1221 : decode cL_law 1221 = .ok (.aload_n 3, 1) := by decide +kernel
theorem dL_law_1222 : decode cL_law 1222 = .ok (.invokestatic 164, 3) := by decide +kernel
theorem dL_law_1225 : decode cL_law 1225 = .ok (.istore 5, 2) := by decide +kernel
theorem dL_law_1227 : decode cL_law 1227 = .ok (.aload_n 2, 1) := by decide +kernel
theorem dL_law_1228 : decode cL_law 1228 = .ok (.aload_n 0, 1) := by decide +kernel
theorem dL_law_1229 : decode cL_law 1229 = .ok (.iload 4, 2) := by decide +kernel
theorem dL_law_1231 : decode cL_law 1231 = .ok (.iconst 1, 1) := by decide +kernel
theorem dL_law_1232 : decode cL_law 1232 = .ok (.iadd, 1) := by decide +kernel
theorem dL_law_1233 : decode cL_law 1233 = .ok (.iaload, 1) := by decide +kernel
theorem dL_law_1234 : decode cL_law 1234 = .ok (.aload_n 0, 1) := by decide +kernel
theorem dL_law_1235 : decode cL_law 1235 = .ok (.iload 4, 2) := by decide +kernel
theorem dL_law_1237 : decode cL_law 1237 = .ok (.iconst 2, 1) := by decide +kernel
theorem dL_law_1238 : decode cL_law 1238 = .ok (.iadd, 1) := by decide +kernel
theorem dL_law_1239 : decode cL_law 1239 = .ok (.iaload, 1) := by decide +kernel
theorem dL_law_1240 : decode cL_law 1240 = .ok (.invokevirtual 166, 3) := by decide +kernel
theorem dL_law_1243 : decode cL_law 1243 = .ok (.istore 6, 2) := by decide +kernel
theorem dL_law_1245 : decode cL_law 1245 = .ok (.aload_n 2, 1) := by decide +kernel
theorem dL_law_1246 : decode cL_law 1246 = .ok (.invokevirtual 109, 3) := by decide +kernel
theorem dL_law_1249 : decode cL_law 1249 = .ok (.iload 5, 2) := by decide +kernel
theorem dL_law_1251 : decode cL_law 1251 = .ok (.if_icmp .eq 5, 3) := by decide +kernel
theorem dL_law_1254 : decode cL_law 1254 = .ok (.iconst 0, 1) := by decide +kernel
theorem dL_law_1255 : decode cL_law 1255 = .ok (.ireturn, 1) := by decide +kernel
theorem dL_law_1256 : decode cL_law 1256 = .ok (.iload 5, 2) := by decide +kernel
theorem dL_law_1258 : decode cL_law 1258 = .ok (.ifCond .ne 15, 3) := by decide +kernel
theorem dL_law_1261 : decode cL_law 1261 = .ok (.aload_n 3, 1) := by decide +kernel
theorem dL_law_1262 : decode cL_law 1262 = .ok (.iconst 0, 1) := by decide +kernel
theorem dL_law_1263 : decode cL_law 1263 = .ok (.laload, 1) := by decide +kernel
theorem dL_law_1264 : decode cL_law 1264 = .ok (.iload 6, 2) := by decide +kernel
theorem dL_law_1266 : decode cL_law 1266 = .ok (.i2l, 1) := by decide +kernel
theorem dL_law_1267 : decode cL_law 1267 = .ok (.lcmp, 1) := by decide +kernel
theorem dL_law_1268 : decode cL_law 1268 = .ok (.ifCond .eq 5, 3) := by decide +kernel
theorem dL_law_1271 : decode cL_law 1271 = .ok (.iconst 0, 1) := by decide +kernel
theorem dL_law_1272 : decode cL_law 1272 = .ok (.ireturn, 1) := by decide +kernel
theorem dL_law_1273 : decode cL_law 1273 = .ok (.goto 576, 3) := by decide +kernel
theorem dL_law_1276 : decode cL_law 1276 = .ok (.aload_n 1, 1) := by decide +kernel
theorem dL_law_1277 : decode cL_law 1277 = .ok (.aload_n 0, 1) := by decide +kernel
theorem dL_law_1278 : decode cL_law 1278 = .ok (.iload 4, 2) := by decide +kernel
theorem dL_law_1280 : decode cL_law 1280 = .ok (.iconst 1, 1) := by decide +kernel
theorem dL_law_1281 : decode cL_law 1281 = .ok (.iadd, 1) := by decide +kernel
theorem dL_law_1282 : decode cL_law 1282 = .ok (.iaload, 1) := by decide +kernel
theorem dL_law_1283 : decode cL_law 1283 = .ok (.aload_n 3, 1) := by decide +kernel
theorem dL_law_1284 : decode cL_law 1284 = .ok (.invokestatic 167, 3) := by decide +kernel
theorem dL_law_1287 : decode cL_law 1287 = .ok (.istore 5, 2) := by decide +kernel
theorem dL_law_1289 : decode cL_law 1289 = .ok (.aload_n 2, 1) := by decide +kernel
theorem dL_law_1290 : decode cL_law 1290 = .ok (.aload_n 0, 1) := by decide +kernel
theorem dL_law_1291 : decode cL_law 1291 = .ok (.iload 4, 2) := by decide +kernel
theorem dL_law_1293 : decode cL_law 1293 = .ok (.iconst 1, 1) := by decide +kernel
theorem dL_law_1294 : decode cL_law 1294 = .ok (.iadd, 1) := by decide +kernel
theorem dL_law_1295 : decode cL_law 1295 = .ok (.iaload, 1) := by decide +kernel
theorem dL_law_1296 : decode cL_law 1296 = .ok (.invokevirtual 169, 3) := by decide +kernel
theorem dL_law_1299 : decode cL_law 1299 = .ok (.istore 6, 2) := by decide +kernel
theorem dL_law_1301 : decode cL_law 1301 = .ok (.aload_n 2, 1) := by decide +kernel
theorem dL_law_1302 : decode cL_law 1302 = .ok (.invokevirtual 109, 3) := by decide +kernel
theorem dL_law_1305 : decode cL_law 1305 = .ok (.iload 5, 2) := by decide +kernel
theorem dL_law_1307 : decode cL_law 1307 = .ok (.if_icmp .eq 5, 3) := by decide +kernel
theorem dL_law_1310 : decode cL_law 1310 = .ok (.iconst 0, 1) := by decide +kernel
theorem dL_law_1311 : decode cL_law 1311 = .ok (.ireturn, 1) := by decide +kernel
theorem dL_law_1312 : decode cL_law 1312 = .ok (.iload 5, 2) := by decide +kernel
theorem dL_law_1314 : decode cL_law 1314 = .ok (.ifCond .ne 15, 3) := by decide +kernel
theorem dL_law_1317 : decode cL_law 1317 = .ok (.aload_n 3, 1) := by decide +kernel
theorem dL_law_1318 : decode cL_law 1318 = .ok (.iconst 0, 1) := by decide +kernel
theorem dL_law_1319 : decode cL_law 1319 = .ok (.laload, 1) := by decide +kernel
theorem dL_law_1320 : decode cL_law 1320 = .ok (.iload 6, 2) := by decide +kernel
theorem dL_law_1322 : decode cL_law 1322 = .ok (.i2l, 1) := by decide +kernel
theorem dL_law_1323 : decode cL_law 1323 = .ok (.lcmp, 1) := by decide +kernel
theorem dL_law_1324 : decode cL_law 1324 = .ok (.ifCond .eq 5, 3) := by decide +kernel
theorem dL_law_1327 : decode cL_law 1327 = .ok (.iconst 0, 1) := by decide +kernel
theorem dL_law_1328 : decode cL_law 1328 = .ok (.ireturn, 1) := by decide +kernel
theorem dL_law_1329 : decode cL_law 1329 = .ok (.goto 520, 3) := by decide +kernel
theorem dL_law_1332 : decode cL_law 1332 = .ok (.aload_n 1, 1) := by decide +kernel
theorem dL_law_1333 : decode cL_law 1333 = .ok (.aload_n 0, 1) := by decide +kernel
theorem dL_law_1334 : decode cL_law 1334 = .ok (.iload 4, 2) := by decide +kernel
theorem dL_law_1336 : decode cL_law 1336 = .ok (.iconst 1, 1) := by decide +kernel
theorem dL_law_1337 : decode cL_law 1337 = .ok (.iadd, 1) := by decide +kernel
theorem dL_law_1338 : decode cL_law 1338 = .ok (.iaload, 1) := by decide +kernel
theorem dL_law_1339 : decode cL_law 1339 = .ok (.aload_n 3, 1) := by decide +kernel
theorem dL_law_1340 : decode cL_law 1340 = .ok (.invokestatic 170, 3) := by decide +kernel
theorem dL_law_1343 : decode cL_law 1343 = .ok (.istore 5, 2) := by decide +kernel
theorem dL_law_1345 : decode cL_law 1345 = .ok (.aload_n 2, 1) := by decide +kernel
theorem dL_law_1346 : decode cL_law 1346 = .ok (.aload_n 0, 1) := by decide +kernel
theorem dL_law_1347 : decode cL_law 1347 = .ok (.iload 4, 2) := by decide +kernel
theorem dL_law_1349 : decode cL_law 1349 = .ok (.iconst 1, 1) := by decide +kernel
theorem dL_law_1350 : decode cL_law 1350 = .ok (.iadd, 1) := by decide +kernel
theorem dL_law_1351 : decode cL_law 1351 = .ok (.iaload, 1) := by decide +kernel
theorem dL_law_1352 : decode cL_law 1352 = .ok (.invokevirtual 172, 3) := by decide +kernel
theorem dL_law_1355 : decode cL_law 1355 = .ok (.istore 6, 2) := by decide +kernel
theorem dL_law_1357 : decode cL_law 1357 = .ok (.aload_n 2, 1) := by decide +kernel
theorem dL_law_1358 : decode cL_law 1358 = .ok (.invokevirtual 109, 3) := by decide +kernel
theorem dL_law_1361 : decode cL_law 1361 = .ok (.iload 5, 2) := by decide +kernel
theorem dL_law_1363 : decode cL_law 1363 = .ok (.if_icmp .eq 5, 3) := by decide +kernel
theorem dL_law_1366 : decode cL_law 1366 = .ok (.iconst 0, 1) := by decide +kernel
theorem dL_law_1367 : decode cL_law 1367 = .ok (.ireturn, 1) := by decide +kernel
theorem dL_law_1368 : decode cL_law 1368 = .ok (.iload 5, 2) := by decide +kernel
theorem dL_law_1370 : decode cL_law 1370 = .ok (.ifCond .ne 15, 3) := by decide +kernel
theorem dL_law_1373 : decode cL_law 1373 = .ok (.aload_n 3, 1) := by decide +kernel
theorem dL_law_1374 : decode cL_law 1374 = .ok (.iconst 0, 1) := by decide +kernel
theorem dL_law_1375 : decode cL_law 1375 = .ok (.laload, 1) := by decide +kernel
theorem dL_law_1376 : decode cL_law 1376 = .ok (.iload 6, 2) := by decide +kernel
theorem dL_law_1378 : decode cL_law 1378 = .ok (.i2l, 1) := by decide +kernel
theorem dL_law_1379 : decode cL_law 1379 = .ok (.lcmp, 1) := by decide +kernel
theorem dL_law_1380 : decode cL_law 1380 = .ok (.ifCond .eq 5, 3) := by decide +kernel
theorem dL_law_1383 : decode cL_law 1383 = .ok (.iconst 0, 1) := by decide +kernel
theorem dL_law_1384 : decode cL_law 1384 = .ok (.ireturn, 1) := by decide +kernel
theorem dL_law_1385 : decode cL_law 1385 = .ok (.goto 464, 3) := by decide +kernel
theorem dL_law_1388 : decode cL_law 1388 = .ok (.aload_n 1, 1) := by decide +kernel
theorem dL_law_1389 : decode cL_law 1389 = .ok (.aload_n 0, 1) := by decide +kernel
theorem dL_law_1390 : decode cL_law 1390 = .ok (.iload 4, 2) := by decide +kernel
theorem dL_law_1392 : decode cL_law 1392 = .ok (.iconst 1, 1) := by decide +kernel
theorem dL_law_1393 : decode cL_law 1393 = .ok (.iadd, 1) := by decide +kernel
theorem dL_law_1394 : decode cL_law 1394 = .ok (.iaload, 1) := by decide +kernel
theorem dL_law_1395 : decode cL_law 1395 = .ok (.aload_n 3, 1) := by decide +kernel
theorem dL_law_1396 : decode cL_law 1396 = .ok (.invokestatic 173, 3) := by decide +kernel
theorem dL_law_1399 : decode cL_law 1399 = .ok (.istore 5, 2) := by decide +kernel
theorem dL_law_1401 : decode cL_law 1401 = .ok (.aload_n 2, 1) := by decide +kernel
theorem dL_law_1402 : decode cL_law 1402 = .ok (.aload_n 0, 1) := by decide +kernel
theorem dL_law_1403 : decode cL_law 1403 = .ok (.iload 4, 2) := by decide +kernel
theorem dL_law_1405 : decode cL_law 1405 = .ok (.iconst 1, 1) := by decide +kernel
theorem dL_law_1406 : decode cL_law 1406 = .ok (.iadd, 1) := by decide +kernel
theorem dL_law_1407 : decode cL_law 1407 = .ok (.iaload, 1) := by decide +kernel
theorem dL_law_1408 : decode cL_law 1408 = .ok (.invokevirtual 175, 3) := by decide +kernel
theorem dL_law_1411 : decode cL_law 1411 = .ok (.istore 6, 2) := by decide +kernel
theorem dL_law_1413 : decode cL_law 1413 = .ok (.aload_n 2, 1) := by decide +kernel
theorem dL_law_1414 : decode cL_law 1414 = .ok (.invokevirtual 109, 3) := by decide +kernel
theorem dL_law_1417 : decode cL_law 1417 = .ok (.iload 5, 2) := by decide +kernel
theorem dL_law_1419 : decode cL_law 1419 = .ok (.if_icmp .eq 5, 3) := by decide +kernel
theorem dL_law_1422 : decode cL_law 1422 = .ok (.iconst 0, 1) := by decide +kernel
theorem dL_law_1423 : decode cL_law 1423 = .ok (.ireturn, 1) := by decide +kernel
theorem dL_law_1424 : decode cL_law 1424 = .ok (.iload 5, 2) := by decide +kernel
theorem dL_law_1426 : decode cL_law 1426 = .ok (.ifCond .ne 15, 3) := by decide +kernel
theorem dL_law_1429 : decode cL_law 1429 = .ok (.aload_n 3, 1) := by decide +kernel
theorem dL_law_1430 : decode cL_law 1430 = .ok (.iconst 0, 1) := by decide +kernel
theorem dL_law_1431 : decode cL_law 1431 = .ok (.laload, 1) := by decide +kernel
theorem dL_law_1432 : decode cL_law 1432 = .ok (.iload 6, 2) := by decide +kernel
theorem dL_law_1434 : decode cL_law 1434 = .ok (.i2l, 1) := by decide +kernel
theorem dL_law_1435 : decode cL_law 1435 = .ok (.lcmp, 1) := by decide +kernel
theorem dL_law_1436 : decode cL_law 1436 = .ok (.ifCond .eq 5, 3) := by decide +kernel
theorem dL_law_1439 : decode cL_law 1439 = .ok (.iconst 0, 1) := by decide +kernel
theorem dL_law_1440 : decode cL_law 1440 = .ok (.ireturn, 1) := by decide +kernel
theorem dL_law_1441 : decode cL_law 1441 = .ok (.goto 408, 3) := by decide +kernel
theorem dL_law_1444 : decode cL_law 1444 = .ok (.aload_n 1, 1) := by decide +kernel
theorem dL_law_1445 : decode cL_law 1445 = .ok (.aload_n 0, 1) := by decide +kernel
theorem dL_law_1446 : decode cL_law 1446 = .ok (.iload 4, 2) := by decide +kernel
theorem dL_law_1448 : decode cL_law 1448 = .ok (.iconst 1, 1) := by decide +kernel
theorem dL_law_1449 : decode cL_law 1449 = .ok (.iadd, 1) := by decide +kernel
theorem dL_law_1450 : decode cL_law 1450 = .ok (.iaload, 1) := by decide +kernel
theorem dL_law_1451 : decode cL_law 1451 = .ok (.aload_n 3, 1) := by decide +kernel
theorem dL_law_1452 : decode cL_law 1452 = .ok (.invokestatic 176, 3) := by decide +kernel
theorem dL_law_1455 : decode cL_law 1455 = .ok (.istore 5, 2) := by decide +kernel
theorem dL_law_1457 : decode cL_law 1457 = .ok (.aload_n 2, 1) := by decide +kernel
theorem dL_law_1458 : decode cL_law 1458 = .ok (.aload_n 0, 1) := by decide +kernel
theorem dL_law_1459 : decode cL_law 1459 = .ok (.iload 4, 2) := by decide +kernel
theorem dL_law_1461 : decode cL_law 1461 = .ok (.iconst 1, 1) := by decide +kernel
theorem dL_law_1462 : decode cL_law 1462 = .ok (.iadd, 1) := by decide +kernel
theorem dL_law_1463 : decode cL_law 1463 = .ok (.iaload, 1) := by decide +kernel
theorem dL_law_1464 : decode cL_law 1464 = .ok (.invokevirtual 178, 3) := by decide +kernel
theorem dL_law_1467 : decode cL_law 1467 = .ok (.istore 6, 2) := by decide +kernel
theorem dL_law_1469 : decode cL_law 1469 = .ok (.aload_n 2, 1) := by decide +kernel
theorem dL_law_1470 : decode cL_law 1470 = .ok (.invokevirtual 109, 3) := by decide +kernel
theorem dL_law_1473 : decode cL_law 1473 = .ok (.iload 5, 2) := by decide +kernel
theorem dL_law_1475 : decode cL_law 1475 = .ok (.if_icmp .eq 5, 3) := by decide +kernel
theorem dL_law_1478 : decode cL_law 1478 = .ok (.iconst 0, 1) := by decide +kernel
theorem dL_law_1479 : decode cL_law 1479 = .ok (.ireturn, 1) := by decide +kernel
theorem dL_law_1480 : decode cL_law 1480 = .ok (.iload 5, 2) := by decide +kernel
theorem dL_law_1482 : decode cL_law 1482 = .ok (.ifCond .ne 15, 3) := by decide +kernel
theorem dL_law_1485 : decode cL_law 1485 = .ok (.aload_n 3, 1) := by decide +kernel
theorem dL_law_1486 : decode cL_law 1486 = .ok (.iconst 0, 1) := by decide +kernel
theorem dL_law_1487 : decode cL_law 1487 = .ok (.laload, 1) := by decide +kernel
theorem dL_law_1488 : decode cL_law 1488 = .ok (.iload 6, 2) := by decide +kernel
theorem dL_law_1490 : decode cL_law 1490 = .ok (.i2l, 1) := by decide +kernel
theorem dL_law_1491 : decode cL_law 1491 = .ok (.lcmp, 1) := by decide +kernel
theorem dL_law_1492 : decode cL_law 1492 = .ok (.ifCond .eq 5, 3) := by decide +kernel
theorem dL_law_1495 : decode cL_law 1495 = .ok (.iconst 0, 1) := by decide +kernel
theorem dL_law_1496 : decode cL_law 1496 = .ok (.ireturn, 1) := by decide +kernel
theorem dL_law_1497 : decode cL_law 1497 = .ok (.goto 352, 3) := by decide +kernel
theorem dL_law_1500 : decode cL_law 1500 = .ok (.aload_n 1, 1) := by decide +kernel
theorem dL_law_1501 : decode cL_law 1501 = .ok (.invokevirtual 179, 3) := by decide +kernel
theorem dL_law_1504 : decode cL_law 1504 = .ok (.dstore 5, 2) := by decide +kernel
theorem dL_law_1506 : decode cL_law 1506 = .ok (.aload_n 2, 1) := by decide +kernel
theorem dL_law_1507 : decode cL_law 1507 = .ok (.invokevirtual 183, 3) := by decide +kernel
theorem dL_law_1510 : decode cL_law 1510 = .ok (.dstore 7, 2) := by decide +kernel
theorem dL_law_1512 : decode cL_law 1512 = .ok (.dload 5, 2) := by decide +kernel
theorem dL_law_1514 : decode cL_law 1514 = .ok (.dload 7, 2) := by decide +kernel
theorem dL_law_1516 : decode cL_law 1516 = .ok (.dcmp .l, 1) := by decide +kernel
theorem dL_law_1517 : decode cL_law 1517 = .ok (.ifCond .eq 21, 3) := by decide +kernel
theorem dL_law_1520 : decode cL_law 1520 = .ok (.dload 5, 2) := by decide +kernel
theorem dL_law_1522 : decode cL_law 1522 = .ok (.dload 5, 2) := by decide +kernel
theorem dL_law_1524 : decode cL_law 1524 = .ok (.dcmp .l, 1) := by decide +kernel
theorem dL_law_1525 : decode cL_law 1525 = .ok (.ifCond .eq 11, 3) := by decide +kernel
theorem dL_law_1528 : decode cL_law 1528 = .ok (.dload 7, 2) := by decide +kernel
theorem dL_law_1530 : decode cL_law 1530 = .ok (.dload 7, 2) := by decide +kernel
theorem dL_law_1532 : decode cL_law 1532 = .ok (.dcmp .l, 1) := by decide +kernel
theorem dL_law_1533 : decode cL_law 1533 = .ok (.ifCond .ne 5, 3) := by decide +kernel
theorem dL_law_1536 : decode cL_law 1536 = .ok (.iconst 0, 1) := by decide +kernel
theorem dL_law_1537 : decode cL_law 1537 = .ok (.ireturn, 1) := by decide +kernel
theorem dL_law_1538 : decode cL_law 1538 = .ok (.goto 311, 3) := by decide +kernel
theorem dL_law_1541 : decode cL_law 1541 = .ok (.aload_n 1, 1) := by decide +kernel
theorem dL_law_1542 : decode cL_law 1542 = .ok (.aload_n 0, 1) := by decide +kernel
theorem dL_law_1543 : decode cL_law 1543 = .ok (.iload 4, 2) := by decide +kernel
theorem dL_law_1545 : decode cL_law 1545 = .ok (.iconst 1, 1) := by decide +kernel
theorem dL_law_1546 : decode cL_law 1546 = .ok (.iadd, 1) := by decide +kernel
theorem dL_law_1547 : decode cL_law 1547 = .ok (.iaload, 1) := by decide +kernel
theorem dL_law_1548 : decode cL_law 1548 = .ok (.aload_n 3, 1) := by decide +kernel
theorem dL_law_1549 : decode cL_law 1549 = .ok (.invokestatic 184, 3) := by decide +kernel
theorem dL_law_1552 : decode cL_law 1552 = .ok (.istore 5, 2) := by decide +kernel
theorem dL_law_1554 : decode cL_law 1554 = .ok (.aload_n 2, 1) := by decide +kernel
theorem dL_law_1555 : decode cL_law 1555 = .ok (.aload_n 0, 1) := by decide +kernel
theorem dL_law_1556 : decode cL_law 1556 = .ok (.iload 4, 2) := by decide +kernel
theorem dL_law_1558 : decode cL_law 1558 = .ok (.iconst 1, 1) := by decide +kernel
theorem dL_law_1559 : decode cL_law 1559 = .ok (.iadd, 1) := by decide +kernel
theorem dL_law_1560 : decode cL_law 1560 = .ok (.iaload, 1) := by decide +kernel
theorem dL_law_1561 : decode cL_law 1561 = .ok (.invokevirtual 186, 3) := by decide +kernel
theorem dL_law_1564 : decode cL_law 1564 = .ok (.istore 6, 2) := by decide +kernel
theorem dL_law_1566 : decode cL_law 1566 = .ok (.aload_n 2, 1) := by decide +kernel
theorem dL_law_1567 : decode cL_law 1567 = .ok (.invokevirtual 109, 3) := by decide +kernel
theorem dL_law_1570 : decode cL_law 1570 = .ok (.iload 5, 2) := by decide +kernel
theorem dL_law_1572 : decode cL_law 1572 = .ok (.if_icmp .eq 5, 3) := by decide +kernel
theorem dL_law_1575 : decode cL_law 1575 = .ok (.iconst 0, 1) := by decide +kernel
theorem dL_law_1576 : decode cL_law 1576 = .ok (.ireturn, 1) := by decide +kernel
theorem dL_law_1577 : decode cL_law 1577 = .ok (.iload 5, 2) := by decide +kernel
theorem dL_law_1579 : decode cL_law 1579 = .ok (.ifCond .ne 15, 3) := by decide +kernel
theorem dL_law_1582 : decode cL_law 1582 = .ok (.aload_n 3, 1) := by decide +kernel
theorem dL_law_1583 : decode cL_law 1583 = .ok (.iconst 0, 1) := by decide +kernel
theorem dL_law_1584 : decode cL_law 1584 = .ok (.laload, 1) := by decide +kernel
theorem dL_law_1585 : decode cL_law 1585 = .ok (.iload 6, 2) := by decide +kernel
theorem dL_law_1587 : decode cL_law 1587 = .ok (.i2l, 1) := by decide +kernel
theorem dL_law_1588 : decode cL_law 1588 = .ok (.lcmp, 1) := by decide +kernel
theorem dL_law_1589 : decode cL_law 1589 = .ok (.ifCond .eq 5, 3) := by decide +kernel
theorem dL_law_1592 : decode cL_law 1592 = .ok (.iconst 0, 1) := by decide +kernel
theorem dL_law_1593 : decode cL_law 1593 = .ok (.ireturn, 1) := by decide +kernel
theorem dL_law_1594 : decode cL_law 1594 = .ok (.goto 255, 3) := by decide +kernel
theorem dL_law_1597 : decode cL_law 1597 = .ok (.aload_n 1, 1) := by decide +kernel
theorem dL_law_1598 : decode cL_law 1598 = .ok (.aload_n 0, 1) := by decide +kernel
theorem dL_law_1599 : decode cL_law 1599 = .ok (.iload 4, 2) := by decide +kernel
theorem dL_law_1601 : decode cL_law 1601 = .ok (.iconst 1, 1) := by decide +kernel
theorem dL_law_1602 : decode cL_law 1602 = .ok (.iadd, 1) := by decide +kernel
theorem dL_law_1603 : decode cL_law 1603 = .ok (.iaload, 1) := by decide +kernel
theorem dL_law_1604 : decode cL_law 1604 = .ok (.aload_n 3, 1) := by decide +kernel
theorem dL_law_1605 : decode cL_law 1605 = .ok (.invokestatic 187, 3) := by decide +kernel
theorem dL_law_1608 : decode cL_law 1608 = .ok (.istore 5, 2) := by decide +kernel
theorem dL_law_1610 : decode cL_law 1610 = .ok (.aload_n 2, 1) := by decide +kernel
theorem dL_law_1611 : decode cL_law 1611 = .ok (.aload_n 0, 1) := by decide +kernel
theorem dL_law_1612 : decode cL_law 1612 = .ok (.iload 4, 2) := by decide +kernel
theorem dL_law_1614 : decode cL_law 1614 = .ok (.iconst 1, 1) := by decide +kernel
theorem dL_law_1615 : decode cL_law 1615 = .ok (.iadd, 1) := by decide +kernel
theorem dL_law_1616 : decode cL_law 1616 = .ok (.iaload, 1) := by decide +kernel
theorem dL_law_1617 : decode cL_law 1617 = .ok (.invokevirtual 189, 3) := by decide +kernel
theorem dL_law_1620 : decode cL_law 1620 = .ok (.istore 6, 2) := by decide +kernel
theorem dL_law_1622 : decode cL_law 1622 = .ok (.aload_n 2, 1) := by decide +kernel
theorem dL_law_1623 : decode cL_law 1623 = .ok (.invokevirtual 109, 3) := by decide +kernel
theorem dL_law_1626 : decode cL_law 1626 = .ok (.iload 5, 2) := by decide +kernel
theorem dL_law_1628 : decode cL_law 1628 = .ok (.if_icmp .eq 5, 3) := by decide +kernel
theorem dL_law_1631 : decode cL_law 1631 = .ok (.iconst 0, 1) := by decide +kernel
theorem dL_law_1632 : decode cL_law 1632 = .ok (.ireturn, 1) := by decide +kernel
theorem dL_law_1633 : decode cL_law 1633 = .ok (.iload 5, 2) := by decide +kernel
theorem dL_law_1635 : decode cL_law 1635 = .ok (.ifCond .ne 15, 3) := by decide +kernel
theorem dL_law_1638 : decode cL_law 1638 = .ok (.aload_n 3, 1) := by decide +kernel
theorem dL_law_1639 : decode cL_law 1639 = .ok (.iconst 0, 1) := by decide +kernel
theorem dL_law_1640 : decode cL_law 1640 = .ok (.laload, 1) := by decide +kernel
theorem dL_law_1641 : decode cL_law 1641 = .ok (.iload 6, 2) := by decide +kernel
theorem dL_law_1643 : decode cL_law 1643 = .ok (.i2l, 1) := by decide +kernel
theorem dL_law_1644 : decode cL_law 1644 = .ok (.lcmp, 1) := by decide +kernel
theorem dL_law_1645 : decode cL_law 1645 = .ok (.ifCond .eq 5, 3) := by decide +kernel
theorem dL_law_1648 : decode cL_law 1648 = .ok (.iconst 0, 1) := by decide +kernel
theorem dL_law_1649 : decode cL_law 1649 = .ok (.ireturn, 1) := by decide +kernel
theorem dL_law_1650 : decode cL_law 1650 = .ok (.goto 199, 3) := by decide +kernel
theorem dL_law_1653 : decode cL_law 1653 = .ok (.aload_n 1, 1) := by decide +kernel
theorem dL_law_1654 : decode cL_law 1654 = .ok (.aload_n 0, 1) := by decide +kernel
theorem dL_law_1655 : decode cL_law 1655 = .ok (.iload 4, 2) := by decide +kernel
theorem dL_law_1657 : decode cL_law 1657 = .ok (.iconst 1, 1) := by decide +kernel
theorem dL_law_1658 : decode cL_law 1658 = .ok (.iadd, 1) := by decide +kernel
theorem dL_law_1659 : decode cL_law 1659 = .ok (.iaload, 1) := by decide +kernel
theorem dL_law_1660 : decode cL_law 1660 = .ok (.aload_n 3, 1) := by decide +kernel
theorem dL_law_1661 : decode cL_law 1661 = .ok (.invokestatic 190, 3) := by decide +kernel
theorem dL_law_1664 : decode cL_law 1664 = .ok (.istore 5, 2) := by decide +kernel
theorem dL_law_1666 : decode cL_law 1666 = .ok (.aload_n 2, 1) := by decide +kernel
theorem dL_law_1667 : decode cL_law 1667 = .ok (.aload_n 0, 1) := by decide +kernel
theorem dL_law_1668 : decode cL_law 1668 = .ok (.iload 4, 2) := by decide +kernel
theorem dL_law_1670 : decode cL_law 1670 = .ok (.iconst 1, 1) := by decide +kernel
theorem dL_law_1671 : decode cL_law 1671 = .ok (.iadd, 1) := by decide +kernel
theorem dL_law_1672 : decode cL_law 1672 = .ok (.iaload, 1) := by decide +kernel
theorem dL_law_1673 : decode cL_law 1673 = .ok (.invokevirtual 192, 3) := by decide +kernel
theorem dL_law_1676 : decode cL_law 1676 = .ok (.istore 6, 2) := by decide +kernel
theorem dL_law_1678 : decode cL_law 1678 = .ok (.aload_n 2, 1) := by decide +kernel
theorem dL_law_1679 : decode cL_law 1679 = .ok (.invokevirtual 109, 3) := by decide +kernel
theorem dL_law_1682 : decode cL_law 1682 = .ok (.iload 5, 2) := by decide +kernel
theorem dL_law_1684 : decode cL_law 1684 = .ok (.if_icmp .eq 5, 3) := by decide +kernel
theorem dL_law_1687 : decode cL_law 1687 = .ok (.iconst 0, 1) := by decide +kernel
theorem dL_law_1688 : decode cL_law 1688 = .ok (.ireturn, 1) := by decide +kernel
theorem dL_law_1689 : decode cL_law 1689 = .ok (.iload 5, 2) := by decide +kernel
theorem dL_law_1691 : decode cL_law 1691 = .ok (.ifCond .ne 15, 3) := by decide +kernel
theorem dL_law_1694 : decode cL_law 1694 = .ok (.aload_n 3, 1) := by decide +kernel
theorem dL_law_1695 : decode cL_law 1695 = .ok (.iconst 0, 1) := by decide +kernel
theorem dL_law_1696 : decode cL_law 1696 = .ok (.laload, 1) := by decide +kernel
theorem dL_law_1697 : decode cL_law 1697 = .ok (.iload 6, 2) := by decide +kernel
theorem dL_law_1699 : decode cL_law 1699 = .ok (.i2l, 1) := by decide +kernel
theorem dL_law_1700 : decode cL_law 1700 = .ok (.lcmp, 1) := by decide +kernel
theorem dL_law_1701 : decode cL_law 1701 = .ok (.ifCond .eq 5, 3) := by decide +kernel
theorem dL_law_1704 : decode cL_law 1704 = .ok (.iconst 0, 1) := by decide +kernel
theorem dL_law_1705 : decode cL_law 1705 = .ok (.ireturn, 1) := by decide +kernel
theorem dL_law_1706 : decode cL_law 1706 = .ok (.goto 143, 3) := by decide +kernel
theorem dL_law_1709 : decode cL_law 1709 = .ok (.aload_n 1, 1) := by decide +kernel
theorem dL_law_1710 : decode cL_law 1710 = .ok (.aload_n 0, 1) := by decide +kernel
theorem dL_law_1711 : decode cL_law 1711 = .ok (.iload 4, 2) := by decide +kernel
theorem dL_law_1713 : decode cL_law 1713 = .ok (.iconst 1, 1) := by decide +kernel
theorem dL_law_1714 : decode cL_law 1714 = .ok (.iadd, 1) := by decide +kernel
theorem dL_law_1715 : decode cL_law 1715 = .ok (.iaload, 1) := by decide +kernel
theorem dL_law_1716 : decode cL_law 1716 = .ok (.aload_n 3, 1) := by decide +kernel
theorem dL_law_1717 : decode cL_law 1717 = .ok (.invokestatic 193, 3) := by decide +kernel
theorem dL_law_1720 : decode cL_law 1720 = .ok (.istore 5, 2) := by decide +kernel
theorem dL_law_1722 : decode cL_law 1722 = .ok (.aload_n 2, 1) := by decide +kernel
theorem dL_law_1723 : decode cL_law 1723 = .ok (.aload_n 0, 1) := by decide +kernel
theorem dL_law_1724 : decode cL_law 1724 = .ok (.iload 4, 2) := by decide +kernel
theorem dL_law_1726 : decode cL_law 1726 = .ok (.iconst 1, 1) := by decide +kernel
theorem dL_law_1727 : decode cL_law 1727 = .ok (.iadd, 1) := by decide +kernel
theorem dL_law_1728 : decode cL_law 1728 = .ok (.iaload, 1) := by decide +kernel
theorem dL_law_1729 : decode cL_law 1729 = .ok (.invokevirtual 195, 3) := by decide +kernel
theorem dL_law_1732 : decode cL_law 1732 = .ok (.istore 6, 2) := by decide +kernel
theorem dL_law_1734 : decode cL_law 1734 = .ok (.aload_n 2, 1) := by decide +kernel
theorem dL_law_1735 : decode cL_law 1735 = .ok (.invokevirtual 109, 3) := by decide +kernel
theorem dL_law_1738 : decode cL_law 1738 = .ok (.iload 5, 2) := by decide +kernel
theorem dL_law_1740 : decode cL_law 1740 = .ok (.if_icmp .eq 5, 3) := by decide +kernel
theorem dL_law_1743 : decode cL_law 1743 = .ok (.iconst 0, 1) := by decide +kernel
theorem dL_law_1744 : decode cL_law 1744 = .ok (.ireturn, 1) := by decide +kernel
theorem dL_law_1745 : decode cL_law 1745 = .ok (.iload 5, 2) := by decide +kernel
theorem dL_law_1747 : decode cL_law 1747 = .ok (.ifCond .ne 15, 3) := by decide +kernel
theorem dL_law_1750 : decode cL_law 1750 = .ok (.aload_n 3, 1) := by decide +kernel
theorem dL_law_1751 : decode cL_law 1751 = .ok (.iconst 0, 1) := by decide +kernel
theorem dL_law_1752 : decode cL_law 1752 = .ok (.laload, 1) := by decide +kernel
theorem dL_law_1753 : decode cL_law 1753 = .ok (.iload 6, 2) := by decide +kernel
theorem dL_law_1755 : decode cL_law 1755 = .ok (.i2l, 1) := by decide +kernel
theorem dL_law_1756 : decode cL_law 1756 = .ok (.lcmp, 1) := by decide +kernel
theorem dL_law_1757 : decode cL_law 1757 = .ok (.ifCond .eq 5, 3) := by decide +kernel
theorem dL_law_1760 : decode cL_law 1760 = .ok (.iconst 0, 1) := by decide +kernel
theorem dL_law_1761 : decode cL_law 1761 = .ok (.ireturn, 1) := by decide +kernel
theorem dL_law_1762 : decode cL_law 1762 = .ok (.goto 87, 3) := by decide +kernel
theorem dL_law_1765 : decode cL_law 1765 = .ok (.aload_n 1, 1) := by decide +kernel
theorem dL_law_1766 : decode cL_law 1766 = .ok (.invokevirtual 196, 3) := by decide +kernel
theorem dL_law_1769 : decode cL_law 1769 = .ok (.aload_n 2, 1) := by decide +kernel
theorem dL_law_1770 : decode cL_law 1770 = .ok (.invokevirtual 199, 3) := by decide +kernel
theorem dL_law_1773 : decode cL_law 1773 = .ok (.if_icmp .eq 76, 3) := by decide +kernel
theorem dL_law_1776 : decode cL_law 1776 = .ok (.iconst 0, 1) := by decide +kernel
theorem dL_law_1777 : decode cL_law 1777 = .ok (.ireturn, 1) := by decide +kernel
theorem dL_law_1778 : decode cL_law 1778 = .ok (.aload_n 1, 1) := by decide +kernel
theorem dL_law_1779 : decode cL_law 1779 = .ok (.invokevirtual 200, 3) := by decide +kernel
theorem dL_law_1782 : decode cL_law 1782 = .ok (.aload_n 2, 1) := by decide +kernel
theorem dL_law_1783 : decode cL_law 1783 = .ok (.invokevirtual 203, 3) := by decide +kernel
theorem dL_law_1786 : decode cL_law 1786 = .ok (.if_icmp .eq 63, 3) := by decide +kernel
theorem dL_law_1789 : decode cL_law 1789 = .ok (.iconst 0, 1) := by decide +kernel
theorem dL_law_1790 : decode cL_law 1790 = .ok (.ireturn, 1) := by decide +kernel
theorem dL_law_1791 : decode cL_law 1791 = .ok (.aload_n 1, 1) := by decide +kernel
theorem dL_law_1792 : decode cL_law 1792 = .ok (.aload_n 3, 1) := by decide +kernel
theorem dL_law_1793 : decode cL_law 1793 = .ok (.invokestatic 204, 3) := by decide +kernel
theorem dL_law_1796 : decode cL_law 1796 = .ok (.istore 5, 2) := by decide +kernel
theorem dL_law_1798 : decode cL_law 1798 = .ok (.aload_n 2, 1) := by decide +kernel
theorem dL_law_1799 : decode cL_law 1799 = .ok (.invokevirtual 207, 3) := by decide +kernel
theorem dL_law_1802 : decode cL_law 1802 = .ok (.istore 6, 2) := by decide +kernel
theorem dL_law_1804 : decode cL_law 1804 = .ok (.aload_n 2, 1) := by decide +kernel
theorem dL_law_1805 : decode cL_law 1805 = .ok (.invokevirtual 109, 3) := by decide +kernel
theorem dL_law_1808 : decode cL_law 1808 = .ok (.iload 5, 2) := by decide +kernel
theorem dL_law_1810 : decode cL_law 1810 = .ok (.if_icmp .eq 5, 3) := by decide +kernel
theorem dL_law_1813 : decode cL_law 1813 = .ok (.iconst 0, 1) := by decide +kernel
theorem dL_law_1814 : decode cL_law 1814 = .ok (.ireturn, 1) := by decide +kernel
theorem dL_law_1815 : decode cL_law 1815 = .ok (.iload 5, 2) := by decide +kernel
theorem dL_law_1817 : decode cL_law 1817 = .ok (.ifCond .ne 15, 3) := by decide +kernel
theorem dL_law_1820 : decode cL_law 1820 = .ok (.aload_n 3, 1) := by decide +kernel
theorem dL_law_1821 : decode cL_law 1821 = .ok (.iconst 0, 1) := by decide +kernel
theorem dL_law_1822 : decode cL_law 1822 = .ok (.laload, 1) := by decide +kernel
theorem dL_law_1823 : decode cL_law 1823 = .ok (.iload 6, 2) := by decide +kernel
theorem dL_law_1825 : decode cL_law 1825 = .ok (.i2l, 1) := by decide +kernel
theorem dL_law_1826 : decode cL_law 1826 = .ok (.lcmp, 1) := by decide +kernel
theorem dL_law_1827 : decode cL_law 1827 = .ok (.ifCond .eq 5, 3) := by decide +kernel
theorem dL_law_1830 : decode cL_law 1830 = .ok (.iconst 0, 1) := by decide +kernel
theorem dL_law_1831 : decode cL_law 1831 = .ok (.ireturn, 1) := by decide +kernel
theorem dL_law_1832 : decode cL_law 1832 = .ok (.goto 17, 3) := by decide +kernel
theorem dL_law_1835 : decode cL_law 1835 = .ok (.aload_n 1, 1) := by decide +kernel
theorem dL_law_1836 : decode cL_law 1836 = .ok (.invokevirtual 208, 3) := by decide +kernel
theorem dL_law_1839 : decode cL_law 1839 = .ok (.aload_n 2, 1) := by decide +kernel
theorem dL_law_1840 : decode cL_law 1840 = .ok (.invokevirtual 212, 3) := by decide +kernel
theorem dL_law_1843 : decode cL_law 1843 = .ok (.lcmp, 1) := by decide +kernel
theorem dL_law_1844 : decode cL_law 1844 = .ok (.ifCond .eq 5, 3) := by decide +kernel
theorem dL_law_1847 : decode cL_law 1847 = .ok (.iconst 0, 1) := by decide +kernel
theorem dL_law_1848 : decode cL_law 1848 = .ok (.ireturn, 1) := by decide +kernel
theorem dL_law_1849 : decode cL_law 1849 = .ok (.iinc 4 6, 3) := by decide +kernel
theorem dL_law_1852 : decode cL_law 1852 = .ok (.goto (-1829), 3) := by decide +kernel
theorem dL_law_1855 : decode cL_law 1855 = .ok (.iconst 1, 1) := by decide +kernel
theorem dL_law_1856 : decode cL_law 1856 = .ok (.ireturn, 1) := by decide +kernel
end
