section
-- ===== PART A: goes FIRST, ahead of the names: the tables' words, and 'selects' of the private methods out of them =====
/-- a private method of a class that the tables say can be made, by its rows of tables_1 -/
def lw_okq (q : MethodName × Nat) : Prop := (q.1.cls ≠ "java/lang/invoke/MethodHandle" ∧ q.1.cls ≠ "java/lang/invoke/VarHandle") ∧ Cond.instantiable q.1.cls q.2 ∈ tables_1 ∧ Cond.privateMethod q.1 ∈ tables_1 ∧ Cond.instanceMethod q.1 ∈ tables_1
theorem lw_p0 : lw_okq (⟨"MatchboxModem$Line", "attempt", "(ILMatchboxModem$Sending;)V"⟩, 13) := ⟨⟨by decide +kernel, by decide +kernel⟩, List.mem_of_getElem? (i := 158) (by decide +kernel), List.mem_of_getElem? (i := 497) (by decide +kernel), List.mem_of_getElem? (i := 498) (by decide +kernel)⟩
theorem lw_p1 : lw_okq (⟨"MatchboxModem$Line", "endNap", "()V"⟩, 13) := ⟨⟨by decide +kernel, by decide +kernel⟩, List.mem_of_getElem? (i := 158) (by decide +kernel), List.mem_of_getElem? (i := 501) (by decide +kernel), List.mem_of_getElem? (i := 502) (by decide +kernel)⟩
theorem lw_p2 : lw_okq (⟨"MatchboxModem$Sending", "take", "(I)V"⟩, 5) := ⟨⟨by decide +kernel, by decide +kernel⟩, List.mem_of_getElem? (i := 123) (by decide +kernel), List.mem_of_getElem? (i := 527) (by decide +kernel), List.mem_of_getElem? (i := 528) (by decide +kernel)⟩
theorem lw_p3 : lw_okq (⟨"MatchboxModem$Line", "receive", "(II[I)V"⟩, 13) := ⟨⟨by decide +kernel, by decide +kernel⟩, List.mem_of_getElem? (i := 158) (by decide +kernel), List.mem_of_getElem? (i := 541) (by decide +kernel), List.mem_of_getElem? (i := 542) (by decide +kernel)⟩
theorem lw_p4 : lw_okq (⟨"MatchboxModem$Line", "settle", "(II)V"⟩, 13) := ⟨⟨by decide +kernel, by decide +kernel⟩, List.mem_of_getElem? (i := 158) (by decide +kernel), List.mem_of_getElem? (i := 549) (by decide +kernel), List.mem_of_getElem? (i := 550) (by decide +kernel)⟩
theorem lw_p5 : lw_okq (⟨"java/lang/Throwable", "fillInStackTrace", "(I)Ljava/lang/Throwable;"⟩, 6) := ⟨⟨by decide +kernel, by decide +kernel⟩, List.mem_of_getElem? (i := 670) (by decide +kernel), List.mem_of_getElem? (i := 668) (by decide +kernel), List.mem_of_getElem? (i := 669) (by decide +kernel)⟩
theorem lw_p6 : lw_okq (⟨"MatchboxModem$Line", "readModem", "(LMatchboxModem$Tokens;)Z"⟩, 13) := ⟨⟨by decide +kernel, by decide +kernel⟩, List.mem_of_getElem? (i := 158) (by decide +kernel), List.mem_of_getElem? (i := 752) (by decide +kernel), List.mem_of_getElem? (i := 753) (by decide +kernel)⟩
theorem lw_p7 : lw_okq (⟨"MatchboxModem$Line", "readDogs", "(LMatchboxModem$Tokens;)Z"⟩, 13) := ⟨⟨by decide +kernel, by decide +kernel⟩, List.mem_of_getElem? (i := 158) (by decide +kernel), List.mem_of_getElem? (i := 824) (by decide +kernel), List.mem_of_getElem? (i := 825) (by decide +kernel)⟩
theorem lw_p8 : lw_okq (⟨"MatchboxModem$Commands", "readOne", "(LMatchboxModem$Tokens;)Z"⟩, 5) := ⟨⟨by decide +kernel, by decide +kernel⟩, List.mem_of_getElem? (i := 100) (by decide +kernel), List.mem_of_getElem? (i := 853) (by decide +kernel), List.mem_of_getElem? (i := 854) (by decide +kernel)⟩
theorem lw_p9 : lw_okq (⟨"MatchboxModem$Commands", "readArguments", "(LMatchboxModem$Tokens;I)Z"⟩, 5) := ⟨⟨by decide +kernel, by decide +kernel⟩, List.mem_of_getElem? (i := 100) (by decide +kernel), List.mem_of_getElem? (i := 870) (by decide +kernel), List.mem_of_getElem? (i := 871) (by decide +kernel)⟩
theorem lw_p10 : lw_okq (⟨"MatchboxModem$Commands", "readWord", "(LMatchboxModem$Tokens;)Z"⟩, 5) := ⟨⟨by decide +kernel, by decide +kernel⟩, List.mem_of_getElem? (i := 100) (by decide +kernel), List.mem_of_getElem? (i := 874) (by decide +kernel), List.mem_of_getElem? (i := 875) (by decide +kernel)⟩
theorem lw_p11 : lw_okq (⟨"MatchboxModem$Commands", "setArguments", "(III)Z"⟩, 5) := ⟨⟨by decide +kernel, by decide +kernel⟩, List.mem_of_getElem? (i := 100) (by decide +kernel), List.mem_of_getElem? (i := 878) (by decide +kernel), List.mem_of_getElem? (i := 879) (by decide +kernel)⟩
theorem lw_p12 : lw_okq (⟨"MatchboxModem$Commands", "readNumber", "(LMatchboxModem$Tokens;II)Z"⟩, 5) := ⟨⟨by decide +kernel, by decide +kernel⟩, List.mem_of_getElem? (i := 100) (by decide +kernel), List.mem_of_getElem? (i := 882) (by decide +kernel), List.mem_of_getElem? (i := 883) (by decide +kernel)⟩
theorem lw_p13 : lw_okq (⟨"MatchboxModem$Line", "endOf", "(I)I"⟩, 13) := ⟨⟨by decide +kernel, by decide +kernel⟩, List.mem_of_getElem? (i := 158) (by decide +kernel), List.mem_of_getElem? (i := 923) (by decide +kernel), List.mem_of_getElem? (i := 924) (by decide +kernel)⟩
theorem lw_p14 : lw_okq (⟨"MatchboxModem", "requireMessage", "(I)V"⟩, 10) := ⟨⟨by decide +kernel, by decide +kernel⟩, List.mem_of_getElem? (i := 25) (by decide +kernel), List.mem_of_getElem? (i := 985) (by decide +kernel), List.mem_of_getElem? (i := 986) (by decide +kernel)⟩
theorem lw_p15 : lw_okq (⟨"MatchboxModem", "requireFrame", "(I)V"⟩, 10) := ⟨⟨by decide +kernel, by decide +kernel⟩, List.mem_of_getElem? (i := 25) (by decide +kernel), List.mem_of_getElem? (i := 1027) (by decide +kernel), List.mem_of_getElem? (i := 1028) (by decide +kernel)⟩
def lw_privs_1 : List (MethodName × Nat) := [(⟨"MatchboxModem$Line", "attempt", "(ILMatchboxModem$Sending;)V"⟩, 13), (⟨"MatchboxModem$Line", "endNap", "()V"⟩, 13), (⟨"MatchboxModem$Sending", "take", "(I)V"⟩, 5), (⟨"MatchboxModem$Line", "receive", "(II[I)V"⟩, 13), (⟨"MatchboxModem$Line", "settle", "(II)V"⟩, 13), (⟨"java/lang/Throwable", "fillInStackTrace", "(I)Ljava/lang/Throwable;"⟩, 6), (⟨"MatchboxModem$Line", "readModem", "(LMatchboxModem$Tokens;)Z"⟩, 13), (⟨"MatchboxModem$Line", "readDogs", "(LMatchboxModem$Tokens;)Z"⟩, 13), (⟨"MatchboxModem$Commands", "readOne", "(LMatchboxModem$Tokens;)Z"⟩, 5), (⟨"MatchboxModem$Commands", "readArguments", "(LMatchboxModem$Tokens;I)Z"⟩, 5), (⟨"MatchboxModem$Commands", "readWord", "(LMatchboxModem$Tokens;)Z"⟩, 5), (⟨"MatchboxModem$Commands", "setArguments", "(III)Z"⟩, 5), (⟨"MatchboxModem$Commands", "readNumber", "(LMatchboxModem$Tokens;II)Z"⟩, 5), (⟨"MatchboxModem$Line", "endOf", "(I)I"⟩, 13), (⟨"MatchboxModem", "requireMessage", "(I)V"⟩, 10), (⟨"MatchboxModem", "requireFrame", "(I)V"⟩, 10)]
theorem lw_r1 : ∀ q ∈ lw_privs_1, lw_okq q := List.forall_mem_cons.mpr ⟨lw_p0, List.forall_mem_cons.mpr ⟨lw_p1, List.forall_mem_cons.mpr ⟨lw_p2, List.forall_mem_cons.mpr ⟨lw_p3, List.forall_mem_cons.mpr ⟨lw_p4, List.forall_mem_cons.mpr ⟨lw_p5, List.forall_mem_cons.mpr ⟨lw_p6, List.forall_mem_cons.mpr ⟨lw_p7, List.forall_mem_cons.mpr ⟨lw_p8, List.forall_mem_cons.mpr ⟨lw_p9, List.forall_mem_cons.mpr ⟨lw_p10, List.forall_mem_cons.mpr ⟨lw_p11, List.forall_mem_cons.mpr ⟨lw_p12, List.forall_mem_cons.mpr ⟨lw_p13, List.forall_mem_cons.mpr ⟨lw_p14, List.forall_mem_cons.mpr ⟨lw_p15, fun _ h => absurd h List.not_mem_nil⟩⟩⟩⟩⟩⟩⟩⟩⟩⟩⟩⟩⟩⟩⟩⟩
theorem lw_p16 : lw_okq (⟨"MatchboxModemModel", "startsText", "()V"⟩, 24) := ⟨⟨by decide +kernel, by decide +kernel⟩, List.mem_of_getElem? (i := 1268) (by decide +kernel), List.mem_of_getElem? (i := 1284) (by decide +kernel), List.mem_of_getElem? (i := 1285) (by decide +kernel)⟩
theorem lw_p17 : lw_okq (⟨"MatchboxModemModel", "modemLine", "()V"⟩, 24) := ⟨⟨by decide +kernel, by decide +kernel⟩, List.mem_of_getElem? (i := 1268) (by decide +kernel), List.mem_of_getElem? (i := 1288) (by decide +kernel), List.mem_of_getElem? (i := 1289) (by decide +kernel)⟩
theorem lw_p18 : lw_okq (⟨"MatchboxModemModel", "sees", "(Ljava/lang/String;)Z"⟩, 24) := ⟨⟨by decide +kernel, by decide +kernel⟩, List.mem_of_getElem? (i := 1268) (by decide +kernel), List.mem_of_getElem? (i := 1293) (by decide +kernel), List.mem_of_getElem? (i := 1294) (by decide +kernel)⟩
theorem lw_p19 : lw_okq (⟨"MatchboxModemModel", "next", "()I"⟩, 24) := ⟨⟨by decide +kernel, by decide +kernel⟩, List.mem_of_getElem? (i := 1268) (by decide +kernel), List.mem_of_getElem? (i := 1297) (by decide +kernel), List.mem_of_getElem? (i := 1298) (by decide +kernel)⟩
theorem lw_p20 : lw_okq (⟨"MatchboxModemModel", "byteAt", "(I)I"⟩, 24) := ⟨⟨by decide +kernel, by decide +kernel⟩, List.mem_of_getElem? (i := 1268) (by decide +kernel), List.mem_of_getElem? (i := 1301) (by decide +kernel), List.mem_of_getElem? (i := 1302) (by decide +kernel)⟩
theorem lw_p21 : lw_okq (⟨"MatchboxModemModel", "must", "(ZI)V"⟩, 24) := ⟨⟨by decide +kernel, by decide +kernel⟩, List.mem_of_getElem? (i := 1268) (by decide +kernel), List.mem_of_getElem? (i := 1310) (by decide +kernel), List.mem_of_getElem? (i := 1311) (by decide +kernel)⟩
theorem lw_p22 : lw_okq (⟨"MatchboxModemModel", "goesPast", "()V"⟩, 24) := ⟨⟨by decide +kernel, by decide +kernel⟩, List.mem_of_getElem? (i := 1268) (by decide +kernel), List.mem_of_getElem? (i := 1314) (by decide +kernel), List.mem_of_getElem? (i := 1315) (by decide +kernel)⟩
theorem lw_p23 : lw_okq (⟨"MatchboxModemModel", "number", "(II)I"⟩, 24) := ⟨⟨by decide +kernel, by decide +kernel⟩, List.mem_of_getElem? (i := 1268) (by decide +kernel), List.mem_of_getElem? (i := 1318) (by decide +kernel), List.mem_of_getElem? (i := 1319) (by decide +kernel)⟩
theorem lw_p24 : lw_okq (⟨"MatchboxModemModel", "driftHere", "()I"⟩, 24) := ⟨⟨by decide +kernel, by decide +kernel⟩, List.mem_of_getElem? (i := 1268) (by decide +kernel), List.mem_of_getElem? (i := 1324) (by decide +kernel), List.mem_of_getElem? (i := 1325) (by decide +kernel)⟩
theorem lw_p25 : lw_okq (⟨"MatchboxModemModel", "semicolon", "()V"⟩, 24) := ⟨⟨by decide +kernel, by decide +kernel⟩, List.mem_of_getElem? (i := 1268) (by decide +kernel), List.mem_of_getElem? (i := 1328) (by decide +kernel), List.mem_of_getElem? (i := 1329) (by decide +kernel)⟩
theorem lw_p26 : lw_okq (⟨"MatchboxModemModel", "dogLine", "()V"⟩, 24) := ⟨⟨by decide +kernel, by decide +kernel⟩, List.mem_of_getElem? (i := 1268) (by decide +kernel), List.mem_of_getElem? (i := 1332) (by decide +kernel), List.mem_of_getElem? (i := 1333) (by decide +kernel)⟩
theorem lw_p27 : lw_okq (⟨"MatchboxModemModel", "dogNow", "(III)Z"⟩, 24) := ⟨⟨by decide +kernel, by decide +kernel⟩, List.mem_of_getElem? (i := 1268) (by decide +kernel), List.mem_of_getElem? (i := 1337) (by decide +kernel), List.mem_of_getElem? (i := 1338) (by decide +kernel)⟩
theorem lw_p28 : lw_okq (⟨"MatchboxModemModel", "endsText", "()Z"⟩, 24) := ⟨⟨by decide +kernel, by decide +kernel⟩, List.mem_of_getElem? (i := 1268) (by decide +kernel), List.mem_of_getElem? (i := 1341) (by decide +kernel), List.mem_of_getElem? (i := 1342) (by decide +kernel)⟩
theorem lw_p29 : lw_okq (⟨"MatchboxModemModel", "passes", "(Z)Z"⟩, 24) := ⟨⟨by decide +kernel, by decide +kernel⟩, List.mem_of_getElem? (i := 1268) (by decide +kernel), List.mem_of_getElem? (i := 1345) (by decide +kernel), List.mem_of_getElem? (i := 1346) (by decide +kernel)⟩
theorem lw_p30 : lw_okq (⟨"MatchboxModemModel", "messageComes", "(I)V"⟩, 24) := ⟨⟨by decide +kernel, by decide +kernel⟩, List.mem_of_getElem? (i := 1268) (by decide +kernel), List.mem_of_getElem? (i := 1349) (by decide +kernel), List.mem_of_getElem? (i := 1350) (by decide +kernel)⟩
theorem lw_p31 : lw_okq (⟨"MatchboxModemModel", "putsMessage", "(III)V"⟩, 24) := ⟨⟨by decide +kernel, by decide +kernel⟩, List.mem_of_getElem? (i := 1268) (by decide +kernel), List.mem_of_getElem? (i := 1353) (by decide +kernel), List.mem_of_getElem? (i := 1354) (by decide +kernel)⟩
def lw_privs_2 : List (MethodName × Nat) := [(⟨"MatchboxModemModel", "startsText", "()V"⟩, 24), (⟨"MatchboxModemModel", "modemLine", "()V"⟩, 24), (⟨"MatchboxModemModel", "sees", "(Ljava/lang/String;)Z"⟩, 24), (⟨"MatchboxModemModel", "next", "()I"⟩, 24), (⟨"MatchboxModemModel", "byteAt", "(I)I"⟩, 24), (⟨"MatchboxModemModel", "must", "(ZI)V"⟩, 24), (⟨"MatchboxModemModel", "goesPast", "()V"⟩, 24), (⟨"MatchboxModemModel", "number", "(II)I"⟩, 24), (⟨"MatchboxModemModel", "driftHere", "()I"⟩, 24), (⟨"MatchboxModemModel", "semicolon", "()V"⟩, 24), (⟨"MatchboxModemModel", "dogLine", "()V"⟩, 24), (⟨"MatchboxModemModel", "dogNow", "(III)Z"⟩, 24), (⟨"MatchboxModemModel", "endsText", "()Z"⟩, 24), (⟨"MatchboxModemModel", "passes", "(Z)Z"⟩, 24), (⟨"MatchboxModemModel", "messageComes", "(I)V"⟩, 24), (⟨"MatchboxModemModel", "putsMessage", "(III)V"⟩, 24)]
theorem lw_r2 : ∀ q ∈ lw_privs_2, lw_okq q := List.forall_mem_cons.mpr ⟨lw_p16, List.forall_mem_cons.mpr ⟨lw_p17, List.forall_mem_cons.mpr ⟨lw_p18, List.forall_mem_cons.mpr ⟨lw_p19, List.forall_mem_cons.mpr ⟨lw_p20, List.forall_mem_cons.mpr ⟨lw_p21, List.forall_mem_cons.mpr ⟨lw_p22, List.forall_mem_cons.mpr ⟨lw_p23, List.forall_mem_cons.mpr ⟨lw_p24, List.forall_mem_cons.mpr ⟨lw_p25, List.forall_mem_cons.mpr ⟨lw_p26, List.forall_mem_cons.mpr ⟨lw_p27, List.forall_mem_cons.mpr ⟨lw_p28, List.forall_mem_cons.mpr ⟨lw_p29, List.forall_mem_cons.mpr ⟨lw_p30, List.forall_mem_cons.mpr ⟨lw_p31, fun _ h => absurd h List.not_mem_nil⟩⟩⟩⟩⟩⟩⟩⟩⟩⟩⟩⟩⟩⟩⟩⟩
theorem lw_p32 : lw_okq (⟨"MatchboxModemModel", "frameComes", "(III)V"⟩, 24) := ⟨⟨by decide +kernel, by decide +kernel⟩, List.mem_of_getElem? (i := 1268) (by decide +kernel), List.mem_of_getElem? (i := 1358) (by decide +kernel), List.mem_of_getElem? (i := 1359) (by decide +kernel)⟩
theorem lw_p33 : lw_okq (⟨"MatchboxModemModel", "puts", "(III)V"⟩, 24) := ⟨⟨by decide +kernel, by decide +kernel⟩, List.mem_of_getElem? (i := 1268) (by decide +kernel), List.mem_of_getElem? (i := 1362) (by decide +kernel), List.mem_of_getElem? (i := 1363) (by decide +kernel)⟩
theorem lw_p34 : lw_okq (⟨"MatchboxModemModel", "ofMessage", "(II)I"⟩, 24) := ⟨⟨by decide +kernel, by decide +kernel⟩, List.mem_of_getElem? (i := 1268) (by decide +kernel), List.mem_of_getElem? (i := 1366) (by decide +kernel), List.mem_of_getElem? (i := 1367) (by decide +kernel)⟩
theorem lw_p35 : lw_okq (⟨"MatchboxModemModel", "sumOfSent", "(II)I"⟩, 24) := ⟨⟨by decide +kernel, by decide +kernel⟩, List.mem_of_getElem? (i := 1268) (by decide +kernel), List.mem_of_getElem? (i := 1370) (by decide +kernel), List.mem_of_getElem? (i := 1371) (by decide +kernel)⟩
theorem lw_p36 : lw_okq (⟨"MatchboxModemModel", "of", "(II)I"⟩, 24) := ⟨⟨by decide +kernel, by decide +kernel⟩, List.mem_of_getElem? (i := 1268) (by decide +kernel), List.mem_of_getElem? (i := 1374) (by decide +kernel), List.mem_of_getElem? (i := 1375) (by decide +kernel)⟩
theorem lw_p37 : lw_okq (⟨"MatchboxModemModel", "four", "(I)V"⟩, 24) := ⟨⟨by decide +kernel, by decide +kernel⟩, List.mem_of_getElem? (i := 1268) (by decide +kernel), List.mem_of_getElem? (i := 1462) (by decide +kernel), List.mem_of_getElem? (i := 1463) (by decide +kernel)⟩
theorem lw_p38 : lw_okq (⟨"MatchboxModemModel", "readsOne", "()V"⟩, 24) := ⟨⟨by decide +kernel, by decide +kernel⟩, List.mem_of_getElem? (i := 1268) (by decide +kernel), List.mem_of_getElem? (i := 1483) (by decide +kernel), List.mem_of_getElem? (i := 1484) (by decide +kernel)⟩
theorem lw_p39 : lw_okq (⟨"MatchboxModemModel", "commandHere", "()I"⟩, 24) := ⟨⟨by decide +kernel, by decide +kernel⟩, List.mem_of_getElem? (i := 1268) (by decide +kernel), List.mem_of_getElem? (i := 1487) (by decide +kernel), List.mem_of_getElem? (i := 1488) (by decide +kernel)⟩
theorem lw_p40 : lw_okq (⟨"MatchboxModemModel", "otherCommand", "()I"⟩, 24) := ⟨⟨by decide +kernel, by decide +kernel⟩, List.mem_of_getElem? (i := 1268) (by decide +kernel), List.mem_of_getElem? (i := 1495) (by decide +kernel), List.mem_of_getElem? (i := 1496) (by decide +kernel)⟩
theorem lw_p41 : lw_okq (⟨"MatchboxModemModel", "partsOf", "(II)V"⟩, 24) := ⟨⟨by decide +kernel, by decide +kernel⟩, List.mem_of_getElem? (i := 1268) (by decide +kernel), List.mem_of_getElem? (i := 1502) (by decide +kernel), List.mem_of_getElem? (i := 1503) (by decide +kernel)⟩
theorem lw_p42 : lw_okq (⟨"MatchboxModemModel", "wordHere", "(I)V"⟩, 24) := ⟨⟨by decide +kernel, by decide +kernel⟩, List.mem_of_getElem? (i := 1268) (by decide +kernel), List.mem_of_getElem? (i := 1506) (by decide +kernel), List.mem_of_getElem? (i := 1507) (by decide +kernel)⟩
theorem lw_p43 : lw_okq (⟨"MatchboxModemModel", "dogHere", "(I)V"⟩, 24) := ⟨⟨by decide +kernel, by decide +kernel⟩, List.mem_of_getElem? (i := 1268) (by decide +kernel), List.mem_of_getElem? (i := 1510) (by decide +kernel), List.mem_of_getElem? (i := 1511) (by decide +kernel)⟩
theorem lw_p44 : lw_okq (⟨"MatchboxModemModel", "keeps", "([I)V"⟩, 24) := ⟨⟨by decide +kernel, by decide +kernel⟩, List.mem_of_getElem? (i := 1268) (by decide +kernel), List.mem_of_getElem? (i := 1514) (by decide +kernel), List.mem_of_getElem? (i := 1515) (by decide +kernel)⟩
theorem lw_p45 : lw_okq (⟨"MatchboxModemModel", "doesOne", "(I)Z"⟩, 24) := ⟨⟨by decide +kernel, by decide +kernel⟩, List.mem_of_getElem? (i := 1268) (by decide +kernel), List.mem_of_getElem? (i := 1518) (by decide +kernel), List.mem_of_getElem? (i := 1519) (by decide +kernel)⟩
theorem lw_p46 : lw_okq (⟨"MatchboxModemModel", "sendsTold", "(I)Z"⟩, 24) := ⟨⟨by decide +kernel, by decide +kernel⟩, List.mem_of_getElem? (i := 1268) (by decide +kernel), List.mem_of_getElem? (i := 1522) (by decide +kernel), List.mem_of_getElem? (i := 1523) (by decide +kernel)⟩
theorem lw_p47 : lw_okq (⟨"MatchboxModemModel", "sendNow", "(I)Z"⟩, 24) := ⟨⟨by decide +kernel, by decide +kernel⟩, List.mem_of_getElem? (i := 1268) (by decide +kernel), List.mem_of_getElem? (i := 1526) (by decide +kernel), List.mem_of_getElem? (i := 1527) (by decide +kernel)⟩
def lw_privs_3 : List (MethodName × Nat) := [(⟨"MatchboxModemModel", "frameComes", "(III)V"⟩, 24), (⟨"MatchboxModemModel", "puts", "(III)V"⟩, 24), (⟨"MatchboxModemModel", "ofMessage", "(II)I"⟩, 24), (⟨"MatchboxModemModel", "sumOfSent", "(II)I"⟩, 24), (⟨"MatchboxModemModel", "of", "(II)I"⟩, 24), (⟨"MatchboxModemModel", "four", "(I)V"⟩, 24), (⟨"MatchboxModemModel", "readsOne", "()V"⟩, 24), (⟨"MatchboxModemModel", "commandHere", "()I"⟩, 24), (⟨"MatchboxModemModel", "otherCommand", "()I"⟩, 24), (⟨"MatchboxModemModel", "partsOf", "(II)V"⟩, 24), (⟨"MatchboxModemModel", "wordHere", "(I)V"⟩, 24), (⟨"MatchboxModemModel", "dogHere", "(I)V"⟩, 24), (⟨"MatchboxModemModel", "keeps", "([I)V"⟩, 24), (⟨"MatchboxModemModel", "doesOne", "(I)Z"⟩, 24), (⟨"MatchboxModemModel", "sendsTold", "(I)Z"⟩, 24), (⟨"MatchboxModemModel", "sendNow", "(I)Z"⟩, 24)]
theorem lw_r3 : ∀ q ∈ lw_privs_3, lw_okq q := List.forall_mem_cons.mpr ⟨lw_p32, List.forall_mem_cons.mpr ⟨lw_p33, List.forall_mem_cons.mpr ⟨lw_p34, List.forall_mem_cons.mpr ⟨lw_p35, List.forall_mem_cons.mpr ⟨lw_p36, List.forall_mem_cons.mpr ⟨lw_p37, List.forall_mem_cons.mpr ⟨lw_p38, List.forall_mem_cons.mpr ⟨lw_p39, List.forall_mem_cons.mpr ⟨lw_p40, List.forall_mem_cons.mpr ⟨lw_p41, List.forall_mem_cons.mpr ⟨lw_p42, List.forall_mem_cons.mpr ⟨lw_p43, List.forall_mem_cons.mpr ⟨lw_p44, List.forall_mem_cons.mpr ⟨lw_p45, List.forall_mem_cons.mpr ⟨lw_p46, List.forall_mem_cons.mpr ⟨lw_p47, fun _ h => absurd h List.not_mem_nil⟩⟩⟩⟩⟩⟩⟩⟩⟩⟩⟩⟩⟩⟩⟩⟩
theorem lw_p48 : lw_okq (⟨"MatchboxModemModel", "transmitNow", "(I)Z"⟩, 24) := ⟨⟨by decide +kernel, by decide +kernel⟩, List.mem_of_getElem? (i := 1268) (by decide +kernel), List.mem_of_getElem? (i := 1530) (by decide +kernel), List.mem_of_getElem? (i := 1531) (by decide +kernel)⟩
theorem lw_p49 : lw_okq (⟨"MatchboxModemModel", "attemptsOnce", "(I)I"⟩, 24) := ⟨⟨by decide +kernel, by decide +kernel⟩, List.mem_of_getElem? (i := 1268) (by decide +kernel), List.mem_of_getElem? (i := 1535) (by decide +kernel), List.mem_of_getElem? (i := 1536) (by decide +kernel)⟩
theorem lw_p50 : lw_okq (⟨"MatchboxModemModel", "pending", "()I"⟩, 24) := ⟨⟨by decide +kernel, by decide +kernel⟩, List.mem_of_getElem? (i := 1268) (by decide +kernel), List.mem_of_getElem? (i := 1539) (by decide +kernel), List.mem_of_getElem? (i := 1540) (by decide +kernel)⟩
theorem lw_p51 : lw_okq (⟨"MatchboxModemModel", "attemptOnce", "(I)V"⟩, 24) := ⟨⟨by decide +kernel, by decide +kernel⟩, List.mem_of_getElem? (i := 1268) (by decide +kernel), List.mem_of_getElem? (i := 1543) (by decide +kernel), List.mem_of_getElem? (i := 1544) (by decide +kernel)⟩
theorem lw_p52 : lw_okq (⟨"MatchboxModemModel", "bitsOf", "(I)I"⟩, 24) := ⟨⟨by decide +kernel, by decide +kernel⟩, List.mem_of_getElem? (i := 1268) (by decide +kernel), List.mem_of_getElem? (i := 1547) (by decide +kernel), List.mem_of_getElem? (i := 1548) (by decide +kernel)⟩
theorem lw_p53 : lw_okq (⟨"MatchboxModemModel", "isReadableAt", "(II)Z"⟩, 24) := ⟨⟨by decide +kernel, by decide +kernel⟩, List.mem_of_getElem? (i := 1268) (by decide +kernel), List.mem_of_getElem? (i := 1551) (by decide +kernel), List.mem_of_getElem? (i := 1552) (by decide +kernel)⟩
theorem lw_p54 : lw_okq (⟨"MatchboxModemModel", "takes", "(II)V"⟩, 24) := ⟨⟨by decide +kernel, by decide +kernel⟩, List.mem_of_getElem? (i := 1268) (by decide +kernel), List.mem_of_getElem? (i := 1555) (by decide +kernel), List.mem_of_getElem? (i := 1556) (by decide +kernel)⟩
theorem lw_p55 : lw_okq (⟨"MatchboxModemModel", "received", "(III)I"⟩, 24) := ⟨⟨by decide +kernel, by decide +kernel⟩, List.mem_of_getElem? (i := 1268) (by decide +kernel), List.mem_of_getElem? (i := 1559) (by decide +kernel), List.mem_of_getElem? (i := 1560) (by decide +kernel)⟩
theorem lw_p56 : lw_okq (⟨"MatchboxModemModel", "taken", "(I)I"⟩, 24) := ⟨⟨by decide +kernel, by decide +kernel⟩, List.mem_of_getElem? (i := 1268) (by decide +kernel), List.mem_of_getElem? (i := 1563) (by decide +kernel), List.mem_of_getElem? (i := 1564) (by decide +kernel)⟩
theorem lw_p57 : lw_okq (⟨"MatchboxModemModel", "onCable", "(III)I"⟩, 24) := ⟨⟨by decide +kernel, by decide +kernel⟩, List.mem_of_getElem? (i := 1268) (by decide +kernel), List.mem_of_getElem? (i := 1567) (by decide +kernel), List.mem_of_getElem? (i := 1568) (by decide +kernel)⟩
theorem lw_p58 : lw_okq (⟨"MatchboxModemModel", "bitOf", "(II)I"⟩, 24) := ⟨⟨by decide +kernel, by decide +kernel⟩, List.mem_of_getElem? (i := 1268) (by decide +kernel), List.mem_of_getElem? (i := 1571) (by decide +kernel), List.mem_of_getElem? (i := 1572) (by decide +kernel)⟩
theorem lw_p59 : lw_okq (⟨"MatchboxModemModel", "isInverted", "(II)Z"⟩, 24) := ⟨⟨by decide +kernel, by decide +kernel⟩, List.mem_of_getElem? (i := 1268) (by decide +kernel), List.mem_of_getElem? (i := 1575) (by decide +kernel), List.mem_of_getElem? (i := 1576) (by decide +kernel)⟩
theorem lw_p60 : lw_okq (⟨"MatchboxModemModel", "chewed", "(I)Z"⟩, 24) := ⟨⟨by decide +kernel, by decide +kernel⟩, List.mem_of_getElem? (i := 1268) (by decide +kernel), List.mem_of_getElem? (i := 1579) (by decide +kernel), List.mem_of_getElem? (i := 1580) (by decide +kernel)⟩
theorem lw_p61 : lw_okq (⟨"MatchboxModemModel", "chews", "(II)Z"⟩, 24) := ⟨⟨by decide +kernel, by decide +kernel⟩, List.mem_of_getElem? (i := 1268) (by decide +kernel), List.mem_of_getElem? (i := 1583) (by decide +kernel), List.mem_of_getElem? (i := 1584) (by decide +kernel)⟩
theorem lw_p62 : lw_okq (⟨"MatchboxModemModel", "ofDog", "(II)I"⟩, 24) := ⟨⟨by decide +kernel, by decide +kernel⟩, List.mem_of_getElem? (i := 1268) (by decide +kernel), List.mem_of_getElem? (i := 1587) (by decide +kernel), List.mem_of_getElem? (i := 1588) (by decide +kernel)⟩
theorem lw_p63 : lw_okq (⟨"MatchboxModemModel", "isReadable", "(I)Z"⟩, 24) := ⟨⟨by decide +kernel, by decide +kernel⟩, List.mem_of_getElem? (i := 1268) (by decide +kernel), List.mem_of_getElem? (i := 1594) (by decide +kernel), List.mem_of_getElem? (i := 1595) (by decide +kernel)⟩
def lw_privs_4 : List (MethodName × Nat) := [(⟨"MatchboxModemModel", "transmitNow", "(I)Z"⟩, 24), (⟨"MatchboxModemModel", "attemptsOnce", "(I)I"⟩, 24), (⟨"MatchboxModemModel", "pending", "()I"⟩, 24), (⟨"MatchboxModemModel", "attemptOnce", "(I)V"⟩, 24), (⟨"MatchboxModemModel", "bitsOf", "(I)I"⟩, 24), (⟨"MatchboxModemModel", "isReadableAt", "(II)Z"⟩, 24), (⟨"MatchboxModemModel", "takes", "(II)V"⟩, 24), (⟨"MatchboxModemModel", "received", "(III)I"⟩, 24), (⟨"MatchboxModemModel", "taken", "(I)I"⟩, 24), (⟨"MatchboxModemModel", "onCable", "(III)I"⟩, 24), (⟨"MatchboxModemModel", "bitOf", "(II)I"⟩, 24), (⟨"MatchboxModemModel", "isInverted", "(II)Z"⟩, 24), (⟨"MatchboxModemModel", "chewed", "(I)Z"⟩, 24), (⟨"MatchboxModemModel", "chews", "(II)Z"⟩, 24), (⟨"MatchboxModemModel", "ofDog", "(II)I"⟩, 24), (⟨"MatchboxModemModel", "isReadable", "(I)Z"⟩, 24)]
theorem lw_r4 : ∀ q ∈ lw_privs_4, lw_okq q := List.forall_mem_cons.mpr ⟨lw_p48, List.forall_mem_cons.mpr ⟨lw_p49, List.forall_mem_cons.mpr ⟨lw_p50, List.forall_mem_cons.mpr ⟨lw_p51, List.forall_mem_cons.mpr ⟨lw_p52, List.forall_mem_cons.mpr ⟨lw_p53, List.forall_mem_cons.mpr ⟨lw_p54, List.forall_mem_cons.mpr ⟨lw_p55, List.forall_mem_cons.mpr ⟨lw_p56, List.forall_mem_cons.mpr ⟨lw_p57, List.forall_mem_cons.mpr ⟨lw_p58, List.forall_mem_cons.mpr ⟨lw_p59, List.forall_mem_cons.mpr ⟨lw_p60, List.forall_mem_cons.mpr ⟨lw_p61, List.forall_mem_cons.mpr ⟨lw_p62, List.forall_mem_cons.mpr ⟨lw_p63, fun _ h => absurd h List.not_mem_nil⟩⟩⟩⟩⟩⟩⟩⟩⟩⟩⟩⟩⟩⟩⟩⟩
theorem lw_p64 : lw_okq (⟨"MatchboxModemModel", "isAnswerLost", "(II)Z"⟩, 24) := ⟨⟨by decide +kernel, by decide +kernel⟩, List.mem_of_getElem? (i := 1268) (by decide +kernel), List.mem_of_getElem? (i := 1598) (by decide +kernel), List.mem_of_getElem? (i := 1599) (by decide +kernel)⟩
theorem lw_p65 : lw_okq (⟨"MatchboxModemModel", "endOf", "(II)I"⟩, 24) := ⟨⟨by decide +kernel, by decide +kernel⟩, List.mem_of_getElem? (i := 1268) (by decide +kernel), List.mem_of_getElem? (i := 1602) (by decide +kernel), List.mem_of_getElem? (i := 1603) (by decide +kernel)⟩
theorem lw_p66 : lw_okq (⟨"MatchboxModemModel", "arrives", "(I)V"⟩, 24) := ⟨⟨by decide +kernel, by decide +kernel⟩, List.mem_of_getElem? (i := 1268) (by decide +kernel), List.mem_of_getElem? (i := 1606) (by decide +kernel), List.mem_of_getElem? (i := 1607) (by decide +kernel)⟩
theorem lw_p67 : lw_okq (⟨"MatchboxModemModel", "endsAttempt", "(IZ)V"⟩, 24) := ⟨⟨by decide +kernel, by decide +kernel⟩, List.mem_of_getElem? (i := 1268) (by decide +kernel), List.mem_of_getElem? (i := 1610) (by decide +kernel), List.mem_of_getElem? (i := 1611) (by decide +kernel)⟩
theorem lw_p68 : lw_okq (⟨"MatchboxModemModel", "cancelNow", "(I)Z"⟩, 24) := ⟨⟨by decide +kernel, by decide +kernel⟩, List.mem_of_getElem? (i := 1268) (by decide +kernel), List.mem_of_getElem? (i := 1614) (by decide +kernel), List.mem_of_getElem? (i := 1615) (by decide +kernel)⟩
theorem lw_p69 : lw_okq (⟨"MatchboxModemModel", "isMessage", "(I)Z"⟩, 24) := ⟨⟨by decide +kernel, by decide +kernel⟩, List.mem_of_getElem? (i := 1268) (by decide +kernel), List.mem_of_getElem? (i := 1618) (by decide +kernel), List.mem_of_getElem? (i := 1619) (by decide +kernel)⟩
theorem lw_p70 : lw_okq (⟨"MatchboxModemModel", "stateOf", "(I)I"⟩, 24) := ⟨⟨by decide +kernel, by decide +kernel⟩, List.mem_of_getElem? (i := 1268) (by decide +kernel), List.mem_of_getElem? (i := 1622) (by decide +kernel), List.mem_of_getElem? (i := 1623) (by decide +kernel)⟩
theorem lw_p71 : lw_okq (⟨"MatchboxModemModel", "hasFrame", "(II)Z"⟩, 24) := ⟨⟨by decide +kernel, by decide +kernel⟩, List.mem_of_getElem? (i := 1268) (by decide +kernel), List.mem_of_getElem? (i := 1626) (by decide +kernel), List.mem_of_getElem? (i := 1627) (by decide +kernel)⟩
theorem lw_p72 : lw_okq (⟨"MatchboxModemModel", "framesOf", "(I)I"⟩, 24) := ⟨⟨by decide +kernel, by decide +kernel⟩, List.mem_of_getElem? (i := 1268) (by decide +kernel), List.mem_of_getElem? (i := 1630) (by decide +kernel), List.mem_of_getElem? (i := 1631) (by decide +kernel)⟩
theorem lw_p73 : lw_okq (⟨"MatchboxModemModel", "resendNow", "(I)Z"⟩, 24) := ⟨⟨by decide +kernel, by decide +kernel⟩, List.mem_of_getElem? (i := 1268) (by decide +kernel), List.mem_of_getElem? (i := 1634) (by decide +kernel), List.mem_of_getElem? (i := 1635) (by decide +kernel)⟩
theorem lw_p74 : lw_okq (⟨"MatchboxModemModel", "mayResend", "(I)Z"⟩, 24) := ⟨⟨by decide +kernel, by decide +kernel⟩, List.mem_of_getElem? (i := 1268) (by decide +kernel), List.mem_of_getElem? (i := 1638) (by decide +kernel), List.mem_of_getElem? (i := 1639) (by decide +kernel)⟩
theorem lw_p75 : lw_okq (⟨"MatchboxModemModel", "waitNow", "(I)Z"⟩, 24) := ⟨⟨by decide +kernel, by decide +kernel⟩, List.mem_of_getElem? (i := 1268) (by decide +kernel), List.mem_of_getElem? (i := 1642) (by decide +kernel), List.mem_of_getElem? (i := 1643) (by decide +kernel)⟩
theorem lw_p76 : lw_okq (⟨"MatchboxModemModel", "driftNow", "(I)Z"⟩, 24) := ⟨⟨by decide +kernel, by decide +kernel⟩, List.mem_of_getElem? (i := 1268) (by decide +kernel), List.mem_of_getElem? (i := 1646) (by decide +kernel), List.mem_of_getElem? (i := 1647) (by decide +kernel)⟩
theorem lw_p77 : lw_okq (⟨"MatchboxModemModel", "chaseNow", "(I)Z"⟩, 24) := ⟨⟨by decide +kernel, by decide +kernel⟩, List.mem_of_getElem? (i := 1268) (by decide +kernel), List.mem_of_getElem? (i := 1650) (by decide +kernel), List.mem_of_getElem? (i := 1651) (by decide +kernel)⟩
theorem lw_p78 : lw_okq (⟨"MatchboxModemModel", "isDog", "(I)Z"⟩, 24) := ⟨⟨by decide +kernel, by decide +kernel⟩, List.mem_of_getElem? (i := 1268) (by decide +kernel), List.mem_of_getElem? (i := 1654) (by decide +kernel), List.mem_of_getElem? (i := 1655) (by decide +kernel)⟩
theorem lw_p79 : lw_okq (⟨"MatchboxModemModel", "tells", "(I)I"⟩, 24) := ⟨⟨by decide +kernel, by decide +kernel⟩, List.mem_of_getElem? (i := 1268) (by decide +kernel), List.mem_of_getElem? (i := 1662) (by decide +kernel), List.mem_of_getElem? (i := 1663) (by decide +kernel)⟩
def lw_privs_5 : List (MethodName × Nat) := [(⟨"MatchboxModemModel", "isAnswerLost", "(II)Z"⟩, 24), (⟨"MatchboxModemModel", "endOf", "(II)I"⟩, 24), (⟨"MatchboxModemModel", "arrives", "(I)V"⟩, 24), (⟨"MatchboxModemModel", "endsAttempt", "(IZ)V"⟩, 24), (⟨"MatchboxModemModel", "cancelNow", "(I)Z"⟩, 24), (⟨"MatchboxModemModel", "isMessage", "(I)Z"⟩, 24), (⟨"MatchboxModemModel", "stateOf", "(I)I"⟩, 24), (⟨"MatchboxModemModel", "hasFrame", "(II)Z"⟩, 24), (⟨"MatchboxModemModel", "framesOf", "(I)I"⟩, 24), (⟨"MatchboxModemModel", "resendNow", "(I)Z"⟩, 24), (⟨"MatchboxModemModel", "mayResend", "(I)Z"⟩, 24), (⟨"MatchboxModemModel", "waitNow", "(I)Z"⟩, 24), (⟨"MatchboxModemModel", "driftNow", "(I)Z"⟩, 24), (⟨"MatchboxModemModel", "chaseNow", "(I)Z"⟩, 24), (⟨"MatchboxModemModel", "isDog", "(I)Z"⟩, 24), (⟨"MatchboxModemModel", "tells", "(I)I"⟩, 24)]
theorem lw_r5 : ∀ q ∈ lw_privs_5, lw_okq q := List.forall_mem_cons.mpr ⟨lw_p64, List.forall_mem_cons.mpr ⟨lw_p65, List.forall_mem_cons.mpr ⟨lw_p66, List.forall_mem_cons.mpr ⟨lw_p67, List.forall_mem_cons.mpr ⟨lw_p68, List.forall_mem_cons.mpr ⟨lw_p69, List.forall_mem_cons.mpr ⟨lw_p70, List.forall_mem_cons.mpr ⟨lw_p71, List.forall_mem_cons.mpr ⟨lw_p72, List.forall_mem_cons.mpr ⟨lw_p73, List.forall_mem_cons.mpr ⟨lw_p74, List.forall_mem_cons.mpr ⟨lw_p75, List.forall_mem_cons.mpr ⟨lw_p76, List.forall_mem_cons.mpr ⟨lw_p77, List.forall_mem_cons.mpr ⟨lw_p78, List.forall_mem_cons.mpr ⟨lw_p79, fun _ h => absurd h List.not_mem_nil⟩⟩⟩⟩⟩⟩⟩⟩⟩⟩⟩⟩⟩⟩⟩⟩
theorem lw_p80 : lw_okq (⟨"MatchboxModemModel", "isFrame", "(I)Z"⟩, 24) := ⟨⟨by decide +kernel, by decide +kernel⟩, List.mem_of_getElem? (i := 1268) (by decide +kernel), List.mem_of_getElem? (i := 1723) (by decide +kernel), List.mem_of_getElem? (i := 1724) (by decide +kernel)⟩
theorem lw_p81 : lw_okq (⟨"MatchboxModemModel", "hasBit", "(II)Z"⟩, 24) := ⟨⟨by decide +kernel, by decide +kernel⟩, List.mem_of_getElem? (i := 1268) (by decide +kernel), List.mem_of_getElem? (i := 1735) (by decide +kernel), List.mem_of_getElem? (i := 1736) (by decide +kernel)⟩
theorem lw_p82 : lw_okq (⟨"MatchboxModemModel", "passesFrame", "(II)Z"⟩, 24) := ⟨⟨by decide +kernel, by decide +kernel⟩, List.mem_of_getElem? (i := 1268) (by decide +kernel), List.mem_of_getElem? (i := 1772) (by decide +kernel), List.mem_of_getElem? (i := 1773) (by decide +kernel)⟩
theorem lw_p83 : lw_okq (⟨"MatchboxModemModel", "passesBoth", "(ZZ)Z"⟩, 24) := ⟨⟨by decide +kernel, by decide +kernel⟩, List.mem_of_getElem? (i := 1268) (by decide +kernel), List.mem_of_getElem? (i := 1776) (by decide +kernel), List.mem_of_getElem? (i := 1777) (by decide +kernel)⟩
theorem lw_p84 : lw_okq (⟨"MatchboxModemModel", "result", "(II)I"⟩, 24) := ⟨⟨by decide +kernel, by decide +kernel⟩, List.mem_of_getElem? (i := 1268) (by decide +kernel), List.mem_of_getElem? (i := 1797) (by decide +kernel), List.mem_of_getElem? (i := 1798) (by decide +kernel)⟩
theorem lw_p85 : lw_okq (⟨"MatchboxModemModel", "fits", "(III)Z"⟩, 24) := ⟨⟨by decide +kernel, by decide +kernel⟩, List.mem_of_getElem? (i := 1268) (by decide +kernel), List.mem_of_getElem? (i := 1805) (by decide +kernel), List.mem_of_getElem? (i := 1806) (by decide +kernel)⟩
theorem lw_p86 : lw_okq (⟨"MatchboxModemModel", "tries", "()V"⟩, 24) := ⟨⟨by decide +kernel, by decide +kernel⟩, List.mem_of_getElem? (i := 1268) (by decide +kernel), List.mem_of_getElem? (i := 1824) (by decide +kernel), List.mem_of_getElem? (i := 1825) (by decide +kernel)⟩
theorem lw_p87 : lw_okq (⟨"MatchboxModemModel", "laidBack", "(I)I"⟩, 24) := ⟨⟨by decide +kernel, by decide +kernel⟩, List.mem_of_getElem? (i := 1268) (by decide +kernel), List.mem_of_getElem? (i := 1828) (by decide +kernel), List.mem_of_getElem? (i := 1829) (by decide +kernel)⟩
theorem lw_p88 : lw_okq (⟨"MatchboxModemModel", "tried", "(Z)Z"⟩, 24) := ⟨⟨by decide +kernel, by decide +kernel⟩, List.mem_of_getElem? (i := 1268) (by decide +kernel), List.mem_of_getElem? (i := 1894) (by decide +kernel), List.mem_of_getElem? (i := 1895) (by decide +kernel)⟩
theorem lw_p89 : lw_okq (⟨"MatchboxModemModel", "done", "(Z)I"⟩, 24) := ⟨⟨by decide +kernel, by decide +kernel⟩, List.mem_of_getElem? (i := 1268) (by decide +kernel), List.mem_of_getElem? (i := 1898) (by decide +kernel), List.mem_of_getElem? (i := 1899) (by decide +kernel)⟩
theorem lw_p90 : lw_okq (⟨"MatchboxModemModel", "writes", "(I)V"⟩, 24) := ⟨⟨by decide +kernel, by decide +kernel⟩, List.mem_of_getElem? (i := 1268) (by decide +kernel), List.mem_of_getElem? (i := 1951) (by decide +kernel), List.mem_of_getElem? (i := 1952) (by decide +kernel)⟩
def lw_privs_6 : List (MethodName × Nat) := [(⟨"MatchboxModemModel", "isFrame", "(I)Z"⟩, 24), (⟨"MatchboxModemModel", "hasBit", "(II)Z"⟩, 24), (⟨"MatchboxModemModel", "passesFrame", "(II)Z"⟩, 24), (⟨"MatchboxModemModel", "passesBoth", "(ZZ)Z"⟩, 24), (⟨"MatchboxModemModel", "result", "(II)I"⟩, 24), (⟨"MatchboxModemModel", "fits", "(III)Z"⟩, 24), (⟨"MatchboxModemModel", "tries", "()V"⟩, 24), (⟨"MatchboxModemModel", "laidBack", "(I)I"⟩, 24), (⟨"MatchboxModemModel", "tried", "(Z)Z"⟩, 24), (⟨"MatchboxModemModel", "done", "(Z)I"⟩, 24), (⟨"MatchboxModemModel", "writes", "(I)V"⟩, 24)]
theorem lw_r6 : ∀ q ∈ lw_privs_6, lw_okq q := List.forall_mem_cons.mpr ⟨lw_p80, List.forall_mem_cons.mpr ⟨lw_p81, List.forall_mem_cons.mpr ⟨lw_p82, List.forall_mem_cons.mpr ⟨lw_p83, List.forall_mem_cons.mpr ⟨lw_p84, List.forall_mem_cons.mpr ⟨lw_p85, List.forall_mem_cons.mpr ⟨lw_p86, List.forall_mem_cons.mpr ⟨lw_p87, List.forall_mem_cons.mpr ⟨lw_p88, List.forall_mem_cons.mpr ⟨lw_p89, List.forall_mem_cons.mpr ⟨lw_p90, fun _ h => absurd h List.not_mem_nil⟩⟩⟩⟩⟩⟩⟩⟩⟩⟩⟩
def lw_privs : List (MethodName × Nat) := lw_privs_1 ++ (lw_privs_2 ++ (lw_privs_3 ++ (lw_privs_4 ++ (lw_privs_5 ++ (lw_privs_6)))))
def lw_tbl : List Cond := k2_sels lw_privs ++ tables_1
theorem lw_privs_ok : ∀ q ∈ lw_privs, lw_okq q := by
  show ∀ q ∈ lw_privs_1 ++ (lw_privs_2 ++ (lw_privs_3 ++ (lw_privs_4 ++ (lw_privs_5 ++ (lw_privs_6))))), lw_okq q
  exact List.forall_mem_append.mpr ⟨lw_r1, List.forall_mem_append.mpr ⟨lw_r2, List.forall_mem_append.mpr ⟨lw_r3, List.forall_mem_append.mpr ⟨lw_r4, List.forall_mem_append.mpr ⟨lw_r5, lw_r6⟩⟩⟩⟩⟩
/-- the streams that the claim lets the run draw from -/
abbrev lw_cs : List Choice := [Jvm.Choice.named "NaN.bits"]
theorem lw_bits : nanBits ∈ lw_cs := by first | decide | exact List.mem_cons_self | simp [lw_cs, nanBits]

/-! ===== BEGIN words of one list among another's, by their places ===== -/
theorem goodIn_r {big : List Cond} (ws : List Cond) (ps : List Nat) (hp : ws = ps.filterMap (fun i => big[i]?)) (h : ws.all goodWord = true) : GoodIn big ws := by
  intro w hw
  have h1 := List.all_eq_true.mp h w hw
  rw [hp] at hw
  obtain ⟨i, -, hi⟩ := List.mem_filterMap.mp hw
  have hm : w ∈ big := by first | exact List.mem_of_getElem? hi | exact List.getElem?_mem hi
  exact ⟨hm, good_of_word h1⟩
theorem goodIn_app {big a b : List Cond} (ha : GoodIn big a) (hb : GoodIn big b) : GoodIn big (a ++ b) := fun w h => (List.mem_append.mp h).elim (ha w) (hb w)
theorem goodIn_ca {big a b : List Cond} {c : Cond} (ha : GoodIn big (c :: a)) (hb : GoodIn big b) : GoodIn big (c :: (a ++ b)) := fun w h => (List.mem_cons.mp h).elim (fun e => ha w (List.mem_cons.mpr (Or.inl e))) (fun h => (List.mem_append.mp h).elim (fun h => ha w (List.mem_cons.mpr (Or.inr h))) (hb w))
theorem goodIn_sub {big ws : List Cond} (hm : ∀ w ∈ ws, w ∈ big) (h : ws.all goodWord = true) : GoodIn big ws := fun w hw => ⟨hm w hw, good_of_word (List.all_eq_true.mp h w hw)⟩
/-! ===== END ===== -/
/-! ===== BEGIN exceptions that leave a method, and their catching by the caller (launches without stack traces) ===== -/
section VXA
/-! The laws vx_back, vx_callV, vx_callS, vx_callSW, vx_throw0, vx_throwS follow proofs of the library, with one case more: JvmDerived/Free/Laws.lean (Back.of_free), Shelf42/LK1.lean (callV, callS), Shelf/KitTraced.lean (throwNew0V, throwNewS). -/
/-- where a method has thrown q: the class by its name, the cell, what was written, the world -/
def vx_T (XC : String → State → State → Prop) (st : State) (q : Addr) (t : State) (mc ms : Nat) (free : Addr → Prop) : Prop :=
  ∃ (E : String) (ce : Cell) (L : List Loc), XC E st t ∧ t.heap[q]? = some ce ∧ ce.vm = .none ∧ st.vm.findClass E = some ce.cls ∧ st.WarmedH t.vm ∧ st.sameButNew ({ t with vm := st.vm } : State) L mc ms ∧ ∀ z ∈ L, free z.base
def vx_Q (Qc : Array Value → State → Outcome → State → Prop) (XC : String → State → State → Prop) (mc ms : Nat) (free : Addr → Prop) : Array Value → State → Outcome → State → Prop := fun a st o t =>
  (Qc a st o t ∧ ∃ L, FrameEnd st o t L mc ms ∧ ∀ q ∈ L, free q.base) ∨ ∃ q, o = .threw q ∧ vx_T XC st q t mc ms free
/-- a callee that returns or throws -/
def vx_Met (l : Launch) (y : MethodName) (ws : List Cond) (rm : Room) (Pc : Array Value → State → Prop) (Qc : Array Value → State → Outcome → State → Prop) (XC : String → State → State → Prop) (mc ms : Nat) (free : Addr → Prop) : Prop :=
  MetFree l y (headSpec ws rm) Pc (fun _ _ _ _ _ => True) (vx_Q Qc XC mc ms free)
def vx_Post (XC : String → State → State → Prop) (mc ms : Nat) (free : Addr → Prop) : Pt → Array Value → Addr → Pt → Prop := fun A a q B =>
  ∃ (g : JFrame) (mk : MethodId) (t : State) (L : List Loc) (E : String) (ce : Cell), B.U.heap = t.heap ∧ B.U.vm = t.vm ∧ XC E (A.U.calling g mk a) t ∧ t.heap[q]? = some ce ∧ ce.vm = .none ∧ A.U.vm.findClass E = some ce.cls ∧ B.locs = A.locs ++ L ∧ (∀ z ∈ L, free z.base) ∧ B.cells = A.cells + mc ∧ B.slots = A.slots + ms
def vx_Back (l : Launch) (R : Room) (p : Program) (e : Env) (below : List Frame) (s : State) (sargs : Array Value) (y : MethodName) (len W9 : Nat)
    (Pre : Pt → Array Value → Prop) (Post : Pt → Array Value → Option Value → Pt → Prop) (PostX : Pt → Array Value → Addr → Pt → Prop) : Prop :=
  ∀ (m : MethodId) (meth : Method) (c : Code) (A : Pt) (g : JFrame) (ig : Instr) (mk : MethodId) (a : Array Value),
    Stand p l e R s m sargs below meth c A.U A.locs A.cells A.slots → g.method = m → g.locals.size = c.maxLocals → decode c.code g.pc = .ok (ig, len) →
    2 * g.monitorRoom + (g.stack.map fun v => v.category).sum ≤ W9 → A.U.methodNamed? y = some mk → Pre A a →
    (∃ (v : Option Value) (B : Pt), Stand p l e R s m sargs below meth c B.U B.locs B.cells B.slots ∧ Post A a v B ∧
      Steps p.tables e below (doInvoke e (A.U.setTop g) [] mk a).1 (B.U.setTop { g with pc := g.pc + len, stack := v.toList ++ g.stack })) ∨
    (∃ (q : Addr) (B : Pt), Stand p l e R s m sargs below meth c B.U B.locs B.cells B.slots ∧ PostX A a q B ∧
      Steps p.tables e below (doInvoke e (A.U.setTop g) [] mk a).1 ((B.U.setTop g).pushFrame (.throwing q)))
section Payer
variable {l : Launch} {R : Room} {p : Program} {e : Env} {below : List Frame} {s : State} {sargs : Array Value} {y : MethodName} {len W9 : Nat}
theorem vx_back {ws : List Cond} {rm : Room} {Pc : Array Value → State → Prop} {Qc : Array Value → State → Outcome → State → Prop} {XC : String → State → State → Prop} {mc ms : Nat} {free : Addr → Prop} {bytes : ByteArray} {maxL : Nat} {ret : Option FieldType}
    (hM : vx_Met l y ws rm Pc Qc XC mc ms free) (hblind : FrameBlind Pc) (hrc : rm.cells = mc) (hrs : rm.slots = ms)
    (hframes : rm.frames + 1 ≤ R.frames) (hlocals : W9 + (maxL + 11) + rm.locals ≤ R.locals)
    (hws : ∀ w ∈ ws, ∀ a' U, s.WarmedH U.vm → w.before a' U = true) (hcode : Cond.code y bytes maxL ret ∈ ws) (hinit : ∀ a' U, s.WarmedH U.vm → (Cond.initialized y.cls).before a' U = true) :
    vx_Back l R p e below s sargs y len W9 (PreOf R mc ms Pc) (PostOf Qc mc ms free) (vx_Post XC mc ms free) := by
  intro m meth c A g ig mk a X hg hsize hdg hW hn hp
  have h1 : (headSpec ws rm).pre.before a A.U = true := atoms_intro fun w hw => hws w hw _ _ X.warmed
  have h2 : (Cond.code y bytes maxL ret).before a A.U = true := hws _ hcode _ _ X.warmed
  have h3 : (Cond.initialized y.cls).before a A.U = true := hinit _ _ X.warmed
  have h4 : A.cells + (headSpec ws rm).room.cells ≤ R.cells := by rw [show (headSpec ws rm).room.cells = mc from hrc]; exact hp.1
  have h5 : A.slots + (headSpec ws rm).room.slots ≤ R.slots := by rw [show (headSpec ws rm).room.slots = ms from hrs]; exact hp.2.1
  have hPc : Pc a (A.U.calling g mk a) := hblind _ _ _ _ hp.2.2
  obtain ⟨U, Ls, c0, s0⟩ := A
  dsimp only [Pt.U, Pt.locs, Pt.cells, Pt.slots] at h1 h2 h3 h4 h5 X hn hPc ⊢
  obtain ⟨methY, cY, hmY, hcY, -, hlY, -, -, -, -⟩ := Cond.code_spec hn h2
  obtain ⟨kY, hkY, -⟩ := className_of_methodNamed hn
  have hinitY : kY.init = .initialized := Cond.initialized_spec (findClass_of_methodNamed hn) hkY h3
  have h : At U g.method c below := by rw [hg]; exact X.here
  have hlocals9 : W9 + (maxL + 11) + (headSpec ws rm).room.locals ≤ R.locals := hlocals
  have happ : (headSpec ws rm).appliesLoose y e.platform (U.calling g mk a) = true :=
    Spec.appliesLoose_calling (g := g) h hdg hn hkY hinitY
      (X.room_calling (g := g) (R' := (headSpec ws rm).room) hsize hmY hcY hframes (by rw [hlY]; omega) h4 h5) h1
  obtain ⟨mid, hmid⟩ := h.above
  have hfr : (U.setTop g).frames = (.java g :: mid) ++ below := by rw [State.frames_setTop' g h.top, hmid]; rfl
  obtain ⟨o, s₂, hsteps, -, hend, hq⟩ := Steps.callFree hM p X.admits X.cas X.clock (acts := []) hfr happ hPc trivial
  have hq' : vx_Q Qc XC mc ms free a (U.calling g mk a) o s₂ := hq
  rw [State.frames_setTop' g h.top] at hend
  obtain ⟨g₀, hg0⟩ := Option.isSome_iff_exists.mp h.top
  obtain ⟨r, hr⟩ := State.topJava?_eq_some.mp hg0
  have hr' : (({ U with heap := s₂.heap, slotsUsed := s₂.slotsUsed } : State).setVm s₂.vm).frames = .java g₀ :: r := hr
  rcases hq' with ⟨hqc, L, hfe, hL⟩ | ⟨q, rfl, E, ce, L, hx, hce, hcv, hcl, hW₂, hsm, hL⟩
  · obtain ⟨⟨v, rfl⟩, hW₂, e2, q2, q3, q4, q5, q6⟩ := id hfe
    have e3 : s₂ = ({ (U.calling g mk a).setFrames s₂.frames with heap := s₂.heap, slotsUsed := s₂.slotsUsed } : State).setVm s₂.vm := by
      have : s₂ = ({ s₂ with vm := (U.calling g mk a).vm } : State).setVm s₂.vm := rfl
      rw [e2] at this
      exact this
    obtain ⟨c₂, i₂, len₂, hc₂, hd₂, hf₂⟩ := hend
    have hW' : U.WarmedH s₂.vm := hW₂
    have hcc : c₂ = c := by
      have h1 : s₂.code? g.method = U.code? g.method := by
        rw [State.code?_eq, State.code?_eq, hW'.alike.method?]
      exact Option.some.inj (hc₂.symm.trans (h1.trans h.code))
    subst hcc
    have hlen : len₂ = len := by rw [hdg] at hd₂; cases hd₂; rfl
    subst hlen
    have hs₂ : s₂ = (({ U with heap := s₂.heap, slotsUsed := s₂.slotsUsed } : State).setVm s₂.vm).setTop { g with pc := g.pc + len₂, stack := v.toList ++ g.stack } := by
      refine e3.trans ?_
      rw [hf₂, State.calling_eq h.top, State.setFrames_setFrames, State.setTop_of_frames _ hr', hr]
      rfl
    have hsame : U.sameButNew ({ U with heap := s₂.heap, slotsUsed := s₂.slotsUsed } : State) L mc ms := by
      refine ⟨?_, q2, q3, q4, q5, q6⟩
      obtain ⟨t, ht, -⟩ := State.frames_cons hr
      show ({ U with heap := s₂.heap, slotsUsed := s₂.slotsUsed } : State) = { U.setFrames U.frames with heap := s₂.heap, slotsUsed := s₂.slotsUsed }
      rw [State.setFrames_self ht]
    subst hg
    refine Or.inl ⟨v, ⟨(({ U with heap := s₂.heap, slotsUsed := s₂.slotsUsed } : State).setVm s₂.vm), Ls ++ L, c0 + mc, s0 + ms⟩,
      ⟨X.admits, X.cas, X.clock, X.frames, X.room, X.hears, X.method, X.code, (X.here.setHeapUsed s₂.heap s₂.slotsUsed).setVm hW'.alike, X.tail, State.WarmedH.trans X.warmed hW', X.limits, X.bytes, X.same.trans (hsame.setVm s.vm)⟩,
      ⟨g, mk, s₂, L, rfl, rfl, hqc, rfl, hL, rfl, rfl⟩, ?_⟩
    show Steps p.tables e below _ ((({ U with heap := s₂.heap, slotsUsed := s₂.slotsUsed } : State).setVm s₂.vm).setTop { g with pc := g.pc + len₂, stack := v.toList ++ g.stack })
    rw [← hs₂]
    exact hsteps
  · obtain ⟨e2, q2, q3, q4, q5, q6⟩ := id hsm
    have e3 : s₂ = ({ (U.calling g mk a).setFrames s₂.frames with heap := s₂.heap, slotsUsed := s₂.slotsUsed } : State).setVm s₂.vm := by
      have : s₂ = ({ s₂ with vm := (U.calling g mk a).vm } : State).setVm s₂.vm := rfl
      rw [e2] at this
      exact this
    have hf₂ : s₂.frames = .throwing q :: .java g :: U.frames.tail := hend
    have hW' : U.WarmedH s₂.vm := hW₂
    have hs₂ : s₂ = ((({ U with heap := s₂.heap, slotsUsed := s₂.slotsUsed } : State).setVm s₂.vm).setTop g).pushFrame (.throwing q) := by
      refine e3.trans ?_
      rw [hf₂, State.calling_eq h.top, State.setFrames_setFrames, State.pushFrame, State.frames_setTop _ hr', State.setTop_of_frames _ hr', State.setFrames_setFrames, hr]
      rfl
    have hsame : U.sameButNew ({ U with heap := s₂.heap, slotsUsed := s₂.slotsUsed } : State) L mc ms := by
      refine ⟨?_, q2, q3, q4, q5, q6⟩
      obtain ⟨t, ht, -⟩ := State.frames_cons hr
      show ({ U with heap := s₂.heap, slotsUsed := s₂.slotsUsed } : State) = { U.setFrames U.frames with heap := s₂.heap, slotsUsed := s₂.slotsUsed }
      rw [State.setFrames_self ht]
    subst hg
    refine Or.inr ⟨q, ⟨(({ U with heap := s₂.heap, slotsUsed := s₂.slotsUsed } : State).setVm s₂.vm), Ls ++ L, c0 + mc, s0 + ms⟩,
      ⟨X.admits, X.cas, X.clock, X.frames, X.room, X.hears, X.method, X.code, (X.here.setHeapUsed s₂.heap s₂.slotsUsed).setVm hW'.alike, X.tail, State.WarmedH.trans X.warmed hW', X.limits, X.bytes, X.same.trans (hsame.setVm s.vm)⟩,
      ⟨g, mk, s₂, L, E, ce, rfl, rfl, hx, hce, hcv, hcl, rfl, hL, rfl, rfl⟩, ?_⟩
    show Steps p.tables e below _ (((({ U with heap := s₂.heap, slotsUsed := s₂.slotsUsed } : State).setVm s₂.vm).setTop g).pushFrame (.throwing q))
    rw [← hs₂]
    exact hsteps
end Payer
section Calls
variable {p : Program} {l : Launch} {e : Env} {R : Room} {s : State} {m : MethodId} {args : Array Value} {below : List Frame} {meth : Method} {c : Code} {T : State} {locs : List Loc} {cells slots : Nat}
theorem vx_callV (X : Stand p l e R s m args below meth c T locs cells slots) (hexec : p.tables.exec = Jvm.exec) {own C : String} {index : Nat} {y : MethodName} {bytes : ByteArray} {maxL : Nat} {ret : Option FieldType}
    (hown : s.vm.findClass own = some m.cls) (hlink : (Cond.methodLink own index y).before args s = true) (hinst : (Cond.instanceMethod y).before args s = true) (hsel : (Cond.selects C y y).before args s = true)
    (hcode : (Cond.code y bytes maxL ret).before args s = true) (hy : y.cls ≠ "java/lang/invoke/MethodHandle" ∧ y.cls ≠ "java/lang/invoke/VarHandle")
    {W9 : Nat} {Pre : Pt → Array Value → Prop} {Post : Pt → Array Value → Option Value → Pt → Prop} {PostX : Pt → Array Value → Addr → Pt → Prop} (hK : vx_Back l R p e below s args y 3 W9 Pre Post PostX)
    {b : Addr} {cellB : Cell} (hcell : T.heap[b]? = some cellB) (hobj : cellB.vm.isStatics = false) (hcls : s.vm.findClass C = some cellB.cls)
    {g : JFrame} (hg : g.method = m) (hsize : g.locals.size = c.maxLocals) {argsL rest : List Value} (hlen : ∀ sig, parseMethodDescriptor y.desc = some sig → argsL.length = sig.parameters.length)
    (hstack : g.stack = argsL.reverse ++ .ref b :: rest) (hW : 2 * g.monitorRoom + (rest.map fun v => v.category).sum ≤ W9) (hdg : decode c.code g.pc = .ok (.invokevirtual index, 3))
    (hpre : ∀ vm₁, s.WarmedH vm₁ → Pre ⟨T.setVm vm₁, locs, cells, slots⟩ (Value.ref b :: argsL).toArray) :
    (∃ (v : Option Value) (vm₁ : Vm) (B : Pt), s.WarmedH vm₁ ∧ Stand p l e R s m args below meth c B.U B.locs B.cells B.slots ∧ Post ⟨T.setVm vm₁, locs, cells, slots⟩ (Value.ref b :: argsL).toArray v B ∧
      ∀ target, Steps p.tables e below (B.U.setTop { g with pc := g.pc + 3, stack := v.toList ++ rest }) target → Steps p.tables e below (T.setTop g) target) ∨
    (∃ (q : Addr) (vm₁ : Vm) (B : Pt), s.WarmedH vm₁ ∧ Stand p l e R s m args below meth c B.U B.locs B.cells B.slots ∧ PostX ⟨T.setVm vm₁, locs, cells, slots⟩ (Value.ref b :: argsL).toArray q B ∧
      Steps p.tables e below (T.setTop g) ((B.U.setTop { g with stack := rest }).pushFrame (.throwing q))) := by
  obtain ⟨mk, methM, hnamed, hmethM, hstM, habM⟩ := Cond.instanceMethod_spec hinst
  obtain ⟨methM', cM, hmethM', -, -, -, -, -, -, hsigM⟩ := Cond.code_spec hnamed hcode
  cases hmethM.symm.trans hmethM'
  obtain ⟨c2, r2, m2, q1, q2, q3, q4, kP, hkP, hkPi⟩ := Cond.selects_spec hsel
  cases hcls.symm.trans q1
  cases (State.methodFound?_of_named hnamed hy).symm.trans q2
  cases hnamed.symm.trans q3
  have hselP : selectMethod e.platform s.vm cellB.cls mk = .method mk := by rw [Launch.admits_selectMethod X.admits]; exact q4
  obtain ⟨vm₁, X₁, hstep₁⟩ := X.invokevirtual hexec hown hlink hnamed hmethM hstM hkP hkPi hy (a := b) (cell := cellB) hcell
    (fun z h => by rw [h] at hobj; cases hobj) hselP hmethM habM hkP hkPi (g := g) hg (argsL := argsL) (rest := rest) (hlen _ hsigM) hstack hdg
  rcases hK m meth c ⟨T.setVm vm₁, locs, cells, slots⟩ { g with stack := rest } (.invokevirtual index) mk (Value.ref b :: argsL).toArray X₁ hg hsize hdg hW (X₁.named hnamed) (hpre vm₁ X₁.warmed) with ⟨v, B, X', hpost, hsteps⟩ | ⟨q, B, X', hpost, hsteps⟩
  · exact Or.inl ⟨v, vm₁, B, X₁.warmed, X', hpost, fun target h => hstep₁ _ fun acts => by rw [doInvoke_state]; exact hsteps.trans h⟩
  · exact Or.inr ⟨q, vm₁, B, X₁.warmed, X', hpost, hstep₁ _ fun acts => by rw [doInvoke_state]; exact hsteps⟩
theorem vx_callS (X : Stand p l e R s m args below meth c T locs cells slots) (hexec : p.tables.exec = Jvm.exec) {own : String} {index : Nat} {y : MethodName} {bytes : ByteArray} {maxL : Nat} {ret : Option FieldType}
    (hown : s.vm.findClass own = some m.cls) (hlink : (Cond.methodLink own index y).before args s = true) (hstat : (Cond.static y).before args s = true) (hinit : (Cond.initialized y.cls).before args s = true)
    (hcode : (Cond.code y bytes maxL ret).before args s = true) (hy : y.cls ≠ "java/lang/invoke/MethodHandle" ∧ y.cls ≠ "java/lang/invoke/VarHandle")
    {W9 : Nat} {Pre : Pt → Array Value → Prop} {Post : Pt → Array Value → Option Value → Pt → Prop} {PostX : Pt → Array Value → Addr → Pt → Prop} (hK : vx_Back l R p e below s args y 3 W9 Pre Post PostX)
    {g : JFrame} (hg : g.method = m) (hsize : g.locals.size = c.maxLocals) {argsL rest : List Value} (hlen : ∀ sig, parseMethodDescriptor y.desc = some sig → argsL.length = sig.parameters.length)
    (hstack : g.stack = argsL.reverse ++ rest) (hW : 2 * g.monitorRoom + (rest.map fun v => v.category).sum ≤ W9) (hdg : decode c.code g.pc = .ok (.invokestatic index, 3))
    (hpre : ∀ vm₁, s.WarmedH vm₁ → Pre ⟨T.setVm vm₁, locs, cells, slots⟩ argsL.toArray) :
    (∃ (v : Option Value) (vm₁ : Vm) (B : Pt), s.WarmedH vm₁ ∧ Stand p l e R s m args below meth c B.U B.locs B.cells B.slots ∧ Post ⟨T.setVm vm₁, locs, cells, slots⟩ argsL.toArray v B ∧
      ∀ target, Steps p.tables e below (B.U.setTop { g with pc := g.pc + 3, stack := v.toList ++ rest }) target → Steps p.tables e below (T.setTop g) target) ∨
    (∃ (q : Addr) (vm₁ : Vm) (B : Pt), s.WarmedH vm₁ ∧ Stand p l e R s m args below meth c B.U B.locs B.cells B.slots ∧ PostX ⟨T.setVm vm₁, locs, cells, slots⟩ argsL.toArray q B ∧
      Steps p.tables e below (T.setTop g) ((B.U.setTop { g with stack := rest }).pushFrame (.throwing q))) := by
  obtain ⟨mk, hnamed⟩ := Cond.code_named hcode
  obtain ⟨methM, cM, hmethM, -, -, -, -, -, -, hsigM⟩ := Cond.code_spec hnamed hcode
  have hstatic : methM.isStatic = true := Cond.static_spec hnamed hmethM hstat
  obtain ⟨kP, hkP, -⟩ := className_of_methodNamed hnamed
  have hinitP : kP.init = .initialized := Cond.initialized_spec (findClass_of_methodNamed hnamed) hkP hinit
  obtain ⟨vm₁, X₁, hstep₁⟩ := X.invokestatic hexec hown hlink hnamed hmethM hstatic hkP hinitP hy (g := g) hg (argsL := argsL) (rest := rest) (hlen _ hsigM) hstack hdg
  rcases hK m meth c ⟨T.setVm vm₁, locs, cells, slots⟩ { g with stack := rest } (.invokestatic index) mk argsL.toArray X₁ hg hsize hdg hW (X₁.named hnamed) (hpre vm₁ X₁.warmed) with ⟨v, B, X', hpost, hsteps⟩ | ⟨q, B, X', hpost, hsteps⟩
  · exact Or.inl ⟨v, vm₁, B, X₁.warmed, X', hpost, fun target h => hstep₁ _ fun acts => by rw [doInvoke_state]; exact hsteps.trans h⟩
  · exact Or.inr ⟨q, vm₁, B, X₁.warmed, X', hpost, hstep₁ _ fun acts => by rw [doInvoke_state]; exact hsteps⟩
end Calls
theorem vx_cls {s : State} {T : State} {vm₁ : Vm} {E : String} {k : ClassId} (hW : s.WarmedH vm₁) (h : (T.setVm vm₁).vm.findClass E = some k) : s.vm.findClass E = some k := by
  have h1 : vm₁.findClass E = some k := h
  rw [hW.alike.findClass] at h1
  exact h1
/-- the method's frame g, with q thrown over it -/
def vx_W (p : Program) (l : Launch) (e : Env) (R : Room) (s : State) (m : MethodId) (args : Array Value) (below : List Frame) (meth : Method) (c : Code) (H : Heap) (locs : List Loc) (cells slots : Nat) (Q : State → Prop) (g : JFrame) (q : Addr) : Prop :=
  ∀ T : State, T.heap = H → Stand p l e R s m args below meth c T locs cells slots → ∃ t, Steps p.tables e below ((T.setTop g).pushFrame (.throwing q)) t ∧ Q t
def vx_Run (p : Program) (l : Launch) (e : Env) (R : Room) (s : State) (m : MethodId) (args : Array Value) (below : List Frame) (meth : Method) (c : Code) (H : Heap) (locs : List Loc) (cells slots mc ms : Nat) (g : JFrame) (rest : List Value) (Qa : State → Outcome → State → Prop) (XC : String → State → State → Prop) (free : Addr → Prop) : Prop :=
  ∀ T : State, T.heap = H → Stand p l e R s m args below meth c T locs cells slots →
    (∃ (v : Option Value) (st₀ t T' : State) (L : List Loc), st₀.heap = H ∧ Stand p l e R s m args below meth c T' (locs ++ L) (cells + mc) (slots + ms) ∧ (∀ q ∈ L, free q.base) ∧ T'.heap = t.heap ∧ T'.vm = t.vm ∧ Qa st₀ (.returned v) t ∧
      Goes p e below T g T' { g with pc := g.pc + 3, stack := v.toList ++ rest }) ∨
    (∃ (q : Addr) (st₀ t T' : State) (L : List Loc) (E : String) (ce : Cell), st₀.heap = H ∧ Stand p l e R s m args below meth c T' (locs ++ L) (cells + mc) (slots + ms) ∧ (∀ z ∈ L, free z.base) ∧ T'.heap = t.heap ∧ T'.vm = t.vm ∧ XC E st₀ t ∧ t.heap[q]? = some ce ∧ ce.vm = .none ∧ s.vm.findClass E = some ce.cls ∧
      Steps p.tables e below (T.setTop g) ((T'.setTop { g with stack := rest }).pushFrame (.throwing q)))
def vx_X {S : Type} (px : S → Prop) (B : String → S → State → Prop) (A : Nat → Prop) : String → State → State → Prop := fun E st t => ∃ u : S, px u ∧ B E u t ∧ va_F A st t
section Runs
variable {p : Program} {l : Launch} {e : Env} {R : Room} {s : State} {m : MethodId} {args : Array Value} {below : List Frame} {meth : Method} {c : Code} {H : Heap} {locs : List Loc} {cells slots : Nat}
variable {y : MethodName} {bytes cc : ByteArray} {maxL nL mc ms n index : Nat} {ret : Option FieldType} {ws : List Cond} {rm : Room} {Pc : Array Value → State → Prop} {Qc : Array Value → State → Outcome → State → Prop} {XC : String → State → State → Prop} {free : Addr → Prop} {Ts : List Cond} {own C : String} {b : Addr} {As rest : List Value} {g : JFrame}
theorem vx_callBack (cb : CallB R s args own index y bytes maxL ret ws rm mc ms n) (hM : vx_Met l y ws rm Pc Qc XC mc ms free) (hbl : FrameBlind Pc) : vx_Back l R p e below s args y 3 8 (PreOf R mc ms Pc) (PostOf Qc mc ms free) (vx_Post XC mc ms free) := by
  obtain ⟨hrc, hrs, hfr, hlo, hws, hcw, -, hini, -⟩ := cb
  exact vx_back (bytes := bytes) (maxL := maxL) (ret := ret) hM hbl hrc hrs hfr hlo hws hcw (fun a' U hW => word_at hW (Or.inl (by first | rfl | simp [Cond.onTables, Cond.keeps, Cond.steady])) hini)
theorem vx_runV (S : CallFix p m c cc nL s args Ts own) (hM : vx_Met l y ws rm Pc Qc XC mc ms free) (cw : CallW R s args own C index y bytes maxL ret ws rm mc ms n) (hp : PreV s H C b Pc As)
    (hg : g.method = m) (hn : As.length = n) (hsize : g.locals.size = nL) (hstack : g.stack = As.reverse ++ .ref b :: rest) (hW : 2 * g.monitorRoom + (rest.map fun v => v.category).sum ≤ 8) (hdg : decode cc g.pc = .ok (.invokevirtual index, 3)) (hf : cells + mc ≤ R.cells ∧ slots + ms ≤ R.slots) :
    vx_Run p l e R s m args below meth c H locs cells slots mc ms g rest (Qc (Value.ref b :: As).toArray) XC free := by
  have hK : vx_Back l R p e below s args y 3 8 (PreOf R mc ms Pc) (PostOf Qc mc ms free) (vx_Post XC mc ms free) := vx_callBack cw.1 hM hp.1
  obtain ⟨⟨-, -, -, -, -, -, hcode, -, hy, hlen, hl⟩, hin, hse⟩ := cw
  obtain ⟨hx, hb, hml, ho, -⟩ := S
  obtain ⟨-, ⟨cellB, hcB, hoB, hclB⟩, hPc⟩ := hp
  intro T hT X
  rcases vx_callV X hx (C := C) (bytes := bytes) (maxL := maxL) (ret := ret) ho hl hin hse hcode hy hK (by rw [hT]; exact hcB) hoB hclB hg (hsize.trans hml.symm) (argsL := As) (rest := rest) (fun sig h => hn.trans (hlen sig h)) hstack hW (by rw [hb]; exact hdg)
    (fun vm₁ hW₁ => ⟨hf.1, hf.2, hPc (T.setVm vm₁) hT hW₁⟩) with ⟨v, vm₁, ⟨U', l2, c2, s2⟩, hW₁, X', ⟨g', mk, t, L, e1, e2, hq, h1, hL, h2, h3⟩, st⟩ | ⟨q, vm₁, ⟨U', l2, c2, s2⟩, hW₁, X', ⟨g', mk, t, L, E, ce, e1, e2, hq, hce, hcv, hcl, h1, hL, h2, h3⟩, st⟩
  · dsimp only [Pt.U, Pt.locs, Pt.cells, Pt.slots] at X' e1 e2 h1 h2 h3 st
    subst h1; subst h2; subst h3
    exact Or.inl ⟨v, (T.setVm vm₁).calling g' mk (Value.ref b :: As).toArray, t, U', L, hT, X', hL, e1, e2, hq, st⟩
  · dsimp only [Pt.U, Pt.locs, Pt.cells, Pt.slots] at X' e1 e2 h1 h2 h3 st hcl
    subst h1; subst h2; subst h3
    exact Or.inr ⟨q, (T.setVm vm₁).calling g' mk (Value.ref b :: As).toArray, t, U', L, E, ce, hT, X', hL, e1, e2, hq, hce, hcv, vx_cls hW₁ hcl, st⟩
theorem vx_runS (S : CallFix p m c cc nL s args Ts own) (hM : vx_Met l y ws rm Pc Qc XC mc ms free) (cw : CallB R s args own index y bytes maxL ret ws rm mc ms n ∧ (Cond.static y).before args s = true) (hp : PreS s H Pc As)
    (hg : g.method = m) (hn : As.length = n) (hsize : g.locals.size = nL) (hstack : g.stack = As.reverse ++ rest) (hW : 2 * g.monitorRoom + (rest.map fun v => v.category).sum ≤ 8) (hdg : decode cc g.pc = .ok (.invokestatic index, 3)) (hf : cells + mc ≤ R.cells ∧ slots + ms ≤ R.slots) :
    vx_Run p l e R s m args below meth c H locs cells slots mc ms g rest (Qc As.toArray) XC free := by
  have hK : vx_Back l R p e below s args y 3 8 (PreOf R mc ms Pc) (PostOf Qc mc ms free) (vx_Post XC mc ms free) := vx_callBack cw.1 hM hp.1
  obtain ⟨⟨-, -, -, -, -, -, hcode, hini, hy, hlen, hl⟩, hstt⟩ := cw
  obtain ⟨hx, hb, hml, ho, -⟩ := S
  intro T hT X
  rcases vx_callS X hx (bytes := bytes) (maxL := maxL) (ret := ret) ho hl hstt hini hcode hy hK hg (hsize.trans hml.symm) (argsL := As) (rest := rest) (fun sig h => hn.trans (hlen sig h)) hstack hW (by rw [hb]; exact hdg)
    (fun vm₁ hW₁ => ⟨hf.1, hf.2, hp.2 (T.setVm vm₁) hT hW₁⟩) with ⟨v, vm₁, ⟨U', l2, c2, s2⟩, hW₁, X', ⟨g', mk, t, L, e1, e2, hq, h1, hL, h2, h3⟩, st⟩ | ⟨q, vm₁, ⟨U', l2, c2, s2⟩, hW₁, X', ⟨g', mk, t, L, E, ce, e1, e2, hq, hce, hcv, hcl, h1, hL, h2, h3⟩, st⟩
  · dsimp only [Pt.U, Pt.locs, Pt.cells, Pt.slots] at X' e1 e2 h1 h2 h3 st
    subst h1; subst h2; subst h3
    exact Or.inl ⟨v, (T.setVm vm₁).calling g' mk As.toArray, t, U', L, hT, X', hL, e1, e2, hq, st⟩
  · dsimp only [Pt.U, Pt.locs, Pt.cells, Pt.slots] at X' e1 e2 h1 h2 h3 st hcl
    subst h1; subst h2; subst h3
    exact Or.inr ⟨q, (T.setVm vm₁).calling g' mk As.toArray, t, U', L, E, ce, hT, X', hL, e1, e2, hq, hce, hcv, vx_cls hW₁ hcl, st⟩
end Runs
section Rows
variable {p : Program} {l : Launch} {e : Env} {R : Room} {s : State} {m : MethodId} {args : Array Value} {below : List Frame} {meth : Method} {c : Code} {H : Heap} {locs : List Loc} {cells slots : Nat} {Q : State → Prop}
variable {mc ms : Nat} {free : Addr → Prop} {A0 A1 : Nat → Prop} {H0 : Heap} {a : Array Value} {pc : Nat} {ls : Array Slot} {st0 rest : List Value}
theorem vx_keep {st₀ t T' : State} {L : List Loc} (h0 : st₀.heap = H) (e1 : T'.heap = t.heap) (hS : va_S A0 H0 H locs) (hA : ∀ q, q < H.size → A1 q → A0 q) (hf : ∀ q, free q → A0 q) (hL : ∀ q ∈ L, free q.base) (hF : va_F A1 st₀ t) :
    H.size ≤ T'.heap.size ∧ (∀ q : Nat, q < H.size → ¬ A1 q → T'.heap[q]? = H[q]?) ∧ va_S A0 H0 T'.heap (locs ++ L) := by
  obtain ⟨hz, hk⟩ := hF
  rw [h0] at hz hk
  exact ⟨by rw [e1]; exact hz, fun q h1 h2 => by rw [e1]; exact hk q h1 h2,
    ⟨Nat.le_trans hS.1 (by rw [e1]; exact hz), fun q h1 h2 => by rw [e1, hk q (Nat.lt_of_lt_of_le h1 hS.1) (fun z => h2 (hA q (Nat.lt_of_lt_of_le h1 hS.1) z))]; exact hS.2.1 q h1 h2, fun q hq => by
      rcases List.mem_append.mp hq with h | h
      · exact hS.2.2 q h
      · exact hf _ (hL q h)⟩⟩
theorem vx_calli {S SX : Type} {post : Int32 → S → Prop} {px : SX → Prop} {B : S → State → Prop} {BX : String → SX → State → Prop} {AX : Nat → Prop} (hr : vx_Run p l e R s m args below meth c H locs cells slots mc ms (F0 m pc ls st0) rest (va_Qi post B A1 a) (vx_X px BX AX) free) (hS : va_S A0 H0 H locs) (hA : ∀ q, q < H.size → A1 q → A0 q) (hf : ∀ q, free q → A0 q) (hAX : ∀ q, q < H.size → AX q → A0 q)
    (kx : ∀ (E : String) (ce : Cell) (q9 : Addr) (u : SX) (t : State) (H1 : Heap) (locs1 : List Loc), t.heap = H1 → s.vm.Alike t.vm → px u → BX E u t → H.size ≤ H1.size → (∀ q : Nat, q < H.size → ¬ AX q → H1[q]? = H[q]?) → va_S A0 H0 H1 locs1 → H1[q9]? = some ce → ce.vm = .none → s.vm.findClass E = some ce.cls → vx_W p l e R s m args below meth c H1 locs1 (cells + mc) (slots + ms) Q (F0 m pc ls rest) q9)
    (kk : ∀ (r : Int32) (u : S) (t : State) (H1 : Heap) (locs1 : List Loc), t.heap = H1 → s.vm.Alike t.vm → post r u → B u t → H.size ≤ H1.size → (∀ q : Nat, q < H.size → ¬ A1 q → H1[q]? = H[q]?) → va_S A0 H0 H1 locs1 → W p l e R s m args below meth c H1 locs1 (cells + mc) (slots + ms) Q (F0 m (pc + 3) ls (.int r :: rest))) : W p l e R s m args below meth c H locs cells slots Q (F0 m pc ls st0) := by
  intro T hT X
  rcases hr T hT X with ⟨v, st₀, t, T', L, h0, X', hL, e1, e2, ⟨⟨r, u, hv, hp, hb⟩, hF⟩, st⟩ | ⟨q, st₀, t, T', L, E, ce, h0, X', hL, e1, e2, ⟨u, hp, hb, hF⟩, hce, hcv, hcl, st⟩
  · cases hv
    obtain ⟨k1, k2, k3⟩ := vx_keep h0 e1 hS hA hf hL hF
    obtain ⟨t2, a1, b1⟩ := kk r u t T'.heap (locs ++ L) e1.symm (by rw [← e2]; exact X'.warmed.alike) hp hb k1 k2 k3 T' rfl X'
    exact ⟨t2, st t2 a1, b1⟩
  · obtain ⟨k1, k2, k3⟩ := vx_keep h0 e1 hS hAX hf hL hF
    obtain ⟨t2, a1, b1⟩ := kx E ce q u t T'.heap (locs ++ L) e1.symm (by rw [← e2]; exact X'.warmed.alike) hp hb k1 k2 k3 (by rw [e1]; exact hce) hcv hcl T' rfl X'
    exact ⟨t2, st.trans a1, b1⟩
theorem vx_calll {S SX : Type} {post : Int64 → S → Prop} {px : SX → Prop} {B : S → State → Prop} {BX : String → SX → State → Prop} {AX : Nat → Prop} (hr : vx_Run p l e R s m args below meth c H locs cells slots mc ms (F0 m pc ls st0) rest (va_Ql post B A1 a) (vx_X px BX AX) free) (hS : va_S A0 H0 H locs) (hA : ∀ q, q < H.size → A1 q → A0 q) (hf : ∀ q, free q → A0 q) (hAX : ∀ q, q < H.size → AX q → A0 q)
    (kx : ∀ (E : String) (ce : Cell) (q9 : Addr) (u : SX) (t : State) (H1 : Heap) (locs1 : List Loc), t.heap = H1 → s.vm.Alike t.vm → px u → BX E u t → H.size ≤ H1.size → (∀ q : Nat, q < H.size → ¬ AX q → H1[q]? = H[q]?) → va_S A0 H0 H1 locs1 → H1[q9]? = some ce → ce.vm = .none → s.vm.findClass E = some ce.cls → vx_W p l e R s m args below meth c H1 locs1 (cells + mc) (slots + ms) Q (F0 m pc ls rest) q9)
    (kk : ∀ (r : Int64) (u : S) (t : State) (H1 : Heap) (locs1 : List Loc), t.heap = H1 → s.vm.Alike t.vm → post r u → B u t → H.size ≤ H1.size → (∀ q : Nat, q < H.size → ¬ A1 q → H1[q]? = H[q]?) → va_S A0 H0 H1 locs1 → W p l e R s m args below meth c H1 locs1 (cells + mc) (slots + ms) Q (F0 m (pc + 3) ls (.long r :: rest))) : W p l e R s m args below meth c H locs cells slots Q (F0 m pc ls st0) := by
  intro T hT X
  rcases hr T hT X with ⟨v, st₀, t, T', L, h0, X', hL, e1, e2, ⟨⟨r, u, hv, hp, hb⟩, hF⟩, st⟩ | ⟨q, st₀, t, T', L, E, ce, h0, X', hL, e1, e2, ⟨u, hp, hb, hF⟩, hce, hcv, hcl, st⟩
  · cases hv
    obtain ⟨k1, k2, k3⟩ := vx_keep h0 e1 hS hA hf hL hF
    obtain ⟨t2, a1, b1⟩ := kk r u t T'.heap (locs ++ L) e1.symm (by rw [← e2]; exact X'.warmed.alike) hp hb k1 k2 k3 T' rfl X'
    exact ⟨t2, st t2 a1, b1⟩
  · obtain ⟨k1, k2, k3⟩ := vx_keep h0 e1 hS hAX hf hL hF
    obtain ⟨t2, a1, b1⟩ := kx E ce q u t T'.heap (locs ++ L) e1.symm (by rw [← e2]; exact X'.warmed.alike) hp hb k1 k2 k3 (by rw [e1]; exact hce) hcv hcl T' rfl X'
    exact ⟨t2, st.trans a1, b1⟩
theorem vx_callf {S SX : Type} {post : UInt32 → S → Prop} {px : SX → Prop} {B : S → State → Prop} {BX : String → SX → State → Prop} {AX : Nat → Prop} (hr : vx_Run p l e R s m args below meth c H locs cells slots mc ms (F0 m pc ls st0) rest (va_Qf post B A1 a) (vx_X px BX AX) free) (hS : va_S A0 H0 H locs) (hA : ∀ q, q < H.size → A1 q → A0 q) (hf : ∀ q, free q → A0 q) (hAX : ∀ q, q < H.size → AX q → A0 q)
    (kx : ∀ (E : String) (ce : Cell) (q9 : Addr) (u : SX) (t : State) (H1 : Heap) (locs1 : List Loc), t.heap = H1 → s.vm.Alike t.vm → px u → BX E u t → H.size ≤ H1.size → (∀ q : Nat, q < H.size → ¬ AX q → H1[q]? = H[q]?) → va_S A0 H0 H1 locs1 → H1[q9]? = some ce → ce.vm = .none → s.vm.findClass E = some ce.cls → vx_W p l e R s m args below meth c H1 locs1 (cells + mc) (slots + ms) Q (F0 m pc ls rest) q9)
    (kk : ∀ (r : UInt32) (u : S) (t : State) (H1 : Heap) (locs1 : List Loc), t.heap = H1 → s.vm.Alike t.vm → post r u → B u t → H.size ≤ H1.size → (∀ q : Nat, q < H.size → ¬ A1 q → H1[q]? = H[q]?) → va_S A0 H0 H1 locs1 → W p l e R s m args below meth c H1 locs1 (cells + mc) (slots + ms) Q (F0 m (pc + 3) ls (.float r :: rest))) : W p l e R s m args below meth c H locs cells slots Q (F0 m pc ls st0) := by
  intro T hT X
  rcases hr T hT X with ⟨v, st₀, t, T', L, h0, X', hL, e1, e2, ⟨⟨r, u, hv, hp, hb⟩, hF⟩, st⟩ | ⟨q, st₀, t, T', L, E, ce, h0, X', hL, e1, e2, ⟨u, hp, hb, hF⟩, hce, hcv, hcl, st⟩
  · cases hv
    obtain ⟨k1, k2, k3⟩ := vx_keep h0 e1 hS hA hf hL hF
    obtain ⟨t2, a1, b1⟩ := kk r u t T'.heap (locs ++ L) e1.symm (by rw [← e2]; exact X'.warmed.alike) hp hb k1 k2 k3 T' rfl X'
    exact ⟨t2, st t2 a1, b1⟩
  · obtain ⟨k1, k2, k3⟩ := vx_keep h0 e1 hS hAX hf hL hF
    obtain ⟨t2, a1, b1⟩ := kx E ce q u t T'.heap (locs ++ L) e1.symm (by rw [← e2]; exact X'.warmed.alike) hp hb k1 k2 k3 (by rw [e1]; exact hce) hcv hcl T' rfl X'
    exact ⟨t2, st.trans a1, b1⟩
theorem vx_calld {S SX : Type} {post : UInt64 → S → Prop} {px : SX → Prop} {B : S → State → Prop} {BX : String → SX → State → Prop} {AX : Nat → Prop} (hr : vx_Run p l e R s m args below meth c H locs cells slots mc ms (F0 m pc ls st0) rest (va_Qd post B A1 a) (vx_X px BX AX) free) (hS : va_S A0 H0 H locs) (hA : ∀ q, q < H.size → A1 q → A0 q) (hf : ∀ q, free q → A0 q) (hAX : ∀ q, q < H.size → AX q → A0 q)
    (kx : ∀ (E : String) (ce : Cell) (q9 : Addr) (u : SX) (t : State) (H1 : Heap) (locs1 : List Loc), t.heap = H1 → s.vm.Alike t.vm → px u → BX E u t → H.size ≤ H1.size → (∀ q : Nat, q < H.size → ¬ AX q → H1[q]? = H[q]?) → va_S A0 H0 H1 locs1 → H1[q9]? = some ce → ce.vm = .none → s.vm.findClass E = some ce.cls → vx_W p l e R s m args below meth c H1 locs1 (cells + mc) (slots + ms) Q (F0 m pc ls rest) q9)
    (kk : ∀ (r : UInt64) (u : S) (t : State) (H1 : Heap) (locs1 : List Loc), t.heap = H1 → s.vm.Alike t.vm → post r u → B u t → H.size ≤ H1.size → (∀ q : Nat, q < H.size → ¬ A1 q → H1[q]? = H[q]?) → va_S A0 H0 H1 locs1 → W p l e R s m args below meth c H1 locs1 (cells + mc) (slots + ms) Q (F0 m (pc + 3) ls (.double r :: rest))) : W p l e R s m args below meth c H locs cells slots Q (F0 m pc ls st0) := by
  intro T hT X
  rcases hr T hT X with ⟨v, st₀, t, T', L, h0, X', hL, e1, e2, ⟨⟨r, u, hv, hp, hb⟩, hF⟩, st⟩ | ⟨q, st₀, t, T', L, E, ce, h0, X', hL, e1, e2, ⟨u, hp, hb, hF⟩, hce, hcv, hcl, st⟩
  · cases hv
    obtain ⟨k1, k2, k3⟩ := vx_keep h0 e1 hS hA hf hL hF
    obtain ⟨t2, a1, b1⟩ := kk r u t T'.heap (locs ++ L) e1.symm (by rw [← e2]; exact X'.warmed.alike) hp hb k1 k2 k3 T' rfl X'
    exact ⟨t2, st t2 a1, b1⟩
  · obtain ⟨k1, k2, k3⟩ := vx_keep h0 e1 hS hAX hf hL hF
    obtain ⟨t2, a1, b1⟩ := kx E ce q u t T'.heap (locs ++ L) e1.symm (by rw [← e2]; exact X'.warmed.alike) hp hb k1 k2 k3 (by rw [e1]; exact hce) hcv hcl T' rfl X'
    exact ⟨t2, st.trans a1, b1⟩
theorem vx_callv {S SX : Type} {post : S → Prop} {px : SX → Prop} {B : S → State → Prop} {BX : String → SX → State → Prop} {AX : Nat → Prop} (hr : vx_Run p l e R s m args below meth c H locs cells slots mc ms (F0 m pc ls st0) rest (va_Qv post B A1 a) (vx_X px BX AX) free) (hS : va_S A0 H0 H locs) (hA : ∀ q, q < H.size → A1 q → A0 q) (hf : ∀ q, free q → A0 q) (hAX : ∀ q, q < H.size → AX q → A0 q)
    (kx : ∀ (E : String) (ce : Cell) (q9 : Addr) (u : SX) (t : State) (H1 : Heap) (locs1 : List Loc), t.heap = H1 → s.vm.Alike t.vm → px u → BX E u t → H.size ≤ H1.size → (∀ q : Nat, q < H.size → ¬ AX q → H1[q]? = H[q]?) → va_S A0 H0 H1 locs1 → H1[q9]? = some ce → ce.vm = .none → s.vm.findClass E = some ce.cls → vx_W p l e R s m args below meth c H1 locs1 (cells + mc) (slots + ms) Q (F0 m pc ls rest) q9)
    (kk : ∀ (u : S) (t : State) (H1 : Heap) (locs1 : List Loc), t.heap = H1 → s.vm.Alike t.vm → post u → B u t → H.size ≤ H1.size → (∀ q : Nat, q < H.size → ¬ A1 q → H1[q]? = H[q]?) → va_S A0 H0 H1 locs1 → W p l e R s m args below meth c H1 locs1 (cells + mc) (slots + ms) Q (F0 m (pc + 3) ls (rest))) : W p l e R s m args below meth c H locs cells slots Q (F0 m pc ls st0) := by
  intro T hT X
  rcases hr T hT X with ⟨v, st₀, t, T', L, h0, X', hL, e1, e2, ⟨⟨u, hv, hp, hb⟩, hF⟩, st⟩ | ⟨q, st₀, t, T', L, E, ce, h0, X', hL, e1, e2, ⟨u, hp, hb, hF⟩, hce, hcv, hcl, st⟩
  · cases hv
    obtain ⟨k1, k2, k3⟩ := vx_keep h0 e1 hS hA hf hL hF
    obtain ⟨t2, a1, b1⟩ := kk u t T'.heap (locs ++ L) e1.symm (by rw [← e2]; exact X'.warmed.alike) hp hb k1 k2 k3 T' rfl X'
    exact ⟨t2, st t2 a1, b1⟩
  · obtain ⟨k1, k2, k3⟩ := vx_keep h0 e1 hS hAX hf hL hF
    obtain ⟨t2, a1, b1⟩ := kx E ce q u t T'.heap (locs ++ L) e1.symm (by rw [← e2]; exact X'.warmed.alike) hp hb k1 k2 k3 (by rw [e1]; exact hce) hcv hcl T' rfl X'
    exact ⟨t2, st.trans a1, b1⟩
/-- caught by the row x of this method's table; the rows ahead don't take it -/
theorem vx_catch {own name : String} {E : String} {ce : Cell} {q : Addr} (hown : s.vm.findClass own = some m.cls) (pre : List ExceptionTableEntry) (x : ExceptionTableEntry) (suf : List ExceptionTableEntry) (hsplit : c.exceptionTable.toList = pre ++ x :: suf)
    (hpass : ∀ z ∈ pre, covers z pc = false ∨ (z.catchType ≠ 0 ∧ ∃ nm : String, (Cond.classLink own z.catchType nm).before args s = true ∧ va_Nc E nm s)) (hx : covers x pc = true) (h0 : x.catchType ≠ 0)
    (hlink : (Cond.classLink own x.catchType name).before args s = true) (hcast : (Cond.castable E name).before args s = true) (hcell : H[q]? = some ce) (hv : ce.vm = .none) (hcl : s.vm.findClass E = some ce.cls)
    (kk : W p l e R s m args below meth c H locs cells slots Q (F0 m x.handlerPc ls [.ref q])) : vx_W p l e R s m args below meth c H locs cells slots Q (F0 m pc ls rest) q := by
  intro T hT X
  have hpl : e.platform.magicAccessors = ({} : Platform).magicAccessors := by rw [X.admits.platform]
  obtain ⟨c3, c4, hc3, hc4, hasg⟩ := Cond.castable_spec hcast
  cases Option.some.inj (hc3.symm.trans hcl)
  obtain ⟨c5, hc5, hcl5⟩ := Cond.classLink_spec hown hlink e.platform hpl
  cases Option.some.inj (hc4.symm.trans hc5)
  obtain ⟨vm', X', st⟩ := X.thenCaughtThrough q (g := F0 m pc ls rest) rfl (Steps.refl _) (by rw [hT]; exact hcell) (by rw [hv]; rfl) (by obtain ⟨k9, h9, -⟩ := Vm.findClass_spec hcl; exact ⟨k9, h9⟩) pre x suf hsplit
    (fun z hz => by
      rcases hpass z hz with h | ⟨hz0, nm, hl1, hn1⟩
      · exact Or.inl h
      · obtain ⟨c6, hc6, hcl6⟩ := Cond.classLink_spec hown hl1 e.platform hpl
        obtain ⟨a8, b8, h1, h2, h3⟩ := hn1
        cases Option.some.inj (h1.symm.trans hcl)
        cases Option.some.inj (h2.symm.trans hc6)
        exact Or.inr ⟨hz0, _, hcl6, h3⟩) hx (Or.inr ⟨h0, c4, hcl5, hasg⟩)
  obtain ⟨t, a1, b1⟩ := kk (T.setVm vm') hT X'
  exact ⟨t, st.trans a1, b1⟩
end Rows
section Ends
variable {p : Program} {l : Launch} {e : Env} {R : Room} {s : State} {m : MethodId} {args : Array Value} {below : List Frame} {meth : Method} {c : Code} {H : Heap} {locs : List Loc} {cells slots : Nat} {Q : State → Prop}
variable {mc ms : Nat} {free : Addr → Prop} {A0 A1 : Nat → Prop} {H0 : Heap} {a : Array Value} {ls : Array Slot} {st0 rest : List Value}
variable {Qc : Array Value → State → Outcome → State → Prop} {XC : String → State → State → Prop}
/-- what a body that may throw owes at its end -/
def vx_MQ (below : List Frame) (Qc : Array Value → State → Outcome → State → Prop) (XC : String → State → State → Prop) (a : Array Value) (s : State) (mc ms : Nat) (free : Addr → Prop) : State → Prop := fun t =>
  ∃ o, t.status = .running ∧ Ended t below o ∧ vx_Q Qc XC mc ms free a s o t
theorem vx_ret {g : JFrame} {mc ms : Nat} (k : W p l e R s m args below meth c H locs cells slots (MQ below Qc args s mc ms free) g) : W p l e R s m args below meth c H locs cells slots (vx_MQ below Qc XC args s mc ms free) g := by
  intro T hT X
  obtain ⟨t, a1, o, b1, b2, b3, b4⟩ := k T hT X
  exact ⟨t, a1, o, b1, b2, Or.inl ⟨b3, b4⟩⟩
/-- not caught here: it goes on to the caller -/
theorem vx_widen {g : JFrame} {q : Addr} {k n : Nat} (h1 : cells ≤ k) (h2 : slots ≤ n) (kk : vx_W p l e R s m args below meth c H locs k n Q g q) : vx_W p l e R s m args below meth c H locs cells slots Q g q := fun T hT X => kk T hT (stand_widen X h1 h2)
theorem vx_out {pc : Nat} {E : String} {ce : Cell} {q : Addr} {mc ms : Nat} (hout : ∀ x ∈ c.exceptionTable.toList, covers x pc = false) (hlocks : meth.locks = false) (hcell : H[q]? = some ce) (hv : ce.vm = .none) (hcl : s.vm.findClass E = some ce.cls)
    (hx : ∀ t : State, t.heap = H → s.vm.Alike t.vm → XC E s t) (hf : ∀ z ∈ locs, free z.base) (hc : cells ≤ mc) (hs : slots ≤ ms) :
    vx_W p l e R s m args below meth c H locs cells slots (vx_MQ below Qc XC args s mc ms free) (F0 m pc ls rest) q := by
  intro T hT X
  obtain ⟨st1, hrun, hend, hW, hsm⟩ := X.leaveThrown q (g := F0 m pc ls rest) rfl rfl rfl hout hlocks
  have hcell9 : (T.setFrames (.throwing q :: below)).heap[q]? = some ce := by
    show T.heap[q]? = some ce
    rw [hT]; exact hcell
  exact ⟨_, st1, .threw q, hrun, hend, Or.inr ⟨q, rfl, E, ce, locs, hx _ hT hW.alike, hcell9, hv, hcl, hW, hsm.mono hc hs, hf⟩⟩
theorem vx_frame {U : State} {k n : Nat} (h : s.sameButNew ({ U with vm := s.vm } : State) locs k n) : s.heap.size ≤ U.heap.size ∧ ∀ q : Nat, q < s.heap.size → (∀ z ∈ locs, z.base ≠ q) → U.heap[q]? = s.heap[q]? := by
  obtain ⟨-, h2, -, -, -, h6⟩ := h
  refine ⟨h2, fun q hq hz => ?_⟩
  obtain ⟨c9, e1, e2, e3, e4⟩ := h6 q _ (Array.getElem?_eq_getElem hq)
  have hs : c9.slots = (s.heap[q]).slots := Array.ext_getElem? fun i => e4 i fun hm => hz _ hm rfl
  have h9 : c9 = s.heap[q] := by
    rw [hs] at e2
    exact e2
  have e5 : U.heap[q]? = some c9 := e1
  rw [e5, h9, Array.getElem?_eq_getElem hq]
/-- the words of a throw but the four that speak of the heap -/
def vx_no (w : Cond) : Bool := decide (w ≠ .isRef (.static Bundle.tN "UNASSIGNED_STACK" Bundle.steD)) && decide (w ≠ .isRef (.static Bundle.tN "SUPPRESSED_SENTINEL" Bundle.listD)) && decide (w ≠ .laysStatic Bundle.tN "UNASSIGNED_STACK" Bundle.steD) && decide (w ≠ .laysStatic Bundle.tN "SUPPRESSED_SENTINEL" Bundle.listD)
def vx_at0 (own : String) (ic : Nat) (X : String) (names : List String) : List Cond := (Bundle.ownAtoms0 own ic X names).filter vx_no
def vx_atS (own : String) (ic : Nat) (X : String) (names : List String) : List Cond := (Bundle.ownAtoms own ic X names).filter vx_no
/-- a word that the tables alone decide, or a good one -/
def vx_ot (w : Cond) : Bool := w.onTables || goodWord w
theorem vx_ot_at {args a' : Array Value} {s U : State} {w : Cond} (hW : s.WarmedH U.vm) (hvm : s.vm = U.vm) (hg : vx_ot w = true) (h : w.before args s = true) : w.before a' U = true := by
  simp only [vx_ot, Bool.or_eq_true] at hg
  rcases hg with hg | hg
  · exact va_tabs hg hvm h
  · exact word_at hW (good_of_word hg) h
/-- a list's words: the good ones out of the method's own list, the others by premises of their own -/
theorem vx_hat {args : Array Value} {s : State} {L B : List Cond} (h1 : ∀ w ∈ L.filter goodWord, w.before args s = true) (h2 : ∀ w ∈ L.filter (fun w => !goodWord w), w ∈ B) (h3 : ∀ w ∈ B, w.before args s = true) : ∀ w ∈ L, w.before args s = true := by
  intro w hw
  by_cases g : goodWord w = true
  · exact h1 w (List.mem_filter.mpr ⟨hw, g⟩)
  · refine h3 w (h2 w (List.mem_filter.mpr ⟨hw, ?_⟩))
    show (!goodWord w) = true
    cases hgw : goodWord w
    · rfl
    · exact absurd hgw g
theorem vx_c {args : Array Value} {s : State} {w : Cond} {B : List Cond} (h : w.before args s = true) (t : ∀ w ∈ B, w.before args s = true) : ∀ w' ∈ w :: B, w'.before args s = true := fun w' h' => (List.mem_cons.mp h').elim (fun e => by rw [e]; exact h) (t w')
theorem vx_n {args : Array Value} {s : State} : ∀ w ∈ ([] : List Cond), w.before args s = true := fun _ h => nomatch h
theorem vx_own {args : Array Value} {s : State} {L : List Cond} (h1 : ∀ w ∈ L.filter vx_no, w.before args s = true)
    (hU : (Cond.isRef (.static Bundle.tN "UNASSIGNED_STACK" Bundle.steD)).before args s = true) (hN : (Cond.isRef (.static Bundle.tN "SUPPRESSED_SENTINEL" Bundle.listD)).before args s = true)
    (lU : (Cond.laysStatic Bundle.tN "UNASSIGNED_STACK" Bundle.steD).before args s = true) (lN : (Cond.laysStatic Bundle.tN "SUPPRESSED_SENTINEL" Bundle.listD).before args s = true) : ∀ w ∈ L, w.before args s = true := by
  intro w hw
  by_cases e1 : w = .isRef (.static Bundle.tN "UNASSIGNED_STACK" Bundle.steD)
  · rw [e1]; exact hU
  · by_cases e2 : w = .isRef (.static Bundle.tN "SUPPRESSED_SENTINEL" Bundle.listD)
    · rw [e2]; exact hN
    · by_cases e3 : w = .laysStatic Bundle.tN "UNASSIGNED_STACK" Bundle.steD
      · rw [e3]; exact lU
      · by_cases e4 : w = .laysStatic Bundle.tN "SUPPRESSED_SENTINEL" Bundle.listD
        · rw [e4]; exact lN
        · exact h1 w (List.mem_filter.mpr ⟨hw, by unfold vx_no; rw [decide_eq_true e1, decide_eq_true e2, decide_eq_true e3, decide_eq_true e4]; rfl⟩)
/-- where a static field lies, its class's statics cell in H -/
def vx_L (C n d : String) (A : Nat → Prop) (U : State) (H : Heap) : Prop := ∃ (c : ClassId) (k : Class) (i : Nat) (f : Field) (a : Nat) (cell : Cell), U.vm.findClass C = some c ∧ U.fieldFound? C n d = some (c, k, i, f) ∧ f.isStatic = true ∧ k.statics = some a ∧ H[a]? = some cell ∧ cell.vm.isStatics = true ∧ cell.cls = c ∧ f.slot < cell.slots.size ∧ k.staticTypes[f.slot]? = some f.type ∧ ¬ A a
theorem vx_L.moved {C n d : String} {A : Nat → Prop} {u U : State} {H : Heap} (hvm : u.vm.Alike U.vm) (h : vx_L C n d A u H) : vx_L C n d A U H := by
  obtain ⟨c, k, i, f, a, cell, h1, h2, h3, h4, h5, h6, h7, h8, h9, h10⟩ := h
  obtain ⟨k', hi', he⟩ := State.fieldFound?_setVm hvm h2
  exact ⟨c, k', i, f, a, cell, by rw [hvm.findClass]; exact h1, hi', h3, by rw [he]; exact h4, h5, h6, h7, h8, by rw [he]; exact h9, h10⟩
theorem vx_L.kept {C n d : String} {A : Nat → Prop} {U : State} {H H1 : Heap} (h : vx_L C n d A U H) (hq : ∀ a : Nat, a < H.size → ¬ A a → H1[a]? = H[a]?) : vx_L C n d A U H1 := by
  obtain ⟨c, k, i, f, a, cell, h1, h2, h3, h4, h5, h6, h7, h8, h9, h10⟩ := h
  exact ⟨c, k, i, f, a, cell, h1, h2, h3, h4, by rw [hq a (Array.getElem?_eq_some_iff.mp h5).1 h10]; exact h5, h6, h7, h8, h9, h10⟩
theorem vx_L.narrow {C n d : String} {A B : Nat → Prop} {U : State} {H : Heap} (h : vx_L C n d A U H) (hAB : ∀ q, B q → A q) : vx_L C n d B U H := by
  obtain ⟨c, k, i, f, a, cell, h1, h2, h3, h4, h5, h6, h7, h8, h9, h10⟩ := h
  exact ⟨c, k, i, f, a, cell, h1, h2, h3, h4, h5, h6, h7, h8, h9, fun z => h10 (hAB _ z)⟩
theorem vx_L.word {C n d : String} {A : Nat → Prop} {s : State} {args : Array Value} (h : vx_L C n d A s s.heap) : (Cond.laysStatic C n d).before args s = true := by
  obtain ⟨c, k, i, f, a, cell, h1, h2, h3, h4, h5, h6, h7, h8, h9, -⟩ := h
  show (Cond.laysStatic C n d).holds args s none s [] = true
  exact Cond.laysStatic_of h1 h2 h3 h4 h5 h6 h7 h8 h9
/-- .. and what it holds: null or some reference -/
def vx_Zq (C n d : String) (A : Nat → Prop) (U : State) (H : Heap) : Prop := va_Zq C n d A U H ∧ vx_L C n d A U H
theorem vx_Zq.moved {C n d : String} {A : Nat → Prop} {u U : State} {H : Heap} (hvm : u.vm.Alike U.vm) (h : vx_Zq C n d A u H) : vx_Zq C n d A U H := ⟨va_Zq.moved hvm h.1, vx_L.moved hvm h.2⟩
theorem vx_Zq.kept {C n d : String} {A : Nat → Prop} {U : State} {H H1 : Heap} (h : vx_Zq C n d A U H) (hq : ∀ a : Nat, a < H.size → ¬ A a → H1[a]? = H[a]?) : vx_Zq C n d A U H1 := ⟨va_Zq.kept h.1 hq, vx_L.kept h.2 hq⟩
theorem vx_Zq.narrow {C n d : String} {A B : Nat → Prop} {U : State} {H : Heap} (h : vx_Zq C n d A U H) (hAB : ∀ q, B q → A q) : vx_Zq C n d B U H := ⟨va_Zq.narrow h.1 hAB, vx_L.narrow h.2 hAB⟩
theorem vx_Zqof {args : Array Value} {s : State} {C n d : String} {A : Nat → Prop} (hl : (Cond.laysStatic C n d).before args s = true) (hini : (Cond.initialized C).before args s = true) (h : (Cond.isRef (.static C n d)).before args s = true) (hA : ∀ a : Nat, a < s.heap.size → ¬ A a) : vx_Zq C n d A s s.heap := by
  refine ⟨va_Zqof hl hini h hA, ?_⟩
  obtain ⟨c, k, i, f, a, cell, h1, h2, h3, h4, h5, h6, h7, h8, h9⟩ := Cond.laysStatic_spec hl
  exact ⟨c, k, i, f, a, cell, h1, h2, h3, h4, h5, h6, h7, h8, h9, hA a (Array.getElem?_eq_some_iff.mp h5).1⟩
theorem vx_isRef {C n d : String} {v : Value} {A : Nat → Prop} {s : State} {args : Array Value} (h : va_Z C n d v A s s.heap) (hv : v.isRef = true) : (Cond.isRef (.static C n d)).before args s = true := by
  obtain ⟨cf, kf, fi, f, a, cell, h1, h2, h3, h4, h5, h6, h7, -⟩ := h
  have he : (Term.static C n d).eval args s none [] s = some v := by
    simp [Term.eval, State.fieldNamed?, h1, h2, h4, h5, h6, h7]
  simp only [Cond.before, Cond.holds, Cond.value, he]
  cases v <;> simp_all [Value.isRef]
theorem vx_isRefq {C n d : String} {A : Nat → Prop} {s : State} {args : Array Value} (h : va_Zq C n d A s s.heap) : (Cond.isRef (.static C n d)).before args s = true := by
  rcases h with h | ⟨t, h⟩
  · exact vx_isRef h rfl
  · exact vx_isRef h rfl
/-- the same frame, seen from here: as if the method were called anew in this heap -/
theorem vx_rebase {T : State} (X : Stand p l e R s m args below meth c T locs cells slots) {R' : Room} (hf : R'.frames ≤ R.frames) (hl : R'.locals ≤ R.locals) (hc : cells + R'.cells ≤ R.cells) (hs : slots + R'.slots ≤ R.slots) :
    Stand p l e R' ((T.setVm s.vm).setFrames (.invoking m args :: below)) m args below meth c T [] 0 0 := by
  have htop : (T.setVm s.vm).topJava?.isSome := X.here.top
  have hF : ((T.setVm s.vm).setFrames (.invoking m args :: below)).frames = .invoking m args :: below := State.frames_setFrames _ (State.cur_lt_of_top htop)
  obtain ⟨g₀, hg0⟩ := Option.isSome_iff_exists.mp htop
  obtain ⟨r, hr⟩ := State.topJava?_eq_some.mp hg0
  have hl9 : e.platform.stackLimits (T.setVm s.vm).me = e.platform.stackLimits s.me := X.limits
  have hb9 : (T.setVm s.vm).me.stackBytes = s.me.stackBytes := X.bytes
  refine ⟨X.admits, X.cas, X.clock, hF, ?_, X.hears, X.method, X.code, X.here, X.tail, X.warmed, ?_, ?_, ?_⟩
  · have h := X.room
    have hU : ((T.setVm s.vm).setFrames (.invoking m args :: below)).localsInUse = s.localsInUse := by
      rw [State.localsInUse_invoking hF (meth := meth) (c := c) X.method X.code, State.localsInUse_invoking X.frames X.method X.code]
    simp only [State.hasRoom, Bool.and_eq_true, decide_eq_true_eq] at h ⊢
    obtain ⟨⟨⟨⟨h1, h2, h3, h4, h5, h6⟩, h7⟩, h8⟩, h9⟩ := h
    rw [X.frames, List.length_cons] at h2 h3
    have q1 := X.heapSize
    have q2 := X.used
    simp only [hF, hU, List.length_cons, State.stackLimits_setFrames, State.stackBytes_setFrames, hl9, hb9]
    refine ⟨⟨⟨⟨by omega, by omega, by omega, by omega, by omega, h6⟩, ?_⟩, ?_⟩, X.book⟩
    · show T.heap.size + R'.cells ≤ e.platform.maxCells
      omega
    · show T.slotsUsed + R'.slots ≤ e.platform.maxSlots
      omega
  · rw [State.stackLimits_setFrames]; rfl
  · rw [State.stackBytes_setFrames]; rfl
  · refine ⟨?_, Nat.le_refl _, Nat.le_refl _, ?_, ?_, fun a c9 h9 => ⟨c9, h9, rfl, rfl, fun _ _ => rfl⟩⟩
    · obtain ⟨t, ht, -⟩ := State.frames_cons hr
      show T.setVm s.vm = { ((T.setVm s.vm).setFrames (.invoking m args :: below)).setFrames (T.setVm s.vm).frames with heap := T.heap, slotsUsed := T.slotsUsed }
      rw [State.setFrames_setFrames, State.setFrames_self ht]
      rfl
    · show T.slotsUsed = T.slotsUsed + ((T.heap.toList.drop T.heap.size).map (·.slots.size)).sum
      rw [List.drop_eq_nil_of_le (Nat.le_of_eq Array.length_toList)]
      rfl
    · show ((T.heap.toList.drop T.heap.size).map (·.slots.size)).sum ≤ 0
      rw [List.drop_eq_nil_of_le (Nat.le_of_eq Array.length_toList)]
      exact Nat.le_refl _
/-- 'throw new E()': new; dup; invokespecial; athrow -/
theorem vx_throw0 {cc : ByteArray} {pc : Nat} (hexec : p.tables.exec = Jvm.exec) (hb : c.code = cc) (hl : l.stackTraces = false) {own cls : String} {names : List String} {ik ic mc ms : Nat} {A : Nat → Prop}
    (hown : s.vm.findClass own = some m.cls) (hcls : Bundle.fit cls = true) (hnames : ∀ n ∈ names, Bundle.fit n = true)
    (hk : (Cond.classLink own ik cls).before args s = true) (hini : (Cond.initialized cls).before args s = true) (hat : ∀ w ∈ vx_at0 own ic cls names, w.before args s = true)
    (hgood : ∀ w ∈ Cond.classLink own ik cls :: Cond.initialized cls :: vx_at0 own ic cls names, vx_ot w = true)
    (hU : vx_Zq Bundle.tN "UNASSIGNED_STACK" Bundle.steD A s s.heap) (hN : vx_Zq Bundle.tN "SUPPRESSED_SENTINEL" Bundle.listD A s s.heap) (hS : va_S A s.heap H locs) (hsize : ls.size = c.maxLocals)
    (d0 : decode cc pc = .ok (.new ik, 3)) (d3 : decode cc (pc + 3) = .ok (.dup, 1)) (d4 : decode cc (pc + 4) = .ok (.invokespecial ic, 3)) (d7 : decode cc (pc + 7) = .ok (.athrow, 1))
    (hout : ∀ x ∈ c.exceptionTable.toList, covers x (pc + 7) = false)
    (hRframes : names.length + 3 < R.frames) (hRlocals : (rest.map fun v => v.category).sum + (13 * (names.length + 1) + 42) ≤ R.locals) (hRcells : cells + 1 ≤ R.cells) (hRslots : slots + 6 ≤ R.slots) (hlocks : meth.locks = false)
    (hx : ∀ t : State, s.vm.Alike t.vm → H.size ≤ t.heap.size → (∀ q : Nat, q < H.size → t.heap[q]? = H[q]?) → XC cls s t)
    (hf : ∀ z ∈ locs, free z.base) (hc : cells + 1 ≤ mc) (hs : slots + 6 ≤ ms) :
    W p l e R s m args below meth c H locs cells slots (vx_MQ below Qc XC args s mc ms free) (F0 m pc ls rest) := by
  intro T hT X
  have htr : e.platform.stackTraces = false := (show e.platform.stackTraces = l.stackTraces by rw [X.admits.platform]).trans hl
  have Y := vx_rebase X (R' := { frames := R.frames, locals := R.locals, cells := 1, slots := 6 }) (Nat.le_refl _) (Nat.le_refl _) hRcells hRslots
  obtain ⟨s', hA⟩ : ∃ z, z = (T.setVm s.vm).setFrames (.invoking m args :: below) := ⟨_, rfl⟩
  rw [← hA] at Y
  have hvm : s'.vm = s.vm := by rw [hA]; rfl
  have hhp : s'.heap = H := by rw [hA]; exact hT
  have hW0 : s.WarmedH s'.vm := by rw [hvm]; exact State.WarmedH.refl s
  have hat' : ∀ w ∈ vx_at0 own ic cls names, w.before args s' = true := fun w hw => vx_ot_at hW0 hvm.symm (hgood w (List.mem_cons_of_mem _ (List.mem_cons_of_mem _ hw))) (hat w hw)
  have hk' : (Cond.classLink own ik cls).before args s' = true := vx_ot_at hW0 hvm.symm (hgood _ List.mem_cons_self) hk
  have hini' : (Cond.initialized cls).before args s' = true := vx_ot_at hW0 hvm.symm (hgood _ (List.mem_cons_of_mem _ List.mem_cons_self)) hini
  have hU' : vx_Zq Bundle.tN "UNASSIGNED_STACK" Bundle.steD A s' s'.heap := by rw [hhp]; exact vx_Zq.moved hW0.alike (hU.kept hS.2.1)
  have hN' : vx_Zq Bundle.tN "SUPPRESSED_SENTINEL" Bundle.listD A s' s'.heap := by rw [hhp]; exact vx_Zq.moved hW0.alike (hN.kept hS.2.1)
  have h : ∀ w ∈ Bundle.ownAtoms0 own ic cls names, w.before args s' = true := vx_own hat' (vx_isRefq hU'.1) (vx_isRefq hN'.1) hU'.2.word hN'.2.word
  have hown' : s'.vm.findClass own = some m.cls := by rw [hvm]; exact hown
  have hins : (Cond.instantiable cls 6).before args s' = true := h _ (by simp [Bundle.ownAtoms0])
  obtain ⟨vm₁, cX, kX, hfX, hkX, -, -, X₁, st1⟩ := Y.newCold hexec (own := own) (C := cls) (index := ik) (n := 6) hown' hk' hins hini'
    (g := F0 m pc ls rest) rfl (by rw [hb]; exact d0) (Nat.le_refl _) (Nat.le_refl _)
  generalize hT1 : (T.setVm vm₁).pushCell { cls := cX, slots := kX.instanceTypes.map defaultValue, vm := .none } = T1 at X₁ st1
  have hcat : (Value.ref T.heap.size).category = 1 := rfl
  have hcellA : T1.heap[T.heap.size]? = some (freshCell cX kX) := by rw [← hT1]; exact State.heap_pushCell_size _ _
  have d3' : decode c.code (pc + 3) = .ok (.dup, 1) := by rw [hb]; exact d3
  obtain ⟨U, hsteps, hrun, hend, hW, hsame, ce, hce, hO⟩ := X₁.ctorThrow0 hexec htr (own := own) (cls := cls) (names := names) (ic := ic) hown' hcls hnames h (fun x hx => nomatch hx) hfX hkX hcellA (by rw [hhp, hT]; exact Nat.le_refl _)
    (g := { method := m, pc := pc + 4, locals := ls, stack := .ref T.heap.size :: .ref T.heap.size :: rest, locked := none }) rfl hsize rfl rfl (rest := rest) rfl
    (by rw [hb]; exact d4) (by rw [hb]; exact d7) hout hRframes (by simp only [List.map_cons, List.sum_cons, hcat]; omega) hlocks
  obtain ⟨f1, f2⟩ := vx_frame hsame
  rw [hhp] at f1 f2
  have hWs : s.WarmedH U.vm := State.WarmedH.trans hW0 hW
  have hcl : s.vm.findClass cls = some ce.cls := by
    have h9 := hO.cls
    rw [hvm] at h9
    exact h9
  have hall : s.sameButNew ({ U with vm := s.vm } : State) locs mc ms := by
    subst hA
    obtain ⟨e1, e2⟩ := hsame
    rw [State.setFrames_setFrames] at e1
    have h2 : (T.setVm s.vm).sameButNew ({ U with vm := s.vm } : State) [] (0 + 1) (0 + 6) := ⟨e1, e2⟩
    have h3 := X.same.trans h2
    rw [List.append_nil] at h3
    exact h3.mono hc hs
  refine ⟨U, ?_, .threw T.heap.size, hrun, hend, Or.inr ⟨T.heap.size, rfl, cls, ce, locs, hx U hWs.alike f1 (fun q hq => f2 q hq (fun z hz => nomatch hz)), hce, hO.vm, hcl, hWs, hall, hf⟩⟩
  refine st1 _ ?_
  show Steps p.tables e below (T1.setTop { method := m, pc := pc + 3, locals := ls, stack := .ref T.heap.size :: rest, locked := none }) _
  jvm_step X₁.here [X₁.here.top, hexec, d3', Value.category]
  exact hsteps
/-- 'throw new E("text")': new; dup; ldc; invokespecial; athrow -/
theorem vx_throwS {cc : ByteArray} {pc : Nat} (hexec : p.tables.exec = Jvm.exec) (hb : c.code = cc) (hl : l.stackTraces = false) {own cls text : String} {names : List String} {ik is ic mc ms sa : Nat} {A : Nat → Prop}
    (hown : s.vm.findClass own = some m.cls) (hcls : Bundle.fit cls = true) (hnames : ∀ n ∈ names, Bundle.fit n = true)
    (hk : (Cond.classLink own ik cls).before args s = true) (hini : (Cond.initialized cls).before args s = true) (hstr : vk_R own is text sa s) (hat : ∀ w ∈ vx_atS own ic cls names, w.before args s = true)
    (hgood : ∀ w ∈ Cond.classLink own ik cls :: Cond.initialized cls :: vx_atS own ic cls names, vx_ot w = true)
    (hU : vx_Zq Bundle.tN "UNASSIGNED_STACK" Bundle.steD A s s.heap) (hN : vx_Zq Bundle.tN "SUPPRESSED_SENTINEL" Bundle.listD A s s.heap) (hS : va_S A s.heap H locs) (hsize : ls.size = c.maxLocals)
    (d0 : decode cc pc = .ok (.new ik, 3)) (d3 : decode cc (pc + 3) = .ok (.dup, 1)) (d4 : decode cc (pc + 4) = .ok (.ldc is, 2)) (d6 : decode cc (pc + 6) = .ok (.invokespecial ic, 3)) (d9 : decode cc (pc + 9) = .ok (.athrow, 1))
    (hout : ∀ x ∈ c.exceptionTable.toList, covers x (pc + 9) = false)
    (hRframes : names.length + 3 < R.frames) (hRlocals : (rest.map fun v => v.category).sum + (13 * (names.length + 1) + 43) ≤ R.locals) (hRcells : cells + 1 ≤ R.cells) (hRslots : slots + 6 ≤ R.slots) (hlocks : meth.locks = false)
    (hx : ∀ t : State, s.vm.Alike t.vm → H.size ≤ t.heap.size → (∀ q : Nat, q < H.size → t.heap[q]? = H[q]?) → XC cls s t)
    (hf : ∀ z ∈ locs, free z.base) (hc : cells + 1 ≤ mc) (hs : slots + 6 ≤ ms) :
    W p l e R s m args below meth c H locs cells slots (vx_MQ below Qc XC args s mc ms free) (F0 m pc ls rest) := by
  intro T hT X
  have htr : e.platform.stackTraces = false := (show e.platform.stackTraces = l.stackTraces by rw [X.admits.platform]).trans hl
  have Y := vx_rebase X (R' := { frames := R.frames, locals := R.locals, cells := 1, slots := 6 }) (Nat.le_refl _) (Nat.le_refl _) hRcells hRslots
  obtain ⟨s', hA⟩ : ∃ z, z = (T.setVm s.vm).setFrames (.invoking m args :: below) := ⟨_, rfl⟩
  rw [← hA] at Y
  have hvm : s'.vm = s.vm := by rw [hA]; rfl
  have hhp : s'.heap = H := by rw [hA]; exact hT
  have hW0 : s.WarmedH s'.vm := by rw [hvm]; exact State.WarmedH.refl s
  have hat' : ∀ w ∈ vx_atS own ic cls names, w.before args s' = true := fun w hw => vx_ot_at hW0 hvm.symm (hgood w (List.mem_cons_of_mem _ (List.mem_cons_of_mem _ hw))) (hat w hw)
  have hk' : (Cond.classLink own ik cls).before args s' = true := vx_ot_at hW0 hvm.symm (hgood _ List.mem_cons_self) hk
  have hini' : (Cond.initialized cls).before args s' = true := vx_ot_at hW0 hvm.symm (hgood _ (List.mem_cons_of_mem _ List.mem_cons_self)) hini
  have hU' : vx_Zq Bundle.tN "UNASSIGNED_STACK" Bundle.steD A s' s'.heap := by rw [hhp]; exact vx_Zq.moved hW0.alike (hU.kept hS.2.1)
  have hN' : vx_Zq Bundle.tN "SUPPRESSED_SENTINEL" Bundle.listD A s' s'.heap := by rw [hhp]; exact vx_Zq.moved hW0.alike (hN.kept hS.2.1)
  have h : ∀ w ∈ Bundle.ownAtoms own ic cls names, w.before args s' = true := vx_own hat' (vx_isRefq hU'.1) (vx_isRefq hN'.1) hU'.2.word hN'.2.word
  have hown' : s'.vm.findClass own = some m.cls := by rw [hvm]; exact hown
  have hins : (Cond.instantiable cls 6).before args s' = true := h _ (by simp [Bundle.ownAtoms])
  obtain ⟨vm₁, cX, kX, hfX, hkX, -, -, X₁, st1⟩ := Y.newCold hexec (own := own) (C := cls) (index := ik) (n := 6) hown' hk' hins hini'
    (g := F0 m pc ls rest) rfl (by rw [hb]; exact d0) (Nat.le_refl _) (Nat.le_refl _)
  generalize hT1 : (T.setVm vm₁).pushCell { cls := cX, slots := kX.instanceTypes.map defaultValue, vm := .none } = T1 at X₁ st1
  have hcat : (Value.ref T.heap.size).category = 1 := rfl
  have hcellA : T1.heap[T.heap.size]? = some (freshCell cX kX) := by rw [← hT1]; exact State.heap_pushCell_size _ _
  have d3' : decode c.code (pc + 3) = .ok (.dup, 1) := by rw [hb]; exact d3
  have d4' : decode c.code (pc + 4) = .ok (.ldc is, 2) := by rw [hb]; exact d4
  have hstr' : vk_R own is text sa s' := vk_R.warm hW0 hstr
  obtain ⟨U, hsteps, hrun, hend, hW, hsame, ce, hce, hO⟩ := X₁.ctorThrowS hexec htr (own := own) (cls := cls) (names := names) (ic := ic) hown' hcls hnames h (fun x hx => nomatch hx) hfX hkX hcellA (by rw [hhp, hT]; exact Nat.le_refl _) (msg := .ref sa) rfl
    (g := { method := m, pc := pc + 6, locals := ls, stack := .ref sa :: .ref T.heap.size :: .ref T.heap.size :: rest, locked := none }) rfl hsize rfl rfl (rest := rest) rfl
    (by rw [hb]; exact d6) (by rw [hb]; exact d9) hout hRframes (by simp only [List.map_cons, List.sum_cons, hcat]; omega) hlocks
  obtain ⟨f1, f2⟩ := vx_frame hsame
  rw [hhp] at f1 f2
  have hWs : s.WarmedH U.vm := State.WarmedH.trans hW0 hW
  have hcl : s.vm.findClass cls = some ce.cls := by
    have h9 := hO.cls
    rw [hvm] at h9
    exact h9
  have hall : s.sameButNew ({ U with vm := s.vm } : State) locs mc ms := by
    subst hA
    obtain ⟨e1, e2⟩ := hsame
    rw [State.setFrames_setFrames] at e1
    have h2 : (T.setVm s.vm).sameButNew ({ U with vm := s.vm } : State) [] (0 + 1) (0 + 6) := ⟨e1, e2⟩
    have h3 := X.same.trans h2
    rw [List.append_nil] at h3
    exact h3.mono hc hs
  refine ⟨U, ?_, .threw T.heap.size, hrun, hend, Or.inr ⟨T.heap.size, rfl, cls, ce, locs, hx U hWs.alike f1 (fun q hq => f2 q hq (fun z hz => nomatch hz)), hce, hO.vm, hcl, hWs, hall, hf⟩⟩
  refine st1 _ ?_
  show Steps p.tables e below (T1.setTop { method := m, pc := pc + 3, locals := ls, stack := .ref T.heap.size :: rest, locked := none }) _
  jvm_step X₁.here [X₁.here.top, hexec, d3', Value.category]
  exact X₁.ldcString hexec (own := own) (text := text) (index := is) (a := sa) hown' hstr'.1 hstr'.2
    (g := { method := m, pc := pc + 4, locals := ls, stack := .ref T.heap.size :: .ref T.heap.size :: rest, locked := none }) rfl d4' _ hsteps
/-- 'throw new E("text")', the text by a wide index -/
theorem vx_throwSW {cc : ByteArray} {pc : Nat} (hexec : p.tables.exec = Jvm.exec) (hb : c.code = cc) (hl : l.stackTraces = false) {own cls text : String} {names : List String} {ik is ic mc ms sa : Nat} {A : Nat → Prop}
    (hown : s.vm.findClass own = some m.cls) (hcls : Bundle.fit cls = true) (hnames : ∀ n ∈ names, Bundle.fit n = true)
    (hk : (Cond.classLink own ik cls).before args s = true) (hini : (Cond.initialized cls).before args s = true) (hstr : vk_R own is text sa s) (hat : ∀ w ∈ vx_atS own ic cls names, w.before args s = true)
    (hgood : ∀ w ∈ Cond.classLink own ik cls :: Cond.initialized cls :: vx_atS own ic cls names, vx_ot w = true)
    (hU : vx_Zq Bundle.tN "UNASSIGNED_STACK" Bundle.steD A s s.heap) (hN : vx_Zq Bundle.tN "SUPPRESSED_SENTINEL" Bundle.listD A s s.heap) (hS : va_S A s.heap H locs) (hsize : ls.size = c.maxLocals)
    (d0 : decode cc pc = .ok (.new ik, 3)) (d3 : decode cc (pc + 3) = .ok (.dup, 1)) (d4 : decode cc (pc + 4) = .ok (.ldc_w is, 3)) (d7 : decode cc (pc + 7) = .ok (.invokespecial ic, 3)) (d10 : decode cc (pc + 10) = .ok (.athrow, 1))
    (hout : ∀ x ∈ c.exceptionTable.toList, covers x (pc + 10) = false)
    (hRframes : names.length + 3 < R.frames) (hRlocals : (rest.map fun v => v.category).sum + (13 * (names.length + 1) + 43) ≤ R.locals) (hRcells : cells + 1 ≤ R.cells) (hRslots : slots + 6 ≤ R.slots) (hlocks : meth.locks = false)
    (hx : ∀ t : State, s.vm.Alike t.vm → H.size ≤ t.heap.size → (∀ q : Nat, q < H.size → t.heap[q]? = H[q]?) → XC cls s t)
    (hf : ∀ z ∈ locs, free z.base) (hc : cells + 1 ≤ mc) (hs : slots + 6 ≤ ms) :
    W p l e R s m args below meth c H locs cells slots (vx_MQ below Qc XC args s mc ms free) (F0 m pc ls rest) := by
  intro T hT X
  have htr : e.platform.stackTraces = false := (show e.platform.stackTraces = l.stackTraces by rw [X.admits.platform]).trans hl
  have Y := vx_rebase X (R' := { frames := R.frames, locals := R.locals, cells := 1, slots := 6 }) (Nat.le_refl _) (Nat.le_refl _) hRcells hRslots
  obtain ⟨s', hA⟩ : ∃ z, z = (T.setVm s.vm).setFrames (.invoking m args :: below) := ⟨_, rfl⟩
  rw [← hA] at Y
  have hvm : s'.vm = s.vm := by rw [hA]; rfl
  have hhp : s'.heap = H := by rw [hA]; exact hT
  have hW0 : s.WarmedH s'.vm := by rw [hvm]; exact State.WarmedH.refl s
  have hat' : ∀ w ∈ vx_atS own ic cls names, w.before args s' = true := fun w hw => vx_ot_at hW0 hvm.symm (hgood w (List.mem_cons_of_mem _ (List.mem_cons_of_mem _ hw))) (hat w hw)
  have hk' : (Cond.classLink own ik cls).before args s' = true := vx_ot_at hW0 hvm.symm (hgood _ List.mem_cons_self) hk
  have hini' : (Cond.initialized cls).before args s' = true := vx_ot_at hW0 hvm.symm (hgood _ (List.mem_cons_of_mem _ List.mem_cons_self)) hini
  have hU' : vx_Zq Bundle.tN "UNASSIGNED_STACK" Bundle.steD A s' s'.heap := by rw [hhp]; exact vx_Zq.moved hW0.alike (hU.kept hS.2.1)
  have hN' : vx_Zq Bundle.tN "SUPPRESSED_SENTINEL" Bundle.listD A s' s'.heap := by rw [hhp]; exact vx_Zq.moved hW0.alike (hN.kept hS.2.1)
  have h : ∀ w ∈ Bundle.ownAtoms own ic cls names, w.before args s' = true := vx_own hat' (vx_isRefq hU'.1) (vx_isRefq hN'.1) hU'.2.word hN'.2.word
  have hown' : s'.vm.findClass own = some m.cls := by rw [hvm]; exact hown
  have hins : (Cond.instantiable cls 6).before args s' = true := h _ (by simp [Bundle.ownAtoms])
  obtain ⟨vm₁, cX, kX, hfX, hkX, -, -, X₁, st1⟩ := Y.newCold hexec (own := own) (C := cls) (index := ik) (n := 6) hown' hk' hins hini'
    (g := F0 m pc ls rest) rfl (by rw [hb]; exact d0) (Nat.le_refl _) (Nat.le_refl _)
  generalize hT1 : (T.setVm vm₁).pushCell { cls := cX, slots := kX.instanceTypes.map defaultValue, vm := .none } = T1 at X₁ st1
  have hcat : (Value.ref T.heap.size).category = 1 := rfl
  have hcellA : T1.heap[T.heap.size]? = some (freshCell cX kX) := by rw [← hT1]; exact State.heap_pushCell_size _ _
  have d3' : decode c.code (pc + 3) = .ok (.dup, 1) := by rw [hb]; exact d3
  have d4' : decode c.code (pc + 4) = .ok (.ldc_w is, 3) := by rw [hb]; exact d4
  have hstr' : vk_R own is text sa s' := vk_R.warm hW0 hstr
  obtain ⟨U, hsteps, hrun, hend, hW, hsame, ce, hce, hO⟩ := X₁.ctorThrowS hexec htr (own := own) (cls := cls) (names := names) (ic := ic) hown' hcls hnames h (fun x hx => nomatch hx) hfX hkX hcellA (by rw [hhp, hT]; exact Nat.le_refl _) (msg := .ref sa) rfl
    (g := { method := m, pc := pc + 7, locals := ls, stack := .ref sa :: .ref T.heap.size :: .ref T.heap.size :: rest, locked := none }) rfl hsize rfl rfl (rest := rest) rfl
    (by rw [hb]; exact d7) (by rw [hb]; exact d10) hout hRframes (by simp only [List.map_cons, List.sum_cons, hcat]; omega) hlocks
  obtain ⟨f1, f2⟩ := vx_frame hsame
  rw [hhp] at f1 f2
  have hWs : s.WarmedH U.vm := State.WarmedH.trans hW0 hW
  have hcl : s.vm.findClass cls = some ce.cls := by
    have h9 := hO.cls
    rw [hvm] at h9
    exact h9
  have hall : s.sameButNew ({ U with vm := s.vm } : State) locs mc ms := by
    subst hA
    obtain ⟨e1, e2⟩ := hsame
    rw [State.setFrames_setFrames] at e1
    have h2 : (T.setVm s.vm).sameButNew ({ U with vm := s.vm } : State) [] (0 + 1) (0 + 6) := ⟨e1, e2⟩
    have h3 := X.same.trans h2
    rw [List.append_nil] at h3
    exact h3.mono hc hs
  refine ⟨U, ?_, .threw T.heap.size, hrun, hend, Or.inr ⟨T.heap.size, rfl, cls, ce, locs, hx U hWs.alike f1 (fun q hq => f2 q hq (fun z hz => nomatch hz)), hce, hO.vm, hcl, hWs, hall, hf⟩⟩
  refine st1 _ ?_
  show Steps p.tables e below (T1.setTop { method := m, pc := pc + 3, locals := ls, stack := .ref T.heap.size :: rest, locked := none }) _
  jvm_step X₁.here [X₁.here.top, hexec, d3', Value.category]
  exact X₁.ldcStringW hexec (own := own) (text := text) (index := is) (a := sa) hown' hstr'.1 hstr'.2
    (g := { method := m, pc := pc + 4, locals := ls, stack := .ref T.heap.size :: .ref T.heap.size :: rest, locked := none }) rfl d4' _ hsteps
end Ends
section Bodies
variable {l : Launch}
theorem vx_ofW {y : MethodName} {ws ws' : List Cond} {rm : Room} {Pc : Array Value → State → Prop} {Qc : Array Value → State → Outcome → State → Prop} {XC : String → State → State → Prop} {mc ms : Nat} {free : Addr → Prop} {cc : ByteArray} {maxL : Nat} {ret : Option FieldType}
    (hy : plainName y.cls = true) (hw : ws = Cond.code y cc maxL ret :: ws')
    (body : ∀ p e s m args below meth c s₁, BodyLoose p l y (headSpec ws rm) cc maxL ret e s m args below meth c s₁ → c.maxLocals = maxL → (∀ x ∈ c.exceptionTable.toList, False) → Pc args s →
      W p l e (headSpec ws rm).room s m args below meth c s.heap [] 0 0 (vx_MQ below Qc XC args s mc ms free) (entryFrame m args maxL)) : vx_Met l y ws rm Pc Qc XC mc ms free := by
  refine MetFree.of_bodyS (code := cc) (maxLocals := maxL) (ret := ret) hy ?_ ?_
  · intro args s m h hn
    obtain ⟨meth, c, h1, h2, h3, h4, h5, h6, -, -⟩ := Cond.code_spec hn (atoms_spec (ws := ws) h _ (by rw [hw]; exact List.mem_cons_self))
    exact ⟨meth, c, h1, h2, h3, h4, h5, h6⟩
  · intro p e s m args below meth c s₁ B hml hP _
    have hh0 : s₁.heap = s.heap := by rw [B.state]; rfl
    have ht : ∀ x ∈ c.exceptionTable.toList, False := by
      obtain ⟨meth9, c9, h1, h2, -, -, -, -, h7, -⟩ := Cond.code_spec B.named (atoms_spec (ws := ws) B.pre _ (by rw [hw]; exact List.mem_cons_self))
      cases Option.some.inj (h1.symm.trans B.method)
      cases Option.some.inj (h2.symm.trans (Stand.of_body B).code)
      intro x hx
      rw [Array.isEmpty_iff.mp h7] at hx
      cases hx
    obtain ⟨t, a1, o, b1, b2, b3⟩ := body p e s m args below meth c s₁ B hml ht hP s₁ hh0 (Stand.of_body B)
    exact ⟨t, o, a1, b1, b2, b3⟩
/-- the table of a body with handlers -/
theorem vx_table {p : Program} {x y : MethodName} {S : Spec} {cc bytes : ByteArray} {maxL maxL' : Nat} {ret ret' : Option FieldType} {e : Env} {s s₁ : State} {m : MethodId} {args : Array Value} {below : List Frame} {meth : Method} {c : Code} {hh : List (Nat × Nat × Nat × Nat)}
    (B : BodyLoose p l y S cc maxL ret e s m args below meth c s₁) (h : (Cond.codeWith y bytes maxL' ret' hh).before args s = true) : c.exceptionTable.toList = tableOf hh := by
  obtain ⟨m9, meth9, c9, hn9, h1, h2, -, -, h6, -⟩ := Cond.codeWith_spec h
  cases Option.some.inj (hn9.symm.trans B.named)
  cases Option.some.inj (h1.symm.trans B.method)
  cases Option.some.inj (h2.symm.trans (Stand.of_body B).code)
  rw [← h6, table_eq]
end Bodies
end VXA
/-! ===== END ===== -/
/-! ===== BEGIN a static call of a method with an exception table ===== -/
section VXS
variable {p : Program} {l : Launch} {e : Env} {R : Room} {s : State} {m : MethodId} {args : Array Value} {below : List Frame} {meth : Method} {c : Code} {T : State} {H : Heap} {locs : List Loc} {cells slots : Nat}
abbrev vx_CSW (R : Room) (s : State) (args : Array Value) (own : String) (index : Nat) (y : MethodName) (bytes : ByteArray) (maxL : Nat) (ret : Option FieldType) (hh : List (Nat × Nat × Nat × Nat)) (ws : List Cond) (rm : Room) (mc ms n : Nat) : Prop :=
  (rm.cells = mc ∧ rm.slots = ms ∧ rm.frames + 1 ≤ R.frames ∧ 8 + (maxL + 11) + rm.locals ≤ R.locals ∧ (∀ w ∈ ws, ∀ (a' : Array Value) (U : State), s.WarmedH U.vm → w.before a' U = true) ∧ Cond.codeWith y bytes maxL ret hh ∈ ws) ∧
  (Cond.codeWith y bytes maxL ret hh).before args s = true ∧ (Cond.initialized y.cls).before args s = true ∧ (y.cls ≠ "java/lang/invoke/MethodHandle" ∧ y.cls ≠ "java/lang/invoke/VarHandle") ∧
  (∀ sig, parseMethodDescriptor y.desc = some sig → n = sig.parameters.length) ∧ (Cond.methodLink own index y).before args s = true ∧ (Cond.static y).before args s = true
theorem vx_cwSW {own : String} {index maxL mc ms : Nat} {y : MethodName} {bytes : ByteArray} {ret : Option FieldType} {hh : List (Nat × Nat × Nat × Nat)} {Ts ws ws' : List Cond} {rm : Room} (n : Nat) (ht : ∀ w ∈ Ts, w.before args s = true) (hT : GoodIn Ts (va_wsS own index y ws)) (hw : ws = Cond.codeWith y bytes maxL ret hh :: ws') (hrc : rm.cells = mc) (hrs : rm.slots = ms)
    (hd : y.cls ≠ "java/lang/invoke/MethodHandle" ∧ y.cls ≠ "java/lang/invoke/VarHandle" ∧ (parseMethodDescriptor y.desc).map (fun d => d.parameters.length) = some n) (hR : rm.frames + 1 ≤ R.frames ∧ 8 + (maxL + 11) + rm.locals ≤ R.locals) :
    vx_CSW R s args own index y bytes maxL ret hh ws rm mc ms n := by
  have ok : ∀ w ∈ va_wsS own index y ws, w.before args s = true := fun w h => ht w (hT w h).1
  have hG : GoodIn Ts ws := fun w h => hT w (by unfold va_wsS; exact List.mem_append_right _ h)
  have hc : Cond.codeWith y bytes maxL ret hh ∈ ws := by rw [hw]; exact List.mem_cons_self
  refine ⟨⟨hrc, hrs, hR.1, hR.2, pay_in ht hG, hc⟩, ht _ (hG _ hc).1, ok _ (by simp [va_wsS]), ⟨hd.1, hd.2.1⟩, fun sig h => ?_, ok _ (by simp [va_wsS]), ok _ (by simp [va_wsS])⟩
  have h2 := hd.2.2
  rw [h] at h2
  exact (Option.some.inj h2).symm
theorem vx_callSW (X : Stand p l e R s m args below meth c T locs cells slots) (hexec : p.tables.exec = Jvm.exec) {own : String} {index : Nat} {y : MethodName} {bytes : ByteArray} {maxL : Nat} {ret : Option FieldType} {hh : List (Nat × Nat × Nat × Nat)}
    (hown : s.vm.findClass own = some m.cls) (hlink : (Cond.methodLink own index y).before args s = true) (hstat : (Cond.static y).before args s = true) (hinit : (Cond.initialized y.cls).before args s = true)
    (hcode : (Cond.codeWith y bytes maxL ret hh).before args s = true) (hy : y.cls ≠ "java/lang/invoke/MethodHandle" ∧ y.cls ≠ "java/lang/invoke/VarHandle")
    {W9 : Nat} {Pre : Pt → Array Value → Prop} {Post : Pt → Array Value → Option Value → Pt → Prop} (hK : Back l R p e below s args y 3 W9 Pre Post)
    {g : JFrame} (hg : g.method = m) (hsize : g.locals.size = c.maxLocals) {argsL rest : List Value} (hlen : ∀ sig, parseMethodDescriptor y.desc = some sig → argsL.length = sig.parameters.length)
    (hstack : g.stack = argsL.reverse ++ rest) (hW : 2 * g.monitorRoom + (rest.map fun v => v.category).sum ≤ W9) (hdg : decode c.code g.pc = .ok (.invokestatic index, 3))
    (hpre : ∀ vm₁, s.WarmedH vm₁ → Pre ⟨T.setVm vm₁, locs, cells, slots⟩ argsL.toArray) :
    ∃ (v : Option Value) (vm₁ : Vm) (B : Pt), s.WarmedH vm₁ ∧ Stand p l e R s m args below meth c B.U B.locs B.cells B.slots ∧ Post ⟨T.setVm vm₁, locs, cells, slots⟩ argsL.toArray v B ∧
      ∀ target, Steps p.tables e below (B.U.setTop { g with pc := g.pc + 3, stack := v.toList ++ rest }) target → Steps p.tables e below (T.setTop g) target := by
  obtain ⟨mk, methM, cM, hnamed, hmethM, -, -, -, -, -, -, hsigM⟩ := Cond.codeWith_spec hcode
  have hstatic : methM.isStatic = true := Cond.static_spec hnamed hmethM hstat
  obtain ⟨kP, hkP, -⟩ := className_of_methodNamed hnamed
  have hinitP : kP.init = .initialized := Cond.initialized_spec (findClass_of_methodNamed hnamed) hkP hinit
  obtain ⟨vm₁, X₁, hstep₁⟩ := X.invokestatic hexec hown hlink hnamed hmethM hstatic hkP hinitP hy (g := g) hg (argsL := argsL) (rest := rest) (hlen _ hsigM) hstack hdg
  obtain ⟨v, B, X', hpost, hsteps⟩ := hK m meth c ⟨T.setVm vm₁, locs, cells, slots⟩ { g with stack := rest } (.invokestatic index) mk argsL.toArray X₁ hg hsize hdg hW (X₁.named hnamed) (hpre vm₁ X₁.warmed)
  exact ⟨v, vm₁, B, X₁.warmed, X', hpost, fun target h => hstep₁ _ fun acts => by rw [doInvoke_state]; exact hsteps.trans h⟩
theorem vx_runSW {y : MethodName} {bytes cc : ByteArray} {maxL nL mc ms n index : Nat} {ret : Option FieldType} {hh : List (Nat × Nat × Nat × Nat)} {ws : List Cond} {rm : Room} {Pc : Array Value → State → Prop} {Qc : Array Value → State → Outcome → State → Prop} {free : Addr → Prop} {Ts : List Cond} {own : String} {As rest : List Value} {g : JFrame}
    (S : CallFix p m c cc nL s args Ts own) (hM : Met l y ws rm Pc Qc mc ms free) (cw : vx_CSW R s args own index y bytes maxL ret hh ws rm mc ms n) (hp : PreS s H Pc As)
    (hg : g.method = m) (hn : As.length = n) (hsize : g.locals.size = nL) (hstack : g.stack = As.reverse ++ rest) (hW : 2 * g.monitorRoom + (rest.map fun v => v.category).sum ≤ 8) (hdg : decode cc g.pc = .ok (.invokestatic index, 3)) (hf : cells + mc ≤ R.cells ∧ slots + ms ≤ R.slots) :
    va_Run p l e R s m args below meth c H locs cells slots mc ms g rest (Qc As.toArray) (free) := by
  obtain ⟨⟨hrc, hrs, hfr, hlo, hws, hcw⟩, hcode, hini, hy, hlen, hl, hstt⟩ := cw
  have hK : Back l R p e below s args y 3 8 (PreOf R mc ms Pc) (PostOf Qc mc ms free) := va_backW (hh := hh) (bytes := bytes) (maxL := maxL) (ret := ret) hM hp.1 hrc hrs hfr hlo hws hcw (fun a' U hW => word_at hW (Or.inl (by first | rfl | simp [Cond.onTables, Cond.keeps, Cond.steady])) hini)
  obtain ⟨hx, hb, hml, ho, -⟩ := S
  intro T hT X
  obtain ⟨v, vm₁, ⟨U', l2, c2, s2⟩, hW₁, X', ⟨g', mk, t, L, e1, e2, hq, h1, hL, h2, h3⟩, st⟩ := vx_callSW X hx (hh := hh) (bytes := bytes) (maxL := maxL) (ret := ret) ho hl hstt hini hcode hy hK hg (hsize.trans hml.symm) (argsL := As) (rest := rest) (fun sig h => hn.trans (hlen sig h)) hstack hW (by rw [hb]; exact hdg)
    (fun vm₁ hW₁ => ⟨hf.1, hf.2, hp.2 (T.setVm vm₁) hT hW₁⟩)
  dsimp only [Pt.U, Pt.locs, Pt.cells, Pt.slots] at X' e1 e2 h1 h2 h3 st
  subst h1; subst h2; subst h3
  exact ⟨v, (T.setVm vm₁).calling g' mk As.toArray, t, U', L, hT, X', hL, e1, e2, hq, st⟩
/-- not caught here, past rows that name other classes: it goes on to the caller -/
theorem vx_outP {p : Program} {l : Launch} {e : Env} {R : Room} {s : State} {m : MethodId} {args : Array Value} {below : List Frame} {meth : Method} {c : Code} {H : Heap} {locs : List Loc} {cells slots : Nat} {free : Addr → Prop} {ls : Array Slot} {rest : List Value} {Qc : Array Value → State → Outcome → State → Prop} {XC : String → State → State → Prop}
    {pc : Nat} {own E : String} {ce : Cell} {q : Addr} {mc ms : Nat} (hown : s.vm.findClass own = some m.cls) (hlocks : meth.locks = false)
    (hpass : ∀ z ∈ c.exceptionTable.toList, covers z pc = false ∨ (z.catchType ≠ 0 ∧ ∃ nm : String, (Cond.classLink own z.catchType nm).before args s = true ∧ va_Nc E nm s)) (hcell : H[q]? = some ce) (hv : ce.vm = .none) (hcl : s.vm.findClass E = some ce.cls)
    (hx : ∀ t : State, t.heap = H → s.vm.Alike t.vm → XC E s t) (hf : ∀ z ∈ locs, free z.base) (hc : cells ≤ mc) (hs : slots ≤ ms) :
    vx_W p l e R s m args below meth c H locs cells slots (vx_MQ below Qc XC args s mc ms free) (F0 m pc ls rest) q := by
  intro T hT X
  have hpl : e.platform.magicAccessors = ({} : Platform).magicAccessors := by rw [X.admits.platform]
  obtain ⟨vm', hW', X', st⟩ := X.outThrough hlocks q (g := F0 m pc ls rest) rfl rfl rfl (cell := ce) (by rw [hT]; exact hcell) (by rw [hv]; rfl)
    (by obtain ⟨k9, h9, -⟩ := Vm.findClass_spec hcl; exact ⟨k9, h9⟩) (fun z hz => by
      rcases hpass z hz with h | ⟨hz0, nm, hl1, hn1⟩
      · exact Or.inl h
      · obtain ⟨c6, hc6, hcl6⟩ := Cond.classLink_spec hown hl1 e.platform hpl
        obtain ⟨a8, b8, h1, h2, h3⟩ := hn1
        cases Option.some.inj (h1.symm.trans hcl)
        cases Option.some.inj (h2.symm.trans hc6)
        exact Or.inr ⟨hz0, _, hcl6, h3⟩)
  obtain ⟨g₀, hfr⟩ := X'.frames_eq
  have hcell9 : ((T.setVm vm').setFrames (.throwing q :: below)).heap[q]? = some ce := by
    show T.heap[q]? = some ce
    rw [hT]; exact hcell
  have hend : Ended ((T.setVm vm').setFrames (.throwing q :: below)) below (.threw q) := State.frames_setFrames _ (State.cur_lt_of_frames hfr)
  refine ⟨(T.setVm vm').setFrames (.throwing q :: below), ?_, .threw q, X'.here.running, hend, Or.inr ⟨q, rfl, E, ce, locs, hx _ hT (X'.ends _).1.alike, hcell9, hv, hcl, (X'.ends _).1, (X'.ends _).2.mono hc hs, hf⟩⟩
  rw [X.pushThrowing_eq]
  exact st
/-- a thing of a world lies in the heap -/
theorem vx_lt {D : va_G} {cl : List vw_C} {ws : va_W} {H1 : Heap} (h : va_P D cl ws H1) {k : Nat} {q : Nat × va_E} (hk : ws[k]? = some q) : q.1 < H1.size := (h k q hk).lt
end VXS
/-! ===== END ===== -/
/-! ===== BEGIN methods with a table of their own: called by a name, returning or throwing ===== -/
section VXH
/-! vx_backW, vx_callVX, vx_callSX, vx_callVW, vx_runVW, vx_runVX, vx_runSX, vx_ofWH follow the same proofs as their sisters above (Free/Laws.lean, Shelf42/LK1.lean); vx_outP calls Shelf42/NT130.lean (outThrough). -/
section
variable {l : Launch} {R : Room} {p : Program} {e : Env} {below : List Frame} {s : State} {sargs : Array Value} {y : MethodName} {len W9 : Nat}
theorem vx_backW {ws : List Cond} {rm : Room} {Pc : Array Value → State → Prop} {Qc : Array Value → State → Outcome → State → Prop} {XC : String → State → State → Prop} {mc ms : Nat} {free : Addr → Prop} {bytes : ByteArray} {maxL : Nat} {ret : Option FieldType} {hh : List (Nat × Nat × Nat × Nat)}
    (hM : vx_Met l y ws rm Pc Qc XC mc ms free) (hblind : FrameBlind Pc) (hrc : rm.cells = mc) (hrs : rm.slots = ms)
    (hframes : rm.frames + 1 ≤ R.frames) (hlocals : W9 + (maxL + 11) + rm.locals ≤ R.locals)
    (hws : ∀ w ∈ ws, ∀ a' U, s.WarmedH U.vm → w.before a' U = true) (hcode : Cond.codeWith y bytes maxL ret hh ∈ ws) (hinit : ∀ a' U, s.WarmedH U.vm → (Cond.initialized y.cls).before a' U = true) :
    vx_Back l R p e below s sargs y len W9 (PreOf R mc ms Pc) (PostOf Qc mc ms free) (vx_Post XC mc ms free) := by
  intro m meth c A g ig mk a X hg hsize hdg hW hn hp
  have h1 : (headSpec ws rm).pre.before a A.U = true := atoms_intro fun w hw => hws w hw _ _ X.warmed
  have h2 : (Cond.codeWith y bytes maxL ret hh).before a A.U = true := hws _ hcode _ _ X.warmed
  have h3 : (Cond.initialized y.cls).before a A.U = true := hinit _ _ X.warmed
  have h4 : A.cells + (headSpec ws rm).room.cells ≤ R.cells := by rw [show (headSpec ws rm).room.cells = mc from hrc]; exact hp.1
  have h5 : A.slots + (headSpec ws rm).room.slots ≤ R.slots := by rw [show (headSpec ws rm).room.slots = ms from hrs]; exact hp.2.1
  have hPc : Pc a (A.U.calling g mk a) := hblind _ _ _ _ hp.2.2
  obtain ⟨U, Ls, c0, s0⟩ := A
  dsimp only [Pt.U, Pt.locs, Pt.cells, Pt.slots] at h1 h2 h3 h4 h5 X hn hPc ⊢
  obtain ⟨m9, methY, cY, hn9, hmY, hcY, -, hlY, -⟩ := Cond.codeWith_spec h2
  cases Option.some.inj (hn9.symm.trans hn)
  obtain ⟨kY, hkY, -⟩ := className_of_methodNamed hn
  have hinitY : kY.init = .initialized := Cond.initialized_spec (findClass_of_methodNamed hn) hkY h3
  have h : At U g.method c below := by rw [hg]; exact X.here
  have hlocals9 : W9 + (maxL + 11) + (headSpec ws rm).room.locals ≤ R.locals := hlocals
  have happ : (headSpec ws rm).appliesLoose y e.platform (U.calling g mk a) = true :=
    Spec.appliesLoose_calling (g := g) h hdg hn hkY hinitY
      (X.room_calling (g := g) (R' := (headSpec ws rm).room) hsize hmY hcY hframes (by rw [hlY]; omega) h4 h5) h1
  obtain ⟨mid, hmid⟩ := h.above
  have hfr : (U.setTop g).frames = (.java g :: mid) ++ below := by rw [State.frames_setTop' g h.top, hmid]; rfl
  obtain ⟨o, s₂, hsteps, -, hend, hq⟩ := Steps.callFree hM p X.admits X.cas X.clock (acts := []) hfr happ hPc trivial
  have hq' : vx_Q Qc XC mc ms free a (U.calling g mk a) o s₂ := hq
  rw [State.frames_setTop' g h.top] at hend
  obtain ⟨g₀, hg0⟩ := Option.isSome_iff_exists.mp h.top
  obtain ⟨r, hr⟩ := State.topJava?_eq_some.mp hg0
  have hr' : (({ U with heap := s₂.heap, slotsUsed := s₂.slotsUsed } : State).setVm s₂.vm).frames = .java g₀ :: r := hr
  rcases hq' with ⟨hqc, L, hfe, hL⟩ | ⟨q, rfl, E, ce, L, hx, hce, hcv, hcl, hW₂, hsm, hL⟩
  · obtain ⟨⟨v, rfl⟩, hW₂, e2, q2, q3, q4, q5, q6⟩ := id hfe
    have e3 : s₂ = ({ (U.calling g mk a).setFrames s₂.frames with heap := s₂.heap, slotsUsed := s₂.slotsUsed } : State).setVm s₂.vm := by
      have : s₂ = ({ s₂ with vm := (U.calling g mk a).vm } : State).setVm s₂.vm := rfl
      rw [e2] at this
      exact this
    obtain ⟨c₂, i₂, len₂, hc₂, hd₂, hf₂⟩ := hend
    have hW' : U.WarmedH s₂.vm := hW₂
    have hcc : c₂ = c := by
      have h1 : s₂.code? g.method = U.code? g.method := by
        rw [State.code?_eq, State.code?_eq, hW'.alike.method?]
      exact Option.some.inj (hc₂.symm.trans (h1.trans h.code))
    subst hcc
    have hlen : len₂ = len := by rw [hdg] at hd₂; cases hd₂; rfl
    subst hlen
    have hs₂ : s₂ = (({ U with heap := s₂.heap, slotsUsed := s₂.slotsUsed } : State).setVm s₂.vm).setTop { g with pc := g.pc + len₂, stack := v.toList ++ g.stack } := by
      refine e3.trans ?_
      rw [hf₂, State.calling_eq h.top, State.setFrames_setFrames, State.setTop_of_frames _ hr', hr]
      rfl
    have hsame : U.sameButNew ({ U with heap := s₂.heap, slotsUsed := s₂.slotsUsed } : State) L mc ms := by
      refine ⟨?_, q2, q3, q4, q5, q6⟩
      obtain ⟨t, ht, -⟩ := State.frames_cons hr
      show ({ U with heap := s₂.heap, slotsUsed := s₂.slotsUsed } : State) = { U.setFrames U.frames with heap := s₂.heap, slotsUsed := s₂.slotsUsed }
      rw [State.setFrames_self ht]
    subst hg
    refine Or.inl ⟨v, ⟨(({ U with heap := s₂.heap, slotsUsed := s₂.slotsUsed } : State).setVm s₂.vm), Ls ++ L, c0 + mc, s0 + ms⟩,
      ⟨X.admits, X.cas, X.clock, X.frames, X.room, X.hears, X.method, X.code, (X.here.setHeapUsed s₂.heap s₂.slotsUsed).setVm hW'.alike, X.tail, State.WarmedH.trans X.warmed hW', X.limits, X.bytes, X.same.trans (hsame.setVm s.vm)⟩,
      ⟨g, mk, s₂, L, rfl, rfl, hqc, rfl, hL, rfl, rfl⟩, ?_⟩
    show Steps p.tables e below _ ((({ U with heap := s₂.heap, slotsUsed := s₂.slotsUsed } : State).setVm s₂.vm).setTop { g with pc := g.pc + len₂, stack := v.toList ++ g.stack })
    rw [← hs₂]
    exact hsteps
  · obtain ⟨e2, q2, q3, q4, q5, q6⟩ := id hsm
    have e3 : s₂ = ({ (U.calling g mk a).setFrames s₂.frames with heap := s₂.heap, slotsUsed := s₂.slotsUsed } : State).setVm s₂.vm := by
      have : s₂ = ({ s₂ with vm := (U.calling g mk a).vm } : State).setVm s₂.vm := rfl
      rw [e2] at this
      exact this
    have hf₂ : s₂.frames = .throwing q :: .java g :: U.frames.tail := hend
    have hW' : U.WarmedH s₂.vm := hW₂
    have hs₂ : s₂ = ((({ U with heap := s₂.heap, slotsUsed := s₂.slotsUsed } : State).setVm s₂.vm).setTop g).pushFrame (.throwing q) := by
      refine e3.trans ?_
      rw [hf₂, State.calling_eq h.top, State.setFrames_setFrames, State.pushFrame, State.frames_setTop _ hr', State.setTop_of_frames _ hr', State.setFrames_setFrames, hr]
      rfl
    have hsame : U.sameButNew ({ U with heap := s₂.heap, slotsUsed := s₂.slotsUsed } : State) L mc ms := by
      refine ⟨?_, q2, q3, q4, q5, q6⟩
      obtain ⟨t, ht, -⟩ := State.frames_cons hr
      show ({ U with heap := s₂.heap, slotsUsed := s₂.slotsUsed } : State) = { U.setFrames U.frames with heap := s₂.heap, slotsUsed := s₂.slotsUsed }
      rw [State.setFrames_self ht]
    subst hg
    refine Or.inr ⟨q, ⟨(({ U with heap := s₂.heap, slotsUsed := s₂.slotsUsed } : State).setVm s₂.vm), Ls ++ L, c0 + mc, s0 + ms⟩,
      ⟨X.admits, X.cas, X.clock, X.frames, X.room, X.hears, X.method, X.code, (X.here.setHeapUsed s₂.heap s₂.slotsUsed).setVm hW'.alike, X.tail, State.WarmedH.trans X.warmed hW', X.limits, X.bytes, X.same.trans (hsame.setVm s.vm)⟩,
      ⟨g, mk, s₂, L, E, ce, rfl, rfl, hx, hce, hcv, hcl, rfl, hL, rfl, rfl⟩, ?_⟩
    show Steps p.tables e below _ (((({ U with heap := s₂.heap, slotsUsed := s₂.slotsUsed } : State).setVm s₂.vm).setTop g).pushFrame (.throwing q))
    rw [← hs₂]
    exact hsteps
end
variable {p : Program} {l : Launch} {e : Env} {R : Room} {s : State} {m : MethodId} {args : Array Value} {below : List Frame} {meth : Method} {c : Code} {T : State} {H : Heap} {locs : List Loc} {cells slots : Nat}
theorem vx_callVX (X : Stand p l e R s m args below meth c T locs cells slots) (hexec : p.tables.exec = Jvm.exec) {own C : String} {index : Nat} {y : MethodName} {bytes : ByteArray} {maxL : Nat} {ret : Option FieldType} {hh : List (Nat × Nat × Nat × Nat)}
    (hown : s.vm.findClass own = some m.cls) (hlink : (Cond.methodLink own index y).before args s = true) (hinst : (Cond.instanceMethod y).before args s = true) (hsel : (Cond.selects C y y).before args s = true)
    (hcode : (Cond.codeWith y bytes maxL ret hh).before args s = true) (hy : y.cls ≠ "java/lang/invoke/MethodHandle" ∧ y.cls ≠ "java/lang/invoke/VarHandle")
    {W9 : Nat} {Pre : Pt → Array Value → Prop} {Post : Pt → Array Value → Option Value → Pt → Prop} {PostX : Pt → Array Value → Addr → Pt → Prop} (hK : vx_Back l R p e below s args y 3 W9 Pre Post PostX)
    {b : Addr} {cellB : Cell} (hcell : T.heap[b]? = some cellB) (hobj : cellB.vm.isStatics = false) (hcls : s.vm.findClass C = some cellB.cls)
    {g : JFrame} (hg : g.method = m) (hsize : g.locals.size = c.maxLocals) {argsL rest : List Value} (hlen : ∀ sig, parseMethodDescriptor y.desc = some sig → argsL.length = sig.parameters.length)
    (hstack : g.stack = argsL.reverse ++ .ref b :: rest) (hW : 2 * g.monitorRoom + (rest.map fun v => v.category).sum ≤ W9) (hdg : decode c.code g.pc = .ok (.invokevirtual index, 3))
    (hpre : ∀ vm₁, s.WarmedH vm₁ → Pre ⟨T.setVm vm₁, locs, cells, slots⟩ (Value.ref b :: argsL).toArray) :
    (∃ (v : Option Value) (vm₁ : Vm) (B : Pt), s.WarmedH vm₁ ∧ Stand p l e R s m args below meth c B.U B.locs B.cells B.slots ∧ Post ⟨T.setVm vm₁, locs, cells, slots⟩ (Value.ref b :: argsL).toArray v B ∧
      ∀ target, Steps p.tables e below (B.U.setTop { g with pc := g.pc + 3, stack := v.toList ++ rest }) target → Steps p.tables e below (T.setTop g) target) ∨
    (∃ (q : Addr) (vm₁ : Vm) (B : Pt), s.WarmedH vm₁ ∧ Stand p l e R s m args below meth c B.U B.locs B.cells B.slots ∧ PostX ⟨T.setVm vm₁, locs, cells, slots⟩ (Value.ref b :: argsL).toArray q B ∧
      Steps p.tables e below (T.setTop g) ((B.U.setTop { g with stack := rest }).pushFrame (.throwing q))) := by
  obtain ⟨mk, methM, hnamed, hmethM, hstM, habM⟩ := Cond.instanceMethod_spec hinst
  obtain ⟨m8, methM', cM, hn8, hmethM', -, -, -, -, -, -, hsigM⟩ := Cond.codeWith_spec hcode
  cases Option.some.inj (hn8.symm.trans hnamed)
  cases hmethM.symm.trans hmethM'
  obtain ⟨c2, r2, m2, q1, q2, q3, q4, kP, hkP, hkPi⟩ := Cond.selects_spec hsel
  cases hcls.symm.trans q1
  cases (State.methodFound?_of_named hnamed hy).symm.trans q2
  cases hnamed.symm.trans q3
  have hselP : selectMethod e.platform s.vm cellB.cls mk = .method mk := by rw [Launch.admits_selectMethod X.admits]; exact q4
  obtain ⟨vm₁, X₁, hstep₁⟩ := X.invokevirtual hexec hown hlink hnamed hmethM hstM hkP hkPi hy (a := b) (cell := cellB) hcell
    (fun z h => by rw [h] at hobj; cases hobj) hselP hmethM habM hkP hkPi (g := g) hg (argsL := argsL) (rest := rest) (hlen _ hsigM) hstack hdg
  rcases hK m meth c ⟨T.setVm vm₁, locs, cells, slots⟩ { g with stack := rest } (.invokevirtual index) mk (Value.ref b :: argsL).toArray X₁ hg hsize hdg hW (X₁.named hnamed) (hpre vm₁ X₁.warmed) with ⟨v, B, X', hpost, hsteps⟩ | ⟨q, B, X', hpost, hsteps⟩
  · exact Or.inl ⟨v, vm₁, B, X₁.warmed, X', hpost, fun target h => hstep₁ _ fun acts => by rw [doInvoke_state]; exact hsteps.trans h⟩
  · exact Or.inr ⟨q, vm₁, B, X₁.warmed, X', hpost, hstep₁ _ fun acts => by rw [doInvoke_state]; exact hsteps⟩
theorem vx_callSX (X : Stand p l e R s m args below meth c T locs cells slots) (hexec : p.tables.exec = Jvm.exec) {own : String} {index : Nat} {y : MethodName} {bytes : ByteArray} {maxL : Nat} {ret : Option FieldType} {hh : List (Nat × Nat × Nat × Nat)}
    (hown : s.vm.findClass own = some m.cls) (hlink : (Cond.methodLink own index y).before args s = true) (hstat : (Cond.static y).before args s = true) (hinit : (Cond.initialized y.cls).before args s = true)
    (hcode : (Cond.codeWith y bytes maxL ret hh).before args s = true) (hy : y.cls ≠ "java/lang/invoke/MethodHandle" ∧ y.cls ≠ "java/lang/invoke/VarHandle")
    {W9 : Nat} {Pre : Pt → Array Value → Prop} {Post : Pt → Array Value → Option Value → Pt → Prop} {PostX : Pt → Array Value → Addr → Pt → Prop} (hK : vx_Back l R p e below s args y 3 W9 Pre Post PostX)
    {g : JFrame} (hg : g.method = m) (hsize : g.locals.size = c.maxLocals) {argsL rest : List Value} (hlen : ∀ sig, parseMethodDescriptor y.desc = some sig → argsL.length = sig.parameters.length)
    (hstack : g.stack = argsL.reverse ++ rest) (hW : 2 * g.monitorRoom + (rest.map fun v => v.category).sum ≤ W9) (hdg : decode c.code g.pc = .ok (.invokestatic index, 3))
    (hpre : ∀ vm₁, s.WarmedH vm₁ → Pre ⟨T.setVm vm₁, locs, cells, slots⟩ argsL.toArray) :
    (∃ (v : Option Value) (vm₁ : Vm) (B : Pt), s.WarmedH vm₁ ∧ Stand p l e R s m args below meth c B.U B.locs B.cells B.slots ∧ Post ⟨T.setVm vm₁, locs, cells, slots⟩ argsL.toArray v B ∧
      ∀ target, Steps p.tables e below (B.U.setTop { g with pc := g.pc + 3, stack := v.toList ++ rest }) target → Steps p.tables e below (T.setTop g) target) ∨
    (∃ (q : Addr) (vm₁ : Vm) (B : Pt), s.WarmedH vm₁ ∧ Stand p l e R s m args below meth c B.U B.locs B.cells B.slots ∧ PostX ⟨T.setVm vm₁, locs, cells, slots⟩ argsL.toArray q B ∧
      Steps p.tables e below (T.setTop g) ((B.U.setTop { g with stack := rest }).pushFrame (.throwing q))) := by
  obtain ⟨mk, methM, cM, hnamed, hmethM, -, -, -, -, -, -, hsigM⟩ := Cond.codeWith_spec hcode
  have hstatic : methM.isStatic = true := Cond.static_spec hnamed hmethM hstat
  obtain ⟨kP, hkP, -⟩ := className_of_methodNamed hnamed
  have hinitP : kP.init = .initialized := Cond.initialized_spec (findClass_of_methodNamed hnamed) hkP hinit
  obtain ⟨vm₁, X₁, hstep₁⟩ := X.invokestatic hexec hown hlink hnamed hmethM hstatic hkP hinitP hy (g := g) hg (argsL := argsL) (rest := rest) (hlen _ hsigM) hstack hdg
  rcases hK m meth c ⟨T.setVm vm₁, locs, cells, slots⟩ { g with stack := rest } (.invokestatic index) mk argsL.toArray X₁ hg hsize hdg hW (X₁.named hnamed) (hpre vm₁ X₁.warmed) with ⟨v, B, X', hpost, hsteps⟩ | ⟨q, B, X', hpost, hsteps⟩
  · exact Or.inl ⟨v, vm₁, B, X₁.warmed, X', hpost, fun target h => hstep₁ _ fun acts => by rw [doInvoke_state]; exact hsteps.trans h⟩
  · exact Or.inr ⟨q, vm₁, B, X₁.warmed, X', hpost, hstep₁ _ fun acts => by rw [doInvoke_state]; exact hsteps⟩
theorem vx_callVW (X : Stand p l e R s m args below meth c T locs cells slots) (hexec : p.tables.exec = Jvm.exec) {own C : String} {index : Nat} {y : MethodName} {bytes : ByteArray} {maxL : Nat} {ret : Option FieldType} {hh : List (Nat × Nat × Nat × Nat)}
    (hown : s.vm.findClass own = some m.cls) (hlink : (Cond.methodLink own index y).before args s = true) (hinst : (Cond.instanceMethod y).before args s = true) (hsel : (Cond.selects C y y).before args s = true)
    (hcode : (Cond.codeWith y bytes maxL ret hh).before args s = true) (hy : y.cls ≠ "java/lang/invoke/MethodHandle" ∧ y.cls ≠ "java/lang/invoke/VarHandle")
    {W9 : Nat} {Pre : Pt → Array Value → Prop} {Post : Pt → Array Value → Option Value → Pt → Prop} (hK : Back l R p e below s args y 3 W9 Pre Post)
    {b : Addr} {cellB : Cell} (hcell : T.heap[b]? = some cellB) (hobj : cellB.vm.isStatics = false) (hcls : s.vm.findClass C = some cellB.cls)
    {g : JFrame} (hg : g.method = m) (hsize : g.locals.size = c.maxLocals) {argsL rest : List Value} (hlen : ∀ sig, parseMethodDescriptor y.desc = some sig → argsL.length = sig.parameters.length)
    (hstack : g.stack = argsL.reverse ++ .ref b :: rest) (hW : 2 * g.monitorRoom + (rest.map fun v => v.category).sum ≤ W9) (hdg : decode c.code g.pc = .ok (.invokevirtual index, 3))
    (hpre : ∀ vm₁, s.WarmedH vm₁ → Pre ⟨T.setVm vm₁, locs, cells, slots⟩ (Value.ref b :: argsL).toArray) :
    ∃ (v : Option Value) (vm₁ : Vm) (B : Pt), s.WarmedH vm₁ ∧ Stand p l e R s m args below meth c B.U B.locs B.cells B.slots ∧ Post ⟨T.setVm vm₁, locs, cells, slots⟩ (Value.ref b :: argsL).toArray v B ∧
      ∀ target, Steps p.tables e below (B.U.setTop { g with pc := g.pc + 3, stack := v.toList ++ rest }) target → Steps p.tables e below (T.setTop g) target := by
  obtain ⟨mk, methM, hnamed, hmethM, hstM, habM⟩ := Cond.instanceMethod_spec hinst
  obtain ⟨m8, methM', cM, hn8, hmethM', -, -, -, -, -, -, hsigM⟩ := Cond.codeWith_spec hcode
  cases Option.some.inj (hn8.symm.trans hnamed)
  cases hmethM.symm.trans hmethM'
  obtain ⟨c2, r2, m2, q1, q2, q3, q4, kP, hkP, hkPi⟩ := Cond.selects_spec hsel
  cases hcls.symm.trans q1
  cases (State.methodFound?_of_named hnamed hy).symm.trans q2
  cases hnamed.symm.trans q3
  have hselP : selectMethod e.platform s.vm cellB.cls mk = .method mk := by rw [Launch.admits_selectMethod X.admits]; exact q4
  obtain ⟨vm₁, X₁, hstep₁⟩ := X.invokevirtual hexec hown hlink hnamed hmethM hstM hkP hkPi hy (a := b) (cell := cellB) hcell
    (fun z h => by rw [h] at hobj; cases hobj) hselP hmethM habM hkP hkPi (g := g) hg (argsL := argsL) (rest := rest) (hlen _ hsigM) hstack hdg
  obtain ⟨v, B, X', hpost, hsteps⟩ := hK m meth c ⟨T.setVm vm₁, locs, cells, slots⟩ { g with stack := rest } (.invokevirtual index) mk (Value.ref b :: argsL).toArray X₁ hg hsize hdg hW (X₁.named hnamed) (hpre vm₁ X₁.warmed)
  exact ⟨v, vm₁, B, X₁.warmed, X', hpost, fun target h => hstep₁ _ fun acts => by rw [doInvoke_state]; exact hsteps.trans h⟩
abbrev vx_CVW (R : Room) (s : State) (args : Array Value) (own C : String) (index : Nat) (y : MethodName) (bytes : ByteArray) (maxL : Nat) (ret : Option FieldType) (hh : List (Nat × Nat × Nat × Nat)) (ws : List Cond) (rm : Room) (mc ms n : Nat) : Prop :=
  (rm.cells = mc ∧ rm.slots = ms ∧ rm.frames + 1 ≤ R.frames ∧ 8 + (maxL + 11) + rm.locals ≤ R.locals ∧ (∀ w ∈ ws, ∀ (a' : Array Value) (U : State), s.WarmedH U.vm → w.before a' U = true) ∧ Cond.codeWith y bytes maxL ret hh ∈ ws) ∧
  (Cond.codeWith y bytes maxL ret hh).before args s = true ∧ (Cond.initialized y.cls).before args s = true ∧ (y.cls ≠ "java/lang/invoke/MethodHandle" ∧ y.cls ≠ "java/lang/invoke/VarHandle") ∧
  (∀ sig, parseMethodDescriptor y.desc = some sig → n = sig.parameters.length) ∧ (Cond.methodLink own index y).before args s = true ∧ (Cond.instanceMethod y).before args s = true ∧ (Cond.selects C y y).before args s = true
theorem vx_cwVW {own C : String} {index maxL mc ms : Nat} {y : MethodName} {bytes : ByteArray} {ret : Option FieldType} {hh : List (Nat × Nat × Nat × Nat)} {Ts ws ws' : List Cond} {rm : Room} (n : Nat) (ht : ∀ w ∈ Ts, w.before args s = true) (hT : GoodIn Ts (wsV own index C y ws)) (hw : ws = Cond.codeWith y bytes maxL ret hh :: ws') (hrc : rm.cells = mc) (hrs : rm.slots = ms)
    (hd : y.cls = C ∧ y.cls ≠ "java/lang/invoke/MethodHandle" ∧ y.cls ≠ "java/lang/invoke/VarHandle" ∧ (parseMethodDescriptor y.desc).map (fun d => d.parameters.length) = some n) (hR : rm.frames + 1 ≤ R.frames ∧ 8 + (maxL + 11) + rm.locals ≤ R.locals) :
    vx_CVW R s args own C index y bytes maxL ret hh ws rm mc ms n := by
  obtain ⟨hC, hd⟩ := hd
  subst hC
  have ok : ∀ w ∈ wsV own index y.cls y ws, w.before args s = true := fun w h => ht w (hT w h).1
  have hG : GoodIn Ts ws := fun w h => hT w (by unfold wsV; exact List.mem_append_right _ h)
  have hc : Cond.codeWith y bytes maxL ret hh ∈ ws := by rw [hw]; exact List.mem_cons_self
  refine ⟨⟨hrc, hrs, hR.1, hR.2, pay_in ht hG, hc⟩, ht _ (hG _ hc).1, ok _ (by simp [wsV]), ⟨hd.1, hd.2.1⟩, fun sig h => ?_, ok _ (by simp [wsV]), ok _ (by simp [wsV]), ok _ (by simp [wsV])⟩
  have h2 := hd.2.2
  rw [h] at h2
  exact (Option.some.inj h2).symm
theorem vx_runVW {y : MethodName} {bytes cc : ByteArray} {maxL nL mc ms n index : Nat} {ret : Option FieldType} {hh : List (Nat × Nat × Nat × Nat)} {ws : List Cond} {rm : Room} {Pc : Array Value → State → Prop} {Qc : Array Value → State → Outcome → State → Prop} {free : Addr → Prop} {Ts : List Cond} {own C : String} {b : Addr} {As rest : List Value} {g : JFrame}
    (S : CallFix p m c cc nL s args Ts own) (hM : Met l y ws rm Pc Qc mc ms free) (cw : vx_CVW R s args own C index y bytes maxL ret hh ws rm mc ms n) (hp : PreV s H C b Pc As)
    (hg : g.method = m) (hn : As.length = n) (hsize : g.locals.size = nL) (hstack : g.stack = As.reverse ++ .ref b :: rest) (hW : 2 * g.monitorRoom + (rest.map fun v => v.category).sum ≤ 8) (hdg : decode cc g.pc = .ok (.invokevirtual index, 3)) (hf : cells + mc ≤ R.cells ∧ slots + ms ≤ R.slots) :
    va_Run p l e R s m args below meth c H locs cells slots mc ms g rest (Qc (Value.ref b :: As).toArray) free := by
  obtain ⟨⟨hrc, hrs, hfr, hlo, hws, hcw⟩, hcode, hini, hy, hlen, hl, hin, hse⟩ := cw
  have hK : Back l R p e below s args y 3 8 (PreOf R mc ms Pc) (PostOf Qc mc ms free) := va_backW (hh := hh) (bytes := bytes) (maxL := maxL) (ret := ret) hM hp.1 hrc hrs hfr hlo hws hcw (fun a' U hW => word_at hW (Or.inl (by first | rfl | simp [Cond.onTables, Cond.keeps, Cond.steady])) hini)
  obtain ⟨hx, hb, hml, ho, -⟩ := S
  obtain ⟨-, ⟨cellB, hcB, hoB, hclB⟩, hPc⟩ := hp
  intro T hT X
  obtain ⟨v, vm₁, ⟨U', l2, c2, s2⟩, hW₁, X', ⟨g', mk, t, L, e1, e2, hq, h1, hL, h2, h3⟩, st⟩ := vx_callVW X hx (C := C) (hh := hh) (bytes := bytes) (maxL := maxL) (ret := ret) ho hl hin hse hcode hy hK (by rw [hT]; exact hcB) hoB hclB hg (hsize.trans hml.symm) (argsL := As) (rest := rest) (fun sig h => hn.trans (hlen sig h)) hstack hW (by rw [hb]; exact hdg)
    (fun vm₁ hW₁ => ⟨hf.1, hf.2, hPc (T.setVm vm₁) hT hW₁⟩)
  dsimp only [Pt.U, Pt.locs, Pt.cells, Pt.slots] at X' e1 e2 h1 h2 h3 st
  subst h1; subst h2; subst h3
  exact ⟨v, (T.setVm vm₁).calling g' mk (Value.ref b :: As).toArray, t, U', L, hT, X', hL, e1, e2, hq, st⟩
section
variable {y : MethodName} {bytes cc : ByteArray} {maxL nL mc ms n index : Nat} {ret : Option FieldType} {ws : List Cond} {rm : Room} {Pc : Array Value → State → Prop} {Qc : Array Value → State → Outcome → State → Prop} {XC : String → State → State → Prop} {free : Addr → Prop} {Ts : List Cond} {own C : String} {b : Addr} {As rest : List Value} {g : JFrame}
theorem vx_runVX {hh : List (Nat × Nat × Nat × Nat)} (S : CallFix p m c cc nL s args Ts own) (hM : vx_Met l y ws rm Pc Qc XC mc ms free) (cw : vx_CVW R s args own C index y bytes maxL ret hh ws rm mc ms n) (hp : PreV s H C b Pc As)
    (hg : g.method = m) (hn : As.length = n) (hsize : g.locals.size = nL) (hstack : g.stack = As.reverse ++ .ref b :: rest) (hW : 2 * g.monitorRoom + (rest.map fun v => v.category).sum ≤ 8) (hdg : decode cc g.pc = .ok (.invokevirtual index, 3)) (hf : cells + mc ≤ R.cells ∧ slots + ms ≤ R.slots) :
    vx_Run p l e R s m args below meth c H locs cells slots mc ms g rest (Qc (Value.ref b :: As).toArray) XC free := by
  obtain ⟨⟨hrc, hrs, hfr, hlo, hws, hcw⟩, hcode, hini, hy, hlen, hl, hin, hse⟩ := cw
  have hK : vx_Back l R p e below s args y 3 8 (PreOf R mc ms Pc) (PostOf Qc mc ms free) (vx_Post XC mc ms free) := vx_backW (hh := hh) (bytes := bytes) (maxL := maxL) (ret := ret) hM hp.1 hrc hrs hfr hlo hws hcw (fun a' U hW => word_at hW (Or.inl (by first | rfl | simp [Cond.onTables, Cond.keeps, Cond.steady])) hini)
  obtain ⟨hx, hb, hml, ho, -⟩ := S
  obtain ⟨-, ⟨cellB, hcB, hoB, hclB⟩, hPc⟩ := hp
  intro T hT X
  rcases vx_callVX X hx (C := C) (hh := hh) (bytes := bytes) (maxL := maxL) (ret := ret) ho hl hin hse hcode hy hK (by rw [hT]; exact hcB) hoB hclB hg (hsize.trans hml.symm) (argsL := As) (rest := rest) (fun sig h => hn.trans (hlen sig h)) hstack hW (by rw [hb]; exact hdg)
    (fun vm₁ hW₁ => ⟨hf.1, hf.2, hPc (T.setVm vm₁) hT hW₁⟩) with ⟨v, vm₁, ⟨U', l2, c2, s2⟩, hW₁, X', ⟨g', mk, t, L, e1, e2, hq, h1, hL, h2, h3⟩, st⟩ | ⟨q, vm₁, ⟨U', l2, c2, s2⟩, hW₁, X', ⟨g', mk, t, L, E, ce, e1, e2, hq, hce, hcv, hcl, h1, hL, h2, h3⟩, st⟩
  · dsimp only [Pt.U, Pt.locs, Pt.cells, Pt.slots] at X' e1 e2 h1 h2 h3 st
    subst h1; subst h2; subst h3
    exact Or.inl ⟨v, (T.setVm vm₁).calling g' mk (Value.ref b :: As).toArray, t, U', L, hT, X', hL, e1, e2, hq, st⟩
  · dsimp only [Pt.U, Pt.locs, Pt.cells, Pt.slots] at X' e1 e2 h1 h2 h3 st hcl
    subst h1; subst h2; subst h3
    exact Or.inr ⟨q, (T.setVm vm₁).calling g' mk (Value.ref b :: As).toArray, t, U', L, E, ce, hT, X', hL, e1, e2, hq, hce, hcv, vx_cls hW₁ hcl, st⟩
theorem vx_runSX {hh : List (Nat × Nat × Nat × Nat)} (S : CallFix p m c cc nL s args Ts own) (hM : vx_Met l y ws rm Pc Qc XC mc ms free) (cw : vx_CSW R s args own index y bytes maxL ret hh ws rm mc ms n) (hp : PreS s H Pc As)
    (hg : g.method = m) (hn : As.length = n) (hsize : g.locals.size = nL) (hstack : g.stack = As.reverse ++ rest) (hW : 2 * g.monitorRoom + (rest.map fun v => v.category).sum ≤ 8) (hdg : decode cc g.pc = .ok (.invokestatic index, 3)) (hf : cells + mc ≤ R.cells ∧ slots + ms ≤ R.slots) :
    vx_Run p l e R s m args below meth c H locs cells slots mc ms g rest (Qc As.toArray) XC free := by
  obtain ⟨⟨hrc, hrs, hfr, hlo, hws, hcw⟩, hcode, hini, hy, hlen, hl, hstt⟩ := cw
  have hK : vx_Back l R p e below s args y 3 8 (PreOf R mc ms Pc) (PostOf Qc mc ms free) (vx_Post XC mc ms free) := vx_backW (hh := hh) (bytes := bytes) (maxL := maxL) (ret := ret) hM hp.1 hrc hrs hfr hlo hws hcw (fun a' U hW => word_at hW (Or.inl (by first | rfl | simp [Cond.onTables, Cond.keeps, Cond.steady])) hini)
  obtain ⟨hx, hb, hml, ho, -⟩ := S
  intro T hT X
  rcases vx_callSX X hx (hh := hh) (bytes := bytes) (maxL := maxL) (ret := ret) ho hl hstt hini hcode hy hK hg (hsize.trans hml.symm) (argsL := As) (rest := rest) (fun sig h => hn.trans (hlen sig h)) hstack hW (by rw [hb]; exact hdg)
    (fun vm₁ hW₁ => ⟨hf.1, hf.2, hp.2 (T.setVm vm₁) hT hW₁⟩) with ⟨v, vm₁, ⟨U', l2, c2, s2⟩, hW₁, X', ⟨g', mk, t, L, e1, e2, hq, h1, hL, h2, h3⟩, st⟩ | ⟨q, vm₁, ⟨U', l2, c2, s2⟩, hW₁, X', ⟨g', mk, t, L, E, ce, e1, e2, hq, hce, hcv, hcl, h1, hL, h2, h3⟩, st⟩
  · dsimp only [Pt.U, Pt.locs, Pt.cells, Pt.slots] at X' e1 e2 h1 h2 h3 st
    subst h1; subst h2; subst h3
    exact Or.inl ⟨v, (T.setVm vm₁).calling g' mk As.toArray, t, U', L, hT, X', hL, e1, e2, hq, st⟩
  · dsimp only [Pt.U, Pt.locs, Pt.cells, Pt.slots] at X' e1 e2 h1 h2 h3 st hcl
    subst h1; subst h2; subst h3
    exact Or.inr ⟨q, (T.setVm vm₁).calling g' mk As.toArray, t, U', L, E, ce, hT, X', hL, e1, e2, hq, hce, hcv, vx_cls hW₁ hcl, st⟩
end
end VXH
theorem vx_ofWH {l : Launch} {y : MethodName} {ws ws' : List Cond} {rm : Room} {Pc : Array Value → State → Prop} {Qc : Array Value → State → Outcome → State → Prop} {XC : String → State → State → Prop} {mc ms : Nat} {free : Addr → Prop} {cc : ByteArray} {maxL : Nat} {ret : Option FieldType} {hh : List (Nat × Nat × Nat × Nat)}
    (hy : plainName y.cls = true) (hw : ws = Cond.codeWith y cc maxL ret hh :: ws')
    (body : ∀ p e s m args below meth c s₁, BodyLoose p l y (headSpec ws rm) cc maxL ret e s m args below meth c s₁ → c.maxLocals = maxL → Pc args s →
      W p l e (headSpec ws rm).room s m args below meth c s.heap [] 0 0 (vx_MQ below Qc XC args s mc ms free) (entryFrame m args maxL)) : vx_Met l y ws rm Pc Qc XC mc ms free := by
  refine MetFree.of_bodyS (code := cc) (maxLocals := maxL) (ret := ret) hy ?_ ?_
  · intro args s m h hn
    obtain ⟨m9, meth, c, hn9, h1, h2, h3, h4, -, h5, h6, -⟩ := Cond.codeWith_spec (atoms_spec (ws := ws) h _ (by rw [hw]; exact List.mem_cons_self))
    cases hn.symm.trans hn9
    exact ⟨meth, c, h1, h2, h3, h4, h5, h6⟩
  · intro p e s m args below meth c s₁ B hml hP _
    have hh0 : s₁.heap = s.heap := by rw [B.state]; rfl
    obtain ⟨t, a1, o, b1, b2, b3⟩ := body p e s m args below meth c s₁ B hml hP s₁ hh0 (Stand.of_body B)
    exact ⟨t, o, a1, b1, b2, b3⟩
/-! ===== END ===== -/
/-! ===== BEGIN a constructor that throws (launches without stack traces) ===== -/
section VXIA
variable {p : Program} {l : Launch} {e : Env} {R : Room} {s : State} {m : MethodId} {args : Array Value} {below : List Frame} {meth : Method} {c : Code} {T : State} {locs : List Loc} {cells slots : Nat}
theorem vx_callI (X : Stand p l e R s m args below meth c T locs cells slots) (hexec : p.tables.exec = Jvm.exec) {own : String} {index : Nat} {y : MethodName} {bytes : ByteArray} {maxL : Nat}
    (hown : s.vm.findClass own = some m.cls) (hy1 : y.name = "<init>") (hlink : (Cond.methodLink own index y).before args s = true) (hinst : (Cond.instanceMethod y).before args s = true)
    (hcode : (Cond.code y bytes maxL none).before args s = true) (hy : y.cls ≠ "java/lang/invoke/MethodHandle" ∧ y.cls ≠ "java/lang/invoke/VarHandle")
    {W9 : Nat} {Pre : Pt → Array Value → Prop} {Post : Pt → Array Value → Option Value → Pt → Prop} {PostX : Pt → Array Value → Addr → Pt → Prop} (hK : vx_Back l R p e below s args y 3 W9 Pre Post PostX)
    {g : JFrame} (hg : g.method = m) (hsize : g.locals.size = c.maxLocals) {a : Addr} {argsL rest : List Value} (hlen : ∀ sig, parseMethodDescriptor y.desc = some sig → argsL.length = sig.parameters.length)
    (hstack : g.stack = argsL.reverse ++ .ref a :: rest) (hW : 2 * g.monitorRoom + (rest.map fun v => v.category).sum ≤ W9) (hdg : decode c.code g.pc = .ok (.invokespecial index, 3))
    (hpre : ∀ vm₁, s.WarmedH vm₁ → Pre ⟨T.setVm vm₁, locs, cells, slots⟩ (Value.ref a :: argsL).toArray) :
    (∃ (v : Option Value) (vm₁ : Vm) (B : Pt), s.WarmedH vm₁ ∧ Stand p l e R s m args below meth c B.U B.locs B.cells B.slots ∧ Post ⟨T.setVm vm₁, locs, cells, slots⟩ (Value.ref a :: argsL).toArray v B ∧
      ∀ target, Steps p.tables e below (B.U.setTop { g with pc := g.pc + 3, stack := v.toList ++ rest }) target → Steps p.tables e below (T.setTop g) target) ∨
    (∃ (q : Addr) (vm₁ : Vm) (B : Pt), s.WarmedH vm₁ ∧ Stand p l e R s m args below meth c B.U B.locs B.cells B.slots ∧ PostX ⟨T.setVm vm₁, locs, cells, slots⟩ (Value.ref a :: argsL).toArray q B ∧
      Steps p.tables e below (T.setTop g) ((B.U.setTop { g with stack := rest }).pushFrame (.throwing q))) := by
  subst hg
  have hpl : e.platform.magicAccessors = ({} : Platform).magicAccessors := by rw [X.admits.platform]
  obtain ⟨mk, methM, cM, kP, vm₁, hnamed, hmethM, hcodeM, -, hlocalsM, -, hkP, -, hW₁, hstep₁⟩ := Steps.initColdArgs (e := e) X.here hexec X.warmed hpl hown hy1 hy hlink hinst hcode (f := g) rfl hlen hstack hdg
  have X₁ := X.noted hW₁
  rcases hK g.method meth c ⟨T.setVm vm₁, locs, cells, slots⟩ { g with stack := rest } (.invokespecial index) mk (Value.ref a :: argsL).toArray X₁ rfl hsize hdg hW (X₁.named hnamed) (hpre vm₁ X₁.warmed) with ⟨v, B, X', hpost, hsteps⟩ | ⟨q, B, X', hpost, hsteps⟩
  · exact Or.inl ⟨v, vm₁, B, X₁.warmed, X', hpost, fun target h => hstep₁ _ fun acts => by rw [doInvoke_state]; exact hsteps.trans h⟩
  · exact Or.inr ⟨q, vm₁, B, X₁.warmed, X', hpost, hstep₁ _ fun acts => by rw [doInvoke_state]; exact hsteps⟩
end VXIA
section VXIB
variable {p : Program} {l : Launch} {e : Env} {R : Room} {s : State} {m : MethodId} {args : Array Value} {below : List Frame} {meth : Method} {c : Code} {H : Heap} {locs : List Loc} {cells slots : Nat}
variable {y : MethodName} {bytes cc : ByteArray} {maxL nL mc ms n index : Nat} {ret : Option FieldType} {ws : List Cond} {rm : Room} {Pc : Array Value → State → Prop} {Qc : Array Value → State → Outcome → State → Prop} {XC : String → State → State → Prop} {free : Addr → Prop} {Ts : List Cond} {own C : String} {b : Addr} {As rest : List Value} {g : JFrame}
theorem vx_runI (S : CallFix p m c cc nL s args Ts own) (hM : vx_Met l y ws rm Pc Qc XC mc ms free) (cw : CallB R s args own index y bytes maxL none ws rm mc ms n ∧ y.name = "<init>" ∧ (Cond.instanceMethod y).before args s = true) (hp : PreS s H Pc (.ref b :: As))
    (hg : g.method = m) (hn : As.length = n) (hsize : g.locals.size = nL) (hstack : g.stack = As.reverse ++ .ref b :: rest) (hW : 2 * g.monitorRoom + (rest.map fun v => v.category).sum ≤ 8) (hdg : decode cc g.pc = .ok (.invokespecial index, 3)) (hf : cells + mc ≤ R.cells ∧ slots + ms ≤ R.slots) :
    vx_Run p l e R s m args below meth c H locs cells slots mc ms g rest (Qc (Value.ref b :: As).toArray) XC free := by
  have hK : vx_Back l R p e below s args y 3 8 (PreOf R mc ms Pc) (PostOf Qc mc ms free) (vx_Post XC mc ms free) := vx_callBack cw.1 hM hp.1
  obtain ⟨⟨-, -, -, -, -, -, hcode, -, hy, hlen, hl⟩, hy1, hin⟩ := cw
  obtain ⟨hx, hb, hml, ho, -⟩ := S
  have hPc := hp.2
  intro T hT X
  rcases vx_callI X hx (bytes := bytes) (maxL := maxL) ho hy1 hl hin hcode hy hK hg (hsize.trans hml.symm) (a := b) (argsL := As) (rest := rest) (fun sig h => hn.trans (hlen sig h)) hstack hW (by rw [hb]; exact hdg)
    (fun vm₁ hW₁ => ⟨hf.1, hf.2, hPc (T.setVm vm₁) hT hW₁⟩) with ⟨v, vm₁, ⟨U', l2, c2, s2⟩, hW₁, X', ⟨g', mk, t, L, e1, e2, hq, h1, hL, h2, h3⟩, st⟩ | ⟨q, vm₁, ⟨U', l2, c2, s2⟩, hW₁, X', ⟨g', mk, t, L, E, ce, e1, e2, hq, hce, hcv, hcl, h1, hL, h2, h3⟩, st⟩
  · dsimp only [Pt.U, Pt.locs, Pt.cells, Pt.slots] at X' e1 e2 h1 h2 h3 st
    subst h1; subst h2; subst h3
    exact Or.inl ⟨v, (T.setVm vm₁).calling g' mk (Value.ref b :: As).toArray, t, U', L, hT, X', hL, e1, e2, hq, st⟩
  · dsimp only [Pt.U, Pt.locs, Pt.cells, Pt.slots] at X' e1 e2 h1 h2 h3 st hcl
    subst h1; subst h2; subst h3
    exact Or.inr ⟨q, (T.setVm vm₁).calling g' mk (Value.ref b :: As).toArray, t, U', L, E, ce, hT, X', hL, e1, e2, hq, hce, hcv, vx_cls hW₁ hcl, st⟩
end VXIB
/-! ===== END ===== -/
/-! ===== BEGIN a private constructor of a nest mate that throws ===== -/
section VXIC
variable {p : Program} {l : Launch} {e : Env} {R : Room} {s : State} {m : MethodId} {args : Array Value} {below : List Frame} {meth : Method} {c : Code} {T : State} {locs : List Loc} {cells slots : Nat}
theorem vx_callIN (X : Stand p l e R s m args below meth c T locs cells slots) (hexec : p.tables.exec = Jvm.exec) {own : String} {index : Nat} {host : String} {y : MethodName} {bytes : ByteArray} {maxL : Nat}
    (hown : s.vm.findClass own = some m.cls) (hy1 : y.name = "<init>") (hlink : (Cond.methodLinkNest own index y host).before args s = true) (hinst : (Cond.instanceMethod y).before args s = true)
    (hcode : (Cond.code y bytes maxL none).before args s = true) (hy : y.cls ≠ "java/lang/invoke/MethodHandle" ∧ y.cls ≠ "java/lang/invoke/VarHandle")
    {W9 : Nat} {Pre : Pt → Array Value → Prop} {Post : Pt → Array Value → Option Value → Pt → Prop} {PostX : Pt → Array Value → Addr → Pt → Prop} (hK : vx_Back l R p e below s args y 3 W9 Pre Post PostX)
    {g : JFrame} (hg : g.method = m) (hsize : g.locals.size = c.maxLocals) {a : Addr} {argsL rest : List Value} (hlen : ∀ sig, parseMethodDescriptor y.desc = some sig → argsL.length = sig.parameters.length)
    (hstack : g.stack = argsL.reverse ++ .ref a :: rest) (hW : 2 * g.monitorRoom + (rest.map fun v => v.category).sum ≤ W9) (hdg : decode c.code g.pc = .ok (.invokespecial index, 3))
    (hpre : ∀ vm₁, s.WarmedH vm₁ → Pre ⟨T.setVm vm₁, locs, cells, slots⟩ (Value.ref a :: argsL).toArray) :
    (∃ (v : Option Value) (vm₁ : Vm) (B : Pt), s.WarmedH vm₁ ∧ Stand p l e R s m args below meth c B.U B.locs B.cells B.slots ∧ Post ⟨T.setVm vm₁, locs, cells, slots⟩ (Value.ref a :: argsL).toArray v B ∧
      ∀ target, Steps p.tables e below (B.U.setTop { g with pc := g.pc + 3, stack := v.toList ++ rest }) target → Steps p.tables e below (T.setTop g) target) ∨
    (∃ (q : Addr) (vm₁ : Vm) (B : Pt), s.WarmedH vm₁ ∧ Stand p l e R s m args below meth c B.U B.locs B.cells B.slots ∧ PostX ⟨T.setVm vm₁, locs, cells, slots⟩ (Value.ref a :: argsL).toArray q B ∧
      Steps p.tables e below (T.setTop g) ((B.U.setTop { g with stack := rest }).pushFrame (.throwing q))) := by
  subst hg
  have hpl : e.platform.magicAccessors = ({} : Platform).magicAccessors := by rw [X.admits.platform]
  obtain ⟨mk, methM, cM, kP, vm₁, hnamed, hmethM, hcodeM, -, hlocalsM, -, hkP, -, hW₁, hstep₁⟩ := Steps.initColdArgsNest (e := e) X.here hexec X.warmed hpl hown hy1 hy hlink hinst hcode (f := g) rfl hlen hstack hdg
  have X₁ := X.noted hW₁
  rcases hK g.method meth c ⟨T.setVm vm₁, locs, cells, slots⟩ { g with stack := rest } (.invokespecial index) mk (Value.ref a :: argsL).toArray X₁ rfl hsize hdg hW (X₁.named hnamed) (hpre vm₁ X₁.warmed) with ⟨v, B, X', hpost, hsteps⟩ | ⟨q, B, X', hpost, hsteps⟩
  · exact Or.inl ⟨v, vm₁, B, X₁.warmed, X', hpost, fun target h => hstep₁ _ fun acts => by rw [doInvoke_state]; exact hsteps.trans h⟩
  · exact Or.inr ⟨q, vm₁, B, X₁.warmed, X', hpost, hstep₁ _ fun acts => by rw [doInvoke_state]; exact hsteps⟩
end VXIC
section VXID
variable {p : Program} {l : Launch} {e : Env} {R : Room} {s : State} {m : MethodId} {args : Array Value} {below : List Frame} {meth : Method} {c : Code} {H : Heap} {locs : List Loc} {cells slots : Nat}
theorem vx_runIN {y : MethodName} {bytes cc : ByteArray} {maxL nL mc ms n index : Nat} {ws : List Cond} {rm : Room} {Pc : Array Value → State → Prop} {Qc : Array Value → State → Outcome → State → Prop} {XC : String → State → State → Prop} {free : Addr → Prop} {Ts : List Cond} {own host : String} {b : Addr} {As rest : List Value} {g : JFrame}
    (S : CallFix p m c cc nL s args Ts own) (hM : vx_Met l y ws rm Pc Qc XC mc ms free) (cw : va_CN R s args own index y host bytes maxL none ws rm mc ms n ∧ y.name = "<init>" ∧ (Cond.instanceMethod y).before args s = true) (hp : PreS s H Pc (.ref b :: As))
    (hg : g.method = m) (hn : As.length = n) (hsize : g.locals.size = nL) (hstack : g.stack = As.reverse ++ .ref b :: rest) (hW : 2 * g.monitorRoom + (rest.map fun v => v.category).sum ≤ 8) (hdg : decode cc g.pc = .ok (.invokespecial index, 3)) (hf : cells + mc ≤ R.cells ∧ slots + ms ≤ R.slots) :
    vx_Run p l e R s m args below meth c H locs cells slots mc ms g rest (Qc (Value.ref b :: As).toArray) XC free := by
  obtain ⟨⟨⟨hrc, hrs, hfr, hlo, hws, hcw⟩, hcode, hini, hy, hlen, hl⟩, hx1, hx2⟩ := cw
  have hK : vx_Back l R p e below s args y 3 8 (PreOf R mc ms Pc) (PostOf Qc mc ms free) (vx_Post XC mc ms free) := vx_back (bytes := bytes) (maxL := maxL) (ret := none) hM hp.1 hrc hrs hfr hlo hws hcw (fun a' U hW => word_at hW (Or.inl (by first | rfl | simp [Cond.onTables, Cond.keeps, Cond.steady])) hini)
  obtain ⟨hx, hb, hml, ho, -⟩ := S
  have hPc := hp.2
  intro T hT X
  rcases vx_callIN X hx (bytes := bytes) (maxL := maxL) ho hx1 hl hx2 hcode hy hK hg (hsize.trans hml.symm) (a := b) (argsL := As) (rest := rest) (fun sig h => hn.trans (hlen sig h)) hstack hW (by rw [hb]; exact hdg)
    (fun vm₁ hW₁ => ⟨hf.1, hf.2, hPc (T.setVm vm₁) hT hW₁⟩) with ⟨v, vm₁, ⟨U', l2, c2, s2⟩, hW₁, X', ⟨g', mk, t, L, e1, e2, hq, h1, hL, h2, h3⟩, st⟩ | ⟨q, vm₁, ⟨U', l2, c2, s2⟩, hW₁, X', ⟨g', mk, t, L, E, ce, e1, e2, hq, hce, hcv, hcl, h1, hL, h2, h3⟩, st⟩
  · dsimp only [Pt.U, Pt.locs, Pt.cells, Pt.slots] at X' e1 e2 h1 h2 h3 st
    subst h1; subst h2; subst h3
    exact Or.inl ⟨v, (T.setVm vm₁).calling g' mk (Value.ref b :: As).toArray, t, U', L, hT, X', hL, e1, e2, hq, st⟩
  · dsimp only [Pt.U, Pt.locs, Pt.cells, Pt.slots] at X' e1 e2 h1 h2 h3 st hcl
    subst h1; subst h2; subst h3
    exact Or.inr ⟨q, (T.setVm vm₁).calling g' mk (Value.ref b :: As).toArray, t, U', L, E, ce, hT, X', hL, e1, e2, hq, hce, hcv, vx_cls hW₁ hcl, st⟩
end VXID
/-! ===== END ===== -/
/-! ===== BEGIN a private method of a nest mate that may throw (follows va_callVN, va_callSN, va_runVN, va_runSN) ===== -/
section
variable {p : Program} {l : Launch} {e : Env} {R : Room} {s : State} {m : MethodId} {args : Array Value} {below : List Frame} {meth : Method} {c : Code} {H : Heap} {locs : List Loc} {cells slots : Nat}
variable {T : State}
theorem vx_callVN (X : Stand p l e R s m args below meth c T locs cells slots) (hexec : p.tables.exec = Jvm.exec) {own C : String} {index : Nat} {host : String} {y : MethodName} {bytes : ByteArray} {maxL : Nat} {ret : Option FieldType}
    (hown : s.vm.findClass own = some m.cls) (hlink : (Cond.methodLinkNest own index y host).before args s = true) (hinst : (Cond.instanceMethod y).before args s = true) (hsel : (Cond.selects C y y).before args s = true)
    (hcode : (Cond.code y bytes maxL ret).before args s = true) (hy : y.cls ≠ "java/lang/invoke/MethodHandle" ∧ y.cls ≠ "java/lang/invoke/VarHandle")
    {W : Nat} {Pre : Pt → Array Value → Prop} {Post : Pt → Array Value → Option Value → Pt → Prop} {PostX : Pt → Array Value → Addr → Pt → Prop} (hK : vx_Back l R p e below s args y 3 W Pre Post PostX)
    {b : Addr} {cellB : Cell} (hcell : T.heap[b]? = some cellB) (hobj : cellB.vm.isStatics = false) (hcls : s.vm.findClass C = some cellB.cls)
    {g : JFrame} (hg : g.method = m) (hsize : g.locals.size = c.maxLocals) {argsL rest : List Value} (hlen : ∀ sig, parseMethodDescriptor y.desc = some sig → argsL.length = sig.parameters.length)
    (hstack : g.stack = argsL.reverse ++ .ref b :: rest) (hW : 2 * g.monitorRoom + (rest.map fun v => v.category).sum ≤ W) (hdg : decode c.code g.pc = .ok (.invokevirtual index, 3))
    (hpre : ∀ vm₁, s.WarmedH vm₁ → Pre ⟨T.setVm vm₁, locs, cells, slots⟩ (Value.ref b :: argsL).toArray) :
    (∃ (v : Option Value) (vm₁ : Vm) (B : Pt), s.WarmedH vm₁ ∧ Stand p l e R s m args below meth c B.U B.locs B.cells B.slots ∧ Post ⟨T.setVm vm₁, locs, cells, slots⟩ (Value.ref b :: argsL).toArray v B ∧
      ∀ target, Steps p.tables e below (B.U.setTop { g with pc := g.pc + 3, stack := v.toList ++ rest }) target → Steps p.tables e below (T.setTop g) target) ∨
    (∃ (q : Addr) (vm₁ : Vm) (B : Pt), s.WarmedH vm₁ ∧ Stand p l e R s m args below meth c B.U B.locs B.cells B.slots ∧ PostX ⟨T.setVm vm₁, locs, cells, slots⟩ (Value.ref b :: argsL).toArray q B ∧
      Steps p.tables e below (T.setTop g) ((B.U.setTop { g with stack := rest }).pushFrame (.throwing q))) := by
  obtain ⟨mk, methM, hnamed, hmethM, hstM, habM⟩ := Cond.instanceMethod_spec hinst
  obtain ⟨methM', cM, hmethM', -, -, -, -, -, -, hsigM⟩ := Cond.code_spec hnamed hcode
  cases hmethM.symm.trans hmethM'
  obtain ⟨c2, r2, m2, q1, q2, q3, q4, kP, hkP, hkPi⟩ := Cond.selects_spec hsel
  cases hcls.symm.trans q1
  cases (State.methodFound?_of_named hnamed hy).symm.trans q2
  cases hnamed.symm.trans q3
  have hselP : selectMethod e.platform s.vm cellB.cls mk = .method mk := by rw [Launch.admits_selectMethod X.admits]; exact q4
  obtain ⟨vm₁, X₁, hstep₁⟩ := X.invokevirtualNest hexec hown hlink hnamed hmethM hstM hkP hkPi hy (a := b) (cell := cellB) hcell
    (fun z h => by rw [h] at hobj; cases hobj) hselP hmethM habM hkP hkPi (g := g) hg (argsL := argsL) (rest := rest) (hlen _ hsigM) hstack hdg
  rcases hK m meth c ⟨T.setVm vm₁, locs, cells, slots⟩ { g with stack := rest } (.invokevirtual index) mk (Value.ref b :: argsL).toArray X₁ hg hsize hdg hW (X₁.named hnamed) (hpre vm₁ X₁.warmed) with ⟨v, B, X', hpost, hsteps⟩ | ⟨q, B, X', hpost, hsteps⟩
  · exact Or.inl ⟨v, vm₁, B, X₁.warmed, X', hpost, fun target h => hstep₁ _ fun acts => by rw [doInvoke_state]; exact hsteps.trans h⟩
  · exact Or.inr ⟨q, vm₁, B, X₁.warmed, X', hpost, hstep₁ _ fun acts => by rw [doInvoke_state]; exact hsteps⟩
theorem vx_callSN (X : Stand p l e R s m args below meth c T locs cells slots) (hexec : p.tables.exec = Jvm.exec) {own : String} {index : Nat} {host : String} {y : MethodName} {bytes : ByteArray} {maxL : Nat} {ret : Option FieldType}
    (hown : s.vm.findClass own = some m.cls) (hlink : (Cond.methodLinkNest own index y host).before args s = true) (hstat : (Cond.static y).before args s = true) (hinit : (Cond.initialized y.cls).before args s = true)
    (hcode : (Cond.code y bytes maxL ret).before args s = true) (hy : y.cls ≠ "java/lang/invoke/MethodHandle" ∧ y.cls ≠ "java/lang/invoke/VarHandle")
    {W : Nat} {Pre : Pt → Array Value → Prop} {Post : Pt → Array Value → Option Value → Pt → Prop} {PostX : Pt → Array Value → Addr → Pt → Prop} (hK : vx_Back l R p e below s args y 3 W Pre Post PostX)
    {g : JFrame} (hg : g.method = m) (hsize : g.locals.size = c.maxLocals) {argsL rest : List Value} (hlen : ∀ sig, parseMethodDescriptor y.desc = some sig → argsL.length = sig.parameters.length)
    (hstack : g.stack = argsL.reverse ++ rest) (hW : 2 * g.monitorRoom + (rest.map fun v => v.category).sum ≤ W) (hdg : decode c.code g.pc = .ok (.invokestatic index, 3))
    (hpre : ∀ vm₁, s.WarmedH vm₁ → Pre ⟨T.setVm vm₁, locs, cells, slots⟩ argsL.toArray) :
    (∃ (v : Option Value) (vm₁ : Vm) (B : Pt), s.WarmedH vm₁ ∧ Stand p l e R s m args below meth c B.U B.locs B.cells B.slots ∧ Post ⟨T.setVm vm₁, locs, cells, slots⟩ argsL.toArray v B ∧
      ∀ target, Steps p.tables e below (B.U.setTop { g with pc := g.pc + 3, stack := v.toList ++ rest }) target → Steps p.tables e below (T.setTop g) target) ∨
    (∃ (q : Addr) (vm₁ : Vm) (B : Pt), s.WarmedH vm₁ ∧ Stand p l e R s m args below meth c B.U B.locs B.cells B.slots ∧ PostX ⟨T.setVm vm₁, locs, cells, slots⟩ argsL.toArray q B ∧
      Steps p.tables e below (T.setTop g) ((B.U.setTop { g with stack := rest }).pushFrame (.throwing q))) := by
  obtain ⟨mk, hnamed⟩ := Cond.code_named hcode
  obtain ⟨methM, cM, hmethM, -, -, -, -, -, -, hsigM⟩ := Cond.code_spec hnamed hcode
  have hstatic : methM.isStatic = true := Cond.static_spec hnamed hmethM hstat
  obtain ⟨kP, hkP, -⟩ := className_of_methodNamed hnamed
  have hinitP : kP.init = .initialized := Cond.initialized_spec (findClass_of_methodNamed hnamed) hkP hinit
  obtain ⟨vm₁, X₁, hstep₁⟩ := X.invokestaticNest hexec hown hlink hnamed hmethM hstatic hkP hinitP hy (g := g) hg (argsL := argsL) (rest := rest) (hlen _ hsigM) hstack hdg
  rcases hK m meth c ⟨T.setVm vm₁, locs, cells, slots⟩ { g with stack := rest } (.invokestatic index) mk argsL.toArray X₁ hg hsize hdg hW (X₁.named hnamed) (hpre vm₁ X₁.warmed) with ⟨v, B, X', hpost, hsteps⟩ | ⟨q, B, X', hpost, hsteps⟩
  · exact Or.inl ⟨v, vm₁, B, X₁.warmed, X', hpost, fun target h => hstep₁ _ fun acts => by rw [doInvoke_state]; exact hsteps.trans h⟩
  · exact Or.inr ⟨q, vm₁, B, X₁.warmed, X', hpost, hstep₁ _ fun acts => by rw [doInvoke_state]; exact hsteps⟩
theorem vx_runVN {y : MethodName} {bytes cc : ByteArray} {maxL nL mc ms n index : Nat} {ret : Option FieldType} {ws : List Cond} {rm : Room} {Pc : Array Value → State → Prop} {Qc : Array Value → State → Outcome → State → Prop} {XC : String → State → State → Prop} {free : Addr → Prop} {Ts : List Cond} {own C host : String} {b : Addr} {As rest : List Value} {g : JFrame}
    (S : CallFix p m c cc nL s args Ts own) (hM : vx_Met l y ws rm Pc Qc XC mc ms free) (cw : va_CN R s args own index y host bytes maxL ret ws rm mc ms n ∧ (Cond.instanceMethod y).before args s = true ∧ (Cond.selects C y y).before args s = true) (hp : PreV s H C b Pc As)
    (hg : g.method = m) (hn : As.length = n) (hsize : g.locals.size = nL) (hstack : g.stack = As.reverse ++ .ref b :: rest) (hW : 2 * g.monitorRoom + (rest.map fun v => v.category).sum ≤ 8) (hdg : decode cc g.pc = .ok (.invokevirtual index, 3)) (hf : cells + mc ≤ R.cells ∧ slots + ms ≤ R.slots) :
    vx_Run p l e R s m args below meth c H locs cells slots mc ms g rest (Qc (Value.ref b :: As).toArray) XC free := by
  obtain ⟨⟨⟨hrc, hrs, hfr, hlo, hws, hcw⟩, hcode, hini, hy, hlen, hl⟩, hx1, hx2⟩ := cw
  have hK : vx_Back l R p e below s args y 3 8 (PreOf R mc ms Pc) (PostOf Qc mc ms free) (vx_Post XC mc ms free) := vx_back (bytes := bytes) (maxL := maxL) (ret := ret) hM hp.1 hrc hrs hfr hlo hws hcw (fun a' U hW => word_at hW (Or.inl (by first | rfl | simp [Cond.onTables, Cond.keeps, Cond.steady])) hini)
  obtain ⟨hx, hb, hml, ho, -⟩ := S
  obtain ⟨-, ⟨cellB, hcB, hoB, hclB⟩, hPc⟩ := hp
  intro T hT X
  rcases vx_callVN X hx (C := C) (bytes := bytes) (maxL := maxL) (ret := ret) ho hl hx1 hx2 hcode hy hK (by rw [hT]; exact hcB) hoB hclB hg (hsize.trans hml.symm) (argsL := As) (rest := rest) (fun sig h => hn.trans (hlen sig h)) hstack hW (by rw [hb]; exact hdg)
    (fun vm₁ hW₁ => ⟨hf.1, hf.2, hPc (T.setVm vm₁) hT hW₁⟩) with ⟨v, vm₁, ⟨U', l2, c2, s2⟩, hW₁, X', ⟨g', mk, t, L, e1, e2, hq, h1, hL, h2, h3⟩, st⟩ | ⟨q, vm₁, ⟨U', l2, c2, s2⟩, hW₁, X', ⟨g', mk, t, L, E, ce, e1, e2, hq, hce, hcv, hcl, h1, hL, h2, h3⟩, st⟩
  · dsimp only [Pt.U, Pt.locs, Pt.cells, Pt.slots] at X' e1 e2 h1 h2 h3 st
    subst h1; subst h2; subst h3
    exact Or.inl ⟨v, (T.setVm vm₁).calling g' mk (Value.ref b :: As).toArray, t, U', L, hT, X', hL, e1, e2, hq, st⟩
  · dsimp only [Pt.U, Pt.locs, Pt.cells, Pt.slots] at X' e1 e2 h1 h2 h3 st hcl
    subst h1; subst h2; subst h3
    exact Or.inr ⟨q, (T.setVm vm₁).calling g' mk (Value.ref b :: As).toArray, t, U', L, E, ce, hT, X', hL, e1, e2, hq, hce, hcv, vx_cls hW₁ hcl, st⟩
theorem vx_runSN {y : MethodName} {bytes cc : ByteArray} {maxL nL mc ms n index : Nat} {ret : Option FieldType} {ws : List Cond} {rm : Room} {Pc : Array Value → State → Prop} {Qc : Array Value → State → Outcome → State → Prop} {XC : String → State → State → Prop} {free : Addr → Prop} {Ts : List Cond} {own host : String} {As rest : List Value} {g : JFrame}
    (S : CallFix p m c cc nL s args Ts own) (hM : vx_Met l y ws rm Pc Qc XC mc ms free) (cw : va_CN R s args own index y host bytes maxL ret ws rm mc ms n ∧ (Cond.static y).before args s = true ∧ True) (hp : PreS s H Pc As)
    (hg : g.method = m) (hn : As.length = n) (hsize : g.locals.size = nL) (hstack : g.stack = As.reverse ++ rest) (hW : 2 * g.monitorRoom + (rest.map fun v => v.category).sum ≤ 8) (hdg : decode cc g.pc = .ok (.invokestatic index, 3)) (hf : cells + mc ≤ R.cells ∧ slots + ms ≤ R.slots) :
    vx_Run p l e R s m args below meth c H locs cells slots mc ms g rest (Qc As.toArray) XC free := by
  obtain ⟨⟨⟨hrc, hrs, hfr, hlo, hws, hcw⟩, hcode, hini, hy, hlen, hl⟩, hx1, hx2⟩ := cw
  have hK : vx_Back l R p e below s args y 3 8 (PreOf R mc ms Pc) (PostOf Qc mc ms free) (vx_Post XC mc ms free) := vx_back (bytes := bytes) (maxL := maxL) (ret := ret) hM hp.1 hrc hrs hfr hlo hws hcw (fun a' U hW => word_at hW (Or.inl (by first | rfl | simp [Cond.onTables, Cond.keeps, Cond.steady])) hini)
  obtain ⟨hx, hb, hml, ho, -⟩ := S
  have hPc := hp.2
  intro T hT X
  rcases vx_callSN X hx (bytes := bytes) (maxL := maxL) (ret := ret) ho hl hx1 hini hcode hy hK hg (hsize.trans hml.symm) (argsL := As) (rest := rest) (fun sig h => hn.trans (hlen sig h)) hstack hW (by rw [hb]; exact hdg)
    (fun vm₁ hW₁ => ⟨hf.1, hf.2, hPc (T.setVm vm₁) hT hW₁⟩) with ⟨v, vm₁, ⟨U', l2, c2, s2⟩, hW₁, X', ⟨g', mk, t, L, e1, e2, hq, h1, hL, h2, h3⟩, st⟩ | ⟨q, vm₁, ⟨U', l2, c2, s2⟩, hW₁, X', ⟨g', mk, t, L, E, ce, e1, e2, hq, hce, hcv, hcl, h1, hL, h2, h3⟩, st⟩
  · dsimp only [Pt.U, Pt.locs, Pt.cells, Pt.slots] at X' e1 e2 h1 h2 h3 st
    subst h1; subst h2; subst h3
    exact Or.inl ⟨v, (T.setVm vm₁).calling g' mk As.toArray, t, U', L, hT, X', hL, e1, e2, hq, st⟩
  · dsimp only [Pt.U, Pt.locs, Pt.cells, Pt.slots] at X' e1 e2 h1 h2 h3 st hcl
    subst h1; subst h2; subst h3
    exact Or.inr ⟨q, (T.setVm vm₁).calling g' mk As.toArray, t, U', L, E, ce, hT, X', hL, e1, e2, hq, hce, hcv, vx_cls hW₁ hcl, st⟩
end
/-! ===== END ===== -/
end
section
def RX0 : String := "MatchboxModem$Commands"
def TX0 : u_T := fun k => match k with
  | 0 => ("MatchboxModem$Commands", "count", "I", false)
  | 1 => ("MatchboxModem$Commands", "names", "[I", true)
  | 2 => ("MatchboxModem$Commands", "first", "[I", true)
  | 3 => ("MatchboxModem$Commands", "second", "[I", true)
  | _ => ("MatchboxModem$Commands", "third", "[I", true)
def tyX0 : Nat → FieldType := fun k => match k with
  | 0 => .int
  | 1 => .array (.int)
  | 2 => .array (.int)
  | 3 => .array (.int)
  | _ => .array (.int)
def RX1 : String := "MatchboxModem$Counters"
def TX1 : u_T := fun k => match k with
  | 0 => ("MatchboxModem$Counters", "attempted", "I", false)
  | 1 => ("MatchboxModem$Counters", "unreadable", "I", false)
  | 2 => ("MatchboxModem$Counters", "ignored", "I", false)
  | 3 => ("MatchboxModem$Counters", "arrivals", "I", false)
  | 4 => ("MatchboxModem$Counters", "unheard", "I", false)
  | 5 => ("MatchboxModem$Counters", "bits", "I", false)
  | 6 => ("MatchboxModem$Counters", "beeped", "I", false)
  | 7 => ("MatchboxModem$Counters", "napped", "I", false)
  | _ => ("MatchboxModem$Counters", "waited", "I", false)
def tyX1 : Nat → FieldType := fun k => match k with
  | 0 => .int
  | 1 => .int
  | 2 => .int
  | 3 => .int
  | 4 => .int
  | 5 => .int
  | 6 => .int
  | 7 => .int
  | _ => .int
def RX2 : String := "MatchboxModem$Dogs"
def TX2 : u_T := fun k => match k with
  | 0 => ("MatchboxModem$Dogs", "count", "I", false)
  | 1 => ("MatchboxModem$Dogs", "periods", "[I", true)
  | 2 => ("MatchboxModem$Dogs", "lengths", "[I", true)
  | _ => ("MatchboxModem$Dogs", "offsets", "[I", true)
def tyX2 : Nat → FieldType := fun k => match k with
  | 0 => .int
  | 1 => .array (.int)
  | 2 => .array (.int)
  | _ => .array (.int)
def RX3 : String := "MatchboxModem$Frames"
def TX3 : u_T := fun k => match k with
  | 0 => ("MatchboxModem$Frames", "count", "I", false)
  | 1 => ("MatchboxModem$Frames", "sizes", "[I", true)
  | 2 => ("MatchboxModem$Frames", "states", "[I", true)
  | 3 => ("MatchboxModem$Frames", "tries", "[I", true)
  | 4 => ("MatchboxModem$Frames", "arrivals", "[I", true)
  | 5 => ("MatchboxModem$Frames", "sent", "[I", true)
  | _ => ("MatchboxModem$Frames", "arrived", "[I", true)
def tyX3 : Nat → FieldType := fun k => match k with
  | 0 => .int
  | 1 => .array (.int)
  | 2 => .array (.int)
  | 3 => .array (.int)
  | 4 => .array (.int)
  | 5 => .array (.int)
  | _ => .array (.int)
def RX4 : String := "MatchboxModem$History"
def TX4 : u_T := fun k => match k with
  | 0 => ("MatchboxModem$History", "count", "I", false)
  | 1 => ("MatchboxModem$History", "next", "I", false)
  | _ => ("MatchboxModem$History", "before", "[LMatchboxModem$Line;", true)
def tyX4 : Nat → FieldType := fun k => match k with
  | 0 => .int
  | 1 => .int
  | _ => .array (.object "MatchboxModem$Line")
def RX5 : String := "MatchboxModem$Line"
def TX5 : u_T := fun k => match k with
  | 0 => ("MatchboxModem$Line", "bitTicks", "I", false)
  | 1 => ("MatchboxModem$Line", "slowness", "I", false)
  | 2 => ("MatchboxModem$Line", "napBase", "I", false)
  | 3 => ("MatchboxModem$Line", "attemptLimit", "I", false)
  | 4 => ("MatchboxModem$Line", "now", "I", false)
  | 5 => ("MatchboxModem$Line", "awakeAt", "I", false)
  | 6 => ("MatchboxModem$Line", "lastSequence", "I", false)
  | 7 => ("MatchboxModem$Line", "messages", "I", false)
  | 8 => ("MatchboxModem$Line", "messageBytes", "[I", true)
  | 9 => ("MatchboxModem$Line", "firstFrames", "[I", true)
  | 10 => ("MatchboxModem$Line", "dogs", "LMatchboxModem$Dogs;", true)
  | 11 => ("MatchboxModem$Line", "frames", "LMatchboxModem$Frames;", true)
  | _ => ("MatchboxModem$Line", "counters", "LMatchboxModem$Counters;", true)
def tyX5 : Nat → FieldType := fun k => match k with
  | 0 => .int
  | 1 => .int
  | 2 => .int
  | 3 => .int
  | 4 => .int
  | 5 => .int
  | 6 => .int
  | 7 => .int
  | 8 => .array (.int)
  | 9 => .array (.int)
  | 10 => .object "MatchboxModem$Dogs"
  | 11 => .object "MatchboxModem$Frames"
  | _ => .object "MatchboxModem$Counters"
def RX6 : String := "MatchboxModem$Sending"
def TX6 : u_T := fun k => match k with
  | 0 => ("MatchboxModem$Sending", "cable", "[I", true)
  | 1 => ("MatchboxModem$Sending", "taken", "[I", true)
  | 2 => ("MatchboxModem$Sending", "bits", "I", false)
  | 3 => ("MatchboxModem$Sending", "inverted", "I", false)
  | _ => ("MatchboxModem$Sending", "burst", "I", false)
def tyX6 : Nat → FieldType := fun k => match k with
  | 0 => .array (.int)
  | 1 => .array (.int)
  | 2 => .int
  | 3 => .int
  | _ => .int
def RX7 : String := "MatchboxModem$Text"
def TX7 : u_T := fun k => match k with
  | 0 => ("MatchboxModem$Text", "bytes", "[I", true)
  | _ => ("MatchboxModem$Text", "length", "I", false)
def tyX7 : Nat → FieldType := fun k => match k with
  | 0 => .array (.int)
  | _ => .int
def RX8 : String := "MatchboxModem$Tokens"
def TX8 : u_T := fun k => match k with
  | 0 => ("MatchboxModem$Tokens", "text", "LMatchboxModem$Text;", true)
  | 1 => ("MatchboxModem$Tokens", "kind", "I", false)
  | 2 => ("MatchboxModem$Tokens", "start", "I", false)
  | 3 => ("MatchboxModem$Tokens", "end", "I", false)
  | 4 => ("MatchboxModem$Tokens", "failure", "I", false)
  | 5 => ("MatchboxModem$Tokens", "failedAt", "I", false)
  | 6 => ("MatchboxModem$Tokens", "period", "I", false)
  | 7 => ("MatchboxModem$Tokens", "length", "I", false)
  | _ => ("MatchboxModem$Tokens", "offset", "I", false)
def tyX8 : Nat → FieldType := fun k => match k with
  | 0 => .object "MatchboxModem$Text"
  | 1 => .int
  | 2 => .int
  | 3 => .int
  | 4 => .int
  | 5 => .int
  | 6 => .int
  | 7 => .int
  | _ => .int
def RX9 : String := "MatchboxModem"
def TX9 : u_T := fun k => match k with
  | 0 => ("MatchboxModem", "input", "LMatchboxModem$Text;", true)
  | 1 => ("MatchboxModem", "output", "LMatchboxModem$Text;", true)
  | 2 => ("MatchboxModem", "tokens", "LMatchboxModem$Tokens;", true)
  | 3 => ("MatchboxModem", "commands", "LMatchboxModem$Commands;", true)
  | 4 => ("MatchboxModem", "sending", "LMatchboxModem$Sending;", true)
  | 5 => ("MatchboxModem", "history", "LMatchboxModem$History;", true)
  | 6 => ("MatchboxModem", "line", "LMatchboxModem$Line;", true)
  | 7 => ("MatchboxModem", "saved", "LMatchboxModem$Line;", true)
  | 8 => ("MatchboxModem", "scratch", "LMatchboxModem$Line;", true)
  | _ => ("MatchboxModem", "hasSaved", "Z", false)
def tyX9 : Nat → FieldType := fun k => match k with
  | 0 => .object "MatchboxModem$Text"
  | 1 => .object "MatchboxModem$Text"
  | 2 => .object "MatchboxModem$Tokens"
  | 3 => .object "MatchboxModem$Commands"
  | 4 => .object "MatchboxModem$Sending"
  | 5 => .object "MatchboxModem$History"
  | 6 => .object "MatchboxModem$Line"
  | 7 => .object "MatchboxModem$Line"
  | 8 => .object "MatchboxModem$Line"
  | _ => .boolean
def RX10 : String := "MatchboxModemModel"
def TX10 : u_T := fun k => match k with
  | 0 => ("MatchboxModemModel", "s", "[I", true)
  | 1 => ("MatchboxModemModel", "saved", "[I", true)
  | 2 => ("MatchboxModemModel", "held", "[I", true)
  | 3 => ("MatchboxModemModel", "aside", "[I", true)
  | 4 => ("MatchboxModemModel", "past", "[I", true)
  | 5 => ("MatchboxModemModel", "pastMany", "I", false)
  | 6 => ("MatchboxModemModel", "thrown", "I", false)
  | 7 => ("MatchboxModemModel", "isSaved", "Z", false)
  | 8 => ("MatchboxModemModel", "letters", "[I", true)
  | 9 => ("MatchboxModemModel", "got", "[I", true)
  | 10 => ("MatchboxModemModel", "answer", "I", false)
  | 11 => ("MatchboxModemModel", "buffer", "[I", true)
  | 12 => ("MatchboxModemModel", "length", "I", false)
  | 13 => ("MatchboxModemModel", "at", "I", false)
  | 14 => ("MatchboxModemModel", "begin", "I", false)
  | 15 => ("MatchboxModemModel", "wordLong", "I", false)
  | 16 => ("MatchboxModemModel", "error", "I", false)
  | 17 => ("MatchboxModemModel", "errorAt", "I", false)
  | 18 => ("MatchboxModemModel", "toldError", "I", false)
  | 19 => ("MatchboxModemModel", "toldAt", "I", false)
  | 20 => ("MatchboxModemModel", "told", "[I", true)
  | 21 => ("MatchboxModemModel", "toldMany", "I", false)
  | 22 => ("MatchboxModemModel", "output", "[I", true)
  | _ => ("MatchboxModemModel", "outputLong", "I", false)
def tyX10 : Nat → FieldType := fun k => match k with
  | 0 => .array (.int)
  | 1 => .array (.int)
  | 2 => .array (.int)
  | 3 => .array (.int)
  | 4 => .array (.int)
  | 5 => .int
  | 6 => .int
  | 7 => .boolean
  | 8 => .array (.int)
  | 9 => .array (.int)
  | 10 => .int
  | 11 => .array (.int)
  | 12 => .int
  | 13 => .int
  | 14 => .int
  | 15 => .int
  | 16 => .int
  | 17 => .int
  | 18 => .int
  | 19 => .int
  | 20 => .array (.int)
  | 21 => .int
  | 22 => .array (.int)
  | _ => .int
def RL : String := "MatchboxModemLaw"
abbrev vwCl : List vw_C := [(RX0, TX0, 5), (RX1, TX1, 9), (RX2, TX2, 4), (RX3, TX3, 7), (RX4, TX4, 3), (RX5, TX5, 13), (RX6, TX6, 5), (RX7, TX7, 2), (RX8, TX8, 9), (RX9, TX9, 10), (RX10, TX10, 24)]
abbrev cX0_init : ByteArray := prog_2_method_1_code
def yX0_init : MethodName := ⟨RX0, "<init>", "()V"⟩
abbrev cX0_read : ByteArray := prog_2_method_2_code
def yX0_read : MethodName := ⟨RX0, "read", "(LMatchboxModem$Tokens;)Z"⟩
abbrev cX0_readOne : ByteArray := prog_2_method_3_code
def yX0_readOne : MethodName := ⟨RX0, "readOne", "(LMatchboxModem$Tokens;)Z"⟩
abbrev cX0_nameIn : ByteArray := prog_2_method_4_code
def yX0_nameIn : MethodName := ⟨RX0, "nameIn", "(LMatchboxModem$Tokens;)I"⟩
abbrev cX0_readArguments : ByteArray := prog_2_method_5_code
def yX0_readArguments : MethodName := ⟨RX0, "readArguments", "(LMatchboxModem$Tokens;I)Z"⟩
abbrev cX0_readWord : ByteArray := prog_2_method_6_code
def yX0_readWord : MethodName := ⟨RX0, "readWord", "(LMatchboxModem$Tokens;)Z"⟩
abbrev cX0_readNumber : ByteArray := prog_2_method_7_code
def yX0_readNumber : MethodName := ⟨RX0, "readNumber", "(LMatchboxModem$Tokens;II)Z"⟩
abbrev cX0_setArguments : ByteArray := prog_2_method_8_code
def yX0_setArguments : MethodName := ⟨RX0, "setArguments", "(III)Z"⟩
abbrev cX0_run : ByteArray := prog_2_method_9_code
def yX0_run : MethodName := ⟨RX0, "run", "(ILMatchboxModem$Line;LMatchboxModem$Text;LMatchboxModem$Sending;)Z"⟩
abbrev cX1_init : ByteArray := prog_3_method_1_code
def yX1_init : MethodName := ⟨RX1, "<init>", "()V"⟩
abbrev cX1_clear : ByteArray := prog_3_method_2_code
def yX1_clear : MethodName := ⟨RX1, "clear", "()V"⟩
abbrev cX1_copyFrom : ByteArray := prog_3_method_3_code
def yX1_copyFrom : MethodName := ⟨RX1, "copyFrom", "(LMatchboxModem$Counters;)V"⟩
abbrev cX2_init : ByteArray := prog_4_method_1_code
def yX2_init : MethodName := ⟨RX2, "<init>", "()V"⟩
abbrev cX2_copyFrom : ByteArray := prog_4_method_2_code
def yX2_copyFrom : MethodName := ⟨RX2, "copyFrom", "(LMatchboxModem$Dogs;)V"⟩
abbrev cX2_add : ByteArray := prog_4_method_3_code
def yX2_add : MethodName := ⟨RX2, "add", "(III)Z"⟩
abbrev cX2_remove : ByteArray := prog_4_method_4_code
def yX2_remove : MethodName := ⟨RX2, "remove", "(I)Z"⟩
abbrev cX2_chewIn : ByteArray := prog_4_method_5_code
def yX2_chewIn : MethodName := ⟨RX2, "chewIn", "(I)Z"⟩
abbrev cX3_init : ByteArray := prog_5_method_1_code
def yX3_init : MethodName := ⟨RX3, "<init>", "()V"⟩
abbrev cX3_copyFrom : ByteArray := prog_5_method_2_code
def yX3_copyFrom : MethodName := ⟨RX3, "copyFrom", "(LMatchboxModem$Frames;)V"⟩
abbrev cX3_add : ByteArray := prog_5_method_3_code
def yX3_add : MethodName := ⟨RX3, "add", "([III)V"⟩
abbrev cX3_bitsOf : ByteArray := prog_5_method_4_code
def yX3_bitsOf : MethodName := ⟨RX3, "bitsOf", "(I)I"⟩
abbrev cX3_bitOf : ByteArray := prog_5_method_5_code
def yX3_bitOf : MethodName := ⟨RX3, "bitOf", "(II)I"⟩
abbrev cX3_firstQueued : ByteArray := prog_5_method_6_code
def yX3_firstQueued : MethodName := ⟨RX3, "firstQueued", "()I"⟩
abbrev cX3_arrive : ByteArray := prog_5_method_7_code
def yX3_arrive : MethodName := ⟨RX3, "arrive", "(I[I)V"⟩
abbrev cX3_arrivedAsSent : ByteArray := prog_5_method_8_code
def yX3_arrivedAsSent : MethodName := ⟨RX3, "arrivedAsSent", "(I)Z"⟩
abbrev cX3_triesOfAll : ByteArray := prog_5_method_9_code
def yX3_triesOfAll : MethodName := ⟨RX3, "triesOfAll", "()I"⟩
abbrev cX3_acknowledgedUntried : ByteArray := prog_5_method_10_code
def yX3_acknowledgedUntried : MethodName := ⟨RX3, "acknowledgedUntried", "()I"⟩
abbrev cX3_acknowledgedBytes : ByteArray := prog_5_method_11_code
def yX3_acknowledgedBytes : MethodName := ⟨RX3, "acknowledgedBytes", "()I"⟩
abbrev cX4_init : ByteArray := prog_6_method_1_code
def yX4_init : MethodName := ⟨RX4, "<init>", "()V"⟩
abbrev cX4_keep : ByteArray := prog_6_method_2_code
def yX4_keep : MethodName := ⟨RX4, "keep", "(LMatchboxModem$Line;)V"⟩
abbrev cX4_takeBack : ByteArray := prog_6_method_3_code
def yX4_takeBack : MethodName := ⟨RX4, "takeBack", "(LMatchboxModem$Line;)V"⟩
abbrev cX4_forget : ByteArray := prog_6_method_4_code
def yX4_forget : MethodName := ⟨RX4, "forget", "()V"⟩
abbrev cX5_init : ByteArray := prog_7_method_1_code
def yX5_init : MethodName := ⟨RX5, "<init>", "()V"⟩
abbrev cX5_configure : ByteArray := prog_7_method_2_code
def yX5_configure : MethodName := ⟨RX5, "configure", "(IIII)V"⟩
abbrev cX5_copyFrom : ByteArray := prog_7_method_3_code
def yX5_copyFrom : MethodName := ⟨RX5, "copyFrom", "(LMatchboxModem$Line;)V"⟩
abbrev cX5_readConfiguration : ByteArray := prog_7_method_4_code
def yX5_readConfiguration : MethodName := ⟨RX5, "readConfiguration", "(LMatchboxModem$Tokens;)Z"⟩
abbrev cX5_readModem : ByteArray := prog_7_method_5_code
def yX5_readModem : MethodName := ⟨RX5, "readModem", "(LMatchboxModem$Tokens;)Z"⟩
abbrev cX5_readDogs : ByteArray := prog_7_method_6_code
def yX5_readDogs : MethodName := ⟨RX5, "readDogs", "(LMatchboxModem$Tokens;)Z"⟩
abbrev cX5_hasMessage : ByteArray := prog_7_method_7_code
def yX5_hasMessage : MethodName := ⟨RX5, "hasMessage", "(I)Z"⟩
abbrev cX5_hasRoomForMessage : ByteArray := prog_7_method_8_code
def yX5_hasRoomForMessage : MethodName := ⟨RX5, "hasRoomForMessage", "()Z"⟩
abbrev cX5_addMessage : ByteArray := prog_7_method_9_code
def yX5_addMessage : MethodName := ⟨RX5, "addMessage", "([III)I"⟩
abbrev cX5_endOf : ByteArray := prog_7_method_10_code
def yX5_endOf : MethodName := ⟨RX5, "endOf", "(I)I"⟩
abbrev cX5_stateOfMessage : ByteArray := prog_7_method_11_code
def yX5_stateOfMessage : MethodName := ⟨RX5, "stateOfMessage", "(I)I"⟩
abbrev cX5_mayGiveUp : ByteArray := prog_7_method_12_code
def yX5_mayGiveUp : MethodName := ⟨RX5, "mayGiveUp", "(I)Z"⟩
abbrev cX5_giveUp : ByteArray := prog_7_method_13_code
def yX5_giveUp : MethodName := ⟨RX5, "giveUp", "(I)I"⟩
abbrev cX5_maySendAgain : ByteArray := prog_7_method_14_code
def yX5_maySendAgain : MethodName := ⟨RX5, "maySendAgain", "(I)Z"⟩
abbrev cX5_sendAgain : ByteArray := prog_7_method_15_code
def yX5_sendAgain : MethodName := ⟨RX5, "sendAgain", "(I)I"⟩
abbrev cX5_mayWait : ByteArray := prog_7_method_16_code
def yX5_mayWait : MethodName := ⟨RX5, "mayWait", "(I)Z"⟩
abbrev cX5_letPass : ByteArray := prog_7_method_17_code
def yX5_letPass : MethodName := ⟨RX5, "letPass", "(I)Z"⟩
abbrev cX5_mayAttempt : ByteArray := prog_7_method_18_code
def yX5_mayAttempt : MethodName := ⟨RX5, "mayAttempt", "()Z"⟩
abbrev cX5_makeAttempts : ByteArray := prog_7_method_19_code
def yX5_makeAttempts : MethodName := ⟨RX5, "makeAttempts", "(ILMatchboxModem$Sending;)I"⟩
abbrev cX5_attempt : ByteArray := prog_7_method_20_code
def yX5_attempt : MethodName := ⟨RX5, "attempt", "(ILMatchboxModem$Sending;)V"⟩
abbrev cX5_endNap : ByteArray := prog_7_method_21_code
def yX5_endNap : MethodName := ⟨RX5, "endNap", "()V"⟩
abbrev cX5_receive : ByteArray := prog_7_method_22_code
def yX5_receive : MethodName := ⟨RX5, "receive", "(II[I)V"⟩
abbrev cX5_settle : ByteArray := prog_7_method_23_code
def yX5_settle : MethodName := ⟨RX5, "settle", "(II)V"⟩
abbrev cX6_init : ByteArray := prog_8_method_1_code
def yX6_init : MethodName := ⟨RX6, "<init>", "()V"⟩
abbrev cX6_putOnCable : ByteArray := prog_8_method_2_code
def yX6_putOnCable : MethodName := ⟨RX6, "putOnCable", "(LMatchboxModem$Line;III)V"⟩
abbrev cX6_takenBit : ByteArray := prog_8_method_3_code
def yX6_takenBit : MethodName := ⟨RX6, "takenBit", "(II)I"⟩
abbrev cX6_take : ByteArray := prog_8_method_4_code
def yX6_take : MethodName := ⟨RX6, "take", "(I)V"⟩
abbrev cX6_takeInverted : ByteArray := prog_8_method_5_code
def yX6_takeInverted : MethodName := ⟨RX6, "takeInverted", "(LMatchboxModem$Frames;IIII)V"⟩
abbrev cX6_readable : ByteArray := prog_8_method_6_code
def yX6_readable : MethodName := ⟨RX6, "readable", "()Z"⟩
abbrev cX6_send : ByteArray := prog_8_method_7_code
def yX6_send : MethodName := ⟨RX6, "send", "(LMatchboxModem$Line;III)I"⟩
abbrev cX7_init : ByteArray := prog_9_method_1_code
def yX7_init : MethodName := ⟨RX7, "<init>", "(I)V"⟩
abbrev cX7_at : ByteArray := prog_9_method_2_code
def yX7_at : MethodName := ⟨RX7, "at", "(I)I"⟩
abbrev cX7_put : ByteArray := prog_9_method_3_code
def yX7_put : MethodName := ⟨RX7, "put", "(I)V"⟩
abbrev cX7_putFour : ByteArray := prog_9_method_4_code
def yX7_putFour : MethodName := ⟨RX7, "putFour", "(I)V"⟩
abbrev cX8_init : ByteArray := prog_10_method_1_code
def yX8_init : MethodName := ⟨RX8, "<init>", "(LMatchboxModem$Text;)V"⟩
abbrev cX8_begin : ByteArray := prog_10_method_2_code
def yX8_begin : MethodName := ⟨RX8, "begin", "()V"⟩
abbrev cX8_fail : ByteArray := prog_10_method_3_code
def yX8_fail : MethodName := ⟨RX8, "fail", "(I)Z"⟩
abbrev cX8_next : ByteArray := prog_10_method_4_code
def yX8_next : MethodName := ⟨RX8, "next", "()V"⟩
abbrev cX8_kindOf : ByteArray := prog_10_method_5_code
def yX8_kindOf : MethodName := ⟨RX8, "kindOf", "(I)I"⟩
abbrev cX8_spells : ByteArray := prog_10_method_6_code
def yX8_spells : MethodName := ⟨RX8, "spells", "(Ljava/lang/String;)Z"⟩
abbrev cX8_number : ByteArray := prog_10_method_7_code
def yX8_number : MethodName := ⟨RX8, "number", "(II)I"⟩
abbrev cX8_semicolon : ByteArray := prog_10_method_8_code
def yX8_semicolon : MethodName := ⟨RX8, "semicolon", "()Z"⟩
abbrev cX8_dog : ByteArray := prog_10_method_9_code
def yX8_dog : MethodName := ⟨RX8, "dog", "()Z"⟩
abbrev cX9_init : ByteArray := prog_1_method_1_code
def yX9_init : MethodName := ⟨RX9, "<init>", "()V"⟩
abbrev cX9_append : ByteArray := prog_1_method_2_code
def yX9_append : MethodName := ⟨RX9, "append", "(IIIII)I"⟩
abbrev cX9_truncate : ByteArray := prog_1_method_3_code
def yX9_truncate : MethodName := ⟨RX9, "truncate", "(I)I"⟩
abbrev cX9_load : ByteArray := prog_1_method_4_code
def yX9_load : MethodName := ⟨RX9, "load", "()I"⟩
abbrev cX9_executeCommands : ByteArray := prog_1_method_5_code
def yX9_executeCommands : MethodName := ⟨RX9, "executeCommands", "()I"⟩
abbrev cX9_errorCode : ByteArray := prog_1_method_6_code
def yX9_errorCode : MethodName := ⟨RX9, "errorCode", "()I"⟩
abbrev cX9_errorPosition : ByteArray := prog_1_method_7_code
def yX9_errorPosition : MethodName := ⟨RX9, "errorPosition", "()I"⟩
abbrev cX9_clock : ByteArray := prog_1_method_8_code
def yX9_clock : MethodName := ⟨RX9, "clock", "()I"⟩
abbrev cX9_bitTime : ByteArray := prog_1_method_9_code
def yX9_bitTime : MethodName := ⟨RX9, "bitTime", "()I"⟩
abbrev cX9_drift : ByteArray := prog_1_method_10_code
def yX9_drift : MethodName := ⟨RX9, "drift", "()I"⟩
abbrev cX9_dogCount : ByteArray := prog_1_method_11_code
def yX9_dogCount : MethodName := ⟨RX9, "dogCount", "()I"⟩
abbrev cX9_isChewed : ByteArray := prog_1_method_12_code
def yX9_isChewed : MethodName := ⟨RX9, "isChewed", "(I)Z"⟩
abbrev cX9_nextChewedTick : ByteArray := prog_1_method_13_code
def yX9_nextChewedTick : MethodName := ⟨RX9, "nextChewedTick", "(I)I"⟩
abbrev cX9_nextQuietTick : ByteArray := prog_1_method_14_code
def yX9_nextQuietTick : MethodName := ⟨RX9, "nextQuietTick", "(I)I"⟩
abbrev cX9_checksum : ByteArray := prog_1_method_15_code
def yX9_checksum : MethodName := ⟨RX9, "checksum", "()I"⟩
abbrev cX9_messageCount : ByteArray := prog_1_method_16_code
def yX9_messageCount : MethodName := ⟨RX9, "messageCount", "()I"⟩
abbrev cX9_messageLength : ByteArray := prog_1_method_17_code
def yX9_messageLength : MethodName := ⟨RX9, "messageLength", "(I)I"⟩
abbrev cX9_messageState : ByteArray := prog_1_method_18_code
def yX9_messageState : MethodName := ⟨RX9, "messageState", "(I)I"⟩
abbrev cX9_firstFrame : ByteArray := prog_1_method_19_code
def yX9_firstFrame : MethodName := ⟨RX9, "firstFrame", "(I)I"⟩
abbrev cX9_frameCount : ByteArray := prog_1_method_20_code
def yX9_frameCount : MethodName := ⟨RX9, "frameCount", "()I"⟩
abbrev cX9_frameLength : ByteArray := prog_1_method_21_code
def yX9_frameLength : MethodName := ⟨RX9, "frameLength", "(I)I"⟩
abbrev cX9_frameByte : ByteArray := prog_1_method_22_code
def yX9_frameByte : MethodName := ⟨RX9, "frameByte", "(II)I"⟩
abbrev cX9_frameBit : ByteArray := prog_1_method_23_code
def yX9_frameBit : MethodName := ⟨RX9, "frameBit", "(II)I"⟩
abbrev cX9_frameState : ByteArray := prog_1_method_24_code
def yX9_frameState : MethodName := ⟨RX9, "frameState", "(I)I"⟩
abbrev cX9_attemptsOf : ByteArray := prog_1_method_25_code
def yX9_attemptsOf : MethodName := ⟨RX9, "attemptsOf", "(I)I"⟩
abbrev cX9_hasArrived : ByteArray := prog_1_method_26_code
def yX9_hasArrived : MethodName := ⟨RX9, "hasArrived", "(I)Z"⟩
abbrev cX9_arrivedByte : ByteArray := prog_1_method_27_code
def yX9_arrivedByte : MethodName := ⟨RX9, "arrivedByte", "(II)I"⟩
abbrev cX9_isIntact : ByteArray := prog_1_method_28_code
def yX9_isIntact : MethodName := ⟨RX9, "isIntact", "(I)Z"⟩
abbrev cX9_takenFrom : ByteArray := prog_1_method_29_code
def yX9_takenFrom : MethodName := ⟨RX9, "takenFrom", "(I)I"⟩
abbrev cX9_safeBits : ByteArray := prog_1_method_30_code
def yX9_safeBits : MethodName := ⟨RX9, "safeBits", "()I"⟩
abbrev cX9_receivedBit : ByteArray := prog_1_method_31_code
def yX9_receivedBit : MethodName := ⟨RX9, "receivedBit", "(III)I"⟩
abbrev cX9_invertedBits : ByteArray := prog_1_method_32_code
def yX9_invertedBits : MethodName := ⟨RX9, "invertedBits", "(II)I"⟩
abbrev cX9_longestBurst : ByteArray := prog_1_method_33_code
def yX9_longestBurst : MethodName := ⟨RX9, "longestBurst", "(II)I"⟩
abbrev cX9_wrongBits : ByteArray := prog_1_method_34_code
def yX9_wrongBits : MethodName := ⟨RX9, "wrongBits", "(II)I"⟩
abbrev cX9_resultAt : ByteArray := prog_1_method_35_code
def yX9_resultAt : MethodName := ⟨RX9, "resultAt", "(II)I"⟩
abbrev cX9_wouldPass : ByteArray := prog_1_method_36_code
def yX9_wouldPass : MethodName := ⟨RX9, "wouldPass", "(III)Z"⟩
abbrev cX9_earliestSuccess : ByteArray := prog_1_method_37_code
def yX9_earliestSuccess : MethodName := ⟨RX9, "earliestSuccess", "(I)I"⟩
abbrev cX9_bestBitTime : ByteArray := prog_1_method_38_code
def yX9_bestBitTime : MethodName := ⟨RX9, "bestBitTime", "(I)I"⟩
abbrev cX9_pendingFrame : ByteArray := prog_1_method_39_code
def yX9_pendingFrame : MethodName := ⟨RX9, "pendingFrame", "()I"⟩
abbrev cX9_napEnd : ByteArray := prog_1_method_40_code
def yX9_napEnd : MethodName := ⟨RX9, "napEnd", "()I"⟩
abbrev cX9_attemptsUntilIdle : ByteArray := prog_1_method_41_code
def yX9_attemptsUntilIdle : MethodName := ⟨RX9, "attemptsUntilIdle", "()I"⟩
abbrev cX9_clockWhenIdle : ByteArray := prog_1_method_42_code
def yX9_clockWhenIdle : MethodName := ⟨RX9, "clockWhenIdle", "()I"⟩
abbrev cX9_attempts : ByteArray := prog_1_method_43_code
def yX9_attempts : MethodName := ⟨RX9, "attempts", "()I"⟩
abbrev cX9_unreadableFrames : ByteArray := prog_1_method_44_code
def yX9_unreadableFrames : MethodName := ⟨RX9, "unreadableFrames", "()I"⟩
abbrev cX9_duplicates : ByteArray := prog_1_method_45_code
def yX9_duplicates : MethodName := ⟨RX9, "duplicates", "()I"⟩
abbrev cX9_lostAcknowledgements : ByteArray := prog_1_method_46_code
def yX9_lostAcknowledgements : MethodName := ⟨RX9, "lostAcknowledgements", "()I"⟩
abbrev cX9_nappedTicks : ByteArray := prog_1_method_47_code
def yX9_nappedTicks : MethodName := ⟨RX9, "nappedTicks", "()I"⟩
abbrev cX9_bitsSent : ByteArray := prog_1_method_48_code
def yX9_bitsSent : MethodName := ⟨RX9, "bitsSent", "()I"⟩
abbrev cX9_attemptImbalance : ByteArray := prog_1_method_49_code
def yX9_attemptImbalance : MethodName := ⟨RX9, "attemptImbalance", "()I"⟩
abbrev cX9_clockImbalance : ByteArray := prog_1_method_50_code
def yX9_clockImbalance : MethodName := ⟨RX9, "clockImbalance", "()I"⟩
abbrev cX9_errorRate : ByteArray := prog_1_method_51_code
def yX9_errorRate : MethodName := ⟨RX9, "errorRate", "()F"⟩
abbrev cX9_throughput : ByteArray := prog_1_method_52_code
def yX9_throughput : MethodName := ⟨RX9, "throughput", "()D"⟩
abbrev cX9_sendMessage : ByteArray := prog_1_method_53_code
def yX9_sendMessage : MethodName := ⟨RX9, "sendMessage", "()I"⟩
abbrev cX9_transmit : ByteArray := prog_1_method_54_code
def yX9_transmit : MethodName := ⟨RX9, "transmit", "(I)I"⟩
abbrev cX9_cancelMessage : ByteArray := prog_1_method_55_code
def yX9_cancelMessage : MethodName := ⟨RX9, "cancelMessage", "(I)I"⟩
abbrev cX9_resendMessage : ByteArray := prog_1_method_56_code
def yX9_resendMessage : MethodName := ⟨RX9, "resendMessage", "(I)I"⟩
abbrev cX9_waitTicks : ByteArray := prog_1_method_57_code
def yX9_waitTicks : MethodName := ⟨RX9, "waitTicks", "(I)I"⟩
abbrev cX9_setDrift : ByteArray := prog_1_method_58_code
def yX9_setDrift : MethodName := ⟨RX9, "setDrift", "(I)I"⟩
abbrev cX9_addDog : ByteArray := prog_1_method_59_code
def yX9_addDog : MethodName := ⟨RX9, "addDog", "(III)I"⟩
abbrev cX9_removeDog : ByteArray := prog_1_method_60_code
def yX9_removeDog : MethodName := ⟨RX9, "removeDog", "(I)I"⟩
abbrev cX9_undo : ByteArray := prog_1_method_61_code
def yX9_undo : MethodName := ⟨RX9, "undo", "()I"⟩
abbrev cX9_save : ByteArray := prog_1_method_62_code
def yX9_save : MethodName := ⟨RX9, "save", "()I"⟩
abbrev cX9_restore : ByteArray := prog_1_method_63_code
def yX9_restore : MethodName := ⟨RX9, "restore", "()I"⟩
abbrev cX9_formatFrame : ByteArray := prog_1_method_64_code
def yX9_formatFrame : MethodName := ⟨RX9, "formatFrame", "(II)I"⟩
abbrev cX9_outputByte : ByteArray := prog_1_method_65_code
def yX9_outputByte : MethodName := ⟨RX9, "outputByte", "(I)I"⟩
abbrev cX9_requireFrame : ByteArray := prog_1_method_66_code
def yX9_requireFrame : MethodName := ⟨RX9, "requireFrame", "(I)V"⟩
abbrev cX9_requireMessage : ByteArray := prog_1_method_67_code
def yX9_requireMessage : MethodName := ⟨RX9, "requireMessage", "(I)V"⟩
abbrev cX9_requireTick : ByteArray := prog_1_method_68_code
def yX9_requireTick : MethodName := ⟨RX9, "requireTick", "(I)V"⟩
abbrev cX9_checksumOf : ByteArray := prog_1_method_69_code
def yX9_checksumOf : MethodName := ⟨RX9, "checksumOf", "([III)I"⟩
abbrev cX9_binaryDigits : ByteArray := prog_1_method_70_code
def yX9_binaryDigits : MethodName := ⟨RX9, "binaryDigits", "(I)I"⟩
abbrev cX9_takenIndex : ByteArray := prog_1_method_71_code
def yX9_takenIndex : MethodName := ⟨RX9, "takenIndex", "(II)I"⟩
abbrev cX10_init : ByteArray := prog_12_method_1_code
def yX10_init : MethodName := ⟨RX10, "<init>", "()V"⟩
abbrev cX10_thrown : ByteArray := prog_12_method_2_code
def yX10_thrown : MethodName := ⟨RX10, "thrown", "()I"⟩
abbrev cX10_in : ByteArray := prog_12_method_3_code
def yX10_in : MethodName := ⟨RX10, "in", "(JJJ)Z"⟩
abbrev cX10_truth : ByteArray := prog_12_method_4_code
def yX10_truth : MethodName := ⟨RX10, "truth", "(Z)I"⟩
abbrev cX10_passes : ByteArray := prog_12_method_5_code
def yX10_passes : MethodName := ⟨RX10, "passes", "(Z)Z"⟩
abbrev cX10_passesBoth : ByteArray := prog_12_method_6_code
def yX10_passesBoth : MethodName := ⟨RX10, "passesBoth", "(ZZ)Z"⟩
abbrev cX10_copies : ByteArray := prog_12_method_7_code
def yX10_copies : MethodName := ⟨RX10, "copies", "([II[II)V"⟩
abbrev cX10_tries : ByteArray := prog_12_method_8_code
def yX10_tries : MethodName := ⟨RX10, "tries", "()V"⟩
abbrev cX10_laidBack : ByteArray := prog_12_method_9_code
def yX10_laidBack : MethodName := ⟨RX10, "laidBack", "(I)I"⟩
abbrev cX10_ofDog : ByteArray := prog_12_method_10_code
def yX10_ofDog : MethodName := ⟨RX10, "ofDog", "(II)I"⟩
abbrev cX10_ofMessage : ByteArray := prog_12_method_11_code
def yX10_ofMessage : MethodName := ⟨RX10, "ofMessage", "(II)I"⟩
abbrev cX10_putsMessage : ByteArray := prog_12_method_12_code
def yX10_putsMessage : MethodName := ⟨RX10, "putsMessage", "(III)V"⟩
abbrev cX10_of : ByteArray := prog_12_method_13_code
def yX10_of : MethodName := ⟨RX10, "of", "(II)I"⟩
abbrev cX10_puts : ByteArray := prog_12_method_14_code
def yX10_puts : MethodName := ⟨RX10, "puts", "(III)V"⟩
abbrev cX10_isDog : ByteArray := prog_12_method_15_code
def yX10_isDog : MethodName := ⟨RX10, "isDog", "(I)Z"⟩
abbrev cX10_isMessage : ByteArray := prog_12_method_16_code
def yX10_isMessage : MethodName := ⟨RX10, "isMessage", "(I)Z"⟩
abbrev cX10_isFrame : ByteArray := prog_12_method_17_code
def yX10_isFrame : MethodName := ⟨RX10, "isFrame", "(I)Z"⟩
abbrev cX10_isTick : ByteArray := prog_12_method_18_code
def yX10_isTick : MethodName := ⟨RX10, "isTick", "(I)Z"⟩
abbrev cX10_bitsOf : ByteArray := prog_12_method_19_code
def yX10_bitsOf : MethodName := ⟨RX10, "bitsOf", "(I)I"⟩
abbrev cX10_chews : ByteArray := prog_12_method_20_code
def yX10_chews : MethodName := ⟨RX10, "chews", "(II)Z"⟩
abbrev cX10_chewed : ByteArray := prog_12_method_21_code
def yX10_chewed : MethodName := ⟨RX10, "chewed", "(I)Z"⟩
abbrev cX10_sumWith : ByteArray := prog_12_method_22_code
def yX10_sumWith : MethodName := ⟨RX10, "sumWith", "(II)I"⟩
abbrev cX10_sumOfSent : ByteArray := prog_12_method_23_code
def yX10_sumOfSent : MethodName := ⟨RX10, "sumOfSent", "(II)I"⟩
abbrev cX10_frameComes : ByteArray := prog_12_method_24_code
def yX10_frameComes : MethodName := ⟨RX10, "frameComes", "(III)V"⟩
abbrev cX10_messageComes : ByteArray := prog_12_method_25_code
def yX10_messageComes : MethodName := ⟨RX10, "messageComes", "(I)V"⟩
abbrev cX10_framesOf : ByteArray := prog_12_method_26_code
def yX10_framesOf : MethodName := ⟨RX10, "framesOf", "(I)I"⟩
abbrev cX10_hasFrame : ByteArray := prog_12_method_27_code
def yX10_hasFrame : MethodName := ⟨RX10, "hasFrame", "(II)Z"⟩
abbrev cX10_stateOf : ByteArray := prog_12_method_28_code
def yX10_stateOf : MethodName := ⟨RX10, "stateOf", "(I)I"⟩
abbrev cX10_bitOf : ByteArray := prog_12_method_29_code
def yX10_bitOf : MethodName := ⟨RX10, "bitOf", "(II)I"⟩
abbrev cX10_taken : ByteArray := prog_12_method_30_code
def yX10_taken : MethodName := ⟨RX10, "taken", "(I)I"⟩
abbrev cX10_isInverted : ByteArray := prog_12_method_31_code
def yX10_isInverted : MethodName := ⟨RX10, "isInverted", "(II)Z"⟩
abbrev cX10_onCable : ByteArray := prog_12_method_32_code
def yX10_onCable : MethodName := ⟨RX10, "onCable", "(III)I"⟩
abbrev cX10_received : ByteArray := prog_12_method_33_code
def yX10_received : MethodName := ⟨RX10, "received", "(III)I"⟩
abbrev cX10_takes : ByteArray := prog_12_method_34_code
def yX10_takes : MethodName := ⟨RX10, "takes", "(II)V"⟩
abbrev cX10_isReadable : ByteArray := prog_12_method_35_code
def yX10_isReadable : MethodName := ⟨RX10, "isReadable", "(I)Z"⟩
abbrev cX10_isReadableAt : ByteArray := prog_12_method_36_code
def yX10_isReadableAt : MethodName := ⟨RX10, "isReadableAt", "(II)Z"⟩
abbrev cX10_endOf : ByteArray := prog_12_method_37_code
def yX10_endOf : MethodName := ⟨RX10, "endOf", "(II)I"⟩
abbrev cX10_isAnswerLost : ByteArray := prog_12_method_38_code
def yX10_isAnswerLost : MethodName := ⟨RX10, "isAnswerLost", "(II)Z"⟩
abbrev cX10_result : ByteArray := prog_12_method_39_code
def yX10_result : MethodName := ⟨RX10, "result", "(II)I"⟩
abbrev cX10_pending : ByteArray := prog_12_method_40_code
def yX10_pending : MethodName := ⟨RX10, "pending", "()I"⟩
abbrev cX10_arrives : ByteArray := prog_12_method_41_code
def yX10_arrives : MethodName := ⟨RX10, "arrives", "(I)V"⟩
abbrev cX10_endsAttempt : ByteArray := prog_12_method_42_code
def yX10_endsAttempt : MethodName := ⟨RX10, "endsAttempt", "(IZ)V"⟩
abbrev cX10_attemptOnce : ByteArray := prog_12_method_43_code
def yX10_attemptOnce : MethodName := ⟨RX10, "attemptOnce", "(I)V"⟩
abbrev cX10_attemptsOnce : ByteArray := prog_12_method_44_code
def yX10_attemptsOnce : MethodName := ⟨RX10, "attemptsOnce", "(I)I"⟩
abbrev cX10_sendNow : ByteArray := prog_12_method_45_code
def yX10_sendNow : MethodName := ⟨RX10, "sendNow", "(I)Z"⟩
abbrev cX10_transmitNow : ByteArray := prog_12_method_46_code
def yX10_transmitNow : MethodName := ⟨RX10, "transmitNow", "(I)Z"⟩
abbrev cX10_cancelNow : ByteArray := prog_12_method_47_code
def yX10_cancelNow : MethodName := ⟨RX10, "cancelNow", "(I)Z"⟩
abbrev cX10_mayResend : ByteArray := prog_12_method_48_code
def yX10_mayResend : MethodName := ⟨RX10, "mayResend", "(I)Z"⟩
abbrev cX10_resendNow : ByteArray := prog_12_method_49_code
def yX10_resendNow : MethodName := ⟨RX10, "resendNow", "(I)Z"⟩
abbrev cX10_waitNow : ByteArray := prog_12_method_50_code
def yX10_waitNow : MethodName := ⟨RX10, "waitNow", "(I)Z"⟩
abbrev cX10_driftNow : ByteArray := prog_12_method_51_code
def yX10_driftNow : MethodName := ⟨RX10, "driftNow", "(I)Z"⟩
abbrev cX10_dogNow : ByteArray := prog_12_method_52_code
def yX10_dogNow : MethodName := ⟨RX10, "dogNow", "(III)Z"⟩
abbrev cX10_chaseNow : ByteArray := prog_12_method_53_code
def yX10_chaseNow : MethodName := ⟨RX10, "chaseNow", "(I)Z"⟩
abbrev cX10_four : ByteArray := prog_12_method_54_code
def yX10_four : MethodName := ⟨RX10, "four", "(I)V"⟩
abbrev cX10_append : ByteArray := prog_12_method_55_code
def yX10_append : MethodName := ⟨RX10, "append", "(IIIII)I"⟩
abbrev cX10_truncate : ByteArray := prog_12_method_56_code
def yX10_truncate : MethodName := ⟨RX10, "truncate", "(I)I"⟩
abbrev cX10_byteAt : ByteArray := prog_12_method_57_code
def yX10_byteAt : MethodName := ⟨RX10, "byteAt", "(I)I"⟩
abbrev cX10_next : ByteArray := prog_12_method_58_code
def yX10_next : MethodName := ⟨RX10, "next", "()I"⟩
abbrev cX10_must : ByteArray := prog_12_method_59_code
def yX10_must : MethodName := ⟨RX10, "must", "(ZI)V"⟩
abbrev cX10_sees : ByteArray := prog_12_method_60_code
def yX10_sees : MethodName := ⟨RX10, "sees", "(Ljava/lang/String;)Z"⟩
abbrev cX10_goesPast : ByteArray := prog_12_method_61_code
def yX10_goesPast : MethodName := ⟨RX10, "goesPast", "()V"⟩
abbrev cX10_semicolon : ByteArray := prog_12_method_62_code
def yX10_semicolon : MethodName := ⟨RX10, "semicolon", "()V"⟩
abbrev cX10_number : ByteArray := prog_12_method_63_code
def yX10_number : MethodName := ⟨RX10, "number", "(II)I"⟩
abbrev cX10_startsText : ByteArray := prog_12_method_64_code
def yX10_startsText : MethodName := ⟨RX10, "startsText", "()V"⟩
abbrev cX10_endsText : ByteArray := prog_12_method_65_code
def yX10_endsText : MethodName := ⟨RX10, "endsText", "()Z"⟩
abbrev cX10_errorCode : ByteArray := prog_12_method_66_code
def yX10_errorCode : MethodName := ⟨RX10, "errorCode", "()I"⟩
abbrev cX10_errorPosition : ByteArray := prog_12_method_67_code
def yX10_errorPosition : MethodName := ⟨RX10, "errorPosition", "()I"⟩
abbrev cX10_modemLine : ByteArray := prog_12_method_68_code
def yX10_modemLine : MethodName := ⟨RX10, "modemLine", "()V"⟩
abbrev cX10_dogLine : ByteArray := prog_12_method_69_code
def yX10_dogLine : MethodName := ⟨RX10, "dogLine", "()V"⟩
abbrev cX10_load : ByteArray := prog_12_method_70_code
def yX10_load : MethodName := ⟨RX10, "load", "()I"⟩
abbrev cX10_otherCommand : ByteArray := prog_12_method_71_code
def yX10_otherCommand : MethodName := ⟨RX10, "otherCommand", "()I"⟩
abbrev cX10_commandHere : ByteArray := prog_12_method_72_code
def yX10_commandHere : MethodName := ⟨RX10, "commandHere", "()I"⟩
abbrev cX10_wordHere : ByteArray := prog_12_method_73_code
def yX10_wordHere : MethodName := ⟨RX10, "wordHere", "(I)V"⟩
abbrev cX10_dogHere : ByteArray := prog_12_method_74_code
def yX10_dogHere : MethodName := ⟨RX10, "dogHere", "(I)V"⟩
abbrev cX10_driftHere : ByteArray := prog_12_method_75_code
def yX10_driftHere : MethodName := ⟨RX10, "driftHere", "()I"⟩
abbrev cX10_partsOf : ByteArray := prog_12_method_76_code
def yX10_partsOf : MethodName := ⟨RX10, "partsOf", "(II)V"⟩
abbrev cX10_readsOne : ByteArray := prog_12_method_77_code
def yX10_readsOne : MethodName := ⟨RX10, "readsOne", "()V"⟩
abbrev cX10_sendsTold : ByteArray := prog_12_method_78_code
def yX10_sendsTold : MethodName := ⟨RX10, "sendsTold", "(I)Z"⟩
abbrev cX10_doesOne : ByteArray := prog_12_method_79_code
def yX10_doesOne : MethodName := ⟨RX10, "doesOne", "(I)Z"⟩
abbrev cX10_keeps : ByteArray := prog_12_method_80_code
def yX10_keeps : MethodName := ⟨RX10, "keeps", "([I)V"⟩
abbrev cX10_executeCommands : ByteArray := prog_12_method_81_code
def yX10_executeCommands : MethodName := ⟨RX10, "executeCommands", "()I"⟩
abbrev cX10_tells : ByteArray := prog_12_method_82_code
def yX10_tells : MethodName := ⟨RX10, "tells", "(I)I"⟩
abbrev cX10_clock : ByteArray := prog_12_method_83_code
def yX10_clock : MethodName := ⟨RX10, "clock", "()I"⟩
abbrev cX10_bitTime : ByteArray := prog_12_method_84_code
def yX10_bitTime : MethodName := ⟨RX10, "bitTime", "()I"⟩
abbrev cX10_drift : ByteArray := prog_12_method_85_code
def yX10_drift : MethodName := ⟨RX10, "drift", "()I"⟩
abbrev cX10_dogCount : ByteArray := prog_12_method_86_code
def yX10_dogCount : MethodName := ⟨RX10, "dogCount", "()I"⟩
abbrev cX10_isChewed : ByteArray := prog_12_method_87_code
def yX10_isChewed : MethodName := ⟨RX10, "isChewed", "(I)Z"⟩
abbrev cX10_nextChewedTick : ByteArray := prog_12_method_88_code
def yX10_nextChewedTick : MethodName := ⟨RX10, "nextChewedTick", "(I)I"⟩
abbrev cX10_nextQuietTick : ByteArray := prog_12_method_89_code
def yX10_nextQuietTick : MethodName := ⟨RX10, "nextQuietTick", "(I)I"⟩
abbrev cX10_checksum : ByteArray := prog_12_method_90_code
def yX10_checksum : MethodName := ⟨RX10, "checksum", "()I"⟩
abbrev cX10_messageCount : ByteArray := prog_12_method_91_code
def yX10_messageCount : MethodName := ⟨RX10, "messageCount", "()I"⟩
abbrev cX10_messageLength : ByteArray := prog_12_method_92_code
def yX10_messageLength : MethodName := ⟨RX10, "messageLength", "(I)I"⟩
abbrev cX10_messageState : ByteArray := prog_12_method_93_code
def yX10_messageState : MethodName := ⟨RX10, "messageState", "(I)I"⟩
abbrev cX10_firstFrame : ByteArray := prog_12_method_94_code
def yX10_firstFrame : MethodName := ⟨RX10, "firstFrame", "(I)I"⟩
abbrev cX10_frameCount : ByteArray := prog_12_method_95_code
def yX10_frameCount : MethodName := ⟨RX10, "frameCount", "()I"⟩
abbrev cX10_frameLength : ByteArray := prog_12_method_96_code
def yX10_frameLength : MethodName := ⟨RX10, "frameLength", "(I)I"⟩
abbrev cX10_frameByte : ByteArray := prog_12_method_97_code
def yX10_frameByte : MethodName := ⟨RX10, "frameByte", "(II)I"⟩
abbrev cX10_hasBit : ByteArray := prog_12_method_98_code
def yX10_hasBit : MethodName := ⟨RX10, "hasBit", "(II)Z"⟩
abbrev cX10_frameBit : ByteArray := prog_12_method_99_code
def yX10_frameBit : MethodName := ⟨RX10, "frameBit", "(II)I"⟩
abbrev cX10_frameState : ByteArray := prog_12_method_100_code
def yX10_frameState : MethodName := ⟨RX10, "frameState", "(I)I"⟩
abbrev cX10_attemptsOf : ByteArray := prog_12_method_101_code
def yX10_attemptsOf : MethodName := ⟨RX10, "attemptsOf", "(I)I"⟩
abbrev cX10_hasArrived : ByteArray := prog_12_method_102_code
def yX10_hasArrived : MethodName := ⟨RX10, "hasArrived", "(I)Z"⟩
abbrev cX10_arrivedByte : ByteArray := prog_12_method_103_code
def yX10_arrivedByte : MethodName := ⟨RX10, "arrivedByte", "(II)I"⟩
abbrev cX10_isIntact : ByteArray := prog_12_method_104_code
def yX10_isIntact : MethodName := ⟨RX10, "isIntact", "(I)Z"⟩
abbrev cX10_takenFrom : ByteArray := prog_12_method_105_code
def yX10_takenFrom : MethodName := ⟨RX10, "takenFrom", "(I)I"⟩
abbrev cX10_safeBits : ByteArray := prog_12_method_106_code
def yX10_safeBits : MethodName := ⟨RX10, "safeBits", "()I"⟩
abbrev cX10_passesFrame : ByteArray := prog_12_method_107_code
def yX10_passesFrame : MethodName := ⟨RX10, "passesFrame", "(II)Z"⟩
abbrev cX10_receivedBit : ByteArray := prog_12_method_108_code
def yX10_receivedBit : MethodName := ⟨RX10, "receivedBit", "(III)I"⟩
abbrev cX10_invertedBits : ByteArray := prog_12_method_109_code
def yX10_invertedBits : MethodName := ⟨RX10, "invertedBits", "(II)I"⟩
abbrev cX10_longestBurst : ByteArray := prog_12_method_110_code
def yX10_longestBurst : MethodName := ⟨RX10, "longestBurst", "(II)I"⟩
abbrev cX10_wrongBits : ByteArray := prog_12_method_111_code
def yX10_wrongBits : MethodName := ⟨RX10, "wrongBits", "(II)I"⟩
abbrev cX10_resultAt : ByteArray := prog_12_method_112_code
def yX10_resultAt : MethodName := ⟨RX10, "resultAt", "(II)I"⟩
abbrev cX10_digitsOf : ByteArray := prog_12_method_113_code
def yX10_digitsOf : MethodName := ⟨RX10, "digitsOf", "(I)I"⟩
abbrev cX10_isIn : ByteArray := prog_12_method_114_code
def yX10_isIn : MethodName := ⟨RX10, "isIn", "(III)Z"⟩
abbrev cX10_fits : ByteArray := prog_12_method_115_code
def yX10_fits : MethodName := ⟨RX10, "fits", "(III)Z"⟩
abbrev cX10_wouldPass : ByteArray := prog_12_method_116_code
def yX10_wouldPass : MethodName := ⟨RX10, "wouldPass", "(III)Z"⟩
abbrev cX10_earliestSuccess : ByteArray := prog_12_method_117_code
def yX10_earliestSuccess : MethodName := ⟨RX10, "earliestSuccess", "(I)I"⟩
abbrev cX10_bestBitTime : ByteArray := prog_12_method_118_code
def yX10_bestBitTime : MethodName := ⟨RX10, "bestBitTime", "(I)I"⟩
abbrev cX10_pendingFrame : ByteArray := prog_12_method_119_code
def yX10_pendingFrame : MethodName := ⟨RX10, "pendingFrame", "()I"⟩
abbrev cX10_napEnd : ByteArray := prog_12_method_120_code
def yX10_napEnd : MethodName := ⟨RX10, "napEnd", "()I"⟩
abbrev cX10_attemptsUntilIdle : ByteArray := prog_12_method_121_code
def yX10_attemptsUntilIdle : MethodName := ⟨RX10, "attemptsUntilIdle", "()I"⟩
abbrev cX10_clockWhenIdle : ByteArray := prog_12_method_122_code
def yX10_clockWhenIdle : MethodName := ⟨RX10, "clockWhenIdle", "()I"⟩
abbrev cX10_attempts : ByteArray := prog_12_method_123_code
def yX10_attempts : MethodName := ⟨RX10, "attempts", "()I"⟩
abbrev cX10_unreadableFrames : ByteArray := prog_12_method_124_code
def yX10_unreadableFrames : MethodName := ⟨RX10, "unreadableFrames", "()I"⟩
abbrev cX10_duplicates : ByteArray := prog_12_method_125_code
def yX10_duplicates : MethodName := ⟨RX10, "duplicates", "()I"⟩
abbrev cX10_lostAcknowledgements : ByteArray := prog_12_method_126_code
def yX10_lostAcknowledgements : MethodName := ⟨RX10, "lostAcknowledgements", "()I"⟩
abbrev cX10_nappedTicks : ByteArray := prog_12_method_127_code
def yX10_nappedTicks : MethodName := ⟨RX10, "nappedTicks", "()I"⟩
abbrev cX10_bitsSent : ByteArray := prog_12_method_128_code
def yX10_bitsSent : MethodName := ⟨RX10, "bitsSent", "()I"⟩
abbrev cX10_attemptImbalance : ByteArray := prog_12_method_129_code
def yX10_attemptImbalance : MethodName := ⟨RX10, "attemptImbalance", "()I"⟩
abbrev cX10_clockImbalance : ByteArray := prog_12_method_130_code
def yX10_clockImbalance : MethodName := ⟨RX10, "clockImbalance", "()I"⟩
abbrev cX10_errorRate : ByteArray := prog_12_method_131_code
def yX10_errorRate : MethodName := ⟨RX10, "errorRate", "()F"⟩
abbrev cX10_throughput : ByteArray := prog_12_method_132_code
def yX10_throughput : MethodName := ⟨RX10, "throughput", "()D"⟩
abbrev cX10_tried : ByteArray := prog_12_method_133_code
def yX10_tried : MethodName := ⟨RX10, "tried", "(Z)Z"⟩
abbrev cX10_done : ByteArray := prog_12_method_134_code
def yX10_done : MethodName := ⟨RX10, "done", "(Z)I"⟩
abbrev cX10_sendMessage : ByteArray := prog_12_method_135_code
def yX10_sendMessage : MethodName := ⟨RX10, "sendMessage", "()I"⟩
abbrev cX10_transmit : ByteArray := prog_12_method_136_code
def yX10_transmit : MethodName := ⟨RX10, "transmit", "(I)I"⟩
abbrev cX10_cancelMessage : ByteArray := prog_12_method_137_code
def yX10_cancelMessage : MethodName := ⟨RX10, "cancelMessage", "(I)I"⟩
abbrev cX10_resendMessage : ByteArray := prog_12_method_138_code
def yX10_resendMessage : MethodName := ⟨RX10, "resendMessage", "(I)I"⟩
abbrev cX10_waitTicks : ByteArray := prog_12_method_139_code
def yX10_waitTicks : MethodName := ⟨RX10, "waitTicks", "(I)I"⟩
abbrev cX10_setDrift : ByteArray := prog_12_method_140_code
def yX10_setDrift : MethodName := ⟨RX10, "setDrift", "(I)I"⟩
abbrev cX10_addDog : ByteArray := prog_12_method_141_code
def yX10_addDog : MethodName := ⟨RX10, "addDog", "(III)I"⟩
abbrev cX10_removeDog : ByteArray := prog_12_method_142_code
def yX10_removeDog : MethodName := ⟨RX10, "removeDog", "(I)I"⟩
abbrev cX10_undo : ByteArray := prog_12_method_143_code
def yX10_undo : MethodName := ⟨RX10, "undo", "()I"⟩
abbrev cX10_save : ByteArray := prog_12_method_144_code
def yX10_save : MethodName := ⟨RX10, "save", "()I"⟩
abbrev cX10_restore : ByteArray := prog_12_method_145_code
def yX10_restore : MethodName := ⟨RX10, "restore", "()I"⟩
abbrev cX10_writes : ByteArray := prog_12_method_146_code
def yX10_writes : MethodName := ⟨RX10, "writes", "(I)V"⟩
abbrev cX10_formatFrame : ByteArray := prog_12_method_147_code
def yX10_formatFrame : MethodName := ⟨RX10, "formatFrame", "(II)I"⟩
abbrev cX10_outputByte : ByteArray := prog_12_method_148_code
def yX10_outputByte : MethodName := ⟨RX10, "outputByte", "(I)I"⟩
abbrev cL_append : ByteArray := method_3_code
def yL_append : MethodName := ⟨RL, "append", "(LMatchboxModem;IIIII[J)I"⟩
abbrev cL_truncate : ByteArray := method_4_code
def yL_truncate : MethodName := ⟨RL, "truncate", "(LMatchboxModem;I[J)I"⟩
abbrev cL_load : ByteArray := method_5_code
def yL_load : MethodName := ⟨RL, "load", "(LMatchboxModem;[J)I"⟩
abbrev cL_executeCommands : ByteArray := method_6_code
def yL_executeCommands : MethodName := ⟨RL, "executeCommands", "(LMatchboxModem;[J)I"⟩
abbrev cL_isChewed : ByteArray := method_7_code
def yL_isChewed : MethodName := ⟨RL, "isChewed", "(LMatchboxModem;I[J)I"⟩
abbrev cL_nextChewedTick : ByteArray := method_8_code
def yL_nextChewedTick : MethodName := ⟨RL, "nextChewedTick", "(LMatchboxModem;I[J)I"⟩
abbrev cL_nextQuietTick : ByteArray := method_9_code
def yL_nextQuietTick : MethodName := ⟨RL, "nextQuietTick", "(LMatchboxModem;I[J)I"⟩
abbrev cL_messageLength : ByteArray := method_10_code
def yL_messageLength : MethodName := ⟨RL, "messageLength", "(LMatchboxModem;I[J)I"⟩
abbrev cL_messageState : ByteArray := method_11_code
def yL_messageState : MethodName := ⟨RL, "messageState", "(LMatchboxModem;I[J)I"⟩
abbrev cL_firstFrame : ByteArray := method_12_code
def yL_firstFrame : MethodName := ⟨RL, "firstFrame", "(LMatchboxModem;I[J)I"⟩
abbrev cL_frameLength : ByteArray := method_13_code
def yL_frameLength : MethodName := ⟨RL, "frameLength", "(LMatchboxModem;I[J)I"⟩
abbrev cL_frameByte : ByteArray := method_14_code
def yL_frameByte : MethodName := ⟨RL, "frameByte", "(LMatchboxModem;II[J)I"⟩
abbrev cL_frameBit : ByteArray := method_15_code
def yL_frameBit : MethodName := ⟨RL, "frameBit", "(LMatchboxModem;II[J)I"⟩
abbrev cL_frameState : ByteArray := method_16_code
def yL_frameState : MethodName := ⟨RL, "frameState", "(LMatchboxModem;I[J)I"⟩
abbrev cL_attemptsOf : ByteArray := method_17_code
def yL_attemptsOf : MethodName := ⟨RL, "attemptsOf", "(LMatchboxModem;I[J)I"⟩
abbrev cL_hasArrived : ByteArray := method_18_code
def yL_hasArrived : MethodName := ⟨RL, "hasArrived", "(LMatchboxModem;I[J)I"⟩
abbrev cL_arrivedByte : ByteArray := method_19_code
def yL_arrivedByte : MethodName := ⟨RL, "arrivedByte", "(LMatchboxModem;II[J)I"⟩
abbrev cL_isIntact : ByteArray := method_20_code
def yL_isIntact : MethodName := ⟨RL, "isIntact", "(LMatchboxModem;I[J)I"⟩
abbrev cL_takenFrom : ByteArray := method_21_code
def yL_takenFrom : MethodName := ⟨RL, "takenFrom", "(LMatchboxModem;I[J)I"⟩
abbrev cL_receivedBit : ByteArray := method_22_code
def yL_receivedBit : MethodName := ⟨RL, "receivedBit", "(LMatchboxModem;III[J)I"⟩
abbrev cL_invertedBits : ByteArray := method_23_code
def yL_invertedBits : MethodName := ⟨RL, "invertedBits", "(LMatchboxModem;II[J)I"⟩
abbrev cL_longestBurst : ByteArray := method_24_code
def yL_longestBurst : MethodName := ⟨RL, "longestBurst", "(LMatchboxModem;II[J)I"⟩
abbrev cL_wrongBits : ByteArray := method_25_code
def yL_wrongBits : MethodName := ⟨RL, "wrongBits", "(LMatchboxModem;II[J)I"⟩
abbrev cL_resultAt : ByteArray := method_26_code
def yL_resultAt : MethodName := ⟨RL, "resultAt", "(LMatchboxModem;II[J)I"⟩
abbrev cL_wouldPass : ByteArray := method_27_code
def yL_wouldPass : MethodName := ⟨RL, "wouldPass", "(LMatchboxModem;III[J)I"⟩
abbrev cL_earliestSuccess : ByteArray := method_28_code
def yL_earliestSuccess : MethodName := ⟨RL, "earliestSuccess", "(LMatchboxModem;I[J)I"⟩
abbrev cL_bestBitTime : ByteArray := method_29_code
def yL_bestBitTime : MethodName := ⟨RL, "bestBitTime", "(LMatchboxModem;I[J)I"⟩
abbrev cL_sendMessage : ByteArray := method_30_code
def yL_sendMessage : MethodName := ⟨RL, "sendMessage", "(LMatchboxModem;[J)I"⟩
abbrev cL_transmit : ByteArray := method_31_code
def yL_transmit : MethodName := ⟨RL, "transmit", "(LMatchboxModem;I[J)I"⟩
abbrev cL_cancelMessage : ByteArray := method_32_code
def yL_cancelMessage : MethodName := ⟨RL, "cancelMessage", "(LMatchboxModem;I[J)I"⟩
abbrev cL_resendMessage : ByteArray := method_33_code
def yL_resendMessage : MethodName := ⟨RL, "resendMessage", "(LMatchboxModem;I[J)I"⟩
abbrev cL_waitTicks : ByteArray := method_34_code
def yL_waitTicks : MethodName := ⟨RL, "waitTicks", "(LMatchboxModem;I[J)I"⟩
abbrev cL_setDrift : ByteArray := method_35_code
def yL_setDrift : MethodName := ⟨RL, "setDrift", "(LMatchboxModem;I[J)I"⟩
abbrev cL_addDog : ByteArray := method_36_code
def yL_addDog : MethodName := ⟨RL, "addDog", "(LMatchboxModem;III[J)I"⟩
abbrev cL_removeDog : ByteArray := method_37_code
def yL_removeDog : MethodName := ⟨RL, "removeDog", "(LMatchboxModem;I[J)I"⟩
abbrev cL_undo : ByteArray := method_38_code
def yL_undo : MethodName := ⟨RL, "undo", "(LMatchboxModem;[J)I"⟩
abbrev cL_restore : ByteArray := method_39_code
def yL_restore : MethodName := ⟨RL, "restore", "(LMatchboxModem;[J)I"⟩
abbrev cL_formatFrame : ByteArray := method_40_code
def yL_formatFrame : MethodName := ⟨RL, "formatFrame", "(LMatchboxModem;II[J)I"⟩
abbrev cL_law : ByteArray := code
def yL_law : MethodName := ⟨RL, "law", "([I)Z"⟩
/-- the classes by number: 0 to 10 those of objects, 11 the law -/
def clsL : List String := [RX0, RX1, RX2, RX3, RX4, RX5, RX6, RX7, RX8, RX9, RX10, RL]
def clsN (c : Nat) : String := clsL.getD c ""
def TTL : List u_T := [TX0, TX1, TX2, TX3, TX4, TX5, TX6, TX7, TX8, TX9, TX10]
def TT (c : Nat) : u_T := TTL.getD c TX0
def tyL : List (Nat → FieldType) := [tyX0, tyX1, tyX2, tyX3, tyX4, tyX5, tyX6, tyX7, tyX8, tyX9, tyX10]
def tyT (c : Nat) : Nat → FieldType := tyL.getD c tyX0
def nfL : List Nat := [5, 9, 4, 7, 3, 13, 5, 2, 9, 10, 24]
def nf (c : Nat) : Nat := nfL.getD c 0
/-- of each field: 0 an int, 1 a boolean, 2 a reference -/
def fkL : List (List Nat) := [[0, 2, 2, 2, 2], [0, 0, 0, 0, 0, 0, 0, 0, 0], [0, 2, 2, 2], [0, 2, 2, 2, 2, 2, 2], [0, 0, 2], [0, 0, 0, 0, 0, 0, 0, 0, 2, 2, 2, 2, 2], [2, 2, 0, 0, 0], [2, 0], [2, 0, 0, 0, 0, 0, 0, 0, 0], [2, 2, 2, 2, 2, 2, 2, 2, 2, 1], [2, 2, 2, 2, 2, 0, 0, 1, 2, 2, 0, 2, 0, 0, 0, 0, 0, 0, 0, 0, 2, 0, 2, 0]]
def fk (c k : Nat) : Nat := (fkL.getD c []).getD k 0
/-- is the field final -/
def ffL : List (List Bool) := [[false, true, true, true, true], [false, false, false, false, false, false, false, false, false], [false, true, true, true], [false, true, true, true, true, true, true], [false, false, true], [false, false, false, false, false, false, false, false, true, true, true, true, true], [true, true, false, false, false], [true, false], [true, false, false, false, false, false, false, false, false], [true, true, true, true, true, true, true, true, true, false], [true, true, true, true, true, false, false, false, true, true, false, true, false, false, false, false, false, false, false, false, true, false, true, false]]
def ff (c k : Nat) : Bool := (ffL.getD c []).getD k false
def ynL : List MethodName := [
  yX0_init, yX0_read, yX0_readOne, yX0_nameIn, yX0_readArguments, yX0_readWord, yX0_readNumber, yX0_setArguments,
  yX0_run, yX1_init, yX1_clear, yX1_copyFrom, yX2_init, yX2_copyFrom, yX2_add, yX2_remove,
  yX2_chewIn, yX3_init, yX3_copyFrom, yX3_add, yX3_bitsOf, yX3_bitOf, yX3_firstQueued, yX3_arrive,
  yX3_arrivedAsSent, yX3_triesOfAll, yX3_acknowledgedUntried, yX3_acknowledgedBytes, yX4_init, yX4_keep, yX4_takeBack, yX4_forget,
  yX5_init, yX5_configure, yX5_copyFrom, yX5_readConfiguration, yX5_readModem, yX5_readDogs, yX5_hasMessage, yX5_hasRoomForMessage,
  yX5_addMessage, yX5_endOf, yX5_stateOfMessage, yX5_mayGiveUp, yX5_giveUp, yX5_maySendAgain, yX5_sendAgain, yX5_mayWait,
  yX5_letPass, yX5_mayAttempt, yX5_makeAttempts, yX5_attempt, yX5_endNap, yX5_receive, yX5_settle, yX6_init,
  yX6_putOnCable, yX6_takenBit, yX6_take, yX6_takeInverted, yX6_readable, yX6_send, yX7_init, yX7_at,
  yX7_put, yX7_putFour, yX8_init, yX8_begin, yX8_fail, yX8_next, yX8_kindOf, yX8_spells,
  yX8_number, yX8_semicolon, yX8_dog, yX9_init, yX9_append, yX9_truncate, yX9_load, yX9_executeCommands,
  yX9_errorCode, yX9_errorPosition, yX9_clock, yX9_bitTime, yX9_drift, yX9_dogCount, yX9_isChewed, yX9_nextChewedTick,
  yX9_nextQuietTick, yX9_checksum, yX9_messageCount, yX9_messageLength, yX9_messageState, yX9_firstFrame, yX9_frameCount, yX9_frameLength,
  yX9_frameByte, yX9_frameBit, yX9_frameState, yX9_attemptsOf, yX9_hasArrived, yX9_arrivedByte, yX9_isIntact, yX9_takenFrom,
  yX9_safeBits, yX9_receivedBit, yX9_invertedBits, yX9_longestBurst, yX9_wrongBits, yX9_resultAt, yX9_wouldPass, yX9_earliestSuccess,
  yX9_bestBitTime, yX9_pendingFrame, yX9_napEnd, yX9_attemptsUntilIdle, yX9_clockWhenIdle, yX9_attempts, yX9_unreadableFrames, yX9_duplicates,
  yX9_lostAcknowledgements, yX9_nappedTicks, yX9_bitsSent, yX9_attemptImbalance, yX9_clockImbalance, yX9_errorRate, yX9_throughput, yX9_sendMessage,
  yX9_transmit, yX9_cancelMessage, yX9_resendMessage, yX9_waitTicks, yX9_setDrift, yX9_addDog, yX9_removeDog, yX9_undo,
  yX9_save, yX9_restore, yX9_formatFrame, yX9_outputByte, yX9_requireFrame, yX9_requireMessage, yX9_requireTick, yX9_checksumOf,
  yX9_binaryDigits, yX9_takenIndex, yX10_init, yX10_thrown, yX10_in, yX10_truth, yX10_passes, yX10_passesBoth,
  yX10_copies, yX10_tries, yX10_laidBack, yX10_ofDog, yX10_ofMessage, yX10_putsMessage, yX10_of, yX10_puts,
  yX10_isDog, yX10_isMessage, yX10_isFrame, yX10_isTick, yX10_bitsOf, yX10_chews, yX10_chewed, yX10_sumWith,
  yX10_sumOfSent, yX10_frameComes, yX10_messageComes, yX10_framesOf, yX10_hasFrame, yX10_stateOf, yX10_bitOf, yX10_taken,
  yX10_isInverted, yX10_onCable, yX10_received, yX10_takes, yX10_isReadable, yX10_isReadableAt, yX10_endOf, yX10_isAnswerLost,
  yX10_result, yX10_pending, yX10_arrives, yX10_endsAttempt, yX10_attemptOnce, yX10_attemptsOnce, yX10_sendNow, yX10_transmitNow,
  yX10_cancelNow, yX10_mayResend, yX10_resendNow, yX10_waitNow, yX10_driftNow, yX10_dogNow, yX10_chaseNow, yX10_four,
  yX10_append, yX10_truncate, yX10_byteAt, yX10_next, yX10_must, yX10_sees, yX10_goesPast, yX10_semicolon,
  yX10_number, yX10_startsText, yX10_endsText, yX10_errorCode, yX10_errorPosition, yX10_modemLine, yX10_dogLine, yX10_load,
  yX10_otherCommand, yX10_commandHere, yX10_wordHere, yX10_dogHere, yX10_driftHere, yX10_partsOf, yX10_readsOne, yX10_sendsTold,
  yX10_doesOne, yX10_keeps, yX10_executeCommands, yX10_tells, yX10_clock, yX10_bitTime, yX10_drift, yX10_dogCount,
  yX10_isChewed, yX10_nextChewedTick, yX10_nextQuietTick, yX10_checksum, yX10_messageCount, yX10_messageLength, yX10_messageState, yX10_firstFrame,
  yX10_frameCount, yX10_frameLength, yX10_frameByte, yX10_hasBit, yX10_frameBit, yX10_frameState, yX10_attemptsOf, yX10_hasArrived,
  yX10_arrivedByte, yX10_isIntact, yX10_takenFrom, yX10_safeBits, yX10_passesFrame, yX10_receivedBit, yX10_invertedBits, yX10_longestBurst,
  yX10_wrongBits, yX10_resultAt, yX10_digitsOf, yX10_isIn, yX10_fits, yX10_wouldPass, yX10_earliestSuccess, yX10_bestBitTime,
  yX10_pendingFrame, yX10_napEnd, yX10_attemptsUntilIdle, yX10_clockWhenIdle, yX10_attempts, yX10_unreadableFrames, yX10_duplicates, yX10_lostAcknowledgements,
  yX10_nappedTicks, yX10_bitsSent, yX10_attemptImbalance, yX10_clockImbalance, yX10_errorRate, yX10_throughput, yX10_tried, yX10_done,
  yX10_sendMessage, yX10_transmit, yX10_cancelMessage, yX10_resendMessage, yX10_waitTicks, yX10_setDrift, yX10_addDog, yX10_removeDog,
  yX10_undo, yX10_save, yX10_restore, yX10_writes, yX10_formatFrame, yX10_outputByte, yL_append, yL_truncate,
  yL_load, yL_executeCommands, yL_isChewed, yL_nextChewedTick, yL_nextQuietTick, yL_messageLength, yL_messageState, yL_firstFrame,
  yL_frameLength, yL_frameByte, yL_frameBit, yL_frameState, yL_attemptsOf, yL_hasArrived, yL_arrivedByte, yL_isIntact,
  yL_takenFrom, yL_receivedBit, yL_invertedBits, yL_longestBurst, yL_wrongBits, yL_resultAt, yL_wouldPass, yL_earliestSuccess,
  yL_bestBitTime, yL_sendMessage, yL_transmit, yL_cancelMessage, yL_resendMessage, yL_waitTicks, yL_setDrift, yL_addDog,
  yL_removeDog, yL_undo, yL_restore, yL_formatFrame, yL_law]
def ynN (y : Nat) : MethodName := ynL.getD y ⟨"", "", ""⟩
def cdL : List ByteArray := [
  cX0_init, cX0_read, cX0_readOne, cX0_nameIn, cX0_readArguments, cX0_readWord, cX0_readNumber, cX0_setArguments,
  cX0_run, cX1_init, cX1_clear, cX1_copyFrom, cX2_init, cX2_copyFrom, cX2_add, cX2_remove,
  cX2_chewIn, cX3_init, cX3_copyFrom, cX3_add, cX3_bitsOf, cX3_bitOf, cX3_firstQueued, cX3_arrive,
  cX3_arrivedAsSent, cX3_triesOfAll, cX3_acknowledgedUntried, cX3_acknowledgedBytes, cX4_init, cX4_keep, cX4_takeBack, cX4_forget,
  cX5_init, cX5_configure, cX5_copyFrom, cX5_readConfiguration, cX5_readModem, cX5_readDogs, cX5_hasMessage, cX5_hasRoomForMessage,
  cX5_addMessage, cX5_endOf, cX5_stateOfMessage, cX5_mayGiveUp, cX5_giveUp, cX5_maySendAgain, cX5_sendAgain, cX5_mayWait,
  cX5_letPass, cX5_mayAttempt, cX5_makeAttempts, cX5_attempt, cX5_endNap, cX5_receive, cX5_settle, cX6_init,
  cX6_putOnCable, cX6_takenBit, cX6_take, cX6_takeInverted, cX6_readable, cX6_send, cX7_init, cX7_at,
  cX7_put, cX7_putFour, cX8_init, cX8_begin, cX8_fail, cX8_next, cX8_kindOf, cX8_spells,
  cX8_number, cX8_semicolon, cX8_dog, cX9_init, cX9_append, cX9_truncate, cX9_load, cX9_executeCommands,
  cX9_errorCode, cX9_errorPosition, cX9_clock, cX9_bitTime, cX9_drift, cX9_dogCount, cX9_isChewed, cX9_nextChewedTick,
  cX9_nextQuietTick, cX9_checksum, cX9_messageCount, cX9_messageLength, cX9_messageState, cX9_firstFrame, cX9_frameCount, cX9_frameLength,
  cX9_frameByte, cX9_frameBit, cX9_frameState, cX9_attemptsOf, cX9_hasArrived, cX9_arrivedByte, cX9_isIntact, cX9_takenFrom,
  cX9_safeBits, cX9_receivedBit, cX9_invertedBits, cX9_longestBurst, cX9_wrongBits, cX9_resultAt, cX9_wouldPass, cX9_earliestSuccess,
  cX9_bestBitTime, cX9_pendingFrame, cX9_napEnd, cX9_attemptsUntilIdle, cX9_clockWhenIdle, cX9_attempts, cX9_unreadableFrames, cX9_duplicates,
  cX9_lostAcknowledgements, cX9_nappedTicks, cX9_bitsSent, cX9_attemptImbalance, cX9_clockImbalance, cX9_errorRate, cX9_throughput, cX9_sendMessage,
  cX9_transmit, cX9_cancelMessage, cX9_resendMessage, cX9_waitTicks, cX9_setDrift, cX9_addDog, cX9_removeDog, cX9_undo,
  cX9_save, cX9_restore, cX9_formatFrame, cX9_outputByte, cX9_requireFrame, cX9_requireMessage, cX9_requireTick, cX9_checksumOf,
  cX9_binaryDigits, cX9_takenIndex, cX10_init, cX10_thrown, cX10_in, cX10_truth, cX10_passes, cX10_passesBoth,
  cX10_copies, cX10_tries, cX10_laidBack, cX10_ofDog, cX10_ofMessage, cX10_putsMessage, cX10_of, cX10_puts,
  cX10_isDog, cX10_isMessage, cX10_isFrame, cX10_isTick, cX10_bitsOf, cX10_chews, cX10_chewed, cX10_sumWith,
  cX10_sumOfSent, cX10_frameComes, cX10_messageComes, cX10_framesOf, cX10_hasFrame, cX10_stateOf, cX10_bitOf, cX10_taken,
  cX10_isInverted, cX10_onCable, cX10_received, cX10_takes, cX10_isReadable, cX10_isReadableAt, cX10_endOf, cX10_isAnswerLost,
  cX10_result, cX10_pending, cX10_arrives, cX10_endsAttempt, cX10_attemptOnce, cX10_attemptsOnce, cX10_sendNow, cX10_transmitNow,
  cX10_cancelNow, cX10_mayResend, cX10_resendNow, cX10_waitNow, cX10_driftNow, cX10_dogNow, cX10_chaseNow, cX10_four,
  cX10_append, cX10_truncate, cX10_byteAt, cX10_next, cX10_must, cX10_sees, cX10_goesPast, cX10_semicolon,
  cX10_number, cX10_startsText, cX10_endsText, cX10_errorCode, cX10_errorPosition, cX10_modemLine, cX10_dogLine, cX10_load,
  cX10_otherCommand, cX10_commandHere, cX10_wordHere, cX10_dogHere, cX10_driftHere, cX10_partsOf, cX10_readsOne, cX10_sendsTold,
  cX10_doesOne, cX10_keeps, cX10_executeCommands, cX10_tells, cX10_clock, cX10_bitTime, cX10_drift, cX10_dogCount,
  cX10_isChewed, cX10_nextChewedTick, cX10_nextQuietTick, cX10_checksum, cX10_messageCount, cX10_messageLength, cX10_messageState, cX10_firstFrame,
  cX10_frameCount, cX10_frameLength, cX10_frameByte, cX10_hasBit, cX10_frameBit, cX10_frameState, cX10_attemptsOf, cX10_hasArrived,
  cX10_arrivedByte, cX10_isIntact, cX10_takenFrom, cX10_safeBits, cX10_passesFrame, cX10_receivedBit, cX10_invertedBits, cX10_longestBurst,
  cX10_wrongBits, cX10_resultAt, cX10_digitsOf, cX10_isIn, cX10_fits, cX10_wouldPass, cX10_earliestSuccess, cX10_bestBitTime,
  cX10_pendingFrame, cX10_napEnd, cX10_attemptsUntilIdle, cX10_clockWhenIdle, cX10_attempts, cX10_unreadableFrames, cX10_duplicates, cX10_lostAcknowledgements,
  cX10_nappedTicks, cX10_bitsSent, cX10_attemptImbalance, cX10_clockImbalance, cX10_errorRate, cX10_throughput, cX10_tried, cX10_done,
  cX10_sendMessage, cX10_transmit, cX10_cancelMessage, cX10_resendMessage, cX10_waitTicks, cX10_setDrift, cX10_addDog, cX10_removeDog,
  cX10_undo, cX10_save, cX10_restore, cX10_writes, cX10_formatFrame, cX10_outputByte, cL_append, cL_truncate,
  cL_load, cL_executeCommands, cL_isChewed, cL_nextChewedTick, cL_nextQuietTick, cL_messageLength, cL_messageState, cL_firstFrame,
  cL_frameLength, cL_frameByte, cL_frameBit, cL_frameState, cL_attemptsOf, cL_hasArrived, cL_arrivedByte, cL_isIntact,
  cL_takenFrom, cL_receivedBit, cL_invertedBits, cL_longestBurst, cL_wrongBits, cL_resultAt, cL_wouldPass, cL_earliestSuccess,
  cL_bestBitTime, cL_sendMessage, cL_transmit, cL_cancelMessage, cL_resendMessage, cL_waitTicks, cL_setDrift, cL_addDog,
  cL_removeDog, cL_undo, cL_restore, cL_formatFrame, cL_law]
def cdN (y : Nat) : ByteArray := cdL.getD y ⟨#[]⟩
def owL : List Nat := [
  0, 0, 0, 0, 0, 0, 0, 0, 0, 1, 1, 1, 2, 2, 2, 2, 2, 3, 3, 3, 3, 3, 3, 3, 3, 3, 3, 3, 4, 4, 4, 4, 5, 5, 5, 5, 5, 5, 5, 5,
  5, 5, 5, 5, 5, 5, 5, 5, 5, 5, 5, 5, 5, 5, 5, 6, 6, 6, 6, 6, 6, 6, 7, 7, 7, 7, 8, 8, 8, 8, 8, 8, 8, 8, 8, 9, 9, 9, 9, 9,
  9, 9, 9, 9, 9, 9, 9, 9, 9, 9, 9, 9, 9, 9, 9, 9, 9, 9, 9, 9, 9, 9, 9, 9, 9, 9, 9, 9, 9, 9, 9, 9, 9, 9, 9, 9, 9, 9, 9, 9,
  9, 9, 9, 9, 9, 9, 9, 9, 9, 9, 9, 9, 9, 9, 9, 9, 9, 9, 9, 9, 9, 9, 9, 9, 9, 9, 10, 10, 10, 10, 10, 10, 10, 10, 10, 10, 10, 10, 10, 10,
  10, 10, 10, 10, 10, 10, 10, 10, 10, 10, 10, 10, 10, 10, 10, 10, 10, 10, 10, 10, 10, 10, 10, 10, 10, 10, 10, 10, 10, 10, 10, 10, 10, 10, 10, 10, 10, 10, 10, 10,
  10, 10, 10, 10, 10, 10, 10, 10, 10, 10, 10, 10, 10, 10, 10, 10, 10, 10, 10, 10, 10, 10, 10, 10, 10, 10, 10, 10, 10, 10, 10, 10, 10, 10, 10, 10, 10, 10, 10, 10,
  10, 10, 10, 10, 10, 10, 10, 10, 10, 10, 10, 10, 10, 10, 10, 10, 10, 10, 10, 10, 10, 10, 10, 10, 10, 10, 10, 10, 10, 10, 10, 10, 10, 10, 10, 10, 10, 10, 10, 10,
  10, 10, 10, 10, 10, 10, 10, 10, 10, 10, 10, 10, 10, 10, 11, 11, 11, 11, 11, 11, 11, 11, 11, 11, 11, 11, 11, 11, 11, 11, 11, 11, 11, 11, 11, 11, 11, 11, 11, 11,
  11, 11, 11, 11, 11, 11, 11, 11, 11, 11, 11, 11, 11]
def owN (y : Nat) : Nat := owL.getD y 0
def mlL : List Nat := [
  1, 3, 3, 1, 3, 2, 5, 4, 6, 1, 1, 2, 1, 2, 4, 3, 5, 1, 2, 5, 2, 3, 2, 3, 4, 3, 3, 3, 2, 3, 4, 1, 1, 5, 2, 2, 6, 3, 2, 1,
  5, 3, 5, 2, 5, 2, 4, 2, 2, 1, 5, 5, 1, 5, 3, 1, 7, 4, 3, 9, 2, 6, 2, 2, 2, 2, 2, 1, 2, 1, 1, 3, 5, 1, 1, 1, 6, 2, 2, 2,
  1, 1, 1, 1, 1, 1, 2, 3, 6, 1, 1, 2, 2, 2, 1, 2, 3, 3, 2, 2, 2, 3, 2, 2, 2, 4, 3, 3, 5, 3, 5, 3, 3, 1, 1, 1, 1, 1, 1, 1,
  1, 1, 1, 3, 2, 2, 1, 2, 2, 2, 2, 2, 3, 4, 2, 1, 1, 1, 4, 2, 2, 2, 1, 6, 2, 2, 3, 1, 6, 1, 2, 3, 5, 1, 2, 3, 3, 4, 3, 4,
  2, 2, 2, 1, 2, 4, 3, 4, 5, 6, 4, 2, 4, 2, 3, 2, 3, 4, 5, 5, 4, 3, 3, 5, 3, 2, 4, 3, 5, 3, 2, 2, 4, 2, 4, 2, 2, 5, 3, 3,
  6, 2, 2, 1, 3, 4, 1, 1, 4, 1, 1, 1, 1, 1, 5, 2, 1, 1, 4, 2, 1, 3, 2, 3, 3, 3, 2, 2, 1, 1, 1, 1, 2, 3, 4, 3, 1, 2, 2, 2,
  1, 2, 3, 3, 3, 2, 2, 2, 4, 4, 2, 2, 3, 4, 5, 6, 5, 3, 3, 4, 4, 8, 3, 3, 1, 1, 1, 2, 1, 1, 1, 1, 1, 1, 4, 2, 1, 3, 2, 2,
  2, 2, 3, 3, 2, 2, 5, 2, 1, 1, 1, 2, 4, 2, 8, 4, 3, 3, 4, 4, 4, 4, 4, 4, 4, 5, 5, 4, 4, 4, 5, 4, 4, 6, 5, 5, 5, 5, 6, 4,
  4, 3, 4, 4, 4, 4, 4, 6, 4, 3, 3, 5, 9]
def mlN (y : Nat) : Nat := mlL.getD y 0
def rtL : List (Option FieldType) := [
  none, (some .boolean), (some .boolean), (some .int), (some .boolean), (some .boolean), (some .boolean), (some .boolean), (some .boolean), none, none, none,
  none, none, (some .boolean), (some .boolean), (some .boolean), none, none, none, (some .int), (some .int), (some .int), none,
  (some .boolean), (some .int), (some .int), (some .int), none, none, none, none, none, none, none, (some .boolean),
  (some .boolean), (some .boolean), (some .boolean), (some .boolean), (some .int), (some .int), (some .int), (some .boolean), (some .int), (some .boolean), (some .int), (some .boolean),
  (some .boolean), (some .boolean), (some .int), none, none, none, none, none, none, (some .int), none, none,
  (some .boolean), (some .int), none, (some .int), none, none, none, none, (some .boolean), none, (some .int), (some .boolean),
  (some .int), (some .boolean), (some .boolean), none, (some .int), (some .int), (some .int), (some .int), (some .int), (some .int), (some .int), (some .int),
  (some .int), (some .int), (some .boolean), (some .int), (some .int), (some .int), (some .int), (some .int), (some .int), (some .int), (some .int), (some .int),
  (some .int), (some .int), (some .int), (some .int), (some .boolean), (some .int), (some .boolean), (some .int), (some .int), (some .int), (some .int), (some .int),
  (some .int), (some .int), (some .boolean), (some .int), (some .int), (some .int), (some .int), (some .int), (some .int), (some .int), (some .int), (some .int),
  (some .int), (some .int), (some .int), (some .int), (some .int), (some .float), (some .double), (some .int), (some .int), (some .int), (some .int), (some .int),
  (some .int), (some .int), (some .int), (some .int), (some .int), (some .int), (some .int), (some .int), none, none, none, (some .int),
  (some .int), (some .int), none, (some .int), (some .boolean), (some .int), (some .boolean), (some .boolean), none, none, (some .int), (some .int),
  (some .int), none, (some .int), none, (some .boolean), (some .boolean), (some .boolean), (some .boolean), (some .int), (some .boolean), (some .boolean), (some .int),
  (some .int), none, none, (some .int), (some .boolean), (some .int), (some .int), (some .int), (some .boolean), (some .int), (some .int), none,
  (some .boolean), (some .boolean), (some .int), (some .boolean), (some .int), (some .int), none, none, none, (some .int), (some .boolean), (some .boolean),
  (some .boolean), (some .boolean), (some .boolean), (some .boolean), (some .boolean), (some .boolean), (some .boolean), none, (some .int), (some .int), (some .int), (some .int),
  none, (some .boolean), none, none, (some .int), none, (some .boolean), (some .int), (some .int), none, none, (some .int),
  (some .int), (some .int), none, none, (some .int), none, none, (some .boolean), (some .boolean), none, (some .int), (some .int),
  (some .int), (some .int), (some .int), (some .int), (some .boolean), (some .int), (some .int), (some .int), (some .int), (some .int), (some .int), (some .int),
  (some .int), (some .int), (some .int), (some .boolean), (some .int), (some .int), (some .int), (some .boolean), (some .int), (some .boolean), (some .int), (some .int),
  (some .boolean), (some .int), (some .int), (some .int), (some .int), (some .int), (some .int), (some .boolean), (some .boolean), (some .boolean), (some .int), (some .int),
  (some .int), (some .int), (some .int), (some .int), (some .int), (some .int), (some .int), (some .int), (some .int), (some .int), (some .int), (some .int),
  (some .float), (some .double), (some .boolean), (some .int), (some .int), (some .int), (some .int), (some .int), (some .int), (some .int), (some .int), (some .int),
  (some .int), (some .int), (some .int), none, (some .int), (some .int), (some .int), (some .int), (some .int), (some .int), (some .int), (some .int),
  (some .int), (some .int), (some .int), (some .int), (some .int), (some .int), (some .int), (some .int), (some .int), (some .int), (some .int), (some .int),
  (some .int), (some .int), (some .int), (some .int), (some .int), (some .int), (some .int), (some .int), (some .int), (some .int), (some .int), (some .int),
  (some .int), (some .int), (some .int), (some .int), (some .int), (some .int), (some .int), (some .int), (some .boolean)]
def rtN (y : Nat) : Option FieldType := rtL.getD y none
def naL : List Nat := [
  0, 1, 1, 1, 2, 1, 3, 3, 4, 0, 0, 1, 0, 1, 3, 1, 1, 0, 1, 3, 1, 2, 0, 2, 1, 0, 0, 0, 0, 1, 1, 0, 0, 4, 1, 1, 1, 1, 1, 0,
  3, 1, 1, 1, 1, 1, 1, 1, 1, 0, 2, 2, 0, 3, 2, 0, 4, 2, 1, 5, 0, 4, 1, 1, 1, 1, 1, 0, 1, 0, 1, 1, 2, 0, 0, 0, 5, 1, 0, 0,
  0, 0, 0, 0, 0, 0, 1, 1, 1, 0, 0, 1, 1, 1, 0, 1, 2, 2, 1, 1, 1, 2, 1, 1, 0, 3, 2, 2, 2, 2, 3, 1, 1, 0, 0, 0, 0, 0, 0, 0,
  0, 0, 0, 0, 0, 0, 0, 0, 1, 1, 1, 1, 1, 3, 1, 0, 0, 0, 2, 1, 1, 1, 1, 3, 1, 2, 0, 0, 3, 1, 1, 2, 4, 0, 1, 2, 2, 3, 2, 3,
  1, 1, 1, 1, 1, 2, 1, 2, 2, 3, 1, 1, 2, 1, 2, 1, 2, 3, 3, 2, 1, 2, 2, 2, 2, 0, 1, 2, 1, 1, 1, 1, 1, 1, 1, 1, 1, 3, 1, 1,
  5, 1, 1, 0, 2, 1, 0, 0, 2, 0, 0, 0, 0, 0, 0, 0, 0, 0, 1, 1, 0, 2, 0, 1, 1, 1, 0, 1, 0, 0, 0, 0, 1, 1, 1, 0, 0, 1, 1, 1,
  0, 1, 2, 2, 2, 1, 1, 1, 2, 1, 1, 0, 2, 3, 2, 2, 2, 2, 1, 3, 3, 3, 1, 1, 0, 0, 0, 0, 0, 0, 0, 0, 0, 0, 0, 0, 0, 0, 1, 1,
  0, 1, 1, 1, 1, 1, 3, 1, 0, 0, 0, 1, 2, 1, 7, 3, 2, 2, 3, 3, 3, 3, 3, 3, 3, 4, 4, 3, 3, 3, 4, 3, 3, 5, 4, 4, 4, 4, 5, 3,
  3, 2, 3, 3, 3, 3, 3, 5, 3, 2, 2, 4, 1]
/-- the number of parameters, the receiver not counted -/
def naN (y : Nat) : Nat := naL.getD y 0
def htL : List Nat := [
  1, 7, 6, 5, 4, 2, 3, 0, 6, 1, 0, 0, 1, 1, 0, 0, 0, 1, 1, 2, 0, 1, 0, 1, 0, 0, 0, 0, 3, 3, 3, 0, 2, 1, 2, 6, 5, 5, 0, 0,
  3, 1, 2, 3, 4, 3, 4, 0, 1, 0, 5, 4, 0, 2, 0, 1, 2, 1, 2, 3, 2, 3, 1, 0, 0, 1, 1, 0, 0, 1, 0, 4, 2, 2, 3, 4, 6, 6, 7, 8,
  0, 0, 0, 0, 0, 0, 7, 7, 6, 2, 0, 7, 7, 7, 0, 7, 7, 7, 7, 7, 7, 7, 7, 6, 1, 7, 7, 7, 7, 7, 7, 7, 7, 1, 0, 6, 6, 0, 0, 0,
  0, 0, 0, 1, 0, 0, 1, 6, 6, 7, 7, 6, 6, 6, 6, 6, 3, 6, 7, 1, 6, 6, 6, 1, 0, 0, 7, 0, 0, 0, 0, 0, 0, 1, 1, 0, 0, 0, 0, 0,
  1, 1, 1, 1, 1, 1, 2, 0, 1, 2, 3, 1, 2, 3, 1, 0, 3, 4, 5, 6, 1, 7, 2, 3, 8, 1, 1, 1, 8, 9, 4, 10, 4, 4, 5, 0, 0, 0, 2, 0,
  1, 1, 0, 1, 0, 4, 0, 2, 2, 0, 0, 0, 0, 5, 5, 6, 5, 6, 2, 3, 3, 4, 7, 5, 11, 1, 12, 0, 1, 1, 1, 1, 3, 3, 3, 1, 1, 2, 4, 2,
  1, 2, 2, 2, 3, 2, 2, 2, 2, 2, 1, 1, 2, 6, 4, 4, 6, 9, 0, 1, 2, 3, 9, 9, 2, 1, 10, 10, 1, 1, 1, 1, 1, 1, 1, 1, 0, 1, 1, 2,
  5, 11, 5, 6, 3, 3, 3, 3, 1, 1, 1, 0, 5, 1, 7, 7, 8, 9, 8, 8, 7, 8, 8, 8, 8, 8, 8, 8, 8, 8, 8, 8, 7, 8, 8, 8, 8, 8, 8, 8,
  8, 7, 7, 8, 8, 7, 7, 7, 7, 7, 7, 8, 13]
def htN (y : Nat) : Nat := htL.getD y 0
def loL : List Nat := [
  20, 164, 142, 122, 89, 41, 65, 0, 154, 20, 0, 0, 20, 60, 0, 0, 0, 20, 60, 60, 0, 21, 0, 60, 0, 0, 0, 0, 60, 102, 102, 0, 40, 20, 81, 147, 122, 122, 0, 0,
  84, 21, 43, 67, 88, 67, 88, 0, 21, 0, 130, 106, 0, 82, 0, 20, 43, 21, 44, 66, 46, 69, 21, 0, 0, 21, 20, 0, 0, 21, 0, 100, 41, 41, 65, 108, 90, 90, 168, 186,
  0, 0, 0, 0, 0, 0, 110, 110, 90, 46, 0, 111, 111, 111, 0, 111, 111, 111, 111, 111, 111, 111, 111, 90, 21, 111, 111, 111, 111, 111, 111, 111, 111, 21, 0, 154, 154, 0, 0, 0,
  0, 0, 0, 22, 0, 0, 22, 124, 154, 124, 124, 124, 124, 124, 124, 125, 102, 102, 111, 21, 90, 90, 90, 21, 0, 0, 168, 0, 0, 0, 0, 0, 0, 24, 24, 0, 0, 0, 0, 0,
  25, 25, 25, 25, 22, 22, 45, 0, 23, 47, 72, 22, 43, 66, 22, 0, 67, 89, 112, 136, 23, 160, 43, 67, 182, 22, 23, 23, 182, 206, 95, 228, 87, 87, 116, 0, 0, 0, 46, 0,
  22, 25, 0, 25, 0, 100, 0, 45, 45, 0, 0, 0, 0, 123, 123, 147, 123, 143, 45, 68, 68, 89, 163, 116, 249, 24, 271, 0, 21, 21, 21, 21, 67, 67, 67, 23, 21, 46, 87, 46,
  21, 46, 46, 43, 65, 46, 46, 46, 46, 46, 25, 21, 46, 136, 89, 89, 136, 204, 0, 22, 43, 66, 204, 204, 43, 21, 228, 228, 21, 21, 21, 21, 21, 21, 22, 21, 0, 22, 24, 46,
  116, 249, 110, 139, 67, 67, 67, 68, 24, 24, 24, 0, 112, 25, 115, 111, 189, 207, 131, 132, 115, 132, 132, 132, 132, 133, 133, 132, 132, 132, 133, 132, 111, 134, 133, 133, 135, 133, 135, 133,
  133, 145, 175, 145, 145, 145, 146, 147, 145, 145, 122, 134, 292]
def loN (y : Nat) : Nat := loL.getD y 0
def hhL : List (List (Nat × Nat × Nat × Nat)) := [
  [], [], [], [], [], [], [], [], [], [], [], [],
  [], [], [], [], [], [], [], [], [], [], [], [],
  [], [], [], [], [], [], [], [], [], [], [], [],
  [], [], [], [], [], [], [], [], [], [], [], [],
  [], [], [], [], [], [], [], [], [], [], [], [],
  [], [], [], [], [], [], [], [], [], [], [], [],
  [], [], [], [], [], [], [], [], [], [], [], [],
  [], [], [], [], [], [], [], [], [], [], [], [],
  [], [], [], [], [], [], [], [], [], [], [], [],
  [], [], [], [], [], [], [], [], [], [], [], [],
  [], [], [], [], [], [], [], [], [], [], [], [],
  [], [], [], [], [], [], [], [], [], [], [], [],
  [], [], [], [], [], [], [], [], [], [], [], [],
  [], [], [], [], [], [], [], [], [], [], [], [],
  [], [], [], [], [], [], [], [], [], [], [], [],
  [], [], [], [], [], [], [], [], [], [], [], [],
  [], [], [], [], [], [], [], [], [], [], [], [],
  [], [], [], [], [], [], [], [], [], [], [], [],
  [], [], [], [], [], [], [], [], [], [], [], [],
  [], [], [], [], [], [], [], [], [], [], [], [],
  [], [], [], [], [], [], [], [], [], [], [], [],
  [], [], [], [], [], [], [], [], [], [], [], [],
  [], [], [], [], [], [], [], [], [], [], [], [],
  [], [], [], [], [], [], [], [], [], [], [], [],
  [], [], [], [], [], [], [(0, 16, 19, 13)], [(0, 9, 12, 19)], [(0, 8, 11, 19)], [(0, 8, 11, 19)], [(0, 16, 19, 19)], [(0, 9, 12, 19)],
  [(0, 9, 12, 19)], [(0, 9, 12, 41)], [(0, 9, 12, 41)], [(0, 9, 12, 41)], [(0, 9, 12, 41)], [(0, 10, 13, 41)], [(0, 10, 13, 41)], [(0, 9, 12, 41)], [(0, 9, 12, 41)], [(0, 16, 19, 41)], [(0, 10, 13, 41)], [(0, 16, 19, 41)],
  [(0, 9, 12, 19)], [(0, 12, 15, 41), (0, 12, 19, 19)], [(0, 10, 13, 41), (0, 10, 17, 19)], [(0, 10, 13, 41), (0, 10, 17, 19)], [(0, 10, 13, 41), (0, 10, 17, 19)], [(0, 10, 13, 41), (0, 10, 17, 19)], [(0, 19, 22, 41), (0, 19, 26, 19)], [(0, 9, 12, 41)], [(0, 9, 12, 41)], [(0, 8, 11, 19), (0, 8, 14, 13)], [(0, 9, 12, 19), (0, 9, 15, 13)], [(0, 9, 12, 41), (0, 9, 15, 13)],
  [(0, 9, 12, 41), (0, 9, 15, 13)], [(0, 9, 12, 19), (0, 9, 15, 13)], [(0, 9, 12, 19)], [(0, 12, 15, 19), (0, 12, 19, 13)], [(0, 9, 12, 41)], [(0, 8, 11, 13)], [(0, 8, 11, 13)], [(0, 10, 13, 41), (0, 10, 17, 19)], []]
/-- the table of handlers: from, to, handler, the class's entry in the pool -/
def hhN (y : Nat) : List (Nat × Nat × Nat × Nat) := hhL.getD y []
def cpL : List Nat := [
  194, 940, 946, 949, 963, 967, 975, 971, 989, 319, 442, 581, 258, 572, 446, 1038, 615, 279, 577, 465, 606, 610, 555, 638, 1175, 681, 685, 701, 245, 983,
  1342, 929, 252, 438, 567, 829, 845, 917, 1012, 458, 454, 1016, 1008, 1004, 1000, 1025, 1021, 1033, 1029, 994, 585, 590, 594, 634, 642, 217, 602, 624, 620, 1238,
  629, 598, 127, 713, 450, 793, 148, 833, 902, 837, 841, 850, 906, 912, 922, 119, 721, 802, 825, 936, 507, 511, 515, 519, 523, 527, 1045, 1058, 1065, 531,
  536, 1074, 1101, 1109, 540, 1116, 1128, 1135, 1143, 1150, 1157, 1164, 1171, 1182, 544, 1190, 1199, 1206, 1213, 1220, 1228, 1246, 1253, 551, 559, 563, 646, 650, 654, 658,
  662, 666, 670, 674, 689, 693, 697, 1260, 1270, 1280, 1290, 1300, 1311, 1319, 1328, 1337, 705, 1349, 1357, 709, 1120, 1078, 1048, 471, 1233, 547, 1362, 1547, 1399, 1683,
  1438, 1869, 1373, 1917, 1921, 1680, 1459, 1446, 1467, 1455, 1747, 1711, 1816, 1774, 1640, 1676, 1672, 1470, 1463, 1451, 1442, 1723, 1719, 1715, 1664, 1656, 1668, 1660, 1652, 1648,
  1687, 1644, 1695, 1691, 1890, 1632, 1699, 1703, 1636, 1628, 1619, 1623, 1707, 1731, 1727, 1735, 1739, 1430, 1743, 1555, 1551, 1559, 1394, 1390, 1403, 1386, 1407, 1421, 1411, 1377,
  1434, 1563, 1567, 1381, 1425, 1370, 1588, 1580, 1599, 1603, 1417, 1595, 1576, 1615, 1611, 1607, 1572, 1755, 1751, 1759, 1763, 1767, 1771, 1779, 1783, 1788, 1792, 1796, 1800, 1804,
  1808, 1812, 1820, 1828, 1824, 1832, 1836, 1840, 1844, 1848, 1852, 1857, 1865, 1861, 1873, 1877, 1882, 1886, 1902, 1905, 1898, 1894, 1909, 1913, 1925, 1929, 1933, 1937, 1941, 1945,
  1949, 1953, 1957, 1961, 1965, 1970, 1974, 1978, 1987, 1991, 1982, 1995, 2000, 2004, 2008, 2014, 2019, 2024, 2028, 2032, 2036, 2044, 2040, 2048, 716, 797, 821, 932, 1041, 1054,
  1061, 1069, 1097, 1105, 1112, 1124, 1131, 1139, 1146, 1153, 1160, 1167, 1178, 1186, 1195, 1202, 1209, 1216, 1224, 1242, 1249, 1256, 1266, 1276, 1286, 1296, 1307, 1315, 1324, 1333,
  1345, 1353, 0]
def cdW (y : Nat) : Cond := if hhN y = [] then .code (ynN y) (cdN y) (mlN y) (rtN y) else .codeWith (ynN y) (cdN y) (mlN y) (rtN y) (hhN y)
def inT (p : Nat) (w : Cond) : Bool := decide (lw_tbl[p]? = some w) && goodWord w
def T0 : List Cond := lw_tbl.filter goodWord
def mtC (y : Nat) : Bool := plainName (ynN y).cls && decide ((parseMethodDescriptor (ynN y).desc).map (fun d => d.parameters.length) = some (naN y)) && decide ((ynN y).cls = clsN (owN y)) && decide ((ynN y).cls ≠ "java/lang/invoke/MethodHandle" ∧ (ynN y).cls ≠ "java/lang/invoke/VarHandle")
set_option maxRecDepth 100000 in
def lyL : List (List Nat) := [[202, 204, 206, 208, 210], [348, 350, 352, 354, 356, 358, 360, 362, 364], [266, 268, 270, 272], [300, 302, 304, 306, 308, 310, 312], [426, 428, 430], [395, 397, 399, 401, 403, 405, 407, 409, 411, 413, 415, 417, 419], [230, 232, 234, 236, 238], [138, 140], [171, 173, 175, 177, 179, 181, 183, 185, 187], [483, 485, 487, 489, 491, 493, 495, 497, 499, 501], [1495, 1497, 1499, 1501, 1503, 1505, 1507, 1509, 1511, 1513, 1515, 1517, 1519, 1521, 1523, 1525, 1527, 1529, 1531, 1533, 1535, 1537, 1539, 1541]]
def tyC (c k : Nat) : Bool := decide (parseFieldDescriptor (TT c k).2.2.1 = some (tyT c k)) && decide ((TT c k).2.2.2 = ff c k) && decide ((TT c k).1 = clsN c) && (match fk c k, tyT c k with | 0, .int => true | 1, .boolean => true | 2, .object _ => true | 2, .array _ => true | _, _ => false)
def ctL : List ((Nat × Nat) × Nat × Nat × List Nat) := [
  ((0, 3), 9, 0, [195, 121, 122]), ((0, 28), 0, 67, [941, 831, 832, 95]), ((0, 33), 0, 69, [942, 835, 836, 95]), ((0, 39), 0, 2, [943, 945, 8, 96]), ((0, 43), 1, 3, [947, 948, 96]),
  ((0, 47), 0, 68, [959, 900, 901, 95]), ((0, 51), 0, 4, [960, 962, 9, 96]), ((0, 55), 0, 73, [978, 910, 911, 95]), ((0, 61), 0, 71, [951, 848, 849, 95]), ((0, 79), 0, 5, [964, 966, 10, 96]),
  ((0, 82), 0, 6, [972, 974, 12, 96]), ((0, 86), 0, 74, [977, 920, 921, 95]), ((0, 97), 0, 7, [968, 970, 11, 96]), ((0, 107), 0, 72, [976, 904, 905, 95]), ((0, 116), 0, 40, [990, 452, 453, 99]),
  ((0, 122), 0, 49, [991, 992, 993, 99]), ((0, 125), 0, 50, [996, 583, 584, 99]), ((0, 129), 0, 44, [997, 998, 999, 99]), ((0, 133), 0, 46, [1018, 1019, 1020, 99]), ((0, 136), 0, 48, [1026, 1027, 1028, 99]),
  ((0, 146), 0, 14, [1034, 444, 445, 100]), ((0, 151), 0, 15, [1035, 1036, 1037, 100]), ((1, 1), 9, 0, [320, 121, 122]), ((2, 3), 9, 0, [259, 121, 122]), ((2, 25), 8, 0, [573, 468, 467, 103]),
  ((3, 3), 9, 0, [280, 121, 122]), ((3, 34), 8, 0, [466, 468, 467, 103]), ((3, 40), 3, 143, [470, 92]), ((3, 44), 0, 20, [611, 604, 605, 101]), ((4, 3), 9, 0, [246, 121, 122]),
  ((4, 17), 4, 32, [251, 99]), ((4, 22), 0, 34, [984, 565, 566, 99]), ((4, 29), 6, 0, [985, 460, 94, 461]), ((5, 3), 9, 0, [253, 121, 122]), ((5, 20), 4, 12, [257, 100]),
  ((5, 27), 4, 17, [278, 101]), ((5, 34), 4, 9, [318, 102]), ((5, 68), 0, 10, [439, 440, 441, 102]), ((5, 71), 8, 0, [568, 468, 467, 103]), ((5, 77), 0, 13, [569, 570, 571, 100]),
  ((5, 81), 0, 18, [574, 575, 576, 101]), ((5, 84), 0, 11, [578, 579, 580, 102]), ((5, 87), 0, 67, [830, 831, 832, 95]), ((5, 92), 0, 69, [834, 835, 836, 95]), ((5, 95), 0, 36, [842, 844, 6, 99]),
  ((5, 99), 0, 37, [914, 916, 7, 99]), ((5, 104), 0, 71, [847, 848, 849, 95]), ((5, 108), 0, 68, [899, 900, 901, 95]), ((5, 112), 0, 72, [903, 904, 905, 95]), ((5, 116), 0, 73, [909, 910, 911, 95]),
  ((5, 120), 0, 33, [913, 436, 437, 99]), ((5, 129), 0, 74, [919, 920, 921, 95]), ((5, 140), 0, 14, [924, 444, 445, 100]), ((5, 144), 0, 39, [455, 456, 457, 99]), ((5, 147), 6, 0, [459, 460, 94, 461]),
  ((5, 152), 0, 19, [462, 463, 464, 101]), ((5, 155), 0, 38, [1009, 1010, 1011, 99]), ((5, 158), 0, 41, [1013, 1015, 13, 99]), ((5, 162), 5, 0, [1017, 130, 94, 131]), ((5, 168), 0, 42, [1005, 1006, 1007, 99]),
  ((5, 171), 0, 43, [1001, 1002, 1003, 99]), ((5, 174), 0, 45, [1022, 1023, 1024, 99]), ((5, 184), 0, 47, [1030, 1031, 1032, 99]), ((5, 190), 0, 22, [586, 553, 554, 101]), ((5, 194), 0, 51, [587, 589, 0, 99]),
  ((5, 198), 0, 52, [591, 593, 1, 99]), ((5, 201), 0, 61, [595, 596, 597, 97]), ((5, 223), 0, 53, [631, 633, 3, 99]), ((5, 227), 0, 54, [639, 641, 4, 99]), ((5, 243), 0, 23, [635, 636, 637, 101]),
  ((6, 3), 9, 0, [218, 121, 122]), ((6, 24), 0, 20, [603, 604, 605, 101]), ((6, 40), 0, 21, [607, 608, 609, 101]), ((6, 48), 0, 16, [612, 613, 614, 100]), ((6, 54), 5, 0, [616, 130, 94, 131]),
  ((6, 59), 3, 145, [546, 92]), ((6, 62), 0, 57, [621, 622, 623, 97]), ((6, 65), 0, 58, [617, 619, 2, 97]), ((6, 69), 3, 143, [470, 92]), ((6, 73), 0, 56, [599, 600, 601, 97]),
  ((6, 80), 0, 60, [626, 627, 628, 97]), ((7, 3), 9, 0, [128, 121, 122]), ((7, 9), 5, 0, [129, 130, 94, 131]), ((7, 25), 0, 64, [794, 448, 449, 93]), ((8, 3), 9, 0, [149, 121, 122]),
  ((8, 36), 0, 63, [838, 711, 712, 93]), ((8, 40), 1, 70, [839, 840, 95]), ((8, 43), 10, 0, [851, 852, 853, 105]), ((8, 48), 11, 0, [861, 862, 863, 105]), ((8, 52), 0, 69, [907, 835, 836, 95]),
  ((8, 55), 0, 68, [908, 900, 901, 95]), ((8, 59), 0, 72, [923, 904, 905, 95]), ((9, 1), 9, 0, [120, 121, 122]), ((9, 11), 2, 62, [125, 126, 93]), ((9, 23), 2, 66, [146, 147, 95]),
  ((9, 32), 4, 0, [193, 96]), ((9, 39), 4, 55, [216, 97]), ((9, 46), 2, 28, [243, 244, 98]), ((9, 53), 4, 32, [251, 99]), ((9, 64), 0, 33, [435, 436, 437, 99]),
  ((9, 72), 0, 14, [443, 444, 445, 100]), ((9, 78), 0, 64, [447, 448, 449, 93]), ((9, 89), 0, 40, [451, 452, 453, 99]), ((9, 100), 0, 65, [790, 791, 792, 93]), ((9, 108), 0, 35, [826, 827, 828, 99]),
  ((9, 114), 0, 34, [564, 565, 566, 99]), ((9, 118), 0, 31, [926, 927, 928, 98]), ((9, 124), 0, 1, [937, 938, 939, 96]), ((9, 129), 0, 29, [980, 981, 982, 98]), ((9, 133), 0, 8, [986, 987, 988, 96]),
  ((9, 152), 1, 142, [1046, 1047, 92]), ((9, 155), 0, 16, [1051, 613, 614, 100]), ((9, 161), 1, 143, [532, 470, 92]), ((9, 167), 0, 141, [1075, 1077, 14, 92]), ((9, 173), 0, 42, [1102, 1006, 1007, 99]),
  ((9, 187), 0, 140, [1117, 1119, 15, 92]), ((9, 196), 0, 21, [1136, 608, 609, 101]), ((9, 212), 0, 24, [1172, 1173, 1174, 101]), ((9, 217), 1, 145, [545, 546, 92]), ((9, 220), 0, 56, [1191, 600, 601, 97]),
  ((9, 227), 0, 57, [1192, 622, 623, 97]), ((9, 236), 0, 61, [1221, 596, 597, 97]), ((9, 243), 1, 144, [1231, 1232, 92]), ((9, 248), 0, 59, [1235, 1236, 1237, 97]), ((9, 252), 0, 60, [1239, 627, 628, 97]),
  ((9, 256), 0, 22, [552, 553, 554, 101]), ((9, 263), 0, 50, [582, 583, 584, 99]), ((9, 291), 7, 0, [675, 676, 94, 677]), ((9, 296), 0, 25, [678, 679, 680, 101]), ((9, 299), 0, 26, [682, 683, 684, 101]),
  ((9, 308), 0, 27, [698, 699, 700, 101]), ((9, 313), 0, 39, [1262, 456, 457, 99]), ((9, 320), 0, 49, [1272, 992, 993, 99]), ((9, 325), 0, 43, [1281, 1002, 1003, 99]), ((9, 330), 0, 44, [1283, 998, 999, 99]),
  ((9, 333), 0, 45, [1291, 1023, 1024, 99]), ((9, 338), 0, 46, [1293, 1019, 1020, 99]), ((9, 343), 0, 47, [1302, 1031, 1032, 99]), ((9, 348), 0, 48, [1304, 1027, 1028, 99]), ((9, 362), 0, 15, [1330, 1036, 1037, 100]),
  ((9, 368), 0, 30, [1339, 1340, 1341, 98]), ((9, 380), 0, 63, [710, 711, 712, 93]), ((9, 390), 5, 0, [472, 130, 94, 131]), ((10, 3), 9, 0, [1363, 121, 122]), ((10, 46), 10, 0, [1365, 852, 853, 105]),
  ((10, 52), 11, 0, [1366, 862, 863, 105]), ((10, 58), 0, 215, [1367, 1368, 1369, 104]), ((10, 61), 0, 170, [1439, 1441, 30, 104]), ((10, 68), 1, 152, [1371, 1372, 104]), ((10, 72), 1, 148, [1397, 1398, 104]),
  ((10, 78), 0, 158, [1464, 1466, 36, 104]), ((10, 82), 0, 155, [1677, 1679, 62, 104]), ((10, 85), 0, 165, [1673, 1675, 61, 104]), ((10, 89), 1, 167, [1468, 1469, 104]), ((10, 92), 0, 159, [1452, 1454, 33, 104]),
  ((10, 96), 0, 156, [1456, 1458, 34, 104]), ((10, 99), 0, 168, [1460, 1462, 35, 104]), ((10, 102), 0, 157, [1443, 1445, 31, 104]), ((10, 105), 6, 0, [1447, 460, 94, 461]), ((10, 110), 0, 169, [1448, 1450, 32, 104]),
  ((10, 113), 0, 171, [1720, 1722, 72, 104]), ((10, 117), 0, 172, [1716, 1718, 71, 104]), ((10, 120), 0, 166, [1669, 1671, 60, 104]), ((10, 124), 0, 174, [1661, 1663, 58, 104]), ((10, 127), 0, 176, [1665, 1667, 59, 104]),
  ((10, 130), 1, 149, [1681, 1682, 104]), ((10, 134), 0, 175, [1653, 1655, 56, 104]), ((10, 137), 0, 164, [1637, 1639, 52, 104]), ((10, 140), 0, 177, [1657, 1659, 57, 104]), ((10, 144), 0, 178, [1649, 1651, 55, 104]),
  ((10, 147), 0, 179, [1645, 1647, 54, 104]), ((10, 151), 0, 180, [1684, 1686, 63, 104]), ((10, 154), 0, 182, [1692, 1694, 65, 104]), ((10, 157), 0, 181, [1641, 1643, 53, 104]), ((10, 160), 0, 183, [1688, 1690, 64, 104]),
  ((10, 163), 0, 186, [1696, 1698, 66, 104]), ((10, 166), 0, 187, [1700, 1702, 67, 104]), ((10, 170), 0, 185, [1629, 1631, 50, 104]), ((10, 173), 0, 188, [1633, 1635, 51, 104]), ((10, 180), 0, 189, [1625, 1627, 49, 104]),
  ((10, 183), 0, 161, [1708, 1710, 69, 104]), ((10, 186), 0, 173, [1712, 1714, 70, 104]), ((10, 189), 0, 193, [1728, 1730, 74, 104]), ((10, 192), 0, 190, [1616, 1618, 47, 104]), ((10, 195), 0, 160, [1744, 1746, 78, 104]),
  ((10, 198), 0, 150, [1435, 1437, 29, 104]), ((10, 202), 0, 199, [1552, 1554, 37, 104]), ((10, 208), 0, 202, [1391, 1393, 20, 104]), ((10, 227), 0, 203, [1387, 1389, 19, 104]), ((10, 230), 0, 204, [1400, 1402, 21, 104]),
  ((10, 243), 0, 205, [1383, 1385, 18, 104]), ((10, 247), 0, 206, [1404, 1406, 22, 104]), ((10, 250), 0, 208, [1408, 1410, 23, 104]), ((10, 253), 0, 220, [1414, 1416, 24, 104]), ((10, 256), 0, 207, [1418, 1420, 25, 104]),
  ((10, 261), 0, 197, [1427, 1429, 27, 104]), ((10, 265), 0, 209, [1374, 1376, 16, 104]), ((10, 268), 0, 213, [1378, 1380, 17, 104]), ((10, 271), 0, 214, [1422, 1424, 26, 104]), ((10, 274), 0, 210, [1431, 1433, 28, 104]),
  ((10, 295), 0, 216, [1585, 1587, 40, 104]), ((10, 298), 0, 218, [1596, 1598, 42, 104]), ((10, 301), 0, 219, [1600, 1602, 43, 104]), ((10, 304), 0, 217, [1577, 1579, 39, 104]), ((10, 310), 0, 221, [1592, 1594, 41, 104]),
  ((10, 313), 0, 223, [1612, 1614, 46, 104]), ((10, 316), 0, 191, [1620, 1622, 48, 104]), ((10, 319), 0, 192, [1704, 1706, 68, 104]), ((10, 322), 0, 194, [1724, 1726, 73, 104]), ((10, 325), 0, 195, [1732, 1734, 75, 104]),
  ((10, 328), 0, 196, [1736, 1738, 76, 104]), ((10, 331), 0, 198, [1740, 1742, 77, 104]), ((10, 334), 0, 222, [1573, 1575, 38, 104]), ((10, 337), 0, 225, [1604, 1606, 44, 104]), ((10, 341), 0, 224, [1608, 1610, 45, 104]),
  ((10, 344), 0, 227, [1752, 1754, 79, 104]), ((10, 347), 1, 163, [1772, 1773, 104]), ((10, 352), 0, 162, [1813, 1815, 80, 104]), ((10, 355), 0, 243, [1825, 1827, 81, 104]), ((10, 360), 0, 151, [1866, 1868, 83, 104]),
  ((10, 364), 0, 252, [1862, 1864, 82, 104]), ((10, 367), 5, 0, [1878, 130, 94, 131]), ((10, 370), 0, 184, [1887, 1889, 84, 104]), ((10, 373), 1, 258, [1900, 1901, 104]), ((10, 378), 0, 260, [1895, 1897, 85, 104]),
  ((10, 381), 1, 259, [1903, 1904, 104]), ((10, 384), 0, 153, [1914, 1916, 86, 104]), ((10, 387), 0, 154, [1918, 1920, 87, 104]), ((10, 390), 7, 0, [1966, 676, 94, 677]), ((10, 395), 0, 278, [1984, 1986, 88, 104]),
  ((10, 398), 0, 279, [1988, 1990, 89, 104]), ((10, 418), 0, 291, [2041, 2043, 90, 104]), ((11, 7), 0, 76, [718, 719, 720, 92]), ((11, 15), 0, 77, [799, 800, 801, 92]), ((11, 21), 0, 78, [822, 823, 824, 92]),
  ((11, 25), 0, 79, [933, 934, 935, 92]), ((11, 28), 0, 86, [1042, 1043, 1044, 92]), ((11, 32), 0, 87, [1055, 1056, 1057, 92]), ((11, 35), 0, 88, [1062, 1063, 1064, 92]), ((11, 38), 0, 91, [1071, 1072, 1073, 92]),
  ((11, 43), 0, 92, [1098, 1099, 1100, 92]), ((11, 46), 0, 93, [1106, 1107, 1108, 92]), ((11, 49), 0, 95, [1113, 1114, 1115, 92]), ((11, 52), 0, 96, [1125, 1126, 1127, 92]), ((11, 56), 0, 97, [1132, 1133, 1134, 92]),
  ((11, 59), 0, 98, [1140, 1141, 1142, 92]), ((11, 62), 0, 99, [1147, 1148, 1149, 92]), ((11, 65), 0, 100, [1154, 1155, 1156, 92]), ((11, 68), 0, 101, [1161, 1162, 1163, 92]), ((11, 71), 0, 102, [1168, 1169, 1170, 92]),
  ((11, 74), 0, 103, [1179, 1180, 1181, 92]), ((11, 77), 0, 105, [1187, 1188, 1189, 92]), ((11, 81), 0, 106, [1196, 1197, 1198, 92]), ((11, 84), 0, 107, [1203, 1204, 1205, 92]), ((11, 87), 0, 108, [1210, 1211, 1212, 92]),
  ((11, 90), 0, 109, [1217, 1218, 1219, 92]), ((11, 93), 0, 110, [1225, 1226, 1227, 92]), ((11, 97), 0, 111, [1243, 1244, 1245, 92]), ((11, 100), 0, 112, [1250, 1251, 1252, 92]), ((11, 103), 0, 127, [1257, 1258, 1259, 92]),
  ((11, 106), 0, 128, [1267, 1268, 1269, 92]), ((11, 109), 0, 129, [1277, 1278, 1279, 92]), ((11, 112), 0, 130, [1287, 1288, 1289, 92]), ((11, 115), 0, 131, [1297, 1298, 1299, 92]), ((11, 118), 0, 132, [1308, 1309, 1310, 92]),
  ((11, 121), 0, 133, [1316, 1317, 1318, 92]), ((11, 124), 0, 134, [1325, 1326, 1327, 92]), ((11, 127), 0, 135, [1334, 1335, 1336, 92]), ((11, 130), 0, 137, [1346, 1347, 1348, 92]), ((11, 133), 0, 138, [1354, 1355, 1356, 92]),
  ((11, 136), 2, 75, [117, 118, 92]), ((11, 139), 2, 146, [1360, 1361, 104]), ((11, 140), 12, 294, [714, 715, 91]), ((11, 145), 0, 200, [1548, 1549, 1550, 104]), ((11, 146), 0, 147, [1544, 1545, 1546, 104]),
  ((11, 149), 12, 295, [795, 796, 91]), ((11, 152), 0, 201, [1556, 1557, 1558, 104]), ((11, 153), 12, 296, [819, 820, 91]), ((11, 156), 0, 215, [1568, 1368, 1369, 104]), ((11, 157), 12, 297, [930, 931, 91]),
  ((11, 159), 0, 226, [1569, 1570, 1571, 104]), ((11, 160), 0, 80, [504, 505, 506, 92]), ((11, 163), 0, 211, [1560, 1561, 1562, 104]), ((11, 164), 0, 81, [508, 509, 510, 92]), ((11, 167), 0, 212, [1564, 1565, 1566, 104]),
  ((11, 168), 0, 82, [512, 513, 514, 92]), ((11, 171), 0, 228, [1748, 1749, 1750, 104]), ((11, 172), 0, 83, [516, 517, 518, 92]), ((11, 175), 0, 229, [1756, 1757, 1758, 104]), ((11, 176), 0, 84, [520, 521, 522, 92]),
  ((11, 179), 0, 230, [1760, 1761, 1762, 104]), ((11, 180), 0, 85, [524, 525, 526, 92]), ((11, 183), 0, 231, [1764, 1765, 1766, 104]), ((11, 184), 12, 298, [1039, 1040, 91]), ((11, 186), 0, 232, [1768, 1769, 1770, 104]),
  ((11, 187), 12, 299, [1052, 1053, 91]), ((11, 189), 0, 233, [1776, 1777, 1778, 104]), ((11, 190), 12, 300, [1059, 1060, 91]), ((11, 192), 0, 234, [1780, 1781, 1782, 104]), ((11, 193), 0, 89, [528, 529, 530, 92]),
  ((11, 196), 0, 235, [1785, 1786, 1787, 104]), ((11, 197), 0, 90, [533, 534, 535, 92]), ((11, 200), 0, 236, [1789, 1790, 1791, 104]), ((11, 201), 12, 301, [1067, 1068, 91]), ((11, 203), 0, 237, [1793, 1794, 1795, 104]),
  ((11, 204), 12, 302, [1095, 1096, 91]), ((11, 206), 0, 238, [1797, 1798, 1799, 104]), ((11, 207), 12, 303, [1103, 1104, 91]), ((11, 209), 0, 239, [1801, 1802, 1803, 104]), ((11, 210), 0, 94, [537, 538, 539, 92]),
  ((11, 213), 0, 240, [1805, 1806, 1807, 104]), ((11, 214), 12, 304, [1110, 1111, 91]), ((11, 216), 0, 241, [1809, 1810, 1811, 104]), ((11, 217), 12, 305, [1122, 1123, 91]), ((11, 220), 0, 242, [1817, 1818, 1819, 104]),
  ((11, 221), 12, 306, [1129, 1130, 91]), ((11, 223), 0, 244, [1821, 1822, 1823, 104]), ((11, 224), 12, 307, [1137, 1138, 91]), ((11, 226), 0, 245, [1829, 1830, 1831, 104]), ((11, 227), 12, 308, [1144, 1145, 91]),
  ((11, 229), 0, 246, [1833, 1834, 1835, 104]), ((11, 230), 12, 309, [1151, 1152, 91]), ((11, 232), 0, 247, [1837, 1838, 1839, 104]), ((11, 233), 12, 310, [1158, 1159, 91]), ((11, 235), 0, 248, [1841, 1842, 1843, 104]),
  ((11, 236), 12, 311, [1165, 1166, 91]), ((11, 238), 0, 249, [1845, 1846, 1847, 104]), ((11, 239), 12, 312, [1176, 1177, 91]), ((11, 241), 0, 250, [1849, 1850, 1851, 104]), ((11, 242), 0, 104, [541, 542, 543, 92]),
  ((11, 245), 0, 251, [1854, 1855, 1856, 104]), ((11, 246), 12, 313, [1184, 1185, 91]), ((11, 249), 0, 253, [1858, 1859, 1860, 104]), ((11, 250), 12, 314, [1193, 1194, 91]), ((11, 252), 0, 254, [1870, 1871, 1872, 104]),
  ((11, 253), 12, 315, [1200, 1201, 91]), ((11, 255), 0, 255, [1874, 1875, 1876, 104]), ((11, 256), 12, 316, [1207, 1208, 91]), ((11, 258), 0, 256, [1879, 1880, 1881, 104]), ((11, 259), 12, 317, [1214, 1215, 91]),
  ((11, 261), 0, 257, [1883, 1884, 1885, 104]), ((11, 262), 12, 318, [1222, 1223, 91]), ((11, 264), 0, 261, [1891, 1892, 1893, 104]), ((11, 265), 12, 319, [1240, 1241, 91]), ((11, 267), 0, 262, [1906, 1907, 1908, 104]),
  ((11, 268), 12, 320, [1247, 1248, 91]), ((11, 270), 0, 263, [1910, 1911, 1912, 104]), ((11, 271), 0, 113, [548, 549, 550, 92]), ((11, 274), 0, 264, [1922, 1923, 1924, 104]), ((11, 275), 0, 114, [556, 557, 558, 92]),
  ((11, 278), 0, 265, [1926, 1927, 1928, 104]), ((11, 279), 0, 115, [560, 561, 562, 92]), ((11, 282), 0, 266, [1930, 1931, 1932, 104]), ((11, 283), 0, 116, [643, 644, 645, 92]), ((11, 286), 0, 267, [1934, 1935, 1936, 104]),
  ((11, 287), 0, 117, [647, 648, 649, 92]), ((11, 290), 0, 268, [1938, 1939, 1940, 104]), ((11, 291), 0, 118, [651, 652, 653, 92]), ((11, 294), 0, 269, [1942, 1943, 1944, 104]), ((11, 295), 0, 119, [655, 656, 657, 92]),
  ((11, 298), 0, 270, [1946, 1947, 1948, 104]), ((11, 299), 0, 120, [659, 660, 661, 92]), ((11, 302), 0, 271, [1950, 1951, 1952, 104]), ((11, 303), 0, 121, [663, 664, 665, 92]), ((11, 306), 0, 272, [1954, 1955, 1956, 104]),
  ((11, 307), 0, 122, [667, 668, 669, 92]), ((11, 310), 0, 273, [1958, 1959, 1960, 104]), ((11, 311), 0, 123, [671, 672, 673, 92]), ((11, 314), 0, 274, [1962, 1963, 1964, 104]), ((11, 315), 0, 124, [686, 687, 688, 92]),
  ((11, 318), 0, 275, [1967, 1968, 1969, 104]), ((11, 319), 0, 125, [690, 691, 692, 92]), ((11, 323), 0, 276, [1971, 1972, 1973, 104]), ((11, 324), 0, 126, [694, 695, 696, 92]), ((11, 328), 0, 277, [1975, 1976, 1977, 104]),
  ((11, 329), 12, 321, [1254, 1255, 91]), ((11, 331), 0, 280, [1979, 1980, 1981, 104]), ((11, 332), 12, 322, [1264, 1265, 91]), ((11, 334), 0, 281, [1992, 1993, 1994, 104]), ((11, 335), 12, 323, [1274, 1275, 91]),
  ((11, 337), 0, 282, [1997, 1998, 1999, 104]), ((11, 338), 12, 324, [1284, 1285, 91]), ((11, 340), 0, 283, [2001, 2002, 2003, 104]), ((11, 341), 12, 325, [1294, 1295, 91]), ((11, 343), 0, 284, [2005, 2006, 2007, 104]),
  ((11, 344), 12, 326, [1305, 1306, 91]), ((11, 346), 0, 285, [2011, 2012, 2013, 104]), ((11, 347), 12, 327, [1313, 1314, 91]), ((11, 349), 0, 286, [2016, 2017, 2018, 104]), ((11, 350), 12, 328, [1322, 1323, 91]),
  ((11, 352), 0, 287, [2021, 2022, 2023, 104]), ((11, 353), 12, 329, [1331, 1332, 91]), ((11, 355), 0, 288, [2025, 2026, 2027, 104]), ((11, 356), 0, 136, [702, 703, 704, 92]), ((11, 359), 0, 289, [2029, 2030, 2031, 104]),
  ((11, 360), 12, 330, [1343, 1344, 91]), ((11, 362), 0, 290, [2033, 2034, 2035, 104]), ((11, 363), 12, 331, [1351, 1352, 91]), ((11, 365), 0, 292, [2037, 2038, 2039, 104]), ((11, 366), 0, 139, [706, 707, 708, 92]),
  ((11, 369), 0, 293, [2045, 2046, 2047, 104])]
def ctN (o i : Nat) : Option (Nat × Nat × List Nat) := (ctL.find? (fun e => e.1.1 == o && e.1.2 == i)).map (fun e => e.2)
def neL : List Cond := [.methodLinkNest (clsN 3) 40 (ynN 143) "MatchboxModem", .methodLinkNest (clsN 4) 17 (ynN 32) "MatchboxModem", .methodLinkNest (clsN 5) 20 (ynN 12) "MatchboxModem", .methodLinkNest (clsN 5) 27 (ynN 17) "MatchboxModem", .methodLinkNest (clsN 5) 34 (ynN 9) "MatchboxModem", .methodLinkNest (clsN 6) 59 (ynN 145) "MatchboxModem", .methodLinkNest (clsN 6) 69 (ynN 143) "MatchboxModem", .methodLinkNest (clsN 9) 32 (ynN 0) "MatchboxModem", .methodLinkNest (clsN 9) 39 (ynN 55) "MatchboxModem", .methodLinkNest (clsN 9) 53 (ynN 32) "MatchboxModem"]
def neH : String := "MatchboxModem"
def yStrLen : MethodName := ⟨"java/lang/String", "length", "()I"⟩
def yStrCh : MethodName := ⟨"java/lang/String", "charAt", "(I)C"⟩
def ctW (e : (Nat × Nat) × Nat × Nat × List Nat) : List Cond :=
  match e.2.1 with
  | 0 => [.methodLink (clsN e.1.1) e.1.2 (ynN e.2.2.1), .instanceMethod (ynN e.2.2.1), .selects (ynN e.2.2.1).cls (ynN e.2.2.1) (ynN e.2.2.1), .initialized (ynN e.2.2.1).cls]
  | 1 => [.methodLink (clsN e.1.1) e.1.2 (ynN e.2.2.1), .static (ynN e.2.2.1), .initialized (ynN e.2.2.1).cls]
  | 2 => [.methodLink (clsN e.1.1) e.1.2 (ynN e.2.2.1), .instanceMethod (ynN e.2.2.1), .initialized (ynN e.2.2.1).cls]
  | 3 => [.static (ynN e.2.2.1), .initialized (ynN e.2.2.1).cls]
  | 4 => [.instanceMethod (ynN e.2.2.1), .initialized (ynN e.2.2.1).cls]
  | 5 => [.methodLink (clsN e.1.1) e.1.2 Lib.Math.max.name, .static Lib.Math.max.name, .initialized "java/lang/Math", .code Lib.Math.max.name Lib.Math.max.code 2 (some .int)]
  | 6 => [.methodLink (clsN e.1.1) e.1.2 Lib.Math.min.name, .static Lib.Math.min.name, .initialized "java/lang/Math", .code Lib.Math.min.name Lib.Math.min.code 2 (some .int)]
  | 7 => [.methodLink (clsN e.1.1) e.1.2 Lib.Math.abs.name, .static Lib.Math.abs.name, .initialized "java/lang/Math", .code Lib.Math.abs.name Lib.Math.abs.code 1 (some .int)]
  | 8 => [.methodLink (clsN e.1.1) e.1.2 arraycopyName, .native arraycopyName, .static arraycopyName, .initialized "java/lang/System"]
  | 9 => [.methodLink (clsN e.1.1) e.1.2 objectInit, .instanceMethod objectInit, .code objectInit ⟨#[0xb1]⟩ 1 none]
  | 10 => [.methodLink (clsN e.1.1) e.1.2 yStrLen, .instanceMethod yStrLen, .selects yStrLen.cls yStrLen yStrLen, .initialized yStrLen.cls]
  | 11 => [.methodLink (clsN e.1.1) e.1.2 yStrCh, .instanceMethod yStrCh, .selects yStrCh.cls yStrCh yStrCh, .initialized yStrCh.cls]
  | 12 => [.methodLink (clsN e.1.1) e.1.2 (ynN e.2.2.1), .static (ynN e.2.2.1), .initialized (ynN e.2.2.1).cls]
  | _ => []
def ctB (e : (Nat × Nat) × Nat × Nat × List Nat) : Bool :=
  decide (e.2.2.1 < 332) && (match e.2.1 with
  | 0 => decide (hhN e.2.2.1 = []) && decide (owN e.2.2.1 < 11)
  | 1 => decide (hhN e.2.2.1 = [])
  | 2 => decide (hhN e.2.2.1 = []) && decide ((ynN e.2.2.1).name = "<init>") && decide (rtN e.2.2.1 = none)
  | 3 => decide (.methodLinkNest (clsN e.1.1) e.1.2 (ynN e.2.2.1) neH ∈ neL) && decide (hhN e.2.2.1 = [])
  | 4 => decide (.methodLinkNest (clsN e.1.1) e.1.2 (ynN e.2.2.1) neH ∈ neL) && decide (hhN e.2.2.1 = []) && decide ((ynN e.2.2.1).name = "<init>") && decide (rtN e.2.2.1 = none)
  | 5 => true | 6 => true | 7 => true | 8 => true | 9 => true | 10 => true | 11 => true
  | 12 => decide (hhN e.2.2.1 ≠ [])
  | _ => false)
def ftL : List ((Nat × Nat) × Nat × Nat × Nat) := [
  ((0, 9), 0, 1, 198), ((0, 15), 0, 2, 199), ((0, 18), 0, 3, 200), ((0, 21), 0, 4, 201), ((0, 24), 0, 0, 196), ((0, 36), 8, 1, 152), ((0, 88), 8, 6, 162), ((0, 91), 8, 7, 165),
  ((0, 94), 8, 8, 168), ((0, 101), 8, 3, 157), ((0, 104), 8, 2, 155), ((0, 111), 7, 0, 134), ((0, 139), 5, 1, 371), ((0, 142), 5, 10, 389), ((1, 7), 1, 0, 321), ((1, 13), 1, 1, 324),
  ((1, 16), 1, 2, 327), ((1, 19), 1, 3, 330), ((1, 22), 1, 4, 333), ((1, 25), 1, 5, 336), ((1, 28), 1, 6, 339), ((1, 31), 1, 7, 342), ((1, 34), 1, 8, 345), ((2, 9), 2, 1, 263),
  ((2, 15), 2, 2, 264), ((2, 18), 2, 3, 265), ((2, 21), 2, 0, 260), ((3, 9), 3, 1, 284), ((3, 15), 3, 2, 287), ((3, 18), 3, 3, 290), ((3, 21), 3, 4, 293), ((3, 24), 3, 5, 295),
  ((3, 27), 3, 6, 298), ((3, 30), 3, 0, 281), ((4, 11), 4, 2, 425), ((4, 18), 4, 1, 424), ((4, 26), 4, 0, 422), ((5, 9), 5, 8, 382), ((5, 15), 5, 9, 384), ((5, 21), 5, 10, 386),
  ((5, 28), 5, 11, 390), ((5, 35), 5, 12, 393), ((5, 39), 5, 0, 367), ((5, 43), 5, 1, 369), ((5, 46), 5, 2, 373), ((5, 49), 5, 3, 374), ((5, 52), 5, 4, 375), ((5, 55), 5, 5, 377),
  ((5, 58), 5, 6, 379), ((5, 61), 5, 7, 380), ((5, 64), 2, 0, 261), ((5, 67), 3, 0, 282), ((5, 124), 8, 1, 153), ((5, 131), 8, 6, 163), ((5, 134), 8, 7, 166), ((5, 137), 8, 8, 169),
  ((5, 165), 3, 2, 288), ((5, 177), 3, 5, 296), ((5, 180), 3, 1, 285), ((5, 187), 1, 8, 346), ((5, 207), 3, 3, 291), ((5, 210), 1, 0, 322), ((5, 213), 1, 5, 337), ((5, 216), 6, 2, 224),
  ((5, 217), 1, 6, 340), ((5, 220), 6, 1, 222), ((5, 231), 1, 7, 343), ((5, 234), 1, 1, 325), ((5, 237), 1, 2, 328), ((5, 240), 1, 3, 331), ((5, 247), 1, 4, 334), ((6, 9), 6, 0, 219),
  ((6, 15), 6, 1, 221), ((6, 18), 5, 11, 391), ((6, 30), 6, 2, 223), ((6, 34), 6, 3, 226), ((6, 37), 6, 4, 228), ((6, 44), 5, 10, 388), ((6, 77), 5, 1, 370), ((7, 15), 7, 0, 132),
  ((7, 21), 7, 1, 136), ((8, 9), 8, 5, 160), ((8, 15), 8, 0, 150), ((8, 19), 8, 1, 151), ((8, 22), 8, 2, 154), ((8, 25), 8, 3, 156), ((8, 28), 8, 4, 158), ((8, 31), 7, 1, 137),
  ((8, 63), 8, 6, 164), ((8, 66), 8, 7, 167), ((8, 67), 8, 8, 170), ((9, 14), 9, 0, 473), ((9, 18), 9, 1, 474), ((9, 26), 9, 2, 475), ((9, 33), 9, 3, 476), ((9, 40), 9, 4, 477),
  ((9, 47), 9, 5, 478), ((9, 54), 9, 6, 479), ((9, 58), 9, 7, 480), ((9, 61), 9, 8, 481), ((9, 68), 5, 10, 387), ((9, 81), 7, 0, 133), ((9, 85), 7, 1, 135), ((9, 121), 2, 0, 262),
  ((9, 132), 0, 0, 197), ((9, 137), 8, 4, 159), ((9, 140), 8, 5, 161), ((9, 143), 5, 4, 376), ((9, 146), 5, 0, 368), ((9, 149), 5, 1, 372), ((9, 164), 5, 7, 381), ((9, 170), 5, 8, 383),
  ((9, 177), 5, 9, 385), ((9, 180), 5, 11, 392), ((9, 184), 3, 0, 283), ((9, 190), 3, 1, 286), ((9, 193), 3, 5, 297), ((9, 200), 3, 2, 289), ((9, 203), 3, 3, 292), ((9, 206), 3, 4, 294),
  ((9, 209), 3, 6, 299), ((9, 224), 6, 2, 225), ((9, 230), 6, 3, 227), ((9, 233), 6, 4, 229), ((9, 260), 5, 5, 378), ((9, 267), 5, 12, 394), ((9, 271), 1, 0, 323), ((9, 276), 1, 1, 326),
  ((9, 279), 1, 2, 329), ((9, 282), 1, 4, 335), ((9, 285), 1, 7, 344), ((9, 288), 1, 5, 338), ((9, 289), 1, 3, 332), ((9, 302), 1, 6, 341), ((9, 305), 1, 8, 347), ((9, 365), 4, 0, 423),
  ((9, 371), 9, 9, 482), ((9, 377), 6, 0, 220), ((10, 9), 10, 0, 1471), ((10, 13), 10, 1, 1472), ((10, 16), 10, 2, 1473), ((10, 19), 10, 3, 1474), ((10, 22), 10, 4, 1475), ((10, 25), 10, 8, 1479),
  ((10, 28), 10, 9, 1480), ((10, 31), 10, 11, 1482), ((10, 34), 10, 19, 1490), ((10, 38), 10, 20, 1491), ((10, 41), 10, 22, 1493), ((10, 56), 10, 12, 1483), ((10, 65), 10, 6, 1477), ((10, 176), 10, 10, 1481),
  ((10, 205), 10, 13, 1484), ((10, 211), 10, 14, 1485), ((10, 214), 10, 15, 1486), ((10, 221), 10, 16, 1487), ((10, 224), 10, 17, 1488), ((10, 238), 10, 18, 1489), ((10, 278), 10, 5, 1476), ((10, 307), 10, 21, 1492),
  ((10, 411), 10, 7, 1478), ((10, 415), 10, 23, 1494)]
def ftN (o i : Nat) : Option (Nat × Nat × Nat) := (ftL.find? (fun e => e.1.1 == o && e.1.2 == i)).map (fun e => e.2)
def ftC (e : (Nat × Nat) × Nat × Nat × Nat) : Bool := decide (e.2.1 < 11) && decide (e.2.2.1 < nf e.2.1) && inT e.2.2.2 (.fieldLink (clsN e.1.1) e.1.2 (clsN e.2.1) (TT e.2.1 e.2.2.1).2.1 (TT e.2.1 e.2.2.1).2.2.1)
def clL : List ((Nat × Nat) × Nat × Nat × Nat × Nat) := [
  ((9, 7), 7, 123, 124, 93), ((9, 21), 8, 144, 145, 95), ((9, 30), 0, 190, 191, 96), ((9, 37), 6, 213, 214, 97), ((9, 44), 4, 241, 242, 98), ((9, 51), 5, 433, 249, 99),
  ((4, 9), 5, 247, 249, 99), ((5, 18), 2, 254, 255, 100), ((5, 25), 3, 275, 276, 101), ((5, 32), 1, 315, 316, 102), ((11, 8), 9, 115, 116, 92), ((11, 137), 10, 1358, 1359, 104)]
def clN (o i : Nat) : Option (Nat × Nat × Nat × Nat) := (clL.find? (fun e => e.1.1 == o && e.1.2 == i)).map (fun e => e.2)
def clC (e : (Nat × Nat) × Nat × Nat × Nat × Nat) : Bool := decide (e.2.1 < 11) && inT e.2.2.1 (.classLink (clsN e.1.1) e.1.2 (clsN e.2.1)) && inT e.2.2.2.1 (.instantiable (clsN e.2.1) (nf e.2.1)) && inT e.2.2.2.2 (.initialized (clsN e.2.1))
def kiL : List ((Nat × Nat) × Int32 × Nat) := [
  ((9, 240), (65535), 1229), ((9, 387), (999999), 1049), ((5, 183), (900000), 995), ((10, 179), (900000), 1624)]
def kiN (o i : Nat) : Option (Int32 × Nat) := (kiL.find? (fun e => e.1.1 == o && e.1.2 == i)).map (fun e => e.2)
def kiC (e : (Nat × Nat) × Int32 × Nat) : Bool := inT e.2.2 (.constant (clsN e.1.1) e.1.2 e.2.1)
def klL : List ((Nat × Nat) × Int64 × Nat) := [
  ((10, 76), (999999), 1775), ((10, 217), (97), 1395), ((10, 219), (122), 1396), ((10, 234), (48), 1412), ((10, 236), (57), 1413), ((10, 350), (500), 1784),
  ((10, 358), (99), 1853), ((10, 376), (65535), 1899), ((10, 393), (16), 1983), ((10, 401), (60), 1996), ((10, 403), (999), 2009), ((10, 405), (900000), 2010),
  ((10, 407), (-99), 2015), ((10, 409), (2), 2020)]
def klN (o i : Nat) : Option (Int64 × Nat) := (klL.find? (fun e => e.1.1 == o && e.1.2 == i)).map (fun e => e.2)
def klC (e : (Nat × Nat) × Int64 × Nat) : Bool := inT e.2.2 (.constantLong (clsN e.1.1) e.1.2 e.2.1)
end
section
theorem inT_ok {p : Nat} {w : Cond} (h : inT p w = true) : w ∈ T0 := by
  simp only [inT, Bool.and_eq_true, decide_eq_true_eq] at h
  exact List.mem_filter.mpr ⟨List.mem_of_getElem? h.1, h.2⟩
theorem T0_good : GoodIn T0 T0 := fun w h => ⟨h, good_of_word (List.mem_filter.mp h).2⟩
set_option maxRecDepth 100000 in
theorem mtOk0 : (List.range 333).all mtC = true := by decide +kernel
set_option maxRecDepth 100000 in
theorem cpA0 : (List.range 24).map (fun k => cdW (0 + k)) = ([194, 940, 946, 949, 963, 967, 975, 971, 989, 319, 442, 581, 258, 572, 446, 1038, 615, 279, 577, 465, 606, 610, 555, 638] : List Nat).filterMap (fun i => lw_tbl[i]?) := rfl
set_option maxRecDepth 100000 in
theorem cpA24 : (List.range 24).map (fun k => cdW (24 + k)) = ([1175, 681, 685, 701, 245, 983, 1342, 929, 252, 438, 567, 829, 845, 917, 1012, 458, 454, 1016, 1008, 1004, 1000, 1025, 1021, 1033] : List Nat).filterMap (fun i => lw_tbl[i]?) := rfl
set_option maxRecDepth 100000 in
theorem cpA48 : (List.range 24).map (fun k => cdW (48 + k)) = ([1029, 994, 585, 590, 594, 634, 642, 217, 602, 624, 620, 1238, 629, 598, 127, 713, 450, 793, 148, 833, 902, 837, 841, 850] : List Nat).filterMap (fun i => lw_tbl[i]?) := rfl
set_option maxRecDepth 100000 in
theorem cpA72 : (List.range 24).map (fun k => cdW (72 + k)) = ([906, 912, 922, 119, 721, 802, 825, 936, 507, 511, 515, 519, 523, 527, 1045, 1058, 1065, 531, 536, 1074, 1101, 1109, 540, 1116] : List Nat).filterMap (fun i => lw_tbl[i]?) := rfl
set_option maxRecDepth 100000 in
theorem cpA96 : (List.range 24).map (fun k => cdW (96 + k)) = ([1128, 1135, 1143, 1150, 1157, 1164, 1171, 1182, 544, 1190, 1199, 1206, 1213, 1220, 1228, 1246, 1253, 551, 559, 563, 646, 650, 654, 658] : List Nat).filterMap (fun i => lw_tbl[i]?) := rfl
set_option maxRecDepth 100000 in
theorem cpA120 : (List.range 24).map (fun k => cdW (120 + k)) = ([662, 666, 670, 674, 689, 693, 697, 1260, 1270, 1280, 1290, 1300, 1311, 1319, 1328, 1337, 705, 1349, 1357, 709, 1120, 1078, 1048, 471] : List Nat).filterMap (fun i => lw_tbl[i]?) := rfl
set_option maxRecDepth 100000 in
theorem cpA144 : (List.range 24).map (fun k => cdW (144 + k)) = ([1233, 547, 1362, 1547, 1399, 1683, 1438, 1869, 1373, 1917, 1921, 1680, 1459, 1446, 1467, 1455, 1747, 1711, 1816, 1774, 1640, 1676, 1672, 1470] : List Nat).filterMap (fun i => lw_tbl[i]?) := rfl
set_option maxRecDepth 100000 in
theorem cpA168 : (List.range 24).map (fun k => cdW (168 + k)) = ([1463, 1451, 1442, 1723, 1719, 1715, 1664, 1656, 1668, 1660, 1652, 1648, 1687, 1644, 1695, 1691, 1890, 1632, 1699, 1703, 1636, 1628, 1619, 1623] : List Nat).filterMap (fun i => lw_tbl[i]?) := rfl
set_option maxRecDepth 100000 in
theorem cpA192 : (List.range 24).map (fun k => cdW (192 + k)) = ([1707, 1731, 1727, 1735, 1739, 1430, 1743, 1555, 1551, 1559, 1394, 1390, 1403, 1386, 1407, 1421, 1411, 1377, 1434, 1563, 1567, 1381, 1425, 1370] : List Nat).filterMap (fun i => lw_tbl[i]?) := rfl
set_option maxRecDepth 100000 in
theorem cpA216 : (List.range 24).map (fun k => cdW (216 + k)) = ([1588, 1580, 1599, 1603, 1417, 1595, 1576, 1615, 1611, 1607, 1572, 1755, 1751, 1759, 1763, 1767, 1771, 1779, 1783, 1788, 1792, 1796, 1800, 1804] : List Nat).filterMap (fun i => lw_tbl[i]?) := rfl
set_option maxRecDepth 100000 in
theorem cpA240 : (List.range 24).map (fun k => cdW (240 + k)) = ([1808, 1812, 1820, 1828, 1824, 1832, 1836, 1840, 1844, 1848, 1852, 1857, 1865, 1861, 1873, 1877, 1882, 1886, 1902, 1905, 1898, 1894, 1909, 1913] : List Nat).filterMap (fun i => lw_tbl[i]?) := rfl
set_option maxRecDepth 100000 in
theorem cpA264 : (List.range 24).map (fun k => cdW (264 + k)) = ([1925, 1929, 1933, 1937, 1941, 1945, 1949, 1953, 1957, 1961, 1965, 1970, 1974, 1978, 1987, 1991, 1982, 1995, 2000, 2004, 2008, 2014, 2019, 2024] : List Nat).filterMap (fun i => lw_tbl[i]?) := rfl
set_option maxRecDepth 100000 in
theorem cpA288 : (List.range 24).map (fun k => cdW (288 + k)) = ([2028, 2032, 2036, 2044, 2040, 2048, 716, 797, 821, 932, 1041, 1054, 1061, 1069, 1097, 1105, 1112, 1124, 1131, 1139, 1146, 1153, 1160, 1167] : List Nat).filterMap (fun i => lw_tbl[i]?) := rfl
set_option maxRecDepth 100000 in
theorem cpA312 : (List.range 20).map (fun k => cdW (312 + k)) = ([1178, 1186, 1195, 1202, 1209, 1216, 1224, 1242, 1249, 1256, 1266, 1276, 1286, 1296, 1307, 1315, 1324, 1333, 1345, 1353] : List Nat).filterMap (fun i => lw_tbl[i]?) := rfl
theorem cp_of {n a : Nat} {ps : List Nat} (h : (List.range n).map (fun k => cdW (a + k)) = ps.filterMap (fun i => lw_tbl[i]?)) {y : Nat} (h1 : a ≤ y) (h2 : y < a + n) : cdW y ∈ T0 := by
  have hm : cdW y ∈ (List.range n).map (fun k => cdW (a + k)) := List.mem_map.mpr ⟨y - a, List.mem_range.mpr (by omega), by rw [Nat.add_sub_of_le h1]⟩
  rw [h] at hm
  obtain ⟨i, -, hi⟩ := List.mem_filterMap.mp hm
  refine List.mem_filter.mpr ⟨List.mem_of_getElem? hi, ?_⟩
  unfold cdW
  split <;> rfl
theorem cpOk {y : Nat} (h : y < 332) : cdW y ∈ T0 := by
  by_cases h0 : y < 24
  · exact cp_of cpA0 (by omega) (by omega)
  by_cases h24 : y < 48
  · exact cp_of cpA24 (by omega) (by omega)
  by_cases h48 : y < 72
  · exact cp_of cpA48 (by omega) (by omega)
  by_cases h72 : y < 96
  · exact cp_of cpA72 (by omega) (by omega)
  by_cases h96 : y < 120
  · exact cp_of cpA96 (by omega) (by omega)
  by_cases h120 : y < 144
  · exact cp_of cpA120 (by omega) (by omega)
  by_cases h144 : y < 168
  · exact cp_of cpA144 (by omega) (by omega)
  by_cases h168 : y < 192
  · exact cp_of cpA168 (by omega) (by omega)
  by_cases h192 : y < 216
  · exact cp_of cpA192 (by omega) (by omega)
  by_cases h216 : y < 240
  · exact cp_of cpA216 (by omega) (by omega)
  by_cases h240 : y < 264
  · exact cp_of cpA240 (by omega) (by omega)
  by_cases h264 : y < 288
  · exact cp_of cpA264 (by omega) (by omega)
  by_cases h288 : y < 312
  · exact cp_of cpA288 (by omega) (by omega)
  exact cp_of cpA312 (by omega) (by omega)
theorem mtOk {y : Nat} (h : y < 333) : mtC y = true := List.all_eq_true.mp mtOk0 y (List.mem_range.mpr h)
set_option maxRecDepth 100000 in
theorem lyOk0 : (List.range 11).all (fun c => (List.range (nf c)).all (fun k => inT ((lyL.getD c []).getD k 0) (u_lay (clsN c) (TT c) k))) = true := by decide +kernel
theorem lyOk {c : Nat} (hc : c < 11) : ∀ w ∈ u_ws (clsN c) (TT c) (nf c), w ∈ T0 := by
  intro w hw
  obtain ⟨k, hk, rfl⟩ := List.mem_map.mp hw
  exact inT_ok (List.all_eq_true.mp (List.all_eq_true.mp lyOk0 c (List.mem_range.mpr hc)) k hk)
theorem nmOk0 : (List.range 11).all (fun c => (List.range (nf c)).all (fun a => (List.range (nf c)).all (fun b => decide (a = b) || decide ((TT c a).2.1 ≠ (TT c b).2.1)))) = true := by decide +kernel
theorem nmOk {c : Nat} (hc : c < 11) : ∀ a, a < nf c → ∀ b, b < nf c → a ≠ b → (TT c a).2.1 ≠ (TT c b).2.1 := by
  intro a ha b hb hab
  have h := List.all_eq_true.mp (List.all_eq_true.mp (List.all_eq_true.mp nmOk0 c (List.mem_range.mpr hc)) a (List.mem_range.mpr ha)) b (List.mem_range.mpr hb)
  simp only [Bool.or_eq_true, decide_eq_true_eq] at h
  exact h.resolve_left hab
theorem tyOk0 : (List.range 11).all (fun c => (List.range (nf c)).all (tyC c)) = true := by decide +kernel
theorem tyOk {c k : Nat} (hc : c < 11) (hk : k < nf c) : tyC c k = true := List.all_eq_true.mp (List.all_eq_true.mp tyOk0 c (List.mem_range.mpr hc)) k (List.mem_range.mpr hk)
theorem vwOk0 : (List.range 11).all (fun c => decide ((vwCl[c]?).map (fun q => (q.1, q.2.2)) = some (clsN c, nf c))) = true := by decide +kernel
theorem vwOk {c : Nat} (hc : c < 11) : vwCl[c]? = some (clsN c, TT c, nf c) := by
  have : c = 0 ∨ c = 1 ∨ c = 2 ∨ c = 3 ∨ c = 4 ∨ c = 5 ∨ c = 6 ∨ c = 7 ∨ c = 8 ∨ c = 9 ∨ c = 10 := by omega
  rcases this with rfl | rfl | rfl | rfl | rfl | rfl | rfl | rfl | rfl | rfl | rfl <;> rfl
theorem neOk : neL = ([469, 250, 256, 277, 317, 625, 630, 192, 215, 434] : List Nat).filterMap (fun i => lw_tbl[i]?) := by decide +kernel
theorem neIn : ∀ w ∈ neL, w ∈ lw_tbl := by
  intro w hw
  rw [neOk] at hw
  obtain ⟨i, -, hi⟩ := List.mem_filterMap.mp hw
  exact List.mem_of_getElem? hi
theorem neTab : neL.all (fun w => w.onTables) = true := by decide +kernel
set_option maxRecDepth 100000 in
theorem ctA0 : ((ctL.drop 0).take 40).map ctW = ((ctL.drop 0).take 40).map (fun e => e.2.2.2.filterMap (fun i => lw_tbl[i]?)) := rfl
set_option maxRecDepth 100000 in
theorem ctA40 : ((ctL.drop 40).take 40).map ctW = ((ctL.drop 40).take 40).map (fun e => e.2.2.2.filterMap (fun i => lw_tbl[i]?)) := rfl
set_option maxRecDepth 100000 in
theorem ctA80 : ((ctL.drop 80).take 40).map ctW = ((ctL.drop 80).take 40).map (fun e => e.2.2.2.filterMap (fun i => lw_tbl[i]?)) := rfl
set_option maxRecDepth 100000 in
theorem ctA120 : ((ctL.drop 120).take 40).map ctW = ((ctL.drop 120).take 40).map (fun e => e.2.2.2.filterMap (fun i => lw_tbl[i]?)) := rfl
set_option maxRecDepth 100000 in
theorem ctA160 : ((ctL.drop 160).take 40).map ctW = ((ctL.drop 160).take 40).map (fun e => e.2.2.2.filterMap (fun i => lw_tbl[i]?)) := rfl
set_option maxRecDepth 100000 in
theorem ctA200 : ((ctL.drop 200).take 40).map ctW = ((ctL.drop 200).take 40).map (fun e => e.2.2.2.filterMap (fun i => lw_tbl[i]?)) := rfl
set_option maxRecDepth 100000 in
theorem ctA240 : ((ctL.drop 240).take 40).map ctW = ((ctL.drop 240).take 40).map (fun e => e.2.2.2.filterMap (fun i => lw_tbl[i]?)) := rfl
set_option maxRecDepth 100000 in
theorem ctA280 : ((ctL.drop 280).take 40).map ctW = ((ctL.drop 280).take 40).map (fun e => e.2.2.2.filterMap (fun i => lw_tbl[i]?)) := rfl
set_option maxRecDepth 100000 in
theorem ctA320 : ((ctL.drop 320).take 40).map ctW = ((ctL.drop 320).take 40).map (fun e => e.2.2.2.filterMap (fun i => lw_tbl[i]?)) := rfl
set_option maxRecDepth 100000 in
theorem ctA360 : ((ctL.drop 360).take 40).map ctW = ((ctL.drop 360).take 40).map (fun e => e.2.2.2.filterMap (fun i => lw_tbl[i]?)) := rfl
set_option maxRecDepth 100000 in
theorem ctA400 : ((ctL.drop 400).take 40).map ctW = ((ctL.drop 400).take 40).map (fun e => e.2.2.2.filterMap (fun i => lw_tbl[i]?)) := rfl
set_option maxRecDepth 100000 in
theorem ctB0 : ctL.all ctB = true := by decide +kernel
theorem ct_of {a n : Nat} (h : ((ctL.drop a).take n).map ctW = ((ctL.drop a).take n).map (fun e => e.2.2.2.filterMap (fun i => lw_tbl[i]?))) {k : Nat} {e : (Nat × Nat) × Nat × Nat × List Nat} (hk : ctL[k]? = some e) (h1 : a ≤ k) (h2 : k < a + n) : ∀ w ∈ ctW e, w ∈ lw_tbl := by
  have hm : e ∈ (ctL.drop a).take n := by
    refine List.mem_of_getElem? (i := k - a) ?_
    rw [List.getElem?_take, if_pos (by omega), List.getElem?_drop, Nat.add_sub_of_le h1]
    exact hk
  intro w hw
  rw [List.map_inj_left.mp h e hm] at hw
  obtain ⟨i, -, hi⟩ := List.mem_filterMap.mp hw
  exact List.mem_of_getElem? hi
set_option maxRecDepth 100000 in
theorem ctLen : ctL.length = 401 := by decide +kernel
theorem ctIn0 {k : Nat} {e : (Nat × Nat) × Nat × Nat × List Nat} (hk : ctL[k]? = some e) : ∀ w ∈ ctW e, w ∈ lw_tbl := by
  have hl : k < 401 := by rw [← ctLen]; exact (List.getElem?_eq_some_iff.mp hk).1
  by_cases h0 : k < 40
  · exact ct_of ctA0 hk (by omega) (by omega)
  by_cases h40 : k < 80
  · exact ct_of ctA40 hk (by omega) (by omega)
  by_cases h80 : k < 120
  · exact ct_of ctA80 hk (by omega) (by omega)
  by_cases h120 : k < 160
  · exact ct_of ctA120 hk (by omega) (by omega)
  by_cases h160 : k < 200
  · exact ct_of ctA160 hk (by omega) (by omega)
  by_cases h200 : k < 240
  · exact ct_of ctA200 hk (by omega) (by omega)
  by_cases h240 : k < 280
  · exact ct_of ctA240 hk (by omega) (by omega)
  by_cases h280 : k < 320
  · exact ct_of ctA280 hk (by omega) (by omega)
  by_cases h320 : k < 360
  · exact ct_of ctA320 hk (by omega) (by omega)
  by_cases h360 : k < 400
  · exact ct_of ctA360 hk (by omega) (by omega)
  exact ct_of ctA400 hk (by omega) (by omega)
theorem ctIn {o i : Nat} {e : Nat × Nat × List Nat} (h : ctN o i = some e) : (∀ w ∈ ctW ((o, i), e), w ∈ lw_tbl) ∧ ctB ((o, i), e) = true := by
  unfold ctN at h
  cases hf : ctL.find? (fun e => e.1.1 == o && e.1.2 == i) with
  | none => rw [hf] at h; cases h
  | some f =>
    rw [hf] at h
    have h2 : f.2 = e := Option.some.inj h
    have h3 := List.find?_some hf
    simp only [Bool.and_eq_true, beq_iff_eq] at h3
    have hm := List.mem_of_find?_eq_some hf
    have h4 := List.all_eq_true.mp ctB0 f hm
    obtain ⟨k, hk⟩ := List.getElem?_of_mem hm
    have h5 := ctIn0 hk
    obtain ⟨⟨a, b⟩, g⟩ := f
    obtain ⟨rfl, rfl⟩ := h3
    subst h2
    exact ⟨h5, h4⟩
set_option maxRecDepth 100000 in
theorem ftOk0 : ftL.all ftC = true := by decide +kernel
theorem ftOk {o i : Nat} {e : Nat × Nat × Nat} (h : ftN o i = some e) : ftC ((o, i), e) = true := by
  unfold ftN at h
  cases hf : ftL.find? (fun e => e.1.1 == o && e.1.2 == i) with
  | none => rw [hf] at h; cases h
  | some f =>
    rw [hf] at h
    have h2 : f.2 = e := Option.some.inj h
    have h3 := List.find?_some hf
    simp only [Bool.and_eq_true, beq_iff_eq] at h3
    have h4 := List.all_eq_true.mp ftOk0 f (List.mem_of_find?_eq_some hf)
    obtain ⟨⟨a, b⟩, g⟩ := f
    obtain ⟨rfl, rfl⟩ := h3
    subst h2
    exact h4
theorem clOk0 : clL.all clC = true := by decide +kernel
theorem clOk {o i : Nat} {e : Nat × Nat × Nat × Nat} (h : clN o i = some e) : clC ((o, i), e) = true := by
  unfold clN at h
  cases hf : clL.find? (fun e => e.1.1 == o && e.1.2 == i) with
  | none => rw [hf] at h; cases h
  | some f =>
    rw [hf] at h
    have h2 : f.2 = e := Option.some.inj h
    have h3 := List.find?_some hf
    simp only [Bool.and_eq_true, beq_iff_eq] at h3
    have h4 := List.all_eq_true.mp clOk0 f (List.mem_of_find?_eq_some hf)
    obtain ⟨⟨a, b⟩, g⟩ := f
    obtain ⟨rfl, rfl⟩ := h3
    subst h2
    exact h4
theorem kiOk0 : kiL.all kiC = true := by decide +kernel
theorem kiOk {o i : Nat} {e : Int32 × Nat} (h : kiN o i = some e) : kiC ((o, i), e) = true := by
  unfold kiN at h
  cases hf : kiL.find? (fun e => e.1.1 == o && e.1.2 == i) with
  | none => rw [hf] at h; cases h
  | some f =>
    rw [hf] at h
    have h2 : f.2 = e := Option.some.inj h
    have h3 := List.find?_some hf
    simp only [Bool.and_eq_true, beq_iff_eq] at h3
    have h4 := List.all_eq_true.mp kiOk0 f (List.mem_of_find?_eq_some hf)
    obtain ⟨⟨a, b⟩, g⟩ := f
    obtain ⟨rfl, rfl⟩ := h3
    subst h2
    exact h4
theorem klOk0 : klL.all klC = true := by decide +kernel
theorem klOk {o i : Nat} {e : Int64 × Nat} (h : klN o i = some e) : klC ((o, i), e) = true := by
  unfold klN at h
  cases hf : klL.find? (fun e => e.1.1 == o && e.1.2 == i) with
  | none => rw [hf] at h; cases h
  | some f =>
    rw [hf] at h
    have h2 : f.2 = e := Option.some.inj h
    have h3 := List.find?_some hf
    simp only [Bool.and_eq_true, beq_iff_eq] at h3
    have h4 := List.all_eq_true.mp klOk0 f (List.mem_of_find?_eq_some hf)
    obtain ⟨⟨a, b⟩, g⟩ := f
    obtain ⟨rfl, rfl⟩ := h3
    subst h2
    exact h4
end
section
/-- the throws: method, pc, which exception (0 argument, 1 state, 2 index), the pool's entries of class, text, constructor; wide text; the text's number -/
def xtL : List ((Nat × Nat) × Nat × Nat × Nat × Nat × Bool × Nat) := [
  ((76, 16), 1, 93, 95, 97, false, 20), ((77, 15), 0, 103, 105, 107, false, 21), ((78, 24), 0, 103, 112, 107, false, 22), ((79, 22), 0, 103, 127, 107, false, 23), ((88, 12), 0, 103, 159, 107, false, 24),
  ((103, 10), 0, 103, 215, 107, false, 25), ((110, 16), 0, 103, 241, 107, false, 26), ((110, 58), 0, 103, 246, 107, false, 27), ((127, 23), 0, 103, 311, 107, true, 28), ((127, 44), 1, 93, 316, 97, true, 29),
  ((128, 11), 0, 103, 318, 107, true, 30), ((128, 32), 1, 93, 323, 97, true, 31), ((129, 16), 1, 93, 328, 97, true, 32), ((130, 16), 1, 93, 336, 97, true, 33), ((131, 12), 0, 103, 341, 107, true, 34),
  ((131, 34), 1, 93, 346, 97, true, 35), ((132, 12), 0, 103, 351, 107, true, 36), ((133, 33), 0, 103, 353, 107, true, 37), ((133, 58), 1, 93, 355, 97, true, 38), ((134, 18), 2, 357, 359, 361, true, 39),
  ((135, 10), 1, 93, 366, 97, true, 40), ((137, 7), 1, 93, 375, 97, true, 41), ((140, 18), 2, 357, 383, 361, true, 42), ((141, 15), 2, 357, 385, 361, true, 43), ((142, 11), 0, 103, 388, 107, true, 44)
  ]
def xtN (y pc : Nat) : Option (Nat × Nat × Nat × Nat × Bool × Nat) := (xtL.find? (fun e => e.1.1 == y && e.1.2 == pc)).map (fun e => e.2)
def exc (e : Nat) : String := ["java/lang/IllegalArgumentException", "java/lang/IllegalStateException", "java/lang/IndexOutOfBoundsException"].getD e ""
/-- texts by reference: class, entry; their number -/
def ksL : List ((Nat × Nat) × Nat) := [
  ((0, 59), 0), ((0, 65), 1), ((0, 67), 2), ((0, 69), 3), ((0, 71), 4), ((0, 73), 5), ((0, 75), 6), ((0, 77), 7),
  ((5, 102), 8), ((5, 127), 9), ((10, 44), 10), ((10, 241), 11), ((10, 259), 12), ((10, 281), 13), ((10, 283), 14), ((10, 285), 15),
  ((10, 287), 16), ((10, 289), 17), ((10, 291), 18), ((10, 293), 19), ((9, 95), 20), ((9, 105), 21), ((9, 112), 22), ((9, 127), 23),
  ((9, 159), 24), ((9, 215), 25), ((9, 241), 26), ((9, 246), 27), ((9, 311), 28), ((9, 316), 29), ((9, 318), 30), ((9, 323), 31),
  ((9, 328), 32), ((9, 336), 33), ((9, 341), 34), ((9, 346), 35), ((9, 351), 36), ((9, 353), 37), ((9, 355), 38), ((9, 359), 39),
  ((9, 366), 40), ((9, 375), 41), ((9, 383), 42), ((9, 385), 43), ((9, 388), 44)
  ]
def ksN (o i : Nat) : Option Nat := (ksL.find? (fun e => e.1.1 == o && e.1.2 == i)).map (fun e => e.2)
def ksE (j : Nat) : (Nat × Nat) := (ksL.getD j ((0, 0), 0)).1
def ksW : List String := [
  "send", "transmit",
  "cancel", "resend",
  "wait", "drift",
  "dog", "chase",
  "modem", "dog",
  "modem 2 100 10 4;dog 200 30 20;", "modem",
  "dog", "wait",
  "drift", "chase",
  "send", "transmit",
  "cancel", "resend",
  "the input buffer would exceed 500 bytes", "the length is not one of 0 to the current length",
  "the configuration has an error", "the command text has an error",
  "the number of ticks is not one of 1 to 500", "the bit is not one of 0 to 99",
  "the pattern is not one of 1 to 65535", "the frame does not have all bits of the pattern",
  "the input buffer does not contain 1 to 16 bytes", "there are 12 messages",
  "the number of attempts is not one of 1 to 60", "the clock is greater than 900000",
  "the message is not PENDING", "the message is not LOST, or there are 12 messages",
  "the number of ticks is not one of 1 to 999", "the clock would exceed 900000",
  "the drift is not one of -99 to 99", "a parameter of the dog is out of range",
  "there are 3 dogs", "there is no such dog",
  "there is no operation to undo", "there is no saved state",
  "there is no such frame", "there is no such message",
  "the tick is not one of 0 to 999999"
  ]
def ksX (j : Nat) : String := ksW.getD j ""
/-- the number of texts whose contents are known; of all texts -/
def nTC : Nat := 20
def nTX : Nat := 45
def ksT : List (List Int32) := [
  [115, 101, 110, 100], [116, 114, 97, 110, 115, 109, 105, 116], [99, 97, 110, 99, 101, 108], [114, 101, 115, 101, 110, 100],
  [119, 97, 105, 116], [100, 114, 105, 102, 116], [100, 111, 103], [99, 104, 97, 115, 101],
  [109, 111, 100, 101, 109], [100, 111, 103], [109, 111, 100, 101, 109, 32, 50, 32, 49, 48, 48, 32, 49, 48, 32, 52, 59, 100, 111, 103, 32, 50, 48, 48, 32, 51, 48, 32, 50, 48, 59], [109, 111, 100, 101, 109],
  [100, 111, 103], [119, 97, 105, 116], [100, 114, 105, 102, 116], [99, 104, 97, 115, 101],
  [115, 101, 110, 100], [116, 114, 97, 110, 115, 109, 105, 116], [99, 97, 110, 99, 101, 108], [114, 101, 115, 101, 110, 100]
  ]
def ksB (i : Nat) : List Int32 := ksT.getD i []
def ksLn : List Nat := [
  4, 8, 6, 6, 4, 5, 3, 5, 5, 3, 31, 5, 3, 4, 5, 5, 4, 8, 6, 6
  ]
def ksLen (i : Nat) : Nat := ksLn.getD i 0
def exL : List ((Nat × Nat) × Nat) := [
  ((9, 93), 1), ((9, 103), 0), ((9, 357), 2), ((11, 13), 1), ((11, 19), 0), ((11, 41), 2)
  ]
def exN (o i : Nat) : Option Nat := (exL.find? (fun e => e.1.1 == o && e.1.2 == i)).map (fun e => e.2)
/-- constructors -/
def inL : List Bool := [true, false, false, false, false, false, false, false, false, true, false, false, true, false, false, false, false, true, false, false, false, false, false, false, false, false, false, false, true, false, false, false, true, false, false, false, false, false, false, false, false, false, false, false, false, false, false, false, false, false, false, false, false, false, false, true, false, false, false, false, false, false, true, false, false, false, true, false, false, false, false, false, false, false, false, true, false, false, false, false, false, false, false, false, false, false, false, false, false, false, false, false, false, false, false, false, false, false, false, false, false, false, false, false, false, false, false, false, false, false, false, false, false, false, false, false, false, false, false, false, false, false, false, false, false, false, false, false, false, false, false, false, false, false, false, false, false, false, false, false, false, false, false, false, false, false, true, false, false, false, false, false, false, false, false, false, false, false, false, false, false, false, false, false, false, false, false, false, false, false, false, false, false, false, false, false, false, false, false, false, false, false, false, false, false, false, false, false, false, false, false, false, false, false, false, false, false, false, false, false, false, false, false, false, false, false, false, false, false, false, false, false, false, false, false, false, false, false, false, false, false, false, false, false, false, false, false, false, false, false, false, false, false, false, false, false, false, false, false, false, false, false, false, false, false, false, false, false, false, false, false, false, false, false, false, false, false, false, false, false, false, false, false, false, false, false, false, false, false, false, false, false, false, false, false, false, false, false, false, false, false, false, false, false, false, false, false, false, false, false, false, false, false, false, false, false, false, false, false, false, false, false, false, false, false, false, false, false, false, false, false, false, false, false, false, false, false, false, false, false, false, false, false, false, false, false, false, false, false, false, false, false, false]
def inN (y : Nat) : Bool := inL.getD y false
def NMM : Nat := 333
end
section
/-! ===== numbers: ints and longs as integers ===== -/
def iI (z : Int) : Int32 := Int32.ofInt z
def lL (z : Int) : Int64 := Int64.ofInt z
def InR (z : Int) : Prop := -2147483648 ≤ z ∧ z ≤ 2147483647
def InL (z : Int) : Prop := -9223372036854775808 ≤ z ∧ z ≤ 9223372036854775807
theorem iI_toInt {z : Int} (h : InR z) : (iI z).toInt = z := Int32.toInt_ofInt_of_le h.1 (Int.lt_of_le_of_lt h.2 (by decide))
theorem iI_self (x : Int32) : iI x.toInt = x := Int32.ofInt_toInt x
theorem inR_toInt (x : Int32) : InR x.toInt := ⟨Int32.le_toInt x, Int.le_of_lt_add_one (Int32.toInt_lt x)⟩
theorem iI_add (a b : Int) : iI a + iI b = iI (a + b) := (Int32.ofInt_add a b).symm
theorem iI_sub (a b : Int) : iI a - iI b = iI (a - b) := (Int32.ofInt_sub a b).symm
theorem iI_mul (a b : Int) : iI a * iI b = iI (a * b) := (Int32.ofInt_mul a b).symm
theorem iI_lt {a b : Int} (ha : InR a) (hb : InR b) : iI a < iI b ↔ a < b := by rw [Int32.lt_iff_toInt_lt, iI_toInt ha, iI_toInt hb]
theorem iI_le {a b : Int} (ha : InR a) (hb : InR b) : iI a ≤ iI b ↔ a ≤ b := by rw [Int32.le_iff_toInt_le, iI_toInt ha, iI_toInt hb]
theorem iI_eq {a b : Int} (ha : InR a) (hb : InR b) : iI a = iI b ↔ a = b := by rw [← Int32.toInt_inj, iI_toInt ha, iI_toInt hb]
theorem iI_0 : (0 : Int32) = iI 0 := rfl
theorem iI_1 : (1 : Int32) = iI 1 := rfl
theorem inR_0 : InR 0 := ⟨by decide, by decide⟩
theorem iI_clamp {a : Int} (ha : InR a) : (iI a).toNatClampNeg = a.toNat := Int32.toNatClampNeg_ofInt_of_le ha.1 (Int.lt_of_le_of_lt ha.2 (by decide))
theorem iI_in {a : Int} {n : Nat} (h0 : 0 ≤ a) (h1 : a < n) (ha : a ≤ 2147483647) : vp_in (iI a) n := by
  have hR : InR a := ⟨by omega, ha⟩
  rintro (h | h)
  · rw [iI_0, iI_lt hR inR_0] at h; omega
  · rw [iI_clamp hR] at h; omega
theorem iI_nat (n : Nat) : nI n = iI n := (Int32.ofInt_eq_ofNat).symm
theorem iI_div {a b : Int} (ha : 0 ≤ a) (ha2 : a ≤ 2147483647) (hb : 0 < b) (hb2 : b ≤ 2147483647) : iI a / iI b = iI (a / b) := by
  have h1 : (iI a / iI b).toInt = a / b := by
    rw [Int32.toInt_div_of_ne_right _ _ (fun h => by
      have : (iI b).toInt = (-1 : Int32).toInt := by rw [h]
      rw [iI_toInt ⟨by omega, hb2⟩] at this
      have h9 : (-1 : Int32).toInt = -1 := by decide
      omega), iI_toInt ⟨by omega, ha2⟩, iI_toInt ⟨by omega, hb2⟩, Int.tdiv_eq_ediv_of_nonneg ha]
  rw [← iI_self (iI a / iI b), h1]
theorem iI_rem {a b : Int} (ha : 0 ≤ a) (ha2 : a ≤ 2147483647) (hb : 0 < b) (hb2 : b ≤ 2147483647) : iI a - iI a / iI b * iI b = iI (a % b) := by
  rw [iI_div ha ha2 hb hb2, iI_mul, iI_sub]
  congr 1
  rw [Int.emod_def, Int.mul_comm]
theorem iI_ne0 {b : Int} (hb : 0 < b) (hb2 : b ≤ 2147483647) : ¬ iI b = 0 := by
  rw [iI_0, iI_eq ⟨by omega, hb2⟩ inR_0]; omega
/-! longs -/
theorem lL_toInt {z : Int} (h : InL z) : (lL z).toInt = z := Int64.toInt_ofInt_of_le h.1 (Int.lt_of_le_of_lt h.2 (by decide))
theorem lL_add (a b : Int) : lL a + lL b = lL (a + b) := (Int64.ofInt_add a b).symm
theorem lL_lt {a b : Int} (ha : InL a) (hb : InL b) : lL a < lL b ↔ a < b := by rw [Int64.lt_iff_toInt_lt, lL_toInt ha, lL_toInt hb]
theorem lL_eq {a b : Int} (ha : InL a) (hb : InL b) : lL a = lL b ↔ a = b := by rw [← Int64.toInt_inj, lL_toInt ha, lL_toInt hb]
theorem iI_long {a : Int} (ha : InR a) : (iI a).toInt64 = lL a := by
  apply Int64.toInt_inj.mp
  rw [Int32.toInt_toInt64, iI_toInt ha, lL_toInt ⟨by have := ha.1; omega, by have := ha.2; omega⟩]
/-- what lcmp answers -/
def cmpZ (a b : Int) : Int := if b < a then 1 else if a = b then 0 else -1
theorem lL_cmp {a b : Int} (ha : InL a) (hb : InL b) : lg_cmp (lL a) (lL b) = iI (cmpZ a b) := by
  unfold lg_cmp cmpZ
  by_cases h : b < a
  · rw [if_pos ((lL_lt hb ha).mpr h), if_pos h]; rfl
  · rw [if_neg (fun z => h ((lL_lt hb ha).mp z)), if_neg h]
    by_cases h2 : a = b
    · rw [if_pos ((lL_eq ha hb).mpr h2), if_pos h2]; rfl
    · rw [if_neg (fun z => h2 ((lL_eq ha hb).mp z)), if_neg h2]; rfl
end
section
/-! ===== the judgement Ex: a method's walk in terms of places =====
A place is a number; Value.ref k in a local, on the stack or in a row is the place k: below scr a cell of the world, at the address base + k; scr is the script; scr + 1 + i the text i. -/
abbrev MM : Type := (Nat → Int → Int) × (Nat → Nat → Option Nat) × (Nat → Nat) × Nat × Int × Bool
abbrev OO : Type := (Option Value ⊕ Nat) × MM
abbrev LL : Type := List (Option Value)
/-- of the world: where classes and slots lie; the row classes; the script; the texts and their rows; the base -/
abbrev GG : Type := va_G × (ClassId × ClassId × ClassId) × (Nat × Nat × (Nat → Int32)) × (Nat → Nat) × (Nat → Nat) × Nat
def scr : Nat := 1000000
def adr (G : GG) (k : Nat) : Nat := if k < scr then G.2.2.2.2.2 + k else if k = scr then G.2.2.1.1 else G.2.2.2.1 (k - (scr + 1))
def cv (G : GG) (v : Value) : Value := match v with
  | .ref k => .ref (adr G k)
  | v => v
def cvs (G : GG) (st : List Value) : List Value := st.map (cv G)
def cats (st : List Value) : Nat := (st.map fun v => v.category).sum
theorem cv_cat (G : GG) (v : Value) : (cv G v).category = v.category := by cases v <;> rfl
theorem cvs_cats (G : GG) (st : List Value) : ((cvs G st).map fun v => v.category).sum = cats st := by
  unfold cvs cats
  rw [List.map_map]
  congr 1
  exact List.map_congr_left fun v _ => cv_cat G v
/-- what a place is: 10 * class + 5 an object, 10 * length an int row, 10 * length + 2 a long row, else a row of references -/
def fieldsO (G : GG) (σ : MM) (k c : Nat) : List Value := (List.range (nf c)).map fun j => if fk c j = 2 then va_rf ((σ.2.1 k j).map (adr G)) else .int (iI (σ.1 k j))
def cellO (G : GG) (σ : MM) (k : Nat) : va_E :=
  if σ.2.2.1 k % 10 = 5 then .inr (σ.2.2.1 k / 10, fieldsO G σ k (σ.2.2.1 k / 10))
  else if σ.2.2.1 k % 10 = 0 then .inl (G.2.1.1, σ.2.2.1 k / 10, .inl (fun j => iI (σ.1 k j)))
  else if σ.2.2.1 k % 10 = 2 then .inl (G.2.1.2.1, σ.2.2.1 k / 10, .inr (.inl (fun j => if j = 0 then lL σ.2.2.2.2.1 else lL 0)))
  else .inl (G.2.1.2.2, σ.2.2.1 k / 10, .inr (.inr (.inr (.inr (fun j => (σ.2.1 k j).map (adr G))))))
def wsO (G : GG) (σ : MM) : va_W := (List.range σ.2.2.2.1).map fun k => (G.2.2.2.2.2 + k, cellO G σ k)
def tysO (G : GG) : List (ClassId × FieldType) := [(G.2.1.1, .int), (G.2.1.2.1, .long), (G.2.1.2.2, .object "MatchboxModem$Line")]
theorem wsO_get {G : GG} {σ : MM} {k : Nat} (h : k < σ.2.2.2.1) : (wsO G σ)[k]? = some (G.2.2.2.2.2 + k, cellO G σ k) := by
  unfold wsO
  rw [List.getElem?_map, List.getElem?_range h]
  rfl
theorem wsO_out {G : GG} {σ : MM} {k : Nat} (h : σ.2.2.2.1 ≤ k) : (wsO G σ)[k]? = none := by
  unfold wsO
  rw [List.getElem?_map, List.getElem?_eq_none (by rw [List.length_range]; exact h)]
  rfl
theorem wsO_set {G : GG} {σ τ : MM} {k : Nat} {e : va_E} (h : k < σ.2.2.2.1) (hn : τ.2.2.2.1 = σ.2.2.2.1) (he : e = cellO G τ k) (ho : ∀ j, j ≠ k → j < σ.2.2.2.1 → cellO G τ j = cellO G σ j) : (wsO G σ).set k (G.2.2.2.2.2 + k, e) = wsO G τ := by
  apply List.ext_getElem?
  intro j
  rw [List.getElem?_set]
  by_cases hj : k = j
  · subst hj
    have hl : k < (wsO G σ).length := by unfold wsO; rw [List.length_map, List.length_range]; exact h
    rw [if_pos rfl, if_pos hl, wsO_get (by rw [hn]; exact h), he]
  · rw [if_neg hj]
    by_cases hlt : j < σ.2.2.2.1
    · rw [wsO_get hlt, wsO_get (by rw [hn]; exact hlt), ho j (fun z => hj z.symm) hlt]
    · rw [wsO_out (Nat.le_of_not_lt hlt), wsO_out (by rw [hn]; exact Nat.le_of_not_lt hlt)]
theorem wsO_app {G : GG} {σ τ : MM} {e : va_E} (hn : τ.2.2.2.1 = σ.2.2.2.1 + 1) (he : e = cellO G τ σ.2.2.2.1) (ho : ∀ j, j < σ.2.2.2.1 → cellO G τ j = cellO G σ j) : wsO G σ ++ [(G.2.2.2.2.2 + σ.2.2.2.1, e)] = wsO G τ := by
  unfold wsO
  rw [hn, List.range_succ, List.map_append, he]
  congr 1
  exact List.map_congr_left fun j hj => by rw [ho j (List.mem_range.mp hj)]
theorem adr_lt {G : GG} {k : Nat} (h : k < scr) : adr G k = G.2.2.2.2.2 + k := if_pos h
theorem adr_scr {G : GG} : adr G scr = G.2.2.1.1 := by unfold adr; rw [if_neg (Nat.lt_irrefl _), if_pos rfl]
theorem adr_tx {G : GG} {i : Nat} : adr G (scr + 1 + i) = G.2.2.2.1 i := by unfold adr; rw [if_neg (by omega), if_neg (by omega), Nat.add_sub_cancel_left]
/-! locals -/
def LR (G : GG) (ls : Array Slot) (nL : Nat) (L : LL) : Prop := ls.size = nL ∧ lv_wf ls ∧ L.length = nL ∧ ∀ (i : Nat) (v : Value), L[i]? = some (some v) → ls[i]? = some (.val (cv G v))
def prs (G : GG) (L : LL) : List (Nat × Value) := L.zipIdx.filterMap fun q => q.1.map fun v => (q.2, cv G v)
theorem prs_mem {G : GG} {L : LL} {q : Nat × Value} : q ∈ prs G L ↔ ∃ v, L[q.1]? = some (some v) ∧ q.2 = cv G v := by
  unfold prs
  rw [List.mem_filterMap]
  constructor
  · rintro ⟨⟨x, i⟩, h1, h2⟩
    rw [List.mem_zipIdx_iff_getElem?] at h1
    cases x with
    | none => cases h2
    | some v =>
      have h3 : (i, cv G v) = q := Option.some.inj h2
      subst h3
      exact ⟨v, h1, rfl⟩
  · rintro ⟨v, h1, h2⟩
    refine ⟨(some v, q.1), List.mem_zipIdx_iff_getElem?.mpr h1, ?_⟩
    show some (q.1, cv G v) = some q
    rw [← h2]
theorem LR.has {G : GG} {ls : Array Slot} {nL : Nat} {L : LL} (h : LR G ls nL L) : lv_has ls nL (prs G L) := ⟨h.1, h.2.1, fun q hq => by
  obtain ⟨v, h1, h2⟩ := prs_mem.mp hq
  rw [h2]
  exact h.2.2.2 _ _ h1⟩
theorem LR.at {G : GG} {ls : Array Slot} {nL : Nat} {L : LL} (h : LR G ls nL L) {i : Nat} {v : Value} (hi : L[i]? = some (some v)) : ls[i]? = some (.val (cv G v)) := h.2.2.2 i v hi
theorem LR.of {G : GG} {ls : Array Slot} {nL : Nat} {L : LL} {lv : List (Nat × Value)} (h : lv_has ls nL lv) (hl : L.length = nL) (hs : ∀ (i : Nat) (v : Value), L[i]? = some (some v) → (i, cv G v) ∈ lv) : LR G ls nL L := ⟨h.1, h.2.1, hl, fun i v hi => h.2.2 _ (hs i v hi)⟩
def nc : Option Value → Bool
  | some (.long _) => false
  | some (.double _) => false
  | _ => true
/-- the local below i is none of two words -/
def ncA (L : LL) : Nat → Bool
  | 0 => true
  | j + 1 => match L[j]? with
    | some x => nc x
    | none => true
theorem nc_cat {v : Value} (h : nc (some v) = true) : ¬ v.category = 2 := by
  cases v <;> first | (intro z; cases z; done) | cases h
theorem LR.st1 {G : GG} {ls ls' : Array Slot} {nL i : Nat} {L : LL} {w : Option Value} {x : Value} (h : LR G ls nL L) (hw : ∀ v, w = some v → x = cv G v) (hi : ncA L i = true) (h' : lv_has ls' nL ((i, x) :: (prs G L).filter (fun q => !(q.1 == i) && !(q.1 + 1 == i && q.2.category == 2)))) : LR G ls' nL (L.set i w) := by
  refine LR.of h' (by rw [List.length_set]; exact h.2.2.1) fun j v hj => ?_
  rw [List.getElem?_set] at hj
  by_cases e : i = j
  · subst e
    rw [if_pos rfl] at hj
    split at hj
    · rw [← hw v (Option.some.inj hj)]
      exact List.mem_cons_self
    · cases hj
  · rw [if_neg e] at hj
    refine List.mem_cons_of_mem _ (List.mem_filter.mpr ⟨prs_mem.mpr ⟨v, hj, rfl⟩, ?_⟩)
    have e1 : (j == i) = false := by
      rw [beq_eq_false_iff_ne]
      exact fun z => e z.symm
    have e2 : (j + 1 == i && (cv G v).category == 2) = false := by
      by_cases e3 : j + 1 = i
      · subst e3
        have h4 : nc (some v) = true := by
          have h7 : (match L[j]? with | some x => nc x | none => true) = true := hi
          rw [hj] at h7
          exact h7
        have h5 : ¬ (cv G v).category = 2 := by rw [cv_cat]; exact nc_cat h4
        have h6 : ((cv G v).category == 2) = false := by rw [beq_eq_false_iff_ne]; exact h5
        rw [h6, Bool.and_false]
      · have h6 : (j + 1 == i) = false := by rw [beq_eq_false_iff_ne]; exact e3
        rw [h6, Bool.false_and]
    show (!(j == i) && !(j + 1 == i && (cv G v).category == 2)) = true
    rw [e1, e2]
    rfl
theorem LR.st2 {G : GG} {ls ls' : Array Slot} {nL i : Nat} {L : LL} {v0 : Value} (h : LR G ls nL L) (hi : ncA L i = true) (h' : lv_has ls' nL ((i, cv G v0) :: (prs G L).filter (fun q => !(q.1 == i) && (!(q.1 == i + 1) && !(q.1 + 1 == i && q.2.category == 2))))) : LR G ls' nL ((L.set i (some v0)).set (i + 1) none) := by
  refine LR.of h' (by rw [List.length_set, List.length_set]; exact h.2.2.1) fun j v hj => ?_
  rw [List.getElem?_set] at hj
  by_cases e0 : i + 1 = j
  · subst e0
    rw [if_pos rfl] at hj
    split at hj <;> cases hj
  rw [if_neg e0, List.getElem?_set] at hj
  by_cases e : i = j
  · subst e
    rw [if_pos rfl] at hj
    split at hj
    · have e9 : v0 = v := Option.some.inj (Option.some.inj hj)
      rw [e9]
      exact List.mem_cons_self
    · cases hj
  · rw [if_neg e] at hj
    refine List.mem_cons_of_mem _ (List.mem_filter.mpr ⟨prs_mem.mpr ⟨v, hj, rfl⟩, ?_⟩)
    have e1 : (j == i) = false := by
      rw [beq_eq_false_iff_ne]
      exact fun z => e z.symm
    have e7 : (j == i + 1) = false := by
      rw [beq_eq_false_iff_ne]
      exact fun z => e0 z.symm
    have e2 : (j + 1 == i && (cv G v).category == 2) = false := by
      by_cases e3 : j + 1 = i
      · subst e3
        have h4 : nc (some v) = true := by
          have h7 : (match L[j]? with | some x => nc x | none => true) = true := hi
          rw [hj] at h7
          exact h7
        have h5 : ¬ (cv G v).category = 2 := by rw [cv_cat]; exact nc_cat h4
        have h6 : ((cv G v).category == 2) = false := by rw [beq_eq_false_iff_ne]; exact h5
        rw [h6, Bool.and_false]
      · have h6 : (j + 1 == i) = false := by rw [beq_eq_false_iff_ne]; exact e3
        rw [h6, Bool.false_and]
    show (!(j == i) && (!(j == i + 1) && !(j + 1 == i && (cv G v).category == 2))) = true
    rw [e1, e7, e2]
    rfl
/-! what stays: classes, script, texts, statics, links -/
/-- words that aren't kept by themselves: castable, declares -/
def faL : List Cond := lw_tbl.filter (fun w => w.faceAtom && w.onTables)
theorem faW {s U : State} (hW : s.WarmedH U.vm) {w : Cond} (hw : w ∈ faL) (h : va_Nw w s) : va_Nw w U := by
  have h1 := (List.mem_filter.mp hw).2
  simp only [Bool.and_eq_true] at h1
  exact va_tabs h1.2 (rfl : (s.setVm U.vm).vm = U.vm) (Cond.faceAtom_setVm hW.alike w h1.1 h)
def ST (G : GG) (A : Nat → Prop) (U : State) (H : Heap) : Prop :=
  va_K G.1 vwCl (tysO G) U ∧ (va_X G.2.2.1.1 G.2.2.1.2.1 G.2.2.1.2.2 U H ∧ G.2.2.1.1 < H.size ∧ ¬ A G.2.2.1.1) ∧
  (∀ i : Nat, i < nTC → va_O "java/lang/String" (G.2.2.2.1 i) A U H ∧ va_OF "java/lang/String" "coder" "B" (.int 0) (G.2.2.2.1 i) A U H ∧ va_OF "java/lang/String" "value" "[B" (.ref (G.2.2.2.2.1 i)) (G.2.2.2.1 i) A U H ∧ va_T .byte (G.2.2.2.2.1 i) (ksLen i) (fun j => .int ((ksB i).getD j 0)) A U H) ∧
  (∀ i : Nat, i < nTX → vk_R (clsN (ksE i).1) (ksE i).2 (ksX i) (G.2.2.2.1 i) U) ∧
  (vx_Zq Bundle.tN "UNASSIGNED_STACK" Bundle.steD A U H ∧ vx_Zq Bundle.tN "SUPPRESSED_SENTINEL" Bundle.listD A U H) ∧
  va_Z "java/lang/String" "COMPACT_STRINGS" "Z" (.int 1) A U H ∧
  (∀ w ∈ neL, va_Nw w U) ∧
  (∀ a b : Nat, a < 3 → b < 3 → a ≠ b → va_Nc (exc a) (exc b) U) ∧ (∀ w ∈ faL, va_Nw w U) ∧ va_AO "MatchboxModem$Line" U ∧ va_Zq "jdk/internal/util/Preconditions" "SIOOBE_FORMATTER" "Ljava/util/function/BiFunction;" A U H
theorem ST.narrow {G : GG} {A B : Nat → Prop} {U : State} {H : Heap} (h : ST G A U H) (hAB : ∀ q, B q → A q) : ST G B U H :=
  ⟨h.1, ⟨h.2.1.1, h.2.1.2.1, fun z => h.2.1.2.2 (hAB _ z)⟩, fun i hi => ⟨(h.2.2.1 i hi).1.narrow hAB, (h.2.2.1 i hi).2.1.narrow hAB, (h.2.2.1 i hi).2.2.1.narrow hAB, (h.2.2.1 i hi).2.2.2.narrow hAB⟩, h.2.2.2.1,
    ⟨h.2.2.2.2.1.1.narrow hAB, h.2.2.2.2.1.2.narrow hAB⟩, h.2.2.2.2.2.1.narrow hAB, h.2.2.2.2.2.2.1, h.2.2.2.2.2.2.2.1, h.2.2.2.2.2.2.2.2.1, h.2.2.2.2.2.2.2.2.2.1, va_Zq.narrow h.2.2.2.2.2.2.2.2.2.2 hAB⟩
theorem ST.kept {G : GG} {A : Nat → Prop} {U : State} {H H1 : Heap} (h : ST G A U H) (hz : H.size ≤ H1.size) (hq : ∀ a : Nat, a < H.size → ¬ A a → H1[a]? = H[a]?) : ST G A U H1 :=
  ⟨h.1, ⟨h.2.1.1.kept (hq _ h.2.1.2.1 h.2.1.2.2), Nat.lt_of_lt_of_le h.2.1.2.1 hz, h.2.1.2.2⟩, fun i hi => ⟨(h.2.2.1 i hi).1.kept hq, (h.2.2.1 i hi).2.1.kept hq, (h.2.2.1 i hi).2.2.1.kept hq, (h.2.2.1 i hi).2.2.2.kept hq⟩, h.2.2.2.1,
    ⟨h.2.2.2.2.1.1.kept hq, h.2.2.2.2.1.2.kept hq⟩, h.2.2.2.2.2.1.kept hq, h.2.2.2.2.2.2.1, h.2.2.2.2.2.2.2.1, h.2.2.2.2.2.2.2.2.1, h.2.2.2.2.2.2.2.2.2.1, va_Zq.kept h.2.2.2.2.2.2.2.2.2.2 hq⟩
theorem neW : ∀ w ∈ neL, ∃ (o : String) (i : Nat) (x : MethodName) (t : String), w = .methodLinkNest o i x t := by
  intro w hw
  simp only [neL, List.mem_cons, List.not_mem_nil, or_false] at hw
  rcases hw with rfl | rfl | rfl | rfl | rfl | rfl | rfl | rfl | rfl | rfl <;> exact ⟨_, _, _, _, rfl⟩
theorem ST.warm {G : GG} {A : Nat → Prop} {s U : State} {H : Heap} (h : ST G A s H) (hW : s.WarmedH U.vm) : ST G A U H :=
  ⟨va_K.moved hW.alike h.1, ⟨va_X.moved hW.alike h.2.1.1, h.2.1.2⟩, fun i hi => ⟨va_O.moved hW.alike (h.2.2.1 i hi).1, va_OF.moved hW.alike (h.2.2.1 i hi).2.1, va_OF.moved hW.alike (h.2.2.1 i hi).2.2.1, va_T.moved hW.alike (h.2.2.1 i hi).2.2.2⟩,
    fun i hi => (h.2.2.2.1 i hi).warm hW, ⟨vx_Zq.moved hW.alike h.2.2.2.2.1.1, vx_Zq.moved hW.alike h.2.2.2.2.1.2⟩, va_Z.moved hW.alike h.2.2.2.2.2.1,
    fun w hw => by obtain ⟨o, i, x, t, rfl⟩ := neW w hw; exact va_Nw.warmM hW (h.2.2.2.2.2.2.1 _ hw), fun a b h1 h2 h3 => va_Nc.moved hW.alike (h.2.2.2.2.2.2.2.1 a b h1 h2 h3), fun w hw => faW hW hw (h.2.2.2.2.2.2.2.2.1 w hw), va_AO.moved hW.alike h.2.2.2.2.2.2.2.2.2.1, va_Zq.moved hW.alike h.2.2.2.2.2.2.2.2.2.2⟩
end
section
/-! ===== the judgement itself; contracts ===== -/
/-- the launch; the script's length and what stands in it -/
abbrev LX : Type := Launch × Nat × (Nat → Int)
def scrOK (G : GG) (l : LX) : Prop := G.2.2.1.2.1 = l.2.1 ∧ ∀ j, j < l.2.1 → G.2.2.1.2.2 j = iI (l.2.2 j)
/-- what stands over a method's whole walk -/
def AMB (l : LX) (y : Nat) (G : GG) (p : Program) (R : Room) (s : State) (m : MethodId) (args : Array Value) (meth : Method) (c : Code) (A : Nat → Prop) : Prop :=
  (l.1.stackTraces = false ∧ scrOK G l) ∧ p.tables.exec = Jvm.exec ∧ c.code = cdN y ∧ c.maxLocals = mlN y ∧ meth.sig.returnType = rtN y ∧ s.vm.findClass (clsN (owN y)) = some m.cls ∧ meth.locks = false ∧ (inN y = true → meth.name = "<init>") ∧
  (∀ w ∈ T0, w.before args s = true) ∧ c.exceptionTable.toList = tableOf (hhN y) ∧ R.frames = htN y ∧ R.locals = loN y ∧ (∀ q, s.heap.size ≤ q → A q) ∧ ST G A s s.heap
/-- the world in the heap H -/
def WOK (G : GG) (A : Nat → Prop) (s : State) (H : Heap) (locs : List Loc) (σ : MM) : Prop :=
  σ.2.2.2.1 ≤ scr ∧ va_P G.1 vwCl (wsO G σ) H ∧ va_D A (wsO G σ) ∧ va_S A s.heap H locs
def FR (G : GG) (s : State) (σ : MM) (cells : Nat) : Prop := σ.2.2.2.2.2 = true → s.heap.size + cells = G.2.2.2.2.2 + σ.2.2.2.1 ∧ G.2.2.2.2.2 ≤ s.heap.size
/-- a return at pc with the answer v -/
def RetI (y pc : Nat) (v : Option Value) : Prop :=
  (decode (cdN y) pc = .ok (.ireturn, 1) ∧ ∃ x : Int32, v = some (.int x) ∧ (rtN y = some .int ∨ (rtN y = some .boolean ∧ (x = 0 ∨ x = 1)))) ∨
  (decode (cdN y) pc = .ok (.freturn, 1) ∧ ∃ x : UInt32, v = some (.float x) ∧ rtN y = some .float) ∨
  (decode (cdN y) pc = .ok (.dreturn, 1) ∧ ∃ x : UInt64, v = some (.double x) ∧ rtN y = some .double) ∨
  (decode (cdN y) pc = .ok (.return_, 1) ∧ v = none ∧ rtN y = none)
def nrv (v : Option Value) : Prop := ∀ a, v ≠ some (.ref a)
/-- what the end of the walk is good for -/
def FIN (l : LX) (y : Nat) (G : GG) (p : Program) (e : Env) (R : Room) (s : State) (m : MethodId) (args : Array Value) (below : List Frame) (meth : Method) (c : Code) (A : Nat → Prop) (CE SE : Nat) (Qf : State → Prop) (Q : OO → Prop) : Prop :=
  (∀ (H : Heap) (locs : List Loc) (cells slots pc : Nat) (ls : Array Slot) (v : Option Value) (σ : MM), cells ≤ CE → slots ≤ SE → WOK G A s H locs σ → FR G s σ CE → RetI y pc v → Q (.inl v, σ) → W p l.1 e R s m args below meth c H locs cells slots Qf (F0 m pc ls v.toList)) ∧
  (∀ (H : Heap) (locs : List Loc) (cells slots pc : Nat) (ls : Array Slot) (rest : List Value) (σ : MM) (E : Nat) (r : Nat × Nat × Nat × Bool × Nat), xtN y pc = some (E, r) → ls.size = mlN y → (rest.map fun v => v.category).sum + 82 ≤ loN y → 6 ≤ htN y → hhN y = [] → cells + 1 ≤ CE → slots + 6 ≤ SE → WOK G A s H locs σ → σ.2.2.2.2.2 = false → Q (.inr E, σ) → W p l.1 e R s m args below meth c H locs cells slots Qf (F0 m pc ls rest)) ∧
  (∀ (H : Heap) (locs : List Loc) (cells slots pc : Nat) (ls : Array Slot) (rest : List Value) (σ : MM) (E : Nat) (q : Addr) (ce : Cell), hhN y = [] → cells ≤ CE → slots ≤ SE → WOK G A s H locs σ → σ.2.2.2.2.2 = false → Q (.inr E, σ) → H[q]? = some ce → ce.vm = .none → s.vm.findClass (exc E) = some ce.cls → vx_W p l.1 e R s m args below meth c H locs cells slots Qf (F0 m pc ls rest) q)
/-- from pc, with locals L, stack st and memory σ, the method comes to an end with Q; at most k cells, n slots are made -/
def Ex (l : LX) (y k n pc : Nat) (L : LL) (st : List Value) (σ : MM) (Q : OO → Prop) : Prop :=
  ∀ (G : GG) (p : Program) (e : Env) (R : Room) (s : State) (m : MethodId) (args : Array Value) (below : List Frame) (meth : Method) (c : Code) (A : Nat → Prop) (CE SE : Nat) (Qf : State → Prop),
    AMB l y G p R s m args meth c A → CE ≤ R.cells → SE ≤ R.slots → FIN l y G p e R s m args below meth c A CE SE Qf Q →
    ∀ (H : Heap) (locs : List Loc) (cells slots : Nat) (ls : Array Slot), cells + k = CE → slots + n = SE → LR G ls (mlN y) L → WOK G A s H locs σ → FR G s σ cells →
      W p l.1 e R s m args below meth c H locs cells slots Qf (F0 m pc ls (cvs G st))
/-! the contract of a method -/
def PW (G : GG) (σ : MM) (sz : Nat) : State → Prop := fun U => U.heap.size = sz ∧ σ.2.2.2.1 ≤ scr ∧ va_P G.1 vwCl (wsO G σ) U.heap ∧ va_D (fun _ => True) (wsO G σ) ∧ ST G (va_A (wsO G σ) sz) U U.heap
def EW (G : GG) (σ τ : MM) (sz k : Nat) (t : State) : Prop := τ.2.2.2.1 ≤ scr ∧ va_P G.1 vwCl (wsO G τ) t.heap ∧ va_D (va_A (wsO G σ) sz) (wsO G τ) ∧ (τ.2.2.2.2.2 = true → sz + k = G.2.2.2.2.2 + τ.2.2.2.1)
def QW (G : GG) (σ : MM) (sz k : Nat) (Q : OO → Prop) : Array Value → State → Outcome → State → Prop := fun _ st oc t =>
  (∃ (v : Option Value) (τ : MM), oc = .returned v ∧ nrv v ∧ Q (.inl v, τ) ∧ EW G σ τ sz k t) ∧ va_F (va_A (wsO G σ) sz) st t
def XW (G : GG) (σ : MM) (sz k : Nat) (Q : OO → Prop) : String → State → State → Prop := fun E st t =>
  (∃ (e : Nat) (τ : MM), E = exc e ∧ τ.2.2.2.2.2 = false ∧ Q (.inr e, τ) ∧ EW G σ τ sz k t) ∧ va_F (va_A (wsO G σ) sz) st t
def CT (l : LX) (y : Nat) (as : List Value) (σ : MM) (k n : Nat) (Q : OO → Prop) : Prop :=
  ∀ (G : GG) (sz : Nat), (σ.2.2.2.2.2 = true → sz = G.2.2.2.2.2 + σ.2.2.2.1) → scrOK G l →
    vx_Met l.1 (ynN y) (cdW y :: T0) { frames := htN y, cells := k, slots := n, locals := loN y } (va_Pc (cvs G as) (PW G σ sz)) (QW G σ sz k Q) (XW G σ sz k Q) k n (va_A (wsO G σ) sz)
theorem nrv_of {y pc : Nat} {v : Option Value} (h : RetI y pc v) : nrv v := by
  intro a e
  rcases h with ⟨-, x, rfl, -⟩ | ⟨-, x, rfl, -⟩ | ⟨-, x, rfl, -⟩ | ⟨-, rfl, -⟩ <;> cases e
theorem cdW_plain {y : Nat} (h : hhN y = []) : cdW y = .code (ynN y) (cdN y) (mlN y) (rtN y) := if_pos h
theorem cdW_with {y : Nat} (h : ¬ hhN y = []) : cdW y = .codeWith (ynN y) (cdN y) (mlN y) (rtN y) (hhN y) := if_neg h
theorem mtPlain {y : Nat} (h : y < 333) : plainName (ynN y).cls = true := by
  have := mtOk h
  simp only [mtC, Bool.and_eq_true] at this
  exact this.1.1.1
theorem mtPar {y : Nat} (h : y < 333) : (parseMethodDescriptor (ynN y).desc).map (fun d => d.parameters.length) = some (naN y) := by
  have := mtOk h
  simp only [mtC, Bool.and_eq_true, decide_eq_true_eq] at this
  exact this.1.1.2
theorem mtCls {y : Nat} (h : y < 333) : (ynN y).cls = clsN (owN y) := by
  have := mtOk h
  simp only [mtC, Bool.and_eq_true, decide_eq_true_eq] at this
  exact this.1.2
theorem mtNo {y : Nat} (h : y < 333) : (ynN y).cls ≠ "java/lang/invoke/MethodHandle" ∧ (ynN y).cls ≠ "java/lang/invoke/VarHandle" := by
  have := mtOk h
  simp only [mtC, Bool.and_eq_true, decide_eq_true_eq] at this
  exact this.2
/-! the words of a throw -/
def exUp : List String := ["java/lang/RuntimeException", "java/lang/Exception"]
def exIc (e : Nat) : Nat := [107, 97, 361].getD e 0
def exIk (e : Nat) : Nat := [103, 93, 357].getD e 0
def exW (e : Nat) : List Cond := .classLink "MatchboxModem" (exIk e) (exc e) :: .initialized (exc e) :: vx_atS "MatchboxModem" (exIc e) (exc e) exUp
set_option maxRecDepth 100000 in
theorem exW0 : (List.range 3).all (fun e => (exW e).all (fun w => lw_tbl.any (fun v => decide (v = w)) && (goodWord w || (w.faceAtom && w.onTables)) && vx_ot w)) = true := by decide +kernel
theorem exWt {e : Nat} (he : e < 3) {w : Cond} (hw : w ∈ exW e) : (w ∈ T0 ∨ w ∈ faL) ∧ vx_ot w = true := by
  have h := List.all_eq_true.mp (List.all_eq_true.mp exW0 e (List.mem_range.mpr he)) w hw
  simp only [Bool.and_eq_true, Bool.or_eq_true, List.any_eq_true, decide_eq_true_eq] at h
  obtain ⟨⟨⟨v, hv, rfl⟩, h2⟩, h3⟩ := h
  refine ⟨?_, h3⟩
  rcases h2 with h2 | h2
  · exact Or.inl (List.mem_filter.mpr ⟨hv, h2⟩)
  · exact Or.inr (List.mem_filter.mpr ⟨hv, by rw [h2.1, h2.2]; rfl⟩)
theorem xtOk0 : xtL.all (fun e => decide (e.1.1 < 332) && decide (e.2.1 < 3) && decide (owN e.1.1 = 9) && decide (e.2.2.1 = exIk e.2.1) && decide (e.2.2.2.2.1 = exIc e.2.1) && decide (e.2.2.2.2.2.2 < nTX) && decide (ksE e.2.2.2.2.2.2 = (9, e.2.2.2.1)) &&
  decide (decode (cdN e.1.1) e.1.2 = .ok (.new e.2.2.1, 3)) && decide (decode (cdN e.1.1) (e.1.2 + 3) = .ok (.dup, 1)) &&
  (match e.2.2.2.2.2.1 with
  | false => decide (decode (cdN e.1.1) (e.1.2 + 4) = .ok (.ldc e.2.2.2.1, 2)) && decide (decode (cdN e.1.1) (e.1.2 + 6) = .ok (.invokespecial e.2.2.2.2.1, 3)) && decide (decode (cdN e.1.1) (e.1.2 + 9) = .ok (.athrow, 1))
  | true => decide (decode (cdN e.1.1) (e.1.2 + 4) = .ok (.ldc_w e.2.2.2.1, 3)) && decide (decode (cdN e.1.1) (e.1.2 + 7) = .ok (.invokespecial e.2.2.2.2.1, 3)) && decide (decode (cdN e.1.1) (e.1.2 + 10) = .ok (.athrow, 1)))) = true := by decide +kernel
theorem clsN9 : clsN 9 = "MatchboxModem" := rfl
set_option maxHeartbeats 4000000 in
/-- a throw of the method's own, as a walk over the machine -/
theorem ex_thr {l : LX} {y : Nat} {G : GG} {p : Program} {e : Env} {R : Room} {s : State} {m : MethodId} {args : Array Value} {below : List Frame} {meth : Method} {c : Code} {A : Nat → Prop} {Qc : Array Value → State → Outcome → State → Prop} {XC : String → State → State → Prop} {mc ms : Nat} {free : Addr → Prop}
    (hA : AMB l y G p R s m args meth c A) {H : Heap} {locs : List Loc} {cells slots pc : Nat} {ls : Array Slot} {rest : List Value} {E : Nat} {r : Nat × Nat × Nat × Bool × Nat} (hxt : xtN y pc = some (E, r)) (hls : ls.size = mlN y) (hcat : (rest.map fun v => v.category).sum + 82 ≤ loN y) (hht : 6 ≤ htN y) (hhh : hhN y = [])
    (hRc : mc ≤ R.cells) (hRs : ms ≤ R.slots) (hc : cells + 1 ≤ mc) (hs : slots + 6 ≤ ms) (hS : va_S A s.heap H locs) (hf : ∀ z ∈ locs, free z.base)
    (hX : ∀ t : State, s.vm.Alike t.vm → H.size ≤ t.heap.size → (∀ q : Nat, q < H.size → t.heap[q]? = H[q]?) → XC (exc E) s t) :
    W p l.1 e R s m args below meth c H locs cells slots (vx_MQ below Qc XC args s mc ms free) (F0 m pc ls rest) := by
  obtain ⟨hfl, hx, hb, hml, hr, hown, hlocks, hin, hts, htab, hRf, hRl, hAA, hST⟩ := hA
  unfold xtN at hxt
  cases hfd : xtL.find? (fun e => e.1.1 == y && e.1.2 == pc) with
  | none => rw [hfd] at hxt; cases hxt
  | some f =>
    rw [hfd] at hxt
    have h2 : f.2 = (E, r) := Option.some.inj hxt
    have h3 := List.find?_some hfd
    simp only [Bool.and_eq_true, beq_iff_eq] at h3
    have h4 := List.all_eq_true.mp xtOk0 f (List.mem_of_find?_eq_some hfd)
    obtain ⟨⟨a, b⟩, g⟩ := f
    obtain ⟨rfl, rfl⟩ := h3
    subst h2
    obtain ⟨ik, is, ic, wd, tn⟩ := r
    simp only [Bool.and_eq_true, decide_eq_true_eq] at h4
    obtain ⟨⟨⟨⟨⟨⟨⟨⟨⟨hy, hE⟩, h9⟩, hik⟩, hic⟩, htn⟩, hks⟩, d0⟩, d3⟩, h5⟩ := h4
    have hown9 : s.vm.findClass "MatchboxModem" = some m.cls := by
      rw [h9, clsN9] at hown
      exact hown
    have hwd : ∀ w ∈ exW E, w.before args s = true := fun w hw => by
      rcases (exWt hE hw).1 with h | h
      · exact hts w h
      · have h7 := (List.mem_filter.mp h).2
        simp only [Bool.and_eq_true] at h7
        exact va_Nw.use h7.2 (hST.2.2.2.2.2.2.2.2.1 w h)
    have hot : ∀ w ∈ exW E, vx_ot w = true := fun w hw => (exWt hE hw).2
    have hstr : vk_R "MatchboxModem" is (ksX tn) (G.2.2.2.1 tn) s := by
      have := hST.2.2.2.1 tn htn
      rw [hks] at this
      exact this
    have hcls : Bundle.fit (exc E) = true := by
      have : E = 0 ∨ E = 1 ∨ E = 2 := by omega
      rcases this with rfl | rfl | rfl <;> decide
    have hnm : ∀ n ∈ exUp, Bundle.fit n = true := by decide
    have hno : ∀ q, ∀ x ∈ c.exceptionTable.toList, covers x q = false := fun q x hx9 => by
      rw [htab, hhh] at hx9
      cases hx9
    subst hik; subst hic
    have hU := hST.2.2.2.2.1.1
    have hN := hST.2.2.2.2.1.2
    cases wd with
    | false =>
      simp only [Bool.and_eq_true, decide_eq_true_eq] at h5
      obtain ⟨⟨d4, d6⟩, d9⟩ := h5
      exact vx_throwS (names := exUp) (A := A) hx hb hfl.1 hown9 hcls hnm (hwd _ List.mem_cons_self) (hwd _ (List.mem_cons_of_mem _ List.mem_cons_self)) hstr (fun w hw => hwd w (List.mem_cons_of_mem _ (List.mem_cons_of_mem _ hw))) hot hU hN hS (by rw [hml]; exact hls) d0 d3 d4 d6 d9 (hno _)
        (by rw [hRf]; exact Nat.lt_of_lt_of_le (by decide) hht) (by rw [hRl]; exact Nat.le_trans (Nat.le_of_eq (by rfl)) hcat) (Nat.le_trans hc hRc) (Nat.le_trans hs hRs) hlocks hX hf hc hs
    | true =>
      simp only [Bool.and_eq_true, decide_eq_true_eq] at h5
      obtain ⟨⟨d4, d7⟩, d10⟩ := h5
      exact vx_throwSW (names := exUp) (A := A) hx hb hfl.1 hown9 hcls hnm (hwd _ List.mem_cons_self) (hwd _ (List.mem_cons_of_mem _ List.mem_cons_self)) hstr (fun w hw => hwd w (List.mem_cons_of_mem _ (List.mem_cons_of_mem _ hw))) hot hU hN hS (by rw [hml]; exact hls) d0 d3 d4 d7 d10 (hno _)
        (by rw [hRf]; exact Nat.lt_of_lt_of_le (by decide) hht) (by rw [hRl]; exact Nat.le_trans (Nat.le_of_eq (by rfl)) hcat) (Nat.le_trans hc hRc) (Nat.le_trans hs hRs) hlocks hX hf hc hs
/-! a contract out of a walk -/
theorem WOK.end {G : GG} {A : Nat → Prop} {s t : State} {H : Heap} {locs : List Loc} {σ τ : MM} {sz k : Nat} (hA : A = va_A (wsO G σ) sz) (hsz : s.heap.size = sz) (h : WOK G A s H locs τ) (hf : FR G s τ k) (ht : t.heap = H) : EW G σ τ sz k t := by
  subst hA; subst hsz
  exact ⟨h.1, by rw [ht]; exact h.2.1, h.2.2.1, fun z => (hf z).1⟩
theorem narrow01 {x : Int32} (h : x = 0 ∨ x = 1) : narrow .boolean (.int x) = .int x := by
  rcases h with rfl | rfl <;> decide
set_option maxHeartbeats 4000000 in
theorem fin_of {l : LX} {y : Nat} {G : GG} {p : Program} {e : Env} {R : Room} {s : State} {m : MethodId} {args : Array Value} {below : List Frame} {meth : Method} {c : Code} {σ : MM} {k n sz : Nat} {Q : OO → Prop} (hsz : s.heap.size = sz)
    (hA : AMB l y G p R s m args meth c (va_A (wsO G σ) sz)) (hRc : k ≤ R.cells) (hRs : n ≤ R.slots) : FIN l y G p e R s m args below meth c (va_A (wsO G σ) sz) k n (vx_MQ below (QW G σ sz k Q) (XW G σ sz k Q) args s k n (va_A (wsO G σ) sz)) Q := by
  have hA0 := hA
  obtain ⟨hfl, hx, hb, hml, hr, hown, hlocks, hin, hts, htab, hRf, hRl, hAA, hST⟩ := hA
  refine ⟨?_, ?_, ?_⟩
  · intro H locs cells slots pc ls v τ hc hs hW hF hI hQ
    refine vx_ret ?_
    refine W.widen hc hs ?_
    have hq : ∀ t : State, t.heap = H → s.WarmedH t.vm → QW G σ sz k Q args s (.returned v) t := fun t ht _ => ⟨⟨v, τ, rfl, nrv_of hI, hQ, WOK.end rfl hsz hW hF ht⟩, hW.2.2.2.F ht⟩
    rcases hI with ⟨hd, x, rfl, h1 | ⟨h1, h2⟩⟩ | ⟨hd, x, rfl, h1⟩ | ⟨hd, x, rfl, h1⟩ | ⟨hd, rfl, h1⟩
    · exact W.iret hx hb (hr.trans h1) hq hW.2.2.2.2.2 hd hlocks
    · exact W.zret hx hb (hr.trans h1) (narrow01 h2) hq hW.2.2.2.2.2 hd hlocks
    · exact W.fret hx hb (hr.trans h1) hq hW.2.2.2.2.2 hd hlocks
    · exact W.dret hx hb (hr.trans h1) hq hW.2.2.2.2.2 hd hlocks
    · exact W.vret hx hb (hr.trans h1) hq hW.2.2.2.2.2 hd hlocks
  · intro H locs cells slots pc ls rest τ E r hxt hls hcat hht hhh hc hs hW hfr hQ
    refine ex_thr hA0 hxt hls hcat hht hhh hRc hRs hc hs hW.2.2.2 hW.2.2.2.2.2 fun t hvm hz hk => ?_
    have hP : va_P G.1 vwCl (wsO G τ) t.heap := va_P.kept hW.2.1 fun k q hq => hk q.1 (hW.2.1 k q hq).lt
    refine ⟨⟨E, τ, rfl, hfr, hQ, hW.1, hP, hW.2.2.1, fun z => by rw [hfr] at z; cases z⟩, Nat.le_trans hW.2.2.2.1 hz, fun q h1 h2 => ?_⟩
    rw [hk q (Nat.lt_of_lt_of_le h1 hW.2.2.2.1)]
    exact hW.2.2.2.2.1 q h1 h2
  · intro H locs cells slots pc ls rest τ E q ce hhh hc hs hW hfr hQ hce hv hcl
    have hno : ∀ x ∈ c.exceptionTable.toList, covers x pc = false := fun x hx9 => by
      rw [htab, hhh] at hx9
      cases hx9
    exact vx_out hno hlocks hce hv hcl (fun t ht _ => ⟨⟨E, τ, rfl, hfr, hQ, WOK.end rfl hsz hW (fun z => by rw [hfr] at z; cases z) ht⟩, hW.2.2.2.F ht⟩) hW.2.2.2.2.2 hc hs
theorem LR.entry {G : GG} {as : List Value} {n : Nat} {L : LL} (h : (lg_sl (cvs G as)).length ≤ n) (hl : L.length = n) (hs : ∀ (i : Nat) (v : Value), L[i]? = some (some v) → (i, cv G v) ∈ lv_args 0 (cvs G as)) : LR G ((lg_sl (cvs G as) ++ List.replicate (n - (lg_sl (cvs G as)).length) Slot.unset).toArray) n L := LR.of (lv_entry (cvs G as) h) hl hs
/-- the locals at a method's entry -/
def enL : List Value → LL
  | [] => []
  | v :: r => if v.category = 2 then some v :: none :: enL r else some v :: enL r
def en (y : Nat) (as : List Value) : LL := enL as ++ List.replicate (mlN y - (enL as).length) none
theorem enL_len (G : GG) : ∀ as : List Value, (lg_sl (cvs G as)).length = (enL as).length := by
  intro as
  induction as with
  | nil => rfl
  | cons v r ih =>
    have e : cvs G (v :: r) = cv G v :: cvs G r := rfl
    have e2 : lg_sl (cv G v :: cvs G r) = (if (cv G v).category = 2 then [.val (cv G v), .second] else [.val (cv G v)]) ++ lg_sl (cvs G r) := rfl
    rw [e, e2, List.length_append, ih]
    show _ = (if v.category = 2 then some v :: none :: enL r else some v :: enL r).length
    by_cases hc : v.category = 2
    · rw [if_pos ((cv_cat G v).trans hc), if_pos hc]
      simp only [List.length_cons, List.length_nil]
      omega
    · rw [if_neg (fun z => hc ((cv_cat G v).symm.trans z)), if_neg hc]
      simp only [List.length_cons, List.length_nil]
      omega
theorem enL_mem (G : GG) : ∀ (as : List Value) (j i : Nat) (v : Value), (enL as)[i]? = some (some v) → (j + i, cv G v) ∈ lv_args j (cvs G as) := by
  intro as
  induction as with
  | nil => intro j i v h; cases h
  | cons w r ih =>
    intro j i v h
    have e : cvs G (w :: r) = cv G w :: cvs G r := rfl
    rw [e]
    unfold enL at h
    unfold lv_args
    by_cases hc : w.category = 2
    · rw [if_pos hc] at h
      rw [if_pos ((cv_cat G w).trans hc)]
      match i, h with
      | 0, h =>
        have : w = v := Option.some.inj (Option.some.inj h)
        subst this
        exact List.mem_cons_self
      | 1, h => cases h
      | i + 2, h =>
        have := ih (j + 2) i v h
        rw [show j + (i + 2) = j + 2 + i from by omega]
        exact List.mem_cons_of_mem _ this
    · rw [if_neg hc] at h
      rw [if_neg (fun z => hc ((cv_cat G w).symm.trans z))]
      match i, h with
      | 0, h =>
        have : w = v := Option.some.inj (Option.some.inj h)
        subst this
        exact List.mem_cons_self
      | i + 1, h =>
        have := ih (j + 1) i v h
        rw [show j + (i + 1) = j + 1 + i from by omega]
        exact List.mem_cons_of_mem _ this
theorem LR.start {G : GG} {y : Nat} {as : List Value} (h : (enL as).length ≤ mlN y) : LR G ((lg_sl (cvs G as) ++ List.replicate (mlN y - (lg_sl (cvs G as)).length) Slot.unset).toArray) (mlN y) (en y as) := by
  refine LR.entry (by rw [enL_len]; exact h) (by unfold en; rw [List.length_append, List.length_replicate]; omega) fun i v hi => ?_
  unfold en at hi
  by_cases hl : i < (enL as).length
  · rw [List.getElem?_append_left hl] at hi
    have := enL_mem G as 0 i v hi
    rw [Nat.zero_add] at this
    exact this
  · rw [List.getElem?_append_right (Nat.le_of_not_lt hl), List.getElem?_replicate] at hi
    split at hi <;> cases hi
end
section
/-! contracts out of walks; calls -/
theorem va_A_out {ws : va_W} {sz q : Nat} (h : sz ≤ q) : va_A ws sz q := Or.inr h
theorem amb_of {l : LX} {y : Nat} {G : GG} {p : Program} {R : Room} {e : Env} {s s₁ : State} {m : MethodId} {args : Array Value} {below : List Frame} {meth : Method} {c : Code} {S : Spec} {σ : MM} {sz : Nat} (hy : y < 332) (hl : l.1.stackTraces = false) (hsc : scrOK G l)
    (B : BodyLoose p l.1 (ynN y) S (cdN y) (mlN y) (rtN y) e s m args below meth c s₁) (hml : c.maxLocals = mlN y) (hT : ∀ w ∈ T0, w.before args s = true) (htab : c.exceptionTable.toList = tableOf (hhN y)) (hin : inN y = true → (ynN y).name = "<init>")
    (hR : R.frames = htN y) (hR2 : R.locals = loN y) (hsz : s.heap.size = sz) (hST : ST G (va_A (wsO G σ) sz) s s.heap) : AMB l y G p R s m args meth c (va_A (wsO G σ) sz) := by
  refine ⟨⟨hl, hsc⟩, B.exec, B.bytes, hml, B.returns, ?_, B.notSynchronized, fun h => ?_, hT, htab, hR, hR2, fun q hq => Or.inr (hsz ▸ hq), hST⟩
  · rw [← mtCls (by omega : y < 333)]
    exact findClass_of_methodNamed B.named
  · rw [(name_of_methodNamed B.named B.method).1]
    exact hin h
theorem inOk0 : (List.range 333).all (fun y => !(inN y) || decide ((ynN y).name = "<init>")) = true := by decide +kernel
theorem inOk {y : Nat} (hy : y < 333) (h : inN y = true) : (ynN y).name = "<init>" := by
  have := List.all_eq_true.mp inOk0 y (List.mem_range.mpr hy)
  simp only [Bool.or_eq_true, Bool.not_eq_true', decide_eq_true_eq] at this
  rcases this with h1 | h1
  · rw [h1] at h; cases h
  · exact h1
set_option maxHeartbeats 4000000 in
/-- THE CONTRACT OF A METHOD out of its walk -/
theorem mkct {l : LX} (hl : l.1.stackTraces = false) {y : Nat} (hy : y < 332) {as : List Value} {σ : MM} {k n : Nat} {Q : OO → Prop} (hlen : (enL as).length ≤ mlN y) (h : Ex l y k n 0 (en y as) [] σ Q) : CT l y as σ k n Q := by
  intro G sz hfr hsc
  have main : ∀ (p : Program) (e : Env) (s : State) (m : MethodId) (args : Array Value) (below : List Frame) (meth : Method) (c : Code) (s₁ : State), BodyLoose p l.1 (ynN y) (headSpec (cdW y :: T0) { frames := htN y, cells := k, slots := n, locals := loN y }) (cdN y) (mlN y) (rtN y) e s m args below meth c s₁ → c.maxLocals = mlN y → c.exceptionTable.toList = tableOf (hhN y) → va_Pc (cvs G as) (PW G σ sz) args s →
      W p l.1 e (headSpec (cdW y :: T0) { frames := htN y, cells := k, slots := n, locals := loN y }).room s m args below meth c s.heap [] 0 0 (vx_MQ below (QW G σ sz k Q) (XW G σ sz k Q) args s k n (va_A (wsO G σ) sz)) (entryFrame m args (mlN y)) := by
    intro p e s m args below meth c s₁ B hml htab hv
    obtain ⟨rfl, hsz, hnp, hP, hD, hST⟩ := hv
    have hts := atoms_spec (ws := cdW y :: T0) B.pre
    have hA : AMB l y G p (headSpec (cdW y :: T0) { frames := htN y, cells := k, slots := n, locals := loN y }).room s m (cvs G as).toArray meth c (va_A (wsO G σ) sz) :=
      amb_of hy hl hsc B hml (fun w hw => hts w (List.mem_cons_of_mem _ hw)) htab (inOk (by omega)) rfl rfl hsz hST
    have hF := fin_of (e := e) (below := below) (k := k) (n := n) (Q := Q) hsz hA (Nat.le_refl _) (Nat.le_refl _)
    rw [lg_entry_eq]
    refine h G p e _ s m _ below meth c _ k n _ hA (Nat.le_refl _) (Nat.le_refl _) hF s.heap [] 0 0 _ (Nat.zero_add _) (Nat.zero_add _) (LR.start hlen) ⟨hnp, hP, hD.weaken (fun i q hq _ => va_A.in hq), va_S.rf⟩ (fun z => ?_)
    rw [hsz, hfr z]
    exact ⟨rfl, Nat.le_add_right _ _⟩
  by_cases hh : hhN y = []
  · refine vx_ofW (cc := cdN y) (maxL := mlN y) (ret := rtN y) (ws' := T0) (mtPlain (by omega)) (by rw [cdW_plain hh]) ?_
    intro p e s m args below meth c s₁ B hml ht hv
    refine main p e s m args below meth c s₁ B hml ?_ hv
    rw [hh]
    exact List.eq_nil_iff_forall_not_mem.mpr ht
  · refine vx_ofWH (cc := cdN y) (maxL := mlN y) (ret := rtN y) (ws' := T0) (hh := hhN y) (mtPlain (by omega)) (by rw [cdW_with hh]) ?_
    intro p e s m args below meth c s₁ B hml hv
    refine main p e s m args below meth c s₁ B hml ?_ hv
    exact vx_table (x := ynN y) B (atoms_spec (ws := cdW y :: T0) B.pre _ (by rw [cdW_with hh]; exact List.mem_cons_self))
/-- what a caller hands over -/
theorem pre_of {l : LX} {y : Nat} {G : GG} {p : Program} {R : Room} {s : State} {m : MethodId} {args : Array Value} {meth : Method} {c : Code} {A : Nat → Prop} (hA : AMB l y G p R s m args meth c A) {H : Heap} {locs : List Loc} {σ : MM} (hW : WOK G A s H locs σ) :
    (∀ q, va_A (wsO G σ) H.size q → A q) ∧ ∀ (As : List Value), PreS s H (va_Pc As (PW G σ H.size)) As := by
  obtain ⟨hfl, hx, hb, hml, hr, hown, hlocks, hin, hts, htab, hRf, hRl, hAA, hST⟩ := hA
  obtain ⟨hnp, hP, hD, hS⟩ := hW
  have hsub : ∀ q, va_A (wsO G σ) H.size q → A q := by
    rintro q (⟨k, e, hk⟩ | hq)
    · exact hD.2 k _ hk
    · exact hAA q (Nat.le_trans hS.1 hq)
  refine ⟨hsub, fun As => ⟨?_, ?_⟩⟩
  · intro a U g mk q
    obtain ⟨q0, q1, q2, q3, q4, q5⟩ := q
    exact ⟨q0, q1, q2, q3, q4, q5.warm (U := U.calling g mk a) (State.WarmedH.refl U)⟩
  · intro U hU hW9
    refine ⟨rfl, by rw [hU], hnp, by rw [hU]; exact hP, hD.weaken (fun _ _ _ _ => trivial), ?_⟩
    rw [hU]
    exact ((hST.kept hS.1 hS.2.1).narrow hsub).warm hW9
/-- behind a call -/
theorem cal_go {l : LX} {y : Nat} {G : GG} {p : Program} {e : Env} {R : Room} {s : State} {m : MethodId} {args : Array Value} {below : List Frame} {meth : Method} {c : Code} {A : Nat → Prop} (hA : AMB l y G p R s m args meth c A) {H : Heap} {locs : List Loc} {cells slots mc ms pc : Nat} {ls : Array Slot} {st0 rest : List Value} {σ : MM} {Q : OO → Prop} {Qf : State → Prop} {a : Array Value}
    (hW : WOK G A s H locs σ) (hr : vx_Run p l.1 e R s m args below meth c H locs cells slots mc ms (F0 m pc ls st0) rest (QW G σ H.size mc Q a) (XW G σ H.size mc Q) (va_A (wsO G σ) H.size))
    (kk : ∀ (v : Option Value) (τ : MM) (H1 : Heap) (locs1 : List Loc), nrv v → Q (.inl v, τ) → WOK G A s H1 locs1 τ → (τ.2.2.2.2.2 = true → H.size + mc = G.2.2.2.2.2 + τ.2.2.2.1) → W p l.1 e R s m args below meth c H1 locs1 (cells + mc) (slots + ms) Qf (F0 m (pc + 3) ls (v.toList ++ rest)))
    (kx : ∀ (E : Nat) (τ : MM) (H1 : Heap) (locs1 : List Loc) (q : Addr) (ce : Cell), Q (.inr E, τ) → τ.2.2.2.2.2 = false → WOK G A s H1 locs1 τ → H1[q]? = some ce → ce.vm = .none → s.vm.findClass (exc E) = some ce.cls → vx_W p l.1 e R s m args below meth c H1 locs1 (cells + mc) (slots + ms) Qf (F0 m pc ls rest) q) :
    W p l.1 e R s m args below meth c H locs cells slots Qf (F0 m pc ls st0) := by
  obtain ⟨hsub, -⟩ := pre_of hA hW
  obtain ⟨hnp, hP, hD, hS⟩ := hW
  intro T hT X
  rcases hr T hT X with ⟨v, st₀, t, T', L, h0, X', hL, e1, e2, ⟨⟨v', τ, hv, hn, hq, w1, w2, w3, w4⟩, hF⟩, st⟩ | ⟨q, st₀, t, T', L, E, ce, h0, X', hL, e1, e2, ⟨⟨E', τ, hE, hf, hq, w1, w2, w3, w4⟩, hF⟩, hce, hcv, hcl, st⟩
  · cases hv
    obtain ⟨k1, k2, k3⟩ := vx_keep h0 e1 hS (fun q _ h => hsub q h) hsub hL hF
    obtain ⟨t2, a1, b1⟩ := kk v τ T'.heap (locs ++ L) hn hq ⟨w1, by rw [e1]; exact w2, w3.weaken (fun _ _ _ h => hsub _ h), k3⟩ w4 T' rfl X'
    exact ⟨t2, st t2 a1, b1⟩
  · subst hE
    obtain ⟨k1, k2, k3⟩ := vx_keep h0 e1 hS (fun q _ h => hsub q h) hsub hL hF
    obtain ⟨t2, a1, b1⟩ := kx E' τ T'.heap (locs ++ L) q ce hq hf ⟨w1, by rw [e1]; exact w2, w3.weaken (fun _ _ _ h => hsub _ h), k3⟩ (by rw [e1]; exact hce) hcv hcl T' rfl X'
    exact ⟨t2, st.trans a1, b1⟩
/-- how large the heap is where nothing but the world's cells was made -/
theorem size_of {l : LX} {G : GG} {p : Program} {e : Env} {R : Room} {s : State} {m : MethodId} {args : Array Value} {below : List Frame} {meth : Method} {c : Code} {A : Nat → Prop} {H : Heap} {locs : List Loc} {cells slots : Nat} {σ : MM} {T : State} (hW : WOK G A s H locs σ) (hF : FR G s σ cells) (X : Stand p l.1 e R s m args below meth c T locs cells slots) (hT : T.heap = H) : σ.2.2.2.2.2 = true → H.size = G.2.2.2.2.2 + σ.2.2.2.1 := by
  intro h
  obtain ⟨h1, hb⟩ := hF h
  have h2 := X.heapSize
  rw [hT] at h2
  by_cases h0 : σ.2.2.2.1 = 0
  · have := hW.2.2.2.1
    omega
  · have h3 := (hW.2.1 (σ.2.2.2.1 - 1) _ (wsO_get (by omega))).lt
    have h4 : G.2.2.2.2.2 + (σ.2.2.2.1 - 1) < H.size := h3
    omega
end
section
/-! ===== rows: an instruction each ===== -/
section Rows1
variable {l : LX} {y k n pc : Nat} {L : LL} {st : List Value} {σ : MM} {Q : OO → Prop}
/-- an instruction that touches the stack alone -/
theorem x_go {pc2 : Nat} {st2 : List Value} (h : ∀ (G : GG) (p : Program) (e : Env) (R : Room) (s : State) (m : MethodId) (args : Array Value) (below : List Frame) (meth : Method) (c : Code) (Qf : State → Prop) (H : Heap) (locs : List Loc) (cells slots : Nat) (ls : Array Slot), p.tables.exec = Jvm.exec → c.code = cdN y → LR G ls (mlN y) L →
    W p l.1 e R s m args below meth c H locs cells slots Qf (F0 m pc2 ls (cvs G st2)) → W p l.1 e R s m args below meth c H locs cells slots Qf (F0 m pc ls (cvs G st))) (kk : Ex l y k n pc2 L st2 σ Q) : Ex l y k n pc L st σ Q := by
  intro G p e R s m args below meth c A CE SE Qf hA hC hS hF H locs cells slots ls h1 h2 hL hW hR
  exact h G p e R s m args below meth c Qf H locs cells slots ls hA.2.1 hA.2.2.1 hL (kk G p e R s m args below meth c A CE SE Qf hA hC hS hF H locs cells slots ls h1 h2 hL hW hR)
theorem x_eq {st2 : List Value} (h : st = st2) (kk : Ex l y k n pc L st2 σ Q) : Ex l y k n pc L st σ Q := h ▸ kk
/-- fewer locals known -/
theorem x_forget {L2 : LL} (hl : L2.length = L.length) (h : ∀ (i : Nat) (v : Value), L2[i]? = some (some v) → L[i]? = some (some v)) (kk : Ex l y k n pc L2 st σ Q) : Ex l y k n pc L st σ Q := by
  intro G p e R s m args below meth c A CE SE Qf hA hC hS hF H locs cells slots ls h1 h2 hL hW hR
  exact kk G p e R s m args below meth c A CE SE Qf hA hC hS hF H locs cells slots ls h1 h2 ⟨hL.1, hL.2.1, hl.trans hL.2.2.1, fun i v hi => hL.2.2.2 i v (h i v hi)⟩ hW hR
/-- fewer cells made than allowed, where none is counted any more -/
theorem x_less {k2 n2 : Nat} (hk : k2 ≤ k) (hn : n2 ≤ n) (hf : σ.2.2.2.2.2 = false) (kk : Ex l y k2 n2 pc L st σ Q) : Ex l y k n pc L st σ Q := by
  intro G p e R s m args below meth c A CE SE Qf hA hC hS hF H locs cells slots ls h1 h2 hL hW hR
  refine W.widen (k := cells + (k - k2)) (n := slots + (n - n2)) (by omega) (by omega) ?_
  exact kk G p e R s m args below meth c A CE SE Qf hA hC hS hF H locs _ _ ls (by omega) (by omega) hL hW (fun z => by rw [hf] at z; cases z)
/-- cells are no longer counted -/
def unf (σ : MM) : MM := (σ.1, σ.2.1, σ.2.2.1, σ.2.2.2.1, σ.2.2.2.2.1, false)
theorem x_unf (kk : Ex l y k n pc L st (unf σ) Q) : Ex l y k n pc L st σ Q := by
  intro G p e R s m args below meth c A CE SE Qf hA hC hS hF H locs cells slots ls h1 h2 hL hW hR
  exact kk G p e R s m args below meth c A CE SE Qf hA hC hS hF H locs cells slots ls h1 h2 hL hW (fun z => by cases z)
theorem x_mono {Q2 : OO → Prop} (hQ : ∀ o, Q2 o → Q o) (kk : Ex l y k n pc L st σ Q2) : Ex l y k n pc L st σ Q := by
  intro G p e R s m args below meth c A CE SE Qf hA hC hS hF
  exact kk G p e R s m args below meth c A CE SE Qf hA hC hS ⟨fun H locs cells slots pc ls v τ a1 a2 a3 a4 a5 a6 => hF.1 H locs cells slots pc ls v τ a1 a2 a3 a4 a5 (hQ _ a6), fun H locs cells slots pc ls rest τ E r a1 a2 a3 a4 a5 a6 a7 a8 a9 b1 => hF.2.1 H locs cells slots pc ls rest τ E r a1 a2 a3 a4 a5 a6 a7 a8 a9 (hQ _ b1), fun H locs cells slots pc ls rest τ E q ce a1 a2 a3 a4 a5 a6 => hF.2.2 H locs cells slots pc ls rest τ E q ce a1 a2 a3 a4 a5 (hQ _ a6)⟩
theorem x_iconst {i : Int} (hd : decode (cdN y) pc = .ok (.iconst i, 1)) (kk : Ex l y k n (pc + 1) L (.int (iI i) :: st) σ Q) : Ex l y k n pc L (st) σ Q :=
  x_go (fun G p e R s m args below meth c Qf H locs cells slots ls hx hb hL hk => lv_iconst hx hb hd rfl hk) kk
theorem x_bipush {i : Int} (hv : (Int8.ofInt i).toInt32 = iI i) (hd : decode (cdN y) pc = .ok (.bipush i, 2)) (kk : Ex l y k n (pc + 2) L (.int (iI i) :: st) σ Q) : Ex l y k n pc L (st) σ Q :=
  x_go (fun G p e R s m args below meth c Qf H locs cells slots ls hx hb hL hk => lv_bipush hx hb hd hv hk) kk
theorem x_sipush {i : Int} (hv : (Int16.ofInt i).toInt32 = iI i) (hd : decode (cdN y) pc = .ok (.sipush i, 3)) (kk : Ex l y k n (pc + 3) L (.int (iI i) :: st) σ Q) : Ex l y k n pc L (st) σ Q :=
  x_go (fun G p e R s m args below meth c Qf H locs cells slots ls hx hb hL hk => lv_sipush hx hb hd hv hk) kk
theorem x_lconst {i : Fin 2} {z : Int} (hv : Int64.ofNat i = lL z) (hd : decode (cdN y) pc = .ok (.lconst i, 1)) (kk : Ex l y k n (pc + 1) L (.long (lL z) :: st) σ Q) : Ex l y k n pc L (st) σ Q :=
  x_go (fun G p e R s m args below meth c Qf H locs cells slots ls hx hb hL hk => lv_lconst hx hb hd hv hk) kk
theorem x_iload_n {i : Fin 4} {x : Int32} (hl : L[(i : Nat)]? = some (some (.int x))) (hd : decode (cdN y) pc = .ok (.iload_n i, 1)) (kk : Ex l y k n (pc + 1) L (.int x :: st) σ Q) : Ex l y k n pc L (st) σ Q :=
  x_go (fun G p e R s m args below meth c Qf H locs cells slots ls hx hb hL hk => lv_iload_n hx hb hd rfl (hL.at hl) hk) kk
theorem x_iload {i : Nat} {x : Int32} (hl : L[i]? = some (some (.int x))) (hd : decode (cdN y) pc = .ok (.iload i, 2)) (kk : Ex l y k n (pc + 2) L (.int x :: st) σ Q) : Ex l y k n pc L (st) σ Q :=
  x_go (fun G p e R s m args below meth c Qf H locs cells slots ls hx hb hL hk => lv_iload hx hb hd (hL.at hl) hk) kk
theorem x_lload_n {i : Fin 4} {x : Int64} (hl : L[(i : Nat)]? = some (some (.long x))) (hd : decode (cdN y) pc = .ok (.lload_n i, 1)) (kk : Ex l y k n (pc + 1) L (.long x :: st) σ Q) : Ex l y k n pc L (st) σ Q :=
  x_go (fun G p e R s m args below meth c Qf H locs cells slots ls hx hb hL hk => lv_lload_n hx hb hd rfl (hL.at hl) hk) kk
theorem x_lload {i : Nat} {x : Int64} (hl : L[i]? = some (some (.long x))) (hd : decode (cdN y) pc = .ok (.lload i, 2)) (kk : Ex l y k n (pc + 2) L (.long x :: st) σ Q) : Ex l y k n pc L (st) σ Q :=
  x_go (fun G p e R s m args below meth c Qf H locs cells slots ls hx hb hL hk => lv_lload hx hb hd (hL.at hl) hk) kk
theorem x_dload {i : Nat} {x : UInt64} (hl : L[i]? = some (some (.double x))) (hd : decode (cdN y) pc = .ok (.dload i, 2)) (kk : Ex l y k n (pc + 2) L (.double x :: st) σ Q) : Ex l y k n pc L (st) σ Q :=
  x_go (fun G p e R s m args below meth c Qf H locs cells slots ls hx hb hL hk => lv_dload hx hb hd (hL.at hl) hk) kk
theorem x_aload_n {i : Fin 4} {x : Nat} (hl : L[(i : Nat)]? = some (some (.ref x))) (hd : decode (cdN y) pc = .ok (.aload_n i, 1)) (kk : Ex l y k n (pc + 1) L (.ref x :: st) σ Q) : Ex l y k n pc L (st) σ Q :=
  x_go (fun G p e R s m args below meth c Qf H locs cells slots ls hx hb hL hk => lv_aload_n hx hb hd rfl (hL.at hl) hk) kk
theorem x_aload {i : Nat} {x : Nat} (hl : L[i]? = some (some (.ref x))) (hd : decode (cdN y) pc = .ok (.aload i, 2)) (kk : Ex l y k n (pc + 2) L (.ref x :: st) σ Q) : Ex l y k n pc L (st) σ Q :=
  x_go (fun G p e R s m args below meth c Qf H locs cells slots ls hx hb hL hk => lv_aload hx hb hd (hL.at hl) hk) kk
theorem x_iadd {a b : Int} (hd : decode (cdN y) pc = .ok (.iadd, 1)) (kk : Ex l y k n (pc + 1) L (.int (iI (a + b)) :: st) σ Q) : Ex l y k n pc L (.int (iI b) :: .int (iI a) :: st) σ Q :=
  x_go (fun G p e R s m args below meth c Qf H locs cells slots ls hx hb hL hk => lv_iadd hx hb hd (by rw [iI_add]; exact hk)) kk
theorem x_isub {a b : Int} (hd : decode (cdN y) pc = .ok (.isub, 1)) (kk : Ex l y k n (pc + 1) L (.int (iI (a - b)) :: st) σ Q) : Ex l y k n pc L (.int (iI b) :: .int (iI a) :: st) σ Q :=
  x_go (fun G p e R s m args below meth c Qf H locs cells slots ls hx hb hL hk => lv_isub hx hb hd (by rw [iI_sub]; exact hk)) kk
theorem x_imul {a b : Int} (hd : decode (cdN y) pc = .ok (.imul, 1)) (kk : Ex l y k n (pc + 1) L (.int (iI (a * b)) :: st) σ Q) : Ex l y k n pc L (.int (iI b) :: .int (iI a) :: st) σ Q :=
  x_go (fun G p e R s m args below meth c Qf H locs cells slots ls hx hb hL hk => lv_imul hx hb hd (by rw [iI_mul]; exact hk)) kk
theorem x_iand {a b : Int32} {z : Int} (hv : a &&& b = iI z) (hd : decode (cdN y) pc = .ok (.iand, 1)) (kk : Ex l y k n (pc + 1) L (.int (iI z) :: st) σ Q) : Ex l y k n pc L (.int b :: .int a :: st) σ Q :=
  x_go (fun G p e R s m args below meth c Qf H locs cells slots ls hx hb hL hk => lv_iand hx hb hd (by rw [hv]; exact hk)) kk
theorem x_ixor {a b : Int32} {z : Int} (hv : a ^^^ b = iI z) (hd : decode (cdN y) pc = .ok (.ixor, 1)) (kk : Ex l y k n (pc + 1) L (.int (iI z) :: st) σ Q) : Ex l y k n pc L (.int b :: .int a :: st) σ Q :=
  x_go (fun G p e R s m args below meth c Qf H locs cells slots ls hx hb hL hk => lv_ixor hx hb hd (by rw [hv]; exact hk)) kk
theorem x_ior {a b : Int32} {z : Int} (hv : a ||| b = iI z) (hd : decode (cdN y) pc = .ok (.ior, 1)) (kk : Ex l y k n (pc + 1) L (.int (iI z) :: st) σ Q) : Ex l y k n pc L (.int b :: .int a :: st) σ Q :=
  x_go (fun G p e R s m args below meth c Qf H locs cells slots ls hx hb hL hk => lv_ior hx hb hd (by rw [hv]; exact hk)) kk
theorem x_idiv {a b : Int} (h1 : 0 ≤ a) (h2 : a ≤ 2147483647) (h3 : 0 < b) (h4 : b ≤ 2147483647) (hd : decode (cdN y) pc = .ok (.idiv, 1)) (kk : Ex l y k n (pc + 1) L (.int (iI (a / b)) :: st) σ Q) : Ex l y k n pc L (.int (iI b) :: .int (iI a) :: st) σ Q :=
  x_go (fun G p e R s m args below meth c Qf H locs cells slots ls hx hb hL hk => lv_idiv hx hb hd (iI_ne0 h3 h4) (by rw [iI_div h1 h2 h3 h4]; exact hk)) kk
theorem x_irem {a b : Int} (h1 : 0 ≤ a) (h2 : a ≤ 2147483647) (h3 : 0 < b) (h4 : b ≤ 2147483647) (hd : decode (cdN y) pc = .ok (.irem, 1)) (kk : Ex l y k n (pc + 1) L (.int (iI (a % b)) :: st) σ Q) : Ex l y k n pc L (.int (iI b) :: .int (iI a) :: st) σ Q :=
  x_go (fun G p e R s m args below meth c Qf H locs cells slots ls hx hb hL hk => lv_irem hx hb hd (iI_ne0 h3 h4) (by rw [iI_rem h1 h2 h3 h4]; exact hk)) kk
theorem x_ishl {a b : Int32} {z : Int} (hv : a <<< (b &&& 31) = iI z) (hd : decode (cdN y) pc = .ok (.ishl, 1)) (kk : Ex l y k n (pc + 1) L (.int (iI z) :: st) σ Q) : Ex l y k n pc L (.int b :: .int a :: st) σ Q :=
  x_go (fun G p e R s m args below meth c Qf H locs cells slots ls hx hb hL hk => lv_ishl hx hb hd (by rw [hv]; exact hk)) kk
theorem x_ishr {a b : Int32} {z : Int} (hv : a >>> (b &&& 31) = iI z) (hd : decode (cdN y) pc = .ok (.ishr, 1)) (kk : Ex l y k n (pc + 1) L (.int (iI z) :: st) σ Q) : Ex l y k n pc L (.int b :: .int a :: st) σ Q :=
  x_go (fun G p e R s m args below meth c Qf H locs cells slots ls hx hb hL hk => lv_ishr hx hb hd (by rw [hv]; exact hk)) kk
theorem x_iushr {a b : Int32} {z : Int} (hv : (a.toUInt32 >>> (b.toUInt32 &&& Int32.toUInt32 31)).toInt32 = iI z) (hd : decode (cdN y) pc = .ok (.iushr, 1)) (kk : Ex l y k n (pc + 1) L (.int (iI z) :: st) σ Q) : Ex l y k n pc L (.int b :: .int a :: st) σ Q :=
  x_go (fun G p e R s m args below meth c Qf H locs cells slots ls hx hb hL hk => lv_iushr hx hb hd hv hk) kk
theorem x_ladd {a b : Int} (hd : decode (cdN y) pc = .ok (.ladd, 1)) (kk : Ex l y k n (pc + 1) L (.long (lL (a + b)) :: st) σ Q) : Ex l y k n pc L (.long (lL b) :: .long (lL a) :: st) σ Q :=
  x_go (fun G p e R s m args below meth c Qf H locs cells slots ls hx hb hL hk => lv_ladd hx hb hd (by rw [lL_add]; exact hk)) kk
theorem x_i2l {a : Int} (ha : InR a) (hd : decode (cdN y) pc = .ok (.i2l, 1)) (kk : Ex l y k n (pc + 1) L (.long (lL a) :: st) σ Q) : Ex l y k n pc L (.int (iI a) :: st) σ Q :=
  x_go (fun G p e R s m args below meth c Qf H locs cells slots ls hx hb hL hk => lv_i2l hx hb hd (iI_long ha) hk) kk
theorem x_lcmp {a b : Int} (ha : InL a) (hb9 : InL b) (hd : decode (cdN y) pc = .ok (.lcmp, 1)) (kk : Ex l y k n (pc + 1) L (.int (iI (cmpZ a b)) :: st) σ Q) : Ex l y k n pc L (.long (lL b) :: .long (lL a) :: st) σ Q :=
  x_go (fun G p e R s m args below meth c Qf H locs cells slots ls hx hb hL hk => W.lcmp hx hb hd (by rw [lL_cmp ha hb9]; exact hk)) kk
theorem x_fconst (hd : decode (cdN y) pc = .ok (.fconst 0, 1)) (kk : Ex l y k n (pc + 1) L (.float FP.fconst0 :: st) σ Q) : Ex l y k n pc L (st) σ Q :=
  x_go (fun G p e R s m args below meth c Qf H locs cells slots ls hx hb hL hk => lv_fconst0 hx hb hd hk) kk
theorem x_dconst (hd : decode (cdN y) pc = .ok (.dconst 0, 1)) (kk : Ex l y k n (pc + 1) L (.double FP.dconst0 :: st) σ Q) : Ex l y k n pc L (st) σ Q :=
  x_go (fun G p e R s m args below meth c Qf H locs cells slots ls hx hb hL hk => lv_dconst0 hx hb hd hk) kk
theorem x_i2f {a : Int32} (hd : decode (cdN y) pc = .ok (.i2f, 1)) (kk : Ex l y k n (pc + 1) L (.float (FP.i2f a) :: st) σ Q) : Ex l y k n pc L (.int a :: st) σ Q :=
  x_go (fun G p e R s m args below meth c Qf H locs cells slots ls hx hb hL hk => lv_i2f hx hb hd hk) kk
theorem x_i2d {a : Int32} (hd : decode (cdN y) pc = .ok (.i2d, 1)) (kk : Ex l y k n (pc + 1) L (.double (FP.i2d a) :: st) σ Q) : Ex l y k n pc L (.int a :: st) σ Q :=
  x_go (fun G p e R s m args below meth c Qf H locs cells slots ls hx hb hL hk => lv_i2d hx hb hd hk) kk
theorem x_f2d {a : UInt32} (hn : vf_n64 (FP.f2d a)) (hd : decode (cdN y) pc = .ok (.f2d, 1)) (kk : Ex l y k n (pc + 1) L (.double (FP.f2d a) :: st) σ Q) : Ex l y k n pc L (.float a :: st) σ Q :=
  x_go (fun G p e R s m args below meth c Qf H locs cells slots ls hx hb hL hk => lv_f2d hx hb hd hn hk) kk
theorem x_fdiv {a b : UInt32} (hn : vf_n32 (FP.fdiv a b)) (hd : decode (cdN y) pc = .ok (.fdiv, 1)) (kk : Ex l y k n (pc + 1) L (.float (FP.fdiv a b) :: st) σ Q) : Ex l y k n pc L (.float b :: .float a :: st) σ Q :=
  x_go (fun G p e R s m args below meth c Qf H locs cells slots ls hx hb hL hk => lv_fdiv hx hb hd hn hk) kk
theorem x_ddiv {a b : UInt64} (hn : vf_n64 (FP.ddiv a b)) (hd : decode (cdN y) pc = .ok (.ddiv, 1)) (kk : Ex l y k n (pc + 1) L (.double (FP.ddiv a b) :: st) σ Q) : Ex l y k n pc L (.double b :: .double a :: st) σ Q :=
  x_go (fun G p e R s m args below meth c Qf H locs cells slots ls hx hb hL hk => lv_ddiv hx hb hd hn hk) kk
theorem x_dcmp {a b : UInt64} {op : CmpOp} (hd : decode (cdN y) pc = .ok (.dcmp op, 1)) (kk : Ex l y k n (pc + 1) L (.int (Op.cmpValue (FP.dcmp a b) op) :: st) σ Q) : Ex l y k n pc L (.double b :: .double a :: st) σ Q :=
  x_go (fun G p e R s m args below meth c Qf H locs cells slots ls hx hb hL hk => lv_dcmp hx hb hd hk) kk
theorem x_fcmp {a b : UInt32} {op : CmpOp} (hd : decode (cdN y) pc = .ok (.fcmp op, 1)) (kk : Ex l y k n (pc + 1) L (.int (Op.cmpValue (FP.fcmp a b) op) :: st) σ Q) : Ex l y k n pc L (.float b :: .float a :: st) σ Q :=
  x_go (fun G p e R s m args below meth c Qf H locs cells slots ls hx hb hL hk => lv_fcmp hx hb hd hk) kk
theorem x_dup {v : Value} (hv : v.category = 1) (hd : decode (cdN y) pc = .ok (.dup, 1)) (kk : Ex l y k n (pc + 1) L (v :: v :: st) σ Q) : Ex l y k n pc L (v :: st) σ Q :=
  x_go (fun G p e R s m args below meth c Qf H locs cells slots ls hx hb hL hk => lv_dup hx hb hd ((cv_cat G v).trans hv) hk) kk
theorem x_pop {v : Value} (hv : v.category = 1) (hd : decode (cdN y) pc = .ok (.pop, 1)) (kk : Ex l y k n (pc + 1) L (st) σ Q) : Ex l y k n pc L (v :: st) σ Q :=
  x_go (fun G p e R s m args below meth c Qf H locs cells slots ls hx hb hL hk => lv_pop hx hb hd ((cv_cat G v).trans hv) hk) kk
theorem x_dup2 {v w : Value} (hv : v.category = 1) (hw : w.category = 1) (hd : decode (cdN y) pc = .ok (.dup2, 1)) (kk : Ex l y k n (pc + 1) L (v :: w :: v :: w :: st) σ Q) : Ex l y k n pc L (v :: w :: st) σ Q :=
  x_go (fun G p e R s m args below meth c Qf H locs cells slots ls hx hb hL hk => lv_dup2_11 hx hb hd ((cv_cat G v).trans hv) ((cv_cat G w).trans hw) hk) kk
theorem x_goto {off : Int} {tgt : Nat} (hd : decode (cdN y) pc = .ok (.goto off, 3)) (ht : (pc : Int) + off = (tgt : Int)) (kk : Ex l y k n tgt L st σ Q) : Ex l y k n pc L st σ Q :=
  x_go (fun G p e R s m args below meth c Qf H locs cells slots ls hx hb hL hk => lv_goto hx hb hd ht hk) kk
theorem x_ifnull {off : Int} {a : Nat} (hd : decode (cdN y) pc = .ok (.ifnull off, 3)) (kk : Ex l y k n (pc + 3) L st σ Q) : Ex l y k n pc L (.ref a :: st) σ Q :=
  x_go (fun G p e R s m args below meth c Qf H locs cells slots ls hx hb hL hk => lv_ifnull hx hb hd hk) kk
theorem x_tabIn {dflt lo hi off : Int} {offs : Array Int} {len tgt : Nat} {x : Int} (hx9 : InR x) (hd : decode (cdN y) pc = .ok (.tableswitch dflt lo hi offs, len)) (h1 : lo ≤ x) (h2 : x ≤ hi) (ho : offs[(x - lo).toNat]? = some off) (ht : (pc : Int) + off = (tgt : Int)) (kk : Ex l y k n tgt L st σ Q) : Ex l y k n pc L (.int (iI x) :: st) σ Q :=
  x_go (fun G p e R s m args below meth c Qf H locs cells slots ls hx hb hL hk => lv_tableIn hx hb hd (by rw [iI_toInt hx9]; omega) (by rw [iI_toInt hx9]; omega) (by rw [iI_toInt hx9]; exact ho) ht hk) kk
theorem x_tabOut {dflt lo hi : Int} {offs : Array Int} {len tgt : Nat} {x : Int} (hx9 : InR x) (hd : decode (cdN y) pc = .ok (.tableswitch dflt lo hi offs, len)) (h : x < lo ∨ hi < x) (ht : (pc : Int) + dflt = (tgt : Int)) (kk : Ex l y k n tgt L st σ Q) : Ex l y k n pc L (.int (iI x) :: st) σ Q :=
  x_go (fun G p e R s m args below meth c Qf H locs cells slots ls hx hb hL hk => lv_tableOut hx hb hd (by rw [iI_toInt hx9]; exact h) ht hk) kk
theorem x_if_eq {off : Int} {tgt : Nat} {a : Int} (ha : InR a) (hd : decode (cdN y) pc = .ok (.ifCond .eq off, 3)) (ht : (pc : Int) + off = (tgt : Int)) (kt : a = 0 → Ex l y k n tgt L st σ Q) (kf : a ≠ 0 → Ex l y k n (pc + 3) L st σ Q) : Ex l y k n pc L (.int (iI a) :: st) σ Q := by
  intro G p e R s m args below meth c A CE SE Qf hA hC hS hF H locs cells slots ls h1 h2 hL hW hR
  exact lv_if_eq hA.2.1 hA.2.2.1 hd ht (fun h => kt ((iI_eq ha inR_0).mp h) G p e R s m args below meth c A CE SE Qf hA hC hS hF H locs cells slots ls h1 h2 hL hW hR) (fun h => kf (fun z => h ((iI_eq ha inR_0).mpr z)) G p e R s m args below meth c A CE SE Qf hA hC hS hF H locs cells slots ls h1 h2 hL hW hR)
theorem x_icmp_eq {off : Int} {tgt : Nat} {a b : Int} (ha : InR a) (hb : InR b) (hd : decode (cdN y) pc = .ok (.if_icmp .eq off, 3)) (ht : (pc : Int) + off = (tgt : Int)) (kt : a = b → Ex l y k n tgt L st σ Q) (kf : a ≠ b → Ex l y k n (pc + 3) L st σ Q) : Ex l y k n pc L (.int (iI b) :: .int (iI a) :: st) σ Q := by
  intro G p e R s m args below meth c A CE SE Qf hA hC hS hF H locs cells slots ls h1 h2 hL hW hR
  exact lv_icmp_eq hA.2.1 hA.2.2.1 hd ht (fun h => kt ((iI_eq ha hb).mp h) G p e R s m args below meth c A CE SE Qf hA hC hS hF H locs cells slots ls h1 h2 hL hW hR) (fun h => kf (fun z => h ((iI_eq ha hb).mpr z)) G p e R s m args below meth c A CE SE Qf hA hC hS hF H locs cells slots ls h1 h2 hL hW hR)
theorem x_if_ne {off : Int} {tgt : Nat} {a : Int} (ha : InR a) (hd : decode (cdN y) pc = .ok (.ifCond .ne off, 3)) (ht : (pc : Int) + off = (tgt : Int)) (kt : a ≠ 0 → Ex l y k n tgt L st σ Q) (kf : a = 0 → Ex l y k n (pc + 3) L st σ Q) : Ex l y k n pc L (.int (iI a) :: st) σ Q := by
  intro G p e R s m args below meth c A CE SE Qf hA hC hS hF H locs cells slots ls h1 h2 hL hW hR
  exact lv_if_ne hA.2.1 hA.2.2.1 hd ht (fun h => kt (fun z => h ((iI_eq ha inR_0).mpr z)) G p e R s m args below meth c A CE SE Qf hA hC hS hF H locs cells slots ls h1 h2 hL hW hR) (fun h => kf ((iI_eq ha inR_0).mp h) G p e R s m args below meth c A CE SE Qf hA hC hS hF H locs cells slots ls h1 h2 hL hW hR)
theorem x_icmp_ne {off : Int} {tgt : Nat} {a b : Int} (ha : InR a) (hb : InR b) (hd : decode (cdN y) pc = .ok (.if_icmp .ne off, 3)) (ht : (pc : Int) + off = (tgt : Int)) (kt : a ≠ b → Ex l y k n tgt L st σ Q) (kf : a = b → Ex l y k n (pc + 3) L st σ Q) : Ex l y k n pc L (.int (iI b) :: .int (iI a) :: st) σ Q := by
  intro G p e R s m args below meth c A CE SE Qf hA hC hS hF H locs cells slots ls h1 h2 hL hW hR
  exact lv_icmp_ne hA.2.1 hA.2.2.1 hd ht (fun h => kt (fun z => h ((iI_eq ha hb).mpr z)) G p e R s m args below meth c A CE SE Qf hA hC hS hF H locs cells slots ls h1 h2 hL hW hR) (fun h => kf ((iI_eq ha hb).mp h) G p e R s m args below meth c A CE SE Qf hA hC hS hF H locs cells slots ls h1 h2 hL hW hR)
theorem x_if_lt {off : Int} {tgt : Nat} {a : Int} (ha : InR a) (hd : decode (cdN y) pc = .ok (.ifCond .lt off, 3)) (ht : (pc : Int) + off = (tgt : Int)) (kt : a < 0 → Ex l y k n tgt L st σ Q) (kf : 0 ≤ a → Ex l y k n (pc + 3) L st σ Q) : Ex l y k n pc L (.int (iI a) :: st) σ Q := by
  intro G p e R s m args below meth c A CE SE Qf hA hC hS hF H locs cells slots ls h1 h2 hL hW hR
  exact lv_if_lt hA.2.1 hA.2.2.1 hd ht (fun h => kt ((iI_lt ha inR_0).mp h) G p e R s m args below meth c A CE SE Qf hA hC hS hF H locs cells slots ls h1 h2 hL hW hR) (fun h => kf (Int.not_lt.mp (fun z => h ((iI_lt ha inR_0).mpr z))) G p e R s m args below meth c A CE SE Qf hA hC hS hF H locs cells slots ls h1 h2 hL hW hR)
theorem x_icmp_lt {off : Int} {tgt : Nat} {a b : Int} (ha : InR a) (hb : InR b) (hd : decode (cdN y) pc = .ok (.if_icmp .lt off, 3)) (ht : (pc : Int) + off = (tgt : Int)) (kt : a < b → Ex l y k n tgt L st σ Q) (kf : b ≤ a → Ex l y k n (pc + 3) L st σ Q) : Ex l y k n pc L (.int (iI b) :: .int (iI a) :: st) σ Q := by
  intro G p e R s m args below meth c A CE SE Qf hA hC hS hF H locs cells slots ls h1 h2 hL hW hR
  exact lv_icmp_lt hA.2.1 hA.2.2.1 hd ht (fun h => kt ((iI_lt ha hb).mp h) G p e R s m args below meth c A CE SE Qf hA hC hS hF H locs cells slots ls h1 h2 hL hW hR) (fun h => kf (Int.not_lt.mp (fun z => h ((iI_lt ha hb).mpr z))) G p e R s m args below meth c A CE SE Qf hA hC hS hF H locs cells slots ls h1 h2 hL hW hR)
theorem x_if_ge {off : Int} {tgt : Nat} {a : Int} (ha : InR a) (hd : decode (cdN y) pc = .ok (.ifCond .ge off, 3)) (ht : (pc : Int) + off = (tgt : Int)) (kt : 0 ≤ a → Ex l y k n tgt L st σ Q) (kf : a < 0 → Ex l y k n (pc + 3) L st σ Q) : Ex l y k n pc L (.int (iI a) :: st) σ Q := by
  intro G p e R s m args below meth c A CE SE Qf hA hC hS hF H locs cells slots ls h1 h2 hL hW hR
  exact lv_if_ge hA.2.1 hA.2.2.1 hd ht (fun h => kt ((iI_le inR_0 ha).mp h) G p e R s m args below meth c A CE SE Qf hA hC hS hF H locs cells slots ls h1 h2 hL hW hR) (fun h => kf (Int.not_le.mp (fun z => h ((iI_le inR_0 ha).mpr z))) G p e R s m args below meth c A CE SE Qf hA hC hS hF H locs cells slots ls h1 h2 hL hW hR)
theorem x_icmp_ge {off : Int} {tgt : Nat} {a b : Int} (ha : InR a) (hb : InR b) (hd : decode (cdN y) pc = .ok (.if_icmp .ge off, 3)) (ht : (pc : Int) + off = (tgt : Int)) (kt : b ≤ a → Ex l y k n tgt L st σ Q) (kf : a < b → Ex l y k n (pc + 3) L st σ Q) : Ex l y k n pc L (.int (iI b) :: .int (iI a) :: st) σ Q := by
  intro G p e R s m args below meth c A CE SE Qf hA hC hS hF H locs cells slots ls h1 h2 hL hW hR
  exact lv_icmp_ge hA.2.1 hA.2.2.1 hd ht (fun h => kt ((iI_le hb ha).mp h) G p e R s m args below meth c A CE SE Qf hA hC hS hF H locs cells slots ls h1 h2 hL hW hR) (fun h => kf (Int.not_le.mp (fun z => h ((iI_le hb ha).mpr z))) G p e R s m args below meth c A CE SE Qf hA hC hS hF H locs cells slots ls h1 h2 hL hW hR)
theorem x_if_gt {off : Int} {tgt : Nat} {a : Int} (ha : InR a) (hd : decode (cdN y) pc = .ok (.ifCond .gt off, 3)) (ht : (pc : Int) + off = (tgt : Int)) (kt : 0 < a → Ex l y k n tgt L st σ Q) (kf : a ≤ 0 → Ex l y k n (pc + 3) L st σ Q) : Ex l y k n pc L (.int (iI a) :: st) σ Q := by
  intro G p e R s m args below meth c A CE SE Qf hA hC hS hF H locs cells slots ls h1 h2 hL hW hR
  exact lv_if_gt hA.2.1 hA.2.2.1 hd ht (fun h => kt ((iI_lt inR_0 ha).mp h) G p e R s m args below meth c A CE SE Qf hA hC hS hF H locs cells slots ls h1 h2 hL hW hR) (fun h => kf (Int.not_lt.mp (fun z => h ((iI_lt inR_0 ha).mpr z))) G p e R s m args below meth c A CE SE Qf hA hC hS hF H locs cells slots ls h1 h2 hL hW hR)
theorem x_icmp_gt {off : Int} {tgt : Nat} {a b : Int} (ha : InR a) (hb : InR b) (hd : decode (cdN y) pc = .ok (.if_icmp .gt off, 3)) (ht : (pc : Int) + off = (tgt : Int)) (kt : b < a → Ex l y k n tgt L st σ Q) (kf : a ≤ b → Ex l y k n (pc + 3) L st σ Q) : Ex l y k n pc L (.int (iI b) :: .int (iI a) :: st) σ Q := by
  intro G p e R s m args below meth c A CE SE Qf hA hC hS hF H locs cells slots ls h1 h2 hL hW hR
  exact lv_icmp_gt hA.2.1 hA.2.2.1 hd ht (fun h => kt ((iI_lt hb ha).mp h) G p e R s m args below meth c A CE SE Qf hA hC hS hF H locs cells slots ls h1 h2 hL hW hR) (fun h => kf (Int.not_lt.mp (fun z => h ((iI_lt hb ha).mpr z))) G p e R s m args below meth c A CE SE Qf hA hC hS hF H locs cells slots ls h1 h2 hL hW hR)
theorem x_if_le {off : Int} {tgt : Nat} {a : Int} (ha : InR a) (hd : decode (cdN y) pc = .ok (.ifCond .le off, 3)) (ht : (pc : Int) + off = (tgt : Int)) (kt : a ≤ 0 → Ex l y k n tgt L st σ Q) (kf : 0 < a → Ex l y k n (pc + 3) L st σ Q) : Ex l y k n pc L (.int (iI a) :: st) σ Q := by
  intro G p e R s m args below meth c A CE SE Qf hA hC hS hF H locs cells slots ls h1 h2 hL hW hR
  exact lv_if_le hA.2.1 hA.2.2.1 hd ht (fun h => kt ((iI_le ha inR_0).mp h) G p e R s m args below meth c A CE SE Qf hA hC hS hF H locs cells slots ls h1 h2 hL hW hR) (fun h => kf (Int.not_le.mp (fun z => h ((iI_le ha inR_0).mpr z))) G p e R s m args below meth c A CE SE Qf hA hC hS hF H locs cells slots ls h1 h2 hL hW hR)
theorem x_icmp_le {off : Int} {tgt : Nat} {a b : Int} (ha : InR a) (hb : InR b) (hd : decode (cdN y) pc = .ok (.if_icmp .le off, 3)) (ht : (pc : Int) + off = (tgt : Int)) (kt : a ≤ b → Ex l y k n tgt L st σ Q) (kf : b < a → Ex l y k n (pc + 3) L st σ Q) : Ex l y k n pc L (.int (iI b) :: .int (iI a) :: st) σ Q := by
  intro G p e R s m args below meth c A CE SE Qf hA hC hS hF H locs cells slots ls h1 h2 hL hW hR
  exact lv_icmp_le hA.2.1 hA.2.2.1 hd ht (fun h => kt ((iI_le ha hb).mp h) G p e R s m args below meth c A CE SE Qf hA hC hS hF H locs cells slots ls h1 h2 hL hW hR) (fun h => kf (Int.not_le.mp (fun z => h ((iI_le ha hb).mpr z))) G p e R s m args below meth c A CE SE Qf hA hC hS hF H locs cells slots ls h1 h2 hL hW hR)
theorem x_istore_n {i : Fin 4} {x : Int32} (hn : i < mlN y) (hi : ncA L i = true) (hd : decode (cdN y) pc = .ok (.istore_n i, 1)) (kk : Ex l y k n (pc + 1) (L.set i (some (.int x))) st σ Q) : Ex l y k n pc L (.int x :: st) σ Q := by
  intro G p e R s m args below meth c A CE SE Qf hA hC hS hF H locs cells slots ls h1 h2 hL hW hR
  exact lv_istore_n hA.2.1 hA.2.2.1 hd rfl  hL.has hn rfl (fun ls' h' => kk G p e R s m args below meth c A CE SE Qf hA hC hS hF H locs cells slots ls' h1 h2 (hL.st1 (fun v hv => by cases hv; rfl) hi h') hW hR)
theorem x_istore {i : Nat} {x : Int32} (hn : i < mlN y) (hi : ncA L i = true) (hd : decode (cdN y) pc = .ok (.istore i, 2)) (kk : Ex l y k n (pc + 2) (L.set i (some (.int x))) st σ Q) : Ex l y k n pc L (.int x :: st) σ Q := by
  intro G p e R s m args below meth c A CE SE Qf hA hC hS hF H locs cells slots ls h1 h2 hL hW hR
  exact lv_istore hA.2.1 hA.2.2.1 hd  hL.has hn rfl (fun ls' h' => kk G p e R s m args below meth c A CE SE Qf hA hC hS hF H locs cells slots ls' h1 h2 (hL.st1 (fun v hv => by cases hv; rfl) hi h') hW hR)
theorem x_astore_n {i : Fin 4} {x : Nat} (hn : i < mlN y) (hi : ncA L i = true) (hd : decode (cdN y) pc = .ok (.astore_n i, 1)) (kk : Ex l y k n (pc + 1) (L.set i (some (.ref x))) st σ Q) : Ex l y k n pc L (.ref x :: st) σ Q := by
  intro G p e R s m args below meth c A CE SE Qf hA hC hS hF H locs cells slots ls h1 h2 hL hW hR
  exact lv_astore_n hA.2.1 hA.2.2.1 hd rfl  hL.has hn rfl (fun ls' h' => kk G p e R s m args below meth c A CE SE Qf hA hC hS hF H locs cells slots ls' h1 h2 (hL.st1 (fun v hv => by cases hv; rfl) hi h') hW hR)
theorem x_astore {i : Nat} {x : Nat} (hn : i < mlN y) (hi : ncA L i = true) (hd : decode (cdN y) pc = .ok (.astore i, 2)) (kk : Ex l y k n (pc + 2) (L.set i (some (.ref x))) st σ Q) : Ex l y k n pc L (.ref x :: st) σ Q := by
  intro G p e R s m args below meth c A CE SE Qf hA hC hS hF H locs cells slots ls h1 h2 hL hW hR
  exact lv_astore hA.2.1 hA.2.2.1 hd  hL.has hn rfl (fun ls' h' => kk G p e R s m args below meth c A CE SE Qf hA hC hS hF H locs cells slots ls' h1 h2 (hL.st1 (fun v hv => by cases hv; rfl) hi h') hW hR)
theorem x_dstore {i : Nat} {x : UInt64} (hn : i + 1 < mlN y) (hi : ncA L i = true) (hd : decode (cdN y) pc = .ok (.dstore i, 2)) (kk : Ex l y k n (pc + 2) ((L.set i (some (.double x))).set (i + 1) none) st σ Q) : Ex l y k n pc L (.double x :: st) σ Q := by
  intro G p e R s m args below meth c A CE SE Qf hA hC hS hF H locs cells slots ls h1 h2 hL hW hR
  exact lv_dstore hA.2.1 hA.2.2.1 hd hL.has hn rfl (fun ls' h' => kk G p e R s m args below meth c A CE SE Qf hA hC hS hF H locs cells slots ls' h1 h2 (hL.st2 hi h') hW hR)
theorem x_iinc {i : Nat} {j z : Int} (hl : L[i]? = some (some (.int (iI z)))) (hn : i < mlN y) (hi : ncA L i = true) (hd : decode (cdN y) pc = .ok (.iinc i j, 3)) (kk : Ex l y k n (pc + 3) (L.set i (some (.int (iI (z + j))))) st σ Q) : Ex l y k n pc L st σ Q := by
  intro G p e R s m args below meth c A CE SE Qf hA hC hS hF H locs cells slots ls h1 h2 hL hW hR
  obtain ⟨q, hq⟩ := List.getElem?_of_mem (prs_mem (G := G) (q := (i, Value.int (iI z))).mpr ⟨_, hl, rfl⟩)
  exact lv_iinc hA.2.1 hA.2.2.1 hd hL.has hq (iI_add z j) hn rfl (fun ls' h' => kk G p e R s m args below meth c A CE SE Qf hA hC hS hF H locs cells slots ls' h1 h2 (hL.st1 (fun v hv => by cases hv; rfl) hi h') hW hR)
theorem x_ldc {ix : Nat} {v : Int32} {q : Nat} {z : Int} (hk : kiN (owN y) ix = some (v, q)) (hv : v = iI z) (hd : decode (cdN y) pc = .ok (.ldc ix, 2)) (kk : Ex l y k n (pc + 2) L (.int (iI z) :: st) σ Q) : Ex l y k n pc L st σ Q := by
  intro G p e R s m args below meth c A CE SE Qf hA hC hS hF H locs cells slots ls h1 h2 hL hW hR
  subst hv
  exact lv_ldc hA.2.1 hA.2.2.1 hA.2.2.2.2.2.1 (hA.2.2.2.2.2.2.2.2.1 _ (inT_ok (kiOk hk))) hd (kk G p e R s m args below meth c A CE SE Qf hA hC hS hF H locs cells slots ls h1 h2 hL hW hR)
theorem x_ldcw {ix : Nat} {v : Int32} {q : Nat} {z : Int} (hk : kiN (owN y) ix = some (v, q)) (hv : v = iI z) (hd : decode (cdN y) pc = .ok (.ldc_w ix, 3)) (kk : Ex l y k n (pc + 3) L (.int (iI z) :: st) σ Q) : Ex l y k n pc L st σ Q := by
  intro G p e R s m args below meth c A CE SE Qf hA hC hS hF H locs cells slots ls h1 h2 hL hW hR
  subst hv
  exact lv_ldcw hA.2.1 hA.2.2.1 hA.2.2.2.2.2.1 (hA.2.2.2.2.2.2.2.2.1 _ (inT_ok (kiOk hk))) hd (kk G p e R s m args below meth c A CE SE Qf hA hC hS hF H locs cells slots ls h1 h2 hL hW hR)
theorem x_ldc2 {ix : Nat} {v : Int64} {q : Nat} {z : Int} (hk : klN (owN y) ix = some (v, q)) (hv : v = lL z) (hd : decode (cdN y) pc = .ok (.ldc2_w ix, 3)) (kk : Ex l y k n (pc + 3) L (.long (lL z) :: st) σ Q) : Ex l y k n pc L st σ Q := by
  intro G p e R s m args below meth c A CE SE Qf hA hC hS hF H locs cells slots ls h1 h2 hL hW hR
  subst hv
  exact lv_ldc2 hA.2.1 hA.2.2.1 hA.2.2.2.2.2.1 (hA.2.2.2.2.2.2.2.2.1 _ (inT_ok (klOk hk))) hd (kk G p e R s m args below meth c A CE SE Qf hA hC hS hF H locs cells slots ls h1 h2 hL hW hR)
/-- a text -/
theorem ksIn0 : (ksL.zipIdx).all (fun e => decide (e.1.2 = e.2) && decide (e.2 < nTX)) = true := by decide +kernel
theorem ksIn {o ix j : Nat} (h : ksN o ix = some j) : j < nTX ∧ ksE j = (o, ix) := by
  unfold ksN at h
  cases hf : ksL.find? (fun e => e.1.1 == o && e.1.2 == ix) with
  | none => rw [hf] at h; cases h
  | some f =>
    rw [hf] at h
    have h2 : f.2 = j := Option.some.inj h
    have h3 := List.find?_some hf
    simp only [Bool.and_eq_true, beq_iff_eq] at h3
    obtain ⟨q, hq⟩ := List.getElem?_of_mem (List.mem_of_find?_eq_some hf)
    have h4 := List.all_eq_true.mp ksIn0 (f, q) (List.mem_zipIdx_iff_getElem?.mpr hq)
    simp only [Bool.and_eq_true, decide_eq_true_eq] at h4
    obtain ⟨h5, h6⟩ := h4
    have e : j = q := h2.symm.trans h5
    subst e
    refine ⟨h6, ?_⟩
    unfold ksE
    rw [List.getD_eq_getElem?_getD, hq]
    exact Prod.ext h3.1 h3.2
theorem x_ldcS {ix j : Nat} (hk : ksN (owN y) ix = some j) (hd : decode (cdN y) pc = .ok (.ldc ix, 2)) (kk : Ex l y k n (pc + 2) L (.ref (scr + 1 + j) :: st) σ Q) : Ex l y k n pc L st σ Q := by
  intro G p e R s m args below meth c A CE SE Qf hA hC hS hF H locs cells slots ls h1 h2 hL hW hR
  obtain ⟨hj, he⟩ := ksIn hk
  have hT := hA.2.2.2.2.2.2.2.2.2.2.2.2.2.2.2.2.1 j hj
  rw [he] at hT
  refine va_ldcS hA.2.1 hA.2.2.1 hA.2.2.2.2.2.1 hT hd ?_
  have := kk G p e R s m args below meth c A CE SE Qf hA hC hS hF H locs cells slots ls h1 h2 hL hW hR
  rw [show cvs G (.ref (scr + 1 + j) :: st) = .ref (adr G (scr + 1 + j)) :: cvs G st from rfl, adr_tx] at this
  exact this
theorem x_ldcwS {ix j : Nat} (hk : ksN (owN y) ix = some j) (hd : decode (cdN y) pc = .ok (.ldc_w ix, 3)) (kk : Ex l y k n (pc + 3) L (.ref (scr + 1 + j) :: st) σ Q) : Ex l y k n pc L st σ Q := by
  intro G p e R s m args below meth c A CE SE Qf hA hC hS hF H locs cells slots ls h1 h2 hL hW hR
  obtain ⟨hj, he⟩ := ksIn hk
  have hT := hA.2.2.2.2.2.2.2.2.2.2.2.2.2.2.2.2.1 j hj
  rw [he] at hT
  have h9 := kk G p e R s m args below meth c A CE SE Qf hA hC hS hF H locs cells slots ls h1 h2 hL hW hR
  rw [show cvs G (.ref (scr + 1 + j) :: st) = .ref (adr G (scr + 1 + j)) :: cvs G st from rfl, adr_tx] at h9
  intro T hT2 X
  obtain ⟨t, a1, b1⟩ := h9 T hT2 X
  exact ⟨t, X.ldcStringW hA.2.1 hA.2.2.2.2.2.1 (text := ksX j) (a := G.2.2.2.1 j) hT.1 hT.2 (g := F0 m pc ls (cvs G st)) rfl (by rw [hA.2.2.1]; exact hd) t a1, b1⟩
theorem x_ret {v : Option Value} (hf : σ.2.2.2.2.2 = true → k = 0) (hst : st = v.toList) (hI : RetI y pc v) (hQ : Q (.inl v, σ)) : Ex l y k n pc L st σ Q := by
  intro G p e R s m args below meth c A CE SE Qf hA hC hS hF H locs cells slots ls h1 h2 hL hW hR
  have e1 : cvs G st = v.toList := by
    rw [hst]
    cases v with
    | none => rfl
    | some w => cases w <;> first | rfl | exact absurd rfl (nrv_of hI _)
  rw [e1]
  exact hF.1 H locs cells slots pc ls v σ (by omega) (by omega) hW (fun z => by have := hR z; have := hf z; subst this; omega) hI hQ
theorem x_iret {z : Int} (hr : rtN y = some .int) (hf : σ.2.2.2.2.2 = true → k = 0) (hd : decode (cdN y) pc = .ok (.ireturn, 1)) (hQ : Q (.inl (some (.int (iI z))), σ)) : Ex l y k n pc L [.int (iI z)] σ Q := x_ret hf rfl (Or.inl ⟨hd, _, rfl, Or.inl hr⟩) hQ
theorem x_zret {z : Int} (hr : rtN y = some .boolean) (hz : z = 0 ∨ z = 1) (hf : σ.2.2.2.2.2 = true → k = 0) (hd : decode (cdN y) pc = .ok (.ireturn, 1)) (hQ : Q (.inl (some (.int (iI z))), σ)) : Ex l y k n pc L [.int (iI z)] σ Q := x_ret hf rfl (Or.inl ⟨hd, _, rfl, Or.inr ⟨hr, by rcases hz with rfl | rfl <;> first | exact Or.inl rfl | exact Or.inr rfl⟩⟩) hQ
theorem x_fret {z : UInt32} (hr : rtN y = some .float) (hf : σ.2.2.2.2.2 = true → k = 0) (hd : decode (cdN y) pc = .ok (.freturn, 1)) (hQ : Q (.inl (some (.float z)), σ)) : Ex l y k n pc L [.float z] σ Q := x_ret hf rfl (Or.inr (Or.inl ⟨hd, _, rfl, hr⟩)) hQ
theorem x_dret {z : UInt64} (hr : rtN y = some .double) (hf : σ.2.2.2.2.2 = true → k = 0) (hd : decode (cdN y) pc = .ok (.dreturn, 1)) (hQ : Q (.inl (some (.double z)), σ)) : Ex l y k n pc L [.double z] σ Q := x_ret hf rfl (Or.inr (Or.inr (Or.inl ⟨hd, _, rfl, hr⟩))) hQ
theorem x_vret (hr : rtN y = none) (hf : σ.2.2.2.2.2 = true → k = 0) (hd : decode (cdN y) pc = .ok (.return_, 1)) (hQ : Q (.inl none, σ)) : Ex l y k n pc L [] σ Q := x_ret hf rfl (Or.inr (Or.inr (Or.inr ⟨hd, rfl, hr⟩))) hQ
theorem x_throw {E : Nat} {r : Nat × Nat × Nat × Bool × Nat} (hx : xtN y pc = some (E, r)) (hc : cats st + 82 ≤ loN y) (hh : 6 ≤ htN y) (hy : hhN y = []) (hk : 1 ≤ k) (hn : 6 ≤ n) (hf : σ.2.2.2.2.2 = false) (hQ : Q (.inr E, σ)) : Ex l y k n pc L st σ Q := by
  intro G p e R s m args below meth c A CE SE Qf hA hC hS hF H locs cells slots ls h1 h2 hL hW hR
  exact hF.2.1 H locs cells slots pc ls (cvs G st) σ E r hx hL.1 (by rw [cvs_cats]; exact hc) hh hy (by omega) (by omega) hW hf hQ
end Rows1
end
section
/-! ===== rows that read and write the world ===== -/
def up2 {α : Type} (I : Nat → Int → α) (k : Nat) (j : Int) (v : α) : Nat → Int → α := fun a b => if a = k ∧ b = j then v else I a b
def upr (I : Nat → Nat → Option Nat) (k j v : Nat) : Nat → Nat → Option Nat := fun a b => if a = k ∧ b = j then some v else I a b
def cp2 (I : Nat → Int → Int) (s : Nat) (sp : Int) (d : Nat) (dp n : Int) : Nat → Int → Int := fun a b => if a = d ∧ dp ≤ b ∧ b < dp + n then I s (sp + (b - dp)) else I a b
/-- a is an object of class c; a row of n ints; a row of n references -/
def isO (σ : MM) (a c : Nat) : Prop := a < σ.2.2.2.1 ∧ σ.2.2.1 a = 10 * c + 5
def isA (σ : MM) (a n : Nat) : Prop := a < σ.2.2.2.1 ∧ σ.2.2.1 a = 10 * n
def isR (σ : MM) (a n : Nat) : Prop := a < σ.2.2.2.1 ∧ σ.2.2.1 a = 10 * n + 1
theorem cell_O {G : GG} {σ : MM} {a c : Nat} (h : σ.2.2.1 a = 10 * c + 5) : cellO G σ a = .inr (c, fieldsO G σ a c) := by
  unfold cellO
  rw [h, if_pos (by omega), show (10 * c + 5) / 10 = c from by omega]
theorem cell_A {G : GG} {σ : MM} {a n : Nat} (h : σ.2.2.1 a = 10 * n) : cellO G σ a = .inl (G.2.1.1, n, .inl (fun j => iI (σ.1 a (j : Int)))) := by
  unfold cellO
  rw [h, if_neg (by omega), if_pos (by omega), show 10 * n / 10 = n from by omega]
theorem cell_L {G : GG} {σ : MM} {a : Nat} (h : σ.2.2.1 a = 12) : cellO G σ a = .inl (G.2.1.2.1, 1, .inr (.inl (fun j => if j = 0 then lL σ.2.2.2.2.1 else lL 0))) := by
  unfold cellO
  rw [h]
  rfl
theorem cell_R {G : GG} {σ : MM} {a n : Nat} (h : σ.2.2.1 a = 10 * n + 1) : cellO G σ a = .inl (G.2.1.2.2, n, .inr (.inr (.inr (.inr (fun j => (σ.2.1 a j).map (adr G)))))) := by
  unfold cellO
  rw [h, if_neg (by omega), if_neg (by omega), if_neg (by omega), show (10 * n + 1) / 10 = n from by omega]
theorem cell_same {G : GG} {σ τ : MM} {a : Nat} (h1 : ∀ j, τ.1 a j = σ.1 a j) (h2 : ∀ j, τ.2.1 a j = σ.2.1 a j) (h3 : τ.2.2.1 a = σ.2.2.1 a) (h4 : σ.2.2.1 a % 10 = 2 → τ.2.2.2.2.1 = σ.2.2.2.2.1) : cellO G τ a = cellO G σ a := by
  have e1 : τ.1 a = σ.1 a := funext h1
  have e2 : τ.2.1 a = σ.2.1 a := funext h2
  unfold cellO fieldsO
  rw [h3, e1, e2]
  by_cases h : σ.2.2.1 a % 10 = 2
  · rw [h4 h]
  · rw [if_neg h, if_neg h]
theorem fld_get {G : GG} {σ : MM} {a c j : Nat} (hj : j < nf c) : (fieldsO G σ a c)[j]? = some (if fk c j = 2 then va_rf ((σ.2.1 a j).map (adr G)) else .int (iI (σ.1 a j))) := by
  unfold fieldsO
  rw [List.getElem?_map, List.getElem?_range hj]
  rfl
theorem fld_len {G : GG} {σ : MM} {a c : Nat} : (fieldsO G σ a c).length = nf c := by
  unfold fieldsO
  rw [List.length_map, List.length_range]
theorem ft_spec {o i c j q : Nat} (h : ftN o i = some (c, j, q)) : c < 11 ∧ j < nf c ∧ Cond.fieldLink (clsN o) i (clsN c) (TT c j).2.1 (TT c j).2.2.1 ∈ T0 ∧ (TT c j).1 = clsN c ∧ parseFieldDescriptor (TT c j).2.2.1 = some (tyT c j) ∧ (TT c j).2.2.2 = ff c j := by
  have h1 := ftOk h
  simp only [ftC, Bool.and_eq_true, decide_eq_true_eq] at h1
  have h2 := tyOk h1.1.1 h1.1.2
  simp only [tyC, Bool.and_eq_true, decide_eq_true_eq] at h2
  exact ⟨h1.1.1, h1.1.2, inT_ok h1.2, h2.1.2, h2.1.1.1, h2.1.1.2⟩
theorem ty_kind {c j : Nat} (hc : c < 11) (hj : j < nf c) : (fk c j = 0 ∧ tyT c j = .int) ∨ (fk c j = 1 ∧ tyT c j = .boolean) ∨ (fk c j = 2 ∧ ((∃ n, tyT c j = .object n) ∨ ∃ t, tyT c j = .array t)) := by
  have h2 := tyOk hc hj
  simp only [tyC, Bool.and_eq_true, decide_eq_true_eq] at h2
  have h3 := h2.2
  revert h3
  cases tyT c j <;> intro h3 <;> (split at h3 <;> simp_all)
section Rows2
variable {l : LX} {y k n pc : Nat} {L : LL} {st : List Value} {σ : MM} {Q : OO → Prop}
/-- a field of whole numbers is read -/
theorem x_getI {ix c j q a : Nat} {z : Int} (hf : ftN (owN y) ix = some (c, j, q)) (ho : isO σ a c) (hk : ¬ fk c j = 2) (hz : (j : Int) = z) (hd : decode (cdN y) pc = .ok (.getfield ix, 3)) (kk : Ex l y k n (pc + 3) L (.int (iI (σ.1 a z)) :: st) σ Q) : Ex l y k n pc L (.ref a :: st) σ Q := by
  intro G p e R s m args below meth c0 A CE SE Qf hA hC hS hF H locs cells slots ls h1 h2 hL hW hR
  obtain ⟨hc, hj, hlk, hcl, -, -⟩ := ft_spec hf
  have hST := hA.2.2.2.2.2.2.2.2.2.2.2.2.2
  rw [show cvs G (.ref a :: st) = .ref (adr G a) :: cvs G st from rfl, adr_lt (Nat.lt_of_lt_of_le ho.1 hW.1)]
  have hv := fld_get (G := G) (σ := σ) (a := a) hj
  rw [if_neg hk, hz] at hv
  exact va_get hA.2.1 hA.2.2.1 hA.2.2.2.2.2.2.2.2.1 (lyOk hc) hA.2.2.2.2.2.1 hST.1 hW.2.1 a (by rw [wsO_get ho.1, cell_O ho.2]) (vwOk hc) j hj (hA.2.2.2.2.2.2.2.2.1 _ hlk) (fun x hx => by rw [hcl] at hx; exact hx) hv hd (kk G p e R s m args below meth c0 A CE SE Qf hA hC hS hF H locs cells slots ls h1 h2 hL hW hR)
/-- a field of references is read -/
theorem x_getR {ix c j q a r : Nat} (hf : ftN (owN y) ix = some (c, j, q)) (ho : isO σ a c) (hk : fk c j = 2) (hr : σ.2.1 a j = some r) (hd : decode (cdN y) pc = .ok (.getfield ix, 3)) (kk : Ex l y k n (pc + 3) L (.ref r :: st) σ Q) : Ex l y k n pc L (.ref a :: st) σ Q := by
  intro G p e R s m args below meth c0 A CE SE Qf hA hC hS hF H locs cells slots ls h1 h2 hL hW hR
  obtain ⟨hc, hj, hlk, hcl, -, -⟩ := ft_spec hf
  have hST := hA.2.2.2.2.2.2.2.2.2.2.2.2.2
  rw [show cvs G (.ref a :: st) = .ref (adr G a) :: cvs G st from rfl, adr_lt (Nat.lt_of_lt_of_le ho.1 hW.1)]
  have hv := fld_get (G := G) (σ := σ) (a := a) hj
  rw [if_pos hk, hr] at hv
  exact va_get hA.2.1 hA.2.2.1 hA.2.2.2.2.2.2.2.2.1 (lyOk hc) hA.2.2.2.2.2.1 hST.1 hW.2.1 a (by rw [wsO_get ho.1, cell_O ho.2]) (vwOk hc) j hj (hA.2.2.2.2.2.2.2.2.1 _ hlk) (fun x hx => by rw [hcl] at hx; exact hx) hv hd (kk G p e R s m args below meth c0 A CE SE Qf hA hC hS hF H locs cells slots ls h1 h2 hL hW hR)
theorem up2_off {I : Nat → Int → Int} {k a : Nat} {j v : Int} (h : a ≠ k) : ∀ b, up2 I k j v a b = I a b := fun b => if_neg (fun z => h z.1)
theorem fld_set {G : GG} {σ : MM} {a c j : Nat} {z v : Int} (hk : ¬ fk c j = 2) (hz : (j : Int) = z) : (fieldsO G σ a c).set j (.int (iI v)) = fieldsO G (up2 σ.1 a z v, σ.2) a c := by
  apply List.ext_getElem?
  intro i
  by_cases hi : i < nf c
  · rw [List.getElem?_set, fld_get hi, fld_len]
    by_cases e : j = i
    · subst e
      rw [if_pos rfl, if_pos hi, fld_get hi, if_neg hk]
      show _ = some (Value.int (iI (up2 σ.1 a z v a (j : Int))))
      rw [show up2 σ.1 a z v a (j : Int) = v from if_pos ⟨rfl, hz⟩]
    · rw [if_neg e, fld_get hi]
      show some (if fk c i = 2 then va_rf ((σ.2.1 a i).map (adr G)) else Value.int (iI (σ.1 a i))) = some (if fk c i = 2 then va_rf ((σ.2.1 a i).map (adr G)) else Value.int (iI (up2 σ.1 a z v a i)))
      rw [show up2 σ.1 a z v a (i : Int) = σ.1 a i from if_neg (fun q => e (by have := q.2; omega))]
  · rw [List.getElem?_eq_none (by rw [List.length_set, fld_len]; omega), List.getElem?_eq_none (by rw [fld_len]; omega)]
/-- a field of whole numbers is written -/
theorem x_putI {ix c j q a : Nat} {z v : Int} (hf : ftN (owN y) ix = some (c, j, q)) (ho : isO σ a c) (hk : fk c j = 0 ∨ (fk c j = 1 ∧ (v = 0 ∨ v = 1))) (hff : ff c j = false) (hz : (j : Int) = z) (hd : decode (cdN y) pc = .ok (.putfield ix, 3)) (kk : Ex l y k n (pc + 3) L st (up2 σ.1 a z v, σ.2) Q) : Ex l y k n pc L (.int (iI v) :: .ref a :: st) σ Q := by
  intro G p e R s m args below meth c0 A CE SE Qf hA hC hS hF H locs cells slots ls h1 h2 hL hW hR
  obtain ⟨hc, hj, hlk, hcl, hpd, hfin⟩ := ft_spec hf
  have hST := hA.2.2.2.2.2.2.2.2.2.2.2.2.2
  rw [show cvs G (.int (iI v) :: .ref a :: st) = .int (iI v) :: .ref (adr G a) :: cvs G st from rfl, adr_lt (Nat.lt_of_lt_of_le ho.1 hW.1)]
  have hk2 : ¬ fk c j = 2 := by rcases hk with h | h <;> omega
  have hnf : narrow (tyT c j) (.int (iI v)) = .int (iI v) ∧ fits (tyT c j) (.int (iI v)) = true := by
    rcases ty_kind hc hj with ⟨e1, e2⟩ | ⟨e1, e2⟩ | ⟨e1, e2⟩
    · rw [e2]; exact ⟨rfl, rfl⟩
    · rw [e2]
      rcases hk with h | ⟨-, h | h⟩
      · omega
      · rw [h]; exact ⟨by decide, by decide⟩
      · rw [h]; exact ⟨by decide, by decide⟩
    · exact absurd e1 hk2
  refine va_put hA.2.1 hA.2.2.1 hA.2.2.2.2.2.2.2.2.1 (lyOk hc) (tyT c) (fun i hi => by
    have h9 := tyOk hc hi
    simp only [tyC, Bool.and_eq_true, decide_eq_true_eq] at h9
    exact h9.1.1.1) (nmOk hc) hA.2.2.2.2.2.1 hST.1 hW.2.1 hW.2.2.1 hW.2.2.2 a (by rw [wsO_get ho.1, cell_O ho.2]) (vwOk hc) j hj (hA.2.2.2.2.2.2.2.2.1 _ hlk) (fun x hx => by rw [hcl] at hx; exact hx) (hfin.trans hff) hpd hnf.1 hnf.2 (by rw [fld_len]; exact hj) hd (fun H1 locs1 hP hD hS1 => ?_)
  have heq : (wsO G σ).set a (G.2.2.2.2.2 + a, .inr (c, (fieldsO G σ a c).set j (.int (iI v)))) = wsO G (up2 σ.1 a z v, σ.2) := wsO_set ho.1 rfl (by rw [cell_O (σ := (up2 σ.1 a z v, σ.2)) ho.2, fld_set hk2 hz]) (fun i hi _ => cell_same (up2_off hi) (fun _ => rfl) rfl (fun _ => rfl))
  rw [heq] at hP hD
  exact kk G p e R s m args below meth c0 A CE SE Qf hA hC hS hF H1 locs1 cells slots ls h1 h2 hL ⟨hW.1, hP, hD, hS1⟩ hR
theorem fld_setR {G : GG} {σ : MM} {a c j r : Nat} (hk : fk c j = 2) : (fieldsO G σ a c).set j (.ref (adr G r)) = fieldsO G (σ.1, upr σ.2.1 a j r, σ.2.2) a c := by
  apply List.ext_getElem?
  intro i
  by_cases hi : i < nf c
  · rw [List.getElem?_set, fld_get hi, fld_len]
    by_cases e : j = i
    · subst e
      rw [if_pos rfl, if_pos hi, fld_get hi, if_pos hk]
      show _ = some (va_rf ((upr σ.2.1 a j r a j).map (adr G)))
      rw [show upr σ.2.1 a j r a j = some r from if_pos ⟨rfl, rfl⟩]
      rfl
    · rw [if_neg e, fld_get hi]
      show some (if fk c i = 2 then va_rf ((σ.2.1 a i).map (adr G)) else Value.int (iI (σ.1 a i))) = some (if fk c i = 2 then va_rf ((upr σ.2.1 a j r a i).map (adr G)) else Value.int (iI (σ.1 a i)))
      rw [show upr σ.2.1 a j r a i = σ.2.1 a i from if_neg (fun q => e q.2.symm)]
  · rw [List.getElem?_eq_none (by rw [List.length_set, fld_len]; omega), List.getElem?_eq_none (by rw [fld_len]; omega)]
theorem upr_off {I : Nat → Nat → Option Nat} {k a j v : Nat} (h : a ≠ k) : ∀ b, upr I k j v a b = I a b := fun b => if_neg (fun z => h z.1)
/-- a final field of references, in the constructor -/
theorem x_putF {ix c j q a r : Nat} (hf : ftN (owN y) ix = some (c, j, q)) (ho : isO σ a c) (hk : fk c j = 2) (hff : ff c j = true) (hi : inN y = true) (hoc : owN y = c) (hd : decode (cdN y) pc = .ok (.putfield ix, 3)) (kk : Ex l y k n (pc + 3) L st (σ.1, upr σ.2.1 a j r, σ.2.2) Q) : Ex l y k n pc L (.ref r :: .ref a :: st) σ Q := by
  intro G p e R s m args below meth c0 A CE SE Qf hA hC hS hF H locs cells slots ls h1 h2 hL hW hR
  obtain ⟨hc, hj, hlk, hcl, hpd, hfin⟩ := ft_spec hf
  have hST := hA.2.2.2.2.2.2.2.2.2.2.2.2.2
  rw [show cvs G (.ref r :: .ref a :: st) = .ref (adr G r) :: .ref (adr G a) :: cvs G st from rfl, adr_lt (Nat.lt_of_lt_of_le ho.1 hW.1)]
  have hnf : narrow (tyT c j) (.ref (adr G r)) = .ref (adr G r) ∧ fits (tyT c j) (.ref (adr G r)) = true := by
    rcases ty_kind hc hj with ⟨e1, e2⟩ | ⟨e1, e2⟩ | ⟨e1, ⟨t, e2⟩ | ⟨t, e2⟩⟩
    · omega
    · omega
    · rw [e2]; exact ⟨rfl, rfl⟩
    · rw [e2]; exact ⟨rfl, rfl⟩
  refine va_putF hA.2.1 hA.2.2.1 hA.2.2.2.2.2.2.2.2.1 (lyOk hc) (tyT c) (fun i hi => by
    have h9 := tyOk hc hi
    simp only [tyC, Bool.and_eq_true, decide_eq_true_eq] at h9
    exact h9.1.1.1) (nmOk hc) hA.2.2.2.2.2.1 hST.1 hW.2.1 hW.2.2.1 hW.2.2.2 a (by rw [wsO_get ho.1, cell_O ho.2]) (vwOk hc) j hj (hA.2.2.2.2.2.2.2.2.1 _ hlk) (fun x hx => by rw [hcl] at hx; exact hx) (hfin.trans hff) (hA.2.2.2.2.2.2.2.1 hi) (by rw [hcl, hoc]) hpd hnf.1 hnf.2 (by rw [fld_len]; exact hj) hd (fun H1 locs1 hP hD hS1 => ?_)
  have heq : (wsO G σ).set a (G.2.2.2.2.2 + a, .inr (c, (fieldsO G σ a c).set j (.ref (adr G r)))) = wsO G (σ.1, upr σ.2.1 a j r, σ.2.2) := wsO_set ho.1 rfl (by rw [cell_O (σ := (σ.1, upr σ.2.1 a j r, σ.2.2)) ho.2, fld_setR hk]) (fun i hi _ => cell_same (fun _ => rfl) (upr_off hi) rfl (fun _ => rfl))
  rw [heq] at hP hD
  exact kk G p e R s m args below meth c0 A CE SE Qf hA hC hS hF H1 locs1 cells slots ls h1 h2 hL ⟨hW.1, hP, hD, hS1⟩ hR
/-- rows of ints -/
theorem x_iald {a m0 : Nat} {i : Int} (ho : isA σ a m0) (h0 : 0 ≤ i) (h9 : i < m0) (hm : i ≤ 2147483647) (hd : decode (cdN y) pc = .ok (.iaload, 1)) (kk : Ex l y k n (pc + 1) L (.int (iI (σ.1 a i)) :: st) σ Q) : Ex l y k n pc L (.int (iI i) :: .ref a :: st) σ Q := by
  intro G p e R s m args below meth c0 A CE SE Qf hA hC hS hF H locs cells slots ls h1 h2 hL hW hR
  have hST := hA.2.2.2.2.2.2.2.2.2.2.2.2.2
  rw [show cvs G (.int (iI i) :: .ref a :: st) = .int (iI i) :: .ref (adr G a) :: cvs G st from rfl, adr_lt (Nat.lt_of_lt_of_le ho.1 hW.1)]
  have e9 : ((iI i).toNatClampNeg : Int) = i := by rw [iI_clamp ⟨by omega, hm⟩]; omega
  refine va_iald hA.2.1 hA.2.2.1 hST.1 hW.2.1 a 0 (by rw [wsO_get ho.1, cell_A ho.2]) rfl (iI_in h0 h9 hm) hd ?_
  have h := kk G p e R s m args below meth c0 A CE SE Qf hA hC hS hF H locs cells slots ls h1 h2 hL hW hR
  show W _ _ _ _ _ _ _ _ _ _ _ _ _ _ _ (F0 m (pc + 1) ls (.int (iI (σ.1 a (((iI i).toNatClampNeg : Nat) : Int))) :: cvs G st))
  rw [e9]
  exact h
theorem x_iast {a m0 : Nat} {i v : Int} (ho : isA σ a m0) (h0 : 0 ≤ i) (h9 : i < m0) (hm : i ≤ 2147483647) (hd : decode (cdN y) pc = .ok (.iastore, 1)) (kk : Ex l y k n (pc + 1) L st (up2 σ.1 a i v, σ.2) Q) : Ex l y k n pc L (.int (iI v) :: .int (iI i) :: .ref a :: st) σ Q := by
  intro G p e R s m args below meth c0 A CE SE Qf hA hC hS hF H locs cells slots ls h1 h2 hL hW hR
  have hST := hA.2.2.2.2.2.2.2.2.2.2.2.2.2
  rw [show cvs G (.int (iI v) :: .int (iI i) :: .ref a :: st) = .int (iI v) :: .int (iI i) :: .ref (adr G a) :: cvs G st from rfl, adr_lt (Nat.lt_of_lt_of_le ho.1 hW.1)]
  have e9 : (iI i).toNatClampNeg = i.toNat := iI_clamp ⟨by omega, hm⟩
  refine va_iast hA.2.1 hA.2.2.1 hST.1 hW.2.1 hW.2.2.1 hW.2.2.2 a 0 (by rw [wsO_get ho.1, cell_A ho.2]) rfl (iI_in h0 h9 hm) hd (fun H1 locs1 hP hD hS1 => ?_)
  have heq : (wsO G σ).set a (G.2.2.2.2.2 + a, .inl (G.2.1.1, m0, .inl (upd (fun j => iI (σ.1 a (j : Int))) (iI i).toNatClampNeg (iI v)))) = wsO G (up2 σ.1 a i v, σ.2) := by
    refine wsO_set ho.1 rfl ?_ (fun i hi _ => cell_same (up2_off hi) (fun _ => rfl) rfl (fun _ => rfl))
    rw [cell_A (σ := (up2 σ.1 a i v, σ.2)) ho.2, e9]
    congr 3
    congr 1
    funext j
    by_cases hj : j = i.toNat
    · subst hj
      rw [pk_us]
      show iI v = iI (up2 σ.1 a i v a ((i.toNat : Nat) : Int))
      rw [show up2 σ.1 a i v a ((i.toNat : Nat) : Int) = v from if_pos ⟨rfl, by omega⟩]
    · rw [pk_un hj]
      show _ = iI (up2 σ.1 a i v a (j : Int))
      rw [show up2 σ.1 a i v a (j : Int) = σ.1 a j from if_neg (fun z => hj (by have := z.2; omega))]
  rw [heq] at hP hD
  exact kk G p e R s m args below meth c0 A CE SE Qf hA hC hS hF H1 locs1 cells slots ls h1 h2 hL ⟨hW.1, hP, hD, hS1⟩ hR
theorem x_alen {a m0 : Nat} (ho : isA σ a m0) (hd : decode (cdN y) pc = .ok (.arraylength, 1)) (kk : Ex l y k n (pc + 1) L (.int (iI m0) :: st) σ Q) : Ex l y k n pc L (.ref a :: st) σ Q := by
  intro G p e R s m args below meth c0 A CE SE Qf hA hC hS hF H locs cells slots ls h1 h2 hL hW hR
  have hST := hA.2.2.2.2.2.2.2.2.2.2.2.2.2
  rw [show cvs G (.ref a :: st) = .ref (adr G a) :: cvs G st from rfl, adr_lt (Nat.lt_of_lt_of_le ho.1 hW.1)]
  exact va_alen hA.2.1 hA.2.2.1 hST.1 hW.2.1 a 0 (x := (m0, .inl (fun j => iI (σ.1 a (j : Int))))) (by rw [wsO_get ho.1, cell_A ho.2]) (ty := .int) rfl (iI_nat m0) hd (kk G p e R s m args below meth c0 A CE SE Qf hA hC hS hF H locs cells slots ls h1 h2 hL hW hR)
/-- the row of one long -/
theorem x_lald {a : Nat} (ho : a < σ.2.2.2.1 ∧ σ.2.2.1 a = 12) (hd : decode (cdN y) pc = .ok (.laload, 1)) (kk : Ex l y k n (pc + 1) L (.long (lL σ.2.2.2.2.1) :: st) σ Q) : Ex l y k n pc L (.int (iI 0) :: .ref a :: st) σ Q := by
  intro G p e R s m args below meth c0 A CE SE Qf hA hC hS hF H locs cells slots ls h1 h2 hL hW hR
  have hST := hA.2.2.2.2.2.2.2.2.2.2.2.2.2
  rw [show cvs G (.int (iI 0) :: .ref a :: st) = .int (iI 0) :: .ref (adr G a) :: cvs G st from rfl, adr_lt (Nat.lt_of_lt_of_le ho.1 hW.1)]
  exact va_lald (f := fun j => if j = 0 then lL σ.2.2.2.2.1 else lL 0) hA.2.1 hA.2.2.1 hST.1 hW.2.1 a 1 (by rw [wsO_get ho.1, cell_L ho.2]) rfl (iI_in (by decide) (by decide) (by decide)) hd (kk G p e R s m args below meth c0 A CE SE Qf hA hC hS hF H locs cells slots ls h1 h2 hL hW hR)
theorem x_last {a : Nat} {v : Int} (ho : a < σ.2.2.2.1 ∧ σ.2.2.1 a = 12) (hone : ∀ b, b < σ.2.2.2.1 → σ.2.2.1 b % 10 = 2 → b = a) (hd : decode (cdN y) pc = .ok (.lastore, 1)) (kk : Ex l y k n (pc + 1) L st (σ.1, σ.2.1, σ.2.2.1, σ.2.2.2.1, v, σ.2.2.2.2.2) Q) : Ex l y k n pc L (.long (lL v) :: .int (iI 0) :: .ref a :: st) σ Q := by
  intro G p e R s m args below meth c0 A CE SE Qf hA hC hS hF H locs cells slots ls h1 h2 hL hW hR
  have hST := hA.2.2.2.2.2.2.2.2.2.2.2.2.2
  rw [show cvs G (.long (lL v) :: .int (iI 0) :: .ref a :: st) = .long (lL v) :: .int (iI 0) :: .ref (adr G a) :: cvs G st from rfl, adr_lt (Nat.lt_of_lt_of_le ho.1 hW.1)]
  refine va_last hA.2.1 hA.2.2.1 hST.1 hW.2.1 hW.2.2.1 hW.2.2.2 a 1 (by rw [wsO_get ho.1, cell_L ho.2]) rfl (iI_in (by decide) (by decide) (by decide)) hd (fun H1 locs1 hP hD hS1 => ?_)
  have heq : (wsO G σ).set a (G.2.2.2.2.2 + a, .inl (G.2.1.2.1, 1, .inr (.inl (vp_updL (fun j => if j = 0 then lL σ.2.2.2.2.1 else lL 0) (iI 0).toNatClampNeg (lL v))))) = wsO G (σ.1, σ.2.1, σ.2.2.1, σ.2.2.2.1, v, σ.2.2.2.2.2) := by
    refine wsO_set ho.1 rfl ?_ (fun i hi hl => cell_same (fun _ => rfl) (fun _ => rfl) rfl (fun z => absurd (hone i hl z) hi))
    rw [cell_L (σ := (σ.1, σ.2.1, σ.2.2.1, σ.2.2.2.1, v, σ.2.2.2.2.2)) ho.2]
    congr 5
    funext j
    have e0 : (iI 0).toNatClampNeg = 0 := by decide
    show (if j = (iI 0).toNatClampNeg then lL v else if j = 0 then lL σ.2.2.2.2.1 else lL 0) = if j = 0 then lL v else lL 0
    rw [e0]
    by_cases hj : j = 0
    · rw [if_pos hj, if_pos hj]
    · rw [if_neg hj, if_neg hj, if_neg hj]
  rw [heq] at hP hD
  exact kk G p e R s m args below meth c0 A CE SE Qf hA hC hS hF H1 locs1 cells slots ls h1 h2 hL ⟨hW.1, hP, hD, hS1⟩ hR
/-- the script's length, and what stands in it: G says which; the law's own row -/
theorem x_slen (hd : decode (cdN y) pc = .ok (.arraylength, 1)) (kk : Ex l y k n (pc + 1) L (.int (iI l.2.1) :: st) σ Q) : Ex l y k n pc L (.ref scr :: st) σ Q := by
  intro G p e R s m args below meth c0 A CE SE Qf hA hC hS hF H locs cells slots ls h1 h2 hL hW hR
  have hST := hA.2.2.2.2.2.2.2.2.2.2.2.2.2
  rw [show cvs G (.ref scr :: st) = .ref (adr G scr) :: cvs G st from rfl, adr_scr]
  refine va_slen hA.2.1 hA.2.2.1 hST.2.1.1 hST.2.1.2.1 hST.2.1.2.2 hW.2.2.2 hd ?_
  have h := kk G p e R s m args below meth c0 A CE SE Qf hA hC hS hF H locs cells slots ls h1 h2 hL hW hR
  rw [← hA.1.2.1] at h
  have e9 : Int32.ofNat G.2.2.1.2.1 = iI G.2.2.1.2.1 := iI_nat _
  rw [e9]
  exact h
theorem x_sld {i : Int} (h0 : 0 ≤ i) (h9 : i < l.2.1) (hm : i ≤ 2147483647) (hd : decode (cdN y) pc = .ok (.iaload, 1)) (kk : Ex l y k n (pc + 1) L (.int (iI (l.2.2 i.toNat)) :: st) σ Q) : Ex l y k n pc L (.int (iI i) :: .ref scr :: st) σ Q := by
  intro G p e R s m args below meth c0 A CE SE Qf hA hC hS hF H locs cells slots ls h1 h2 hL hW hR
  have hST := hA.2.2.2.2.2.2.2.2.2.2.2.2.2
  rw [show cvs G (.int (iI i) :: .ref scr :: st) = .int (iI i) :: .ref (adr G scr) :: cvs G st from rfl, adr_scr]
  have e9 : (iI i).toNatClampNeg = i.toNat := iI_clamp ⟨by omega, hm⟩
  refine va_sld hA.2.1 hA.2.2.1 hST.2.1.1 hST.2.1.2.1 hST.2.1.2.2 hW.2.2.2 (iI_in h0 (by rw [hA.1.2.1]; exact h9) hm) hd ?_
  have h := kk G p e R s m args below meth c0 A CE SE Qf hA hC hS hF H locs cells slots ls h1 h2 hL hW hR
  rw [e9, hA.1.2.2 i.toNat (by omega)]
  exact h
/-- an element of a row of references -/
theorem x_aald {a m0 r : Nat} {i : Int} (ho : isR σ a m0) (h0 : 0 ≤ i) (h9 : i < m0) (hm : i ≤ 2147483647) (hr : σ.2.1 a i.toNat = some r) (hd : decode (cdN y) pc = .ok (.aaload, 1)) (kk : Ex l y k n (pc + 1) L (.ref r :: st) σ Q) : Ex l y k n pc L (.int (iI i) :: .ref a :: st) σ Q := by
  intro G p e R s m args below meth c0 A CE SE Qf hA hC hS hF H locs cells slots ls h1 h2 hL hW hR
  have hST := hA.2.2.2.2.2.2.2.2.2.2.2.2.2
  rw [show cvs G (.int (iI i) :: .ref a :: st) = .int (iI i) :: .ref (adr G a) :: cvs G st from rfl, adr_lt (Nat.lt_of_lt_of_le ho.1 hW.1)]
  have e9 : (iI i).toNatClampNeg = i.toNat := iI_clamp ⟨by omega, hm⟩
  refine va_aldq (f := fun j => (σ.2.1 a j).map (adr G)) hA.2.1 hA.2.2.1 hST.1 hW.2.1 a 2 (by rw [wsO_get ho.1, cell_R ho.2]) rfl (iI_in h0 h9 hm) hd ?_
  have h := kk G p e R s m args below meth c0 A CE SE Qf hA hC hS hF H locs cells slots ls h1 h2 hL hW hR
  rw [e9, hr]
  exact h
theorem x_aast {a m0 r c : Nat} {i : Int} (ho : isR σ a m0) (h0 : 0 ≤ i) (h9 : i < m0) (hm : i ≤ 2147483647) (hr : isO σ r 5) (hc5 : clsN 5 = "MatchboxModem$Line") (hd : decode (cdN y) pc = .ok (.aastore, 1)) (kk : Ex l y k n (pc + 1) L st (σ.1, upr σ.2.1 a i.toNat r, σ.2.2) Q) : Ex l y k n pc L (.ref r :: .int (iI i) :: .ref a :: st) σ Q := by
  intro G p e R s m args below meth c0 A CE SE Qf hA hC hS hF H locs cells slots ls h1 h2 hL hW hR
  have hST := hA.2.2.2.2.2.2.2.2.2.2.2.2.2
  rw [show cvs G (.ref r :: .int (iI i) :: .ref a :: st) = .ref (adr G r) :: .int (iI i) :: .ref (adr G a) :: cvs G st from rfl, adr_lt (Nat.lt_of_lt_of_le ho.1 hW.1)]
  have er : adr G r = G.2.2.2.2.2 + r := adr_lt (Nat.lt_of_lt_of_le hr.1 hW.1)
  rw [er]
  have e9 : (iI i).toNatClampNeg = i.toNat := iI_clamp ⟨by omega, hm⟩
  refine va_astq (f := fun j => (σ.2.1 a j).map (adr G)) (r := (clsN 5, TT 5, nf 5)) (vs := fieldsO G σ r 5) hA.2.1 hA.2.2.1 hST.1 hW.2.1 hW.2.2.1 hW.2.2.2 a 2 r 5 (by rw [wsO_get ho.1, cell_R ho.2]) (by rw [hc5]; rfl) (by rw [wsO_get hr.1, cell_O hr.2]) (vwOk (by decide)) (iI_in h0 h9 hm) hd (fun H1 locs1 hP hD hS1 => ?_)
  have heq : (wsO G σ).set a (G.2.2.2.2.2 + a, .inl (G.2.1.2.2, m0, .inr (.inr (.inr (.inr (va_up (fun j => (σ.2.1 a j).map (adr G)) (iI i).toNatClampNeg (some (G.2.2.2.2.2 + r)))))))) = wsO G (σ.1, upr σ.2.1 a i.toNat r, σ.2.2) := by
    refine wsO_set ho.1 rfl ?_ (fun i hi _ => cell_same (fun _ => rfl) (upr_off hi) rfl (fun _ => rfl))
    rw [cell_R (σ := (σ.1, upr σ.2.1 a i.toNat r, σ.2.2)) ho.2, e9]
    congr 7
    funext j
    show (if j = i.toNat then some (G.2.2.2.2.2 + r) else (σ.2.1 a j).map (adr G)) = (upr σ.2.1 a i.toNat r a j).map (adr G)
    by_cases hj : j = i.toNat
    · rw [if_pos hj, show upr σ.2.1 a i.toNat r a j = some r from if_pos ⟨rfl, hj⟩, ← er]
      rfl
    · rw [if_neg hj, show upr σ.2.1 a i.toNat r a j = σ.2.1 a j from if_neg (fun z => hj z.2)]
  rw [heq] at hP hD
  exact kk G p e R s m args below meth c0 A CE SE Qf hA hC hS hF H1 locs1 cells slots ls h1 h2 hL ⟨hW.1, hP, hD, hS1⟩ hR
end Rows2
end
section
/-! ===== rows that make cells; the JDK's own ===== -/
theorem tw {w : Cond} (h : w ∈ lw_tbl) (hg : goodWord w = true) : w ∈ T0 := List.mem_filter.mpr ⟨h, hg⟩
theorem acI : Cond.arrayClass (newarray.typeOf .int) ∈ T0 := inT_ok (p := 143) (by decide +kernel)
theorem acL : Cond.arrayClass (newarray.typeOf .long) ∈ T0 := inT_ok (p := 2049) (by decide +kernel)
/-- a new place, all of it 0 or null; long rows' cell v -/
def mkC (σ : MM) (κ : Nat) : MM := (fun a b => if a = σ.2.2.2.1 then 0 else σ.1 a b, fun a b => if a = σ.2.2.2.1 then none else σ.2.1 a b, fun a => if a = σ.2.2.2.1 then κ else σ.2.2.1 a, σ.2.2.2.1 + 1, σ.2.2.2.2)
def mkL (σ : MM) : MM := (fun a b => if a = σ.2.2.2.1 then 0 else σ.1 a b, fun a b => if a = σ.2.2.2.1 then none else σ.2.1 a b, fun a => if a = σ.2.2.2.1 then 12 else σ.2.2.1 a, σ.2.2.2.1 + 1, 0, σ.2.2.2.2.2)
theorem mkC_old {G : GG} {σ : MM} {κ j : Nat} (h : j < σ.2.2.2.1) : cellO G (mkC σ κ) j = cellO G σ j := by
  have hn : ¬ j = σ.2.2.2.1 := Nat.ne_of_lt h
  exact cell_same (fun _ => if_neg hn) (fun _ => if_neg hn) (if_neg hn) (fun _ => rfl)
theorem mkL_old {G : GG} {σ : MM} {j : Nat} (hone : ∀ b, b < σ.2.2.2.1 → ¬ σ.2.2.1 b % 10 = 2) (h : j < σ.2.2.2.1) : cellO G (mkL σ) j = cellO G σ j := by
  have hn : ¬ j = σ.2.2.2.1 := Nat.ne_of_lt h
  exact cell_same (fun _ => if_neg hn) (fun _ => if_neg hn) (if_neg hn) (fun z => absurd z (hone j h))
/-- a new cell stands behind the others -/
theorem wok_new {G : GG} {A : Nat → Prop} {s : State} {H H1 : Heap} {locs : List Loc} {σ τ : MM} (hW : WOK G A s H locs σ) (hAA : ∀ q, s.heap.size ≤ q → A q) (hsz : H.size = G.2.2.2.2.2 + σ.2.2.2.1) (hlt : σ.2.2.2.1 < scr) (hn : τ.2.2.2.1 = σ.2.2.2.1 + 1) (ho : ∀ j, j < σ.2.2.2.1 → cellO G τ j = cellO G σ j)
    (z1 : H1.size = H.size + 1) (o1 : ∀ q, q < H.size → H1[q]? = H[q]?) (hc : va_at G.1 vwCl (G.2.2.2.2.2 + σ.2.2.2.1, cellO G τ σ.2.2.2.1) H1) : WOK G A s H1 locs τ := by
  obtain ⟨hnp, hP, hD, hS⟩ := hW
  have heq : wsO G σ ++ [(G.2.2.2.2.2 + σ.2.2.2.1, cellO G τ σ.2.2.2.1)] = wsO G τ := wsO_app hn rfl ho
  refine ⟨by rw [hn]; exact hlt, ?_, ?_, Nat.le_trans hS.1 (by omega), fun q h1 h2 => (o1 q (Nat.lt_of_lt_of_le h1 hS.1)).trans (hS.2.1 q h1 h2), hS.2.2⟩
  · rw [← heq]
    refine (hP.kept fun k q hq => o1 q.1 (hP k q hq).lt).app fun k q hq => ?_
    have hz : k < 1 := (List.getElem?_eq_some_iff.mp hq).1
    rw [show k = 0 by omega] at hq
    cases hq
    exact hc
  · rw [← heq]
    exact hD.push hP hsz.symm (hAA _ (by rw [← hsz]; exact hS.1))
theorem W_by {p : Program} {l : Launch} {e : Env} {R : Room} {s : State} {m : MethodId} {args : Array Value} {below : List Frame} {meth : Method} {c : Code} {H : Heap} {locs : List Loc} {cells slots : Nat} {Qf : State → Prop} {g : JFrame} (h : ∀ T : State, T.heap = H → Stand p l e R s m args below meth c T locs cells slots → W p l e R s m args below meth c H locs cells slots Qf g) : W p l e R s m args below meth c H locs cells slots Qf g := fun T hT X => h T hT X T hT X
section Rows3
variable {l : LX} {y k n pc : Nat} {L : LL} {st : List Value} {σ : MM} {Q : OO → Prop}
theorem x_new {ix c q1 q2 q3 : Nat} (hc : clN (owN y) ix = some (c, q1, q2, q3)) (hnp : σ.2.2.2.1 < scr) (hf : σ.2.2.2.2.2 = true) (hd : decode (cdN y) pc = .ok (.new ix, 3)) (kk : Ex l y k n (pc + 3) L (.ref σ.2.2.2.1 :: st) (mkC σ (10 * c + 5)) Q) : Ex l y (k + 1) (n + nf c) pc L st σ Q := by
  intro G p e R s m args below meth c0 A CE SE Qf hA hC hS hF H locs cells slots ls h1 h2 hL hW hR
  have hST := hA.2.2.2.2.2.2.2.2.2.2.2.2.2
  have hcc := clOk hc
  simp only [clC, Bool.and_eq_true, decide_eq_true_eq] at hcc
  obtain ⟨⟨⟨hc11, w1⟩, w2⟩, w3⟩ := hcc
  have hts := hA.2.2.2.2.2.2.2.2.1
  have hKn := hST.1.1 c _ (vwOk hc11)
  refine W_by fun T hT X => ?_
  have hsz := size_of hW hR X hT hf
  refine W.newcK hA.2.1 hA.2.2.1 hA.2.2.2.2.2.1 (hts _ (inT_ok w1)) (hts _ (inT_ok w2)) (hts _ (inT_ok w3)) rfl hd (by omega) (by omega) hKn.2.1 hsz (fun H1 kC hkC e1 z1 o1 => ?_)
  have hty : ∀ i, i < nf c → parseFieldDescriptor (TT c i).2.2.1 = some (tyT c i) := fun i hi => by
    have h9 := tyOk hc11 hi
    simp only [tyC, Bool.and_eq_true, decide_eq_true_eq] at h9
    exact h9.1.1.1
  have hkd : (mkC σ (10 * c + 5)).2.2.1 σ.2.2.2.1 = 10 * c + 5 := if_pos rfl
  have hat : va_at G.1 vwCl (G.2.2.2.2.2 + σ.2.2.2.1, cellO G (mkC σ (10 * c + 5)) σ.2.2.2.1) H1 := by
    rw [cell_O hkd]
    refine ⟨_, vwOk hc11, (u_born (tyT c) hts (lyOk hc11) hKn hkC e1 hty).to fun j hj => ?_⟩
    show defaultValue (tyT c j) = vp_V (fieldsO G (mkC σ (10 * c + 5)) σ.2.2.2.1 c) j
    unfold vp_V
    rw [List.getD_eq_getElem?_getD, fld_get hj]
    have e2 : (mkC σ (10 * c + 5)).2.1 σ.2.2.2.1 j = none := if_pos rfl
    have e3 : (mkC σ (10 * c + 5)).1 σ.2.2.2.1 (j : Int) = 0 := if_pos rfl
    rw [e2, e3]
    rcases ty_kind hc11 hj with ⟨f1, f2⟩ | ⟨f1, f2⟩ | ⟨f1, ⟨t, f2⟩ | ⟨t, f2⟩⟩ <;> rw [f1, f2] <;> rfl
  have hW1 := wok_new hW hA.2.2.2.2.2.2.2.2.2.2.2.2.1 hsz hnp rfl (fun j hj => mkC_old hj) (by rw [z1, hsz]) (fun q hq => o1 q (by rw [← hsz]; exact hq)) hat
  have h := kk G p e R s m args below meth c0 A CE SE Qf hA hC hS hF H1 locs (cells + 1) (slots + nf c) ls (by omega) (by omega) hL hW1 (fun z => by
    have := hR z
    show s.heap.size + (cells + 1) = G.2.2.2.2.2 + (σ.2.2.2.1 + 1) ∧ _
    omega)
  rw [show cvs G (.ref σ.2.2.2.1 :: st) = .ref (adr G σ.2.2.2.1) :: cvs G st from rfl, adr_lt hnp] at h
  exact h
theorem x_newI {z : Int} {m0 : Nat} (hz : (m0 : Int) = z) (hm : m0 ≤ 100000) (hnp : σ.2.2.2.1 < scr) (hf : σ.2.2.2.2.2 = true) (hd : decode (cdN y) pc = .ok (.newarray .int, 2)) (kk : Ex l y k n (pc + 2) L (.ref σ.2.2.2.1 :: st) (mkC σ (10 * m0)) Q) : Ex l y (k + 1) (n + m0) pc L (.int (iI z) :: st) σ Q := by
  intro G p e R s m args below meth c0 A CE SE Qf hA hC hS hF H locs cells slots ls h1 h2 hL hW hR
  have hST := hA.2.2.2.2.2.2.2.2.2.2.2.2.2
  have hts := hA.2.2.2.2.2.2.2.2.1
  have hz2 : InR z := ⟨by omega, by omega⟩
  refine W_by fun T hT X => ?_
  have hsz := size_of hW hR X hT hf
  refine va_newaK hA.2.1 hA.2.2.1 (hts _ acI) rfl hd rfl (n := iI z) (N := m0) (by rw [iI_0, iI_lt hz2 inR_0]; omega) (by rw [iI_clamp hz2]; omega) (by show m0 * 4 ≤ 536870912; omega) (by omega) (by omega) hsz (fun H1 cA e1 z1 o1 hAr hNm => ?_)
  have hcA : cA = G.2.1.1 := Option.some.inj (hNm.symm.trans (hST.1.2 0 _ rfl).2)
  subst hcA
  have hkd : (mkC σ (10 * m0)).2.2.1 σ.2.2.2.1 = 10 * m0 := if_pos rfl
  have hat : va_at G.1 vwCl (G.2.2.2.2.2 + σ.2.2.2.1, cellO G (mkC σ (10 * m0)) σ.2.2.2.1) H1 := by
    rw [cell_A hkd]
    show H1[_]? = some (vp_cell _ _)
    rw [e1, vp_cell_i]
    congr 2
    funext j
    have e3 : (mkC σ (10 * m0)).1 σ.2.2.2.1 (j : Int) = 0 := if_pos rfl
    rw [e3]
    rfl
  have hW1 := wok_new hW hA.2.2.2.2.2.2.2.2.2.2.2.2.1 hsz hnp rfl (fun j hj => mkC_old hj) (by rw [z1, hsz]) (fun q hq => o1 q (by rw [← hsz]; exact hq)) hat
  have h := kk G p e R s m args below meth c0 A CE SE Qf hA hC hS hF H1 locs (cells + 1) (slots + m0) ls (by omega) (by omega) hL hW1 (fun z => by
    have := hR z
    show s.heap.size + (cells + 1) = G.2.2.2.2.2 + (σ.2.2.2.1 + 1) ∧ _
    omega)
  rw [show cvs G (.ref σ.2.2.2.1 :: st) = .ref (adr G σ.2.2.2.1) :: cvs G st from rfl, adr_lt hnp] at h
  exact h
theorem x_newL (hone : ∀ b, b < σ.2.2.2.1 → ¬ σ.2.2.1 b % 10 = 2) (hnp : σ.2.2.2.1 < scr) (hf : σ.2.2.2.2.2 = true) (hd : decode (cdN y) pc = .ok (.newarray .long, 2)) (kk : Ex l y k n (pc + 2) L (.ref σ.2.2.2.1 :: st) (mkL σ) Q) : Ex l y (k + 1) (n + 1) pc L (.int (iI 1) :: st) σ Q := by
  intro G p e R s m args below meth c0 A CE SE Qf hA hC hS hF H locs cells slots ls h1 h2 hL hW hR
  have hST := hA.2.2.2.2.2.2.2.2.2.2.2.2.2
  have hts := hA.2.2.2.2.2.2.2.2.1
  refine W_by fun T hT X => ?_
  have hsz := size_of hW hR X hT hf
  refine va_newaK hA.2.1 hA.2.2.1 (hts _ acL) rfl hd rfl (n := iI 1) (N := 1) (by decide) (by decide) (by decide) (by omega) (by omega) hsz (fun H1 cA e1 z1 o1 hAr hNm => ?_)
  have hcA : cA = G.2.1.2.1 := Option.some.inj (hNm.symm.trans (hST.1.2 1 _ rfl).2)
  subst hcA
  have hkd : (mkL σ).2.2.1 σ.2.2.2.1 = 12 := if_pos rfl
  have hat : va_at G.1 vwCl (G.2.2.2.2.2 + σ.2.2.2.1, cellO G (mkL σ) σ.2.2.2.1) H1 := by
    rw [cell_L hkd]
    show H1[_]? = some (vp_cell _ _)
    rw [e1, vp_cell_l]
    congr 2
    funext j
    show Value.long 0 = Value.long (if j = 0 then lL 0 else lL 0)
    rw [ite_self]
    rfl
  have hW1 := wok_new hW hA.2.2.2.2.2.2.2.2.2.2.2.2.1 hsz hnp rfl (fun j hj => mkL_old hone hj) (by rw [z1, hsz]) (fun q hq => o1 q (by rw [← hsz]; exact hq)) hat
  have h := kk G p e R s m args below meth c0 A CE SE Qf hA hC hS hF H1 locs (cells + 1) (slots + 1) ls (by omega) (by omega) hL hW1 (fun z => by
    have := hR z
    show s.heap.size + (cells + 1) = G.2.2.2.2.2 + (σ.2.2.2.1 + 1) ∧ _
    omega)
  rw [show cvs G (.ref σ.2.2.2.1 :: st) = .ref (adr G σ.2.2.2.1) :: cvs G st from rfl, adr_lt hnp] at h
  exact h
theorem x_newR {ix q1 q2 q3 : Nat} {z : Int} {m0 : Nat} (hz : (m0 : Int) = z) (hm : m0 ≤ 100000) (hc : clN (owN y) ix = some (5, q1, q2, q3)) (hnp : σ.2.2.2.1 < scr) (hf : σ.2.2.2.2.2 = true) (hd : decode (cdN y) pc = .ok (.anewarray ix, 3)) (kk : Ex l y k n (pc + 3) L (.ref σ.2.2.2.1 :: st) (mkC σ (10 * m0 + 1)) Q) : Ex l y (k + 1) (n + m0) pc L (.int (iI z) :: st) σ Q := by
  intro G p e R s m args below meth c0 A CE SE Qf hA hC hS hF H locs cells slots ls h1 h2 hL hW hR
  have hST := hA.2.2.2.2.2.2.2.2.2.2.2.2.2
  have hts := hA.2.2.2.2.2.2.2.2.1
  have hz2 : InR z := ⟨by omega, by omega⟩
  have hcc := clOk hc
  simp only [clC, Bool.and_eq_true, decide_eq_true_eq] at hcc
  obtain ⟨⟨⟨hc11, w1⟩, w2⟩, w3⟩ := hcc
  have hN : (iI z).toNatClampNeg = m0 := by rw [iI_clamp hz2]; omega
  refine W_by fun T hT X => ?_
  have hsz := size_of hW hR X hT hf
  refine W.anew hA.2.1 hA.2.2.1 hA.2.2.2.2.2.1 (hts _ (inT_ok w1)) (va_AO.use hST.2.2.2.2.2.2.2.2.2.1) rfl hd rfl (n := iI z) (by rw [iI_0, iI_lt hz2 inR_0]; omega) (by rw [hN]; omega) (by omega) (by rw [hN]; omega) (fun cA kA comp f1 f2 f3 f4 => ?_)
  have hcA : cA = G.2.1.2.2 := by
    obtain ⟨kA9, comp9, g1, g2, g3, g4⟩ := (hST.1.2 2 _ rfl).2
    exact Option.some.inj (f1.symm.trans g4)
  subst hcA
  generalize hH1 : H.push ({ cls := G.2.1.2.2, slots := Array.replicate (iI z).toNatClampNeg .null, vm := .none } : Cell) = H1
  have z1 : H1.size = H.size + 1 := by rw [← hH1, Array.size_push]
  have e1 : H1[H.size]? = some (arrV G.2.1.2.2 m0 (fun _ => .null)) := by rw [← hH1, Array.getElem?_push_size, ← arrV_new, hN]
  have o1 : ∀ q : Nat, q < H.size → H1[q]? = H[q]? := fun q hq => by rw [← hH1, Array.getElem?_push, if_neg (Nat.ne_of_lt hq)]
  have hkd : (mkC σ (10 * m0 + 1)).2.2.1 σ.2.2.2.1 = 10 * m0 + 1 := if_pos rfl
  have hat : va_at G.1 vwCl (G.2.2.2.2.2 + σ.2.2.2.1, cellO G (mkC σ (10 * m0 + 1)) σ.2.2.2.1) H1 := by
    rw [cell_R hkd]
    show H1[_]? = some (vp_cell _ _)
    rw [← hsz, e1, vp_cell_q]
    congr 2
    funext j
    have e3 : (mkC σ (10 * m0 + 1)).2.1 σ.2.2.2.1 j = none := if_pos rfl
    rw [e3]
    rfl
  have hW1 := wok_new hW hA.2.2.2.2.2.2.2.2.2.2.2.2.1 hsz hnp rfl (fun j hj => mkC_old hj) z1 o1 hat
  have h := kk G p e R s m args below meth c0 A CE SE Qf hA hC hS hF H1 locs (cells + 1) (slots + m0) ls (by omega) (by omega) hL hW1 (fun z => by
    have := hR z
    show s.heap.size + (cells + 1) = G.2.2.2.2.2 + (σ.2.2.2.1 + 1) ∧ _
    omega)
  rw [show cvs G (.ref σ.2.2.2.1 :: st) = .ref (adr G σ.2.2.2.1) :: cvs G st from rfl, adr_lt hnp, ← hsz] at h
  rw [hN]
  exact h
/-! the JDK's own -/
theorem x_obj {ix t a : Nat} {ps : List Nat} (hc : ctN (owN y) ix = some (9, t, ps)) (hh : 1 ≤ htN y) (hl : cats st + 12 ≤ loN y) (hd : decode (cdN y) pc = .ok (.invokespecial ix, 3)) (kk : Ex l y k n (pc + 3) L st σ Q) : Ex l y k n pc L (.ref a :: st) σ Q := by
  intro G p e R s m args below meth c0 A CE SE Qf hA hC hS hF H locs cells slots ls h1 h2 hL hW hR
  obtain ⟨hw, -⟩ := ctIn hc
  have hts := hA.2.2.2.2.2.2.2.2.1
  exact W.objInit hA.2.1 hA.2.2.1 hA.2.2.2.2.2.1 (hts _ (tw (hw _ (by simp [ctW])) rfl)) (hts _ (tw (hw _ (by simp [ctW])) rfl)) (hts _ (tw (hw _ (by simp [ctW])) rfl)) (g := F0 m pc ls (cvs G (.ref a :: st))) rfl (by rw [hA.2.2.2.1]; exact hL.1) rfl hd (by rw [hA.2.2.2.2.2.2.2.2.2.2.1]; exact hh)
    (by rw [hA.2.2.2.2.2.2.2.2.2.2.2.1]; show 2 * 0 + ((cvs G st).map fun v => v.category).sum + 12 ≤ _; rw [cvs_cats]; omega) (kk G p e R s m args below meth c0 A CE SE Qf hA hC hS hF H locs cells slots ls h1 h2 hL hW hR)
theorem x_max {ix t : Nat} {a b : Int} {ps : List Nat} (ha : InR a) (hb : InR b) (hc : ctN (owN y) ix = some (5, t, ps)) (hh : 1 ≤ htN y) (hl : cats st + 13 ≤ loN y) (hd : decode (cdN y) pc = .ok (.invokestatic ix, 3)) (kk : Ex l y k n (pc + 3) L (.int (iI (max a b)) :: st) σ Q) : Ex l y k n pc L (.int (iI b) :: .int (iI a) :: st) σ Q := by
  intro G p e R s m args below meth c0 A CE SE Qf hA hC hS hF H locs cells slots ls h1 h2 hL hW hR
  obtain ⟨hw, -⟩ := ctIn hc
  have hts := hA.2.2.2.2.2.2.2.2.1
  refine va_mmax hA.2.1 hA.2.2.1 (by rw [hA.2.2.2.1]; exact hL.1.symm) hA.2.2.2.2.2.1 (hts _ (tw (hw _ (by simp [ctW])) rfl)) (hts _ (tw (hw _ (by simp [ctW])) rfl)) (hts _ (tw (hw _ (by simp [ctW])) rfl)) (hts _ (tw (hw _ (by simp [ctW])) rfl)) (by rw [hA.2.2.2.2.2.2.2.2.2.2.1]; exact hh)
    (by rw [hA.2.2.2.2.2.2.2.2.2.2.2.1]; exact (by rw [cvs_cats]; exact hl : ((cvs G st).map fun v => v.category).sum + 13 ≤ loN y)) (by omega) (by omega) hd ?_
  have h := kk G p e R s m args below meth c0 A CE SE Qf hA hC hS hF H locs cells slots ls h1 h2 hL hW hR
  have e9 : (if iI a < iI b then iI b else iI a) = iI (max a b) := by
    by_cases hq : a < b
    · rw [if_pos ((iI_lt ha hb).mpr hq), Int.max_eq_right (by omega)]
    · rw [if_neg (fun z => hq ((iI_lt ha hb).mp z)), Int.max_eq_left (by omega)]
  rw [e9]
  exact h
theorem x_min {ix t : Nat} {a b : Int} {ps : List Nat} (ha : InR a) (hb : InR b) (hc : ctN (owN y) ix = some (6, t, ps)) (hh : 1 ≤ htN y) (hl : cats st + 13 ≤ loN y) (hd : decode (cdN y) pc = .ok (.invokestatic ix, 3)) (kk : Ex l y k n (pc + 3) L (.int (iI (min a b)) :: st) σ Q) : Ex l y k n pc L (.int (iI b) :: .int (iI a) :: st) σ Q := by
  intro G p e R s m args below meth c0 A CE SE Qf hA hC hS hF H locs cells slots ls h1 h2 hL hW hR
  obtain ⟨hw, -⟩ := ctIn hc
  have hts := hA.2.2.2.2.2.2.2.2.1
  refine va_mmin hA.2.1 hA.2.2.1 (by rw [hA.2.2.2.1]; exact hL.1.symm) hA.2.2.2.2.2.1 (hts _ (tw (hw _ (by simp [ctW])) rfl)) (hts _ (tw (hw _ (by simp [ctW])) rfl)) (hts _ (tw (hw _ (by simp [ctW])) rfl)) (hts _ (tw (hw _ (by simp [ctW])) rfl)) (by rw [hA.2.2.2.2.2.2.2.2.2.2.1]; exact hh)
    (by rw [hA.2.2.2.2.2.2.2.2.2.2.2.1]; exact (by rw [cvs_cats]; exact hl : ((cvs G st).map fun v => v.category).sum + 13 ≤ loN y)) (by omega) (by omega) hd ?_
  have h := kk G p e R s m args below meth c0 A CE SE Qf hA hC hS hF H locs cells slots ls h1 h2 hL hW hR
  have e9 : (if iI b < iI a then iI b else iI a) = iI (min a b) := by
    by_cases hq : b < a
    · rw [if_pos ((iI_lt hb ha).mpr hq), Int.min_eq_right (by omega)]
    · rw [if_neg (fun z => hq ((iI_lt hb ha).mp z)), Int.min_eq_left (by omega)]
  rw [e9]
  exact h
theorem x_abs {ix t : Nat} {a : Int} {ps : List Nat} (ha : InR a) (hc : ctN (owN y) ix = some (7, t, ps)) (hh : 1 ≤ htN y) (hl : cats st + 13 ≤ loN y) (hd : decode (cdN y) pc = .ok (.invokestatic ix, 3)) (kk : Ex l y k n (pc + 3) L (.int (iI (if 0 ≤ a then a else -a)) :: st) σ Q) : Ex l y k n pc L (.int (iI a) :: st) σ Q := by
  intro G p e R s m args below meth c0 A CE SE Qf hA hC hS hF H locs cells slots ls h1 h2 hL hW hR
  obtain ⟨hw, -⟩ := ctIn hc
  have hts := hA.2.2.2.2.2.2.2.2.1
  refine va_mabs hA.2.1 hA.2.2.1 (by rw [hA.2.2.2.1]; exact hL.1.symm) hA.2.2.2.2.2.1 (hts _ (tw (hw _ (by simp [ctW])) rfl)) (hts _ (tw (hw _ (by simp [ctW])) rfl)) (hts _ (tw (hw _ (by simp [ctW])) rfl)) (hts _ (tw (hw _ (by simp [ctW])) rfl)) (by rw [hA.2.2.2.2.2.2.2.2.2.2.1]; exact hh)
    (by rw [hA.2.2.2.2.2.2.2.2.2.2.2.1]; exact (by rw [cvs_cats]; exact hl : ((cvs G st).map fun v => v.category).sum + 13 ≤ loN y)) (by omega) (by omega) hd ?_
  have h := kk G p e R s m args below meth c0 A CE SE Qf hA hC hS hF H locs cells slots ls h1 h2 hL hW hR
  have e9 : (if 0 ≤ iI a then iI a else 0 - iI a) = iI (if 0 ≤ a then a else -a) := by
    by_cases hq : 0 ≤ a
    · rw [iI_0, if_pos ((iI_le inR_0 ha).mpr hq), if_pos hq]
    · rw [iI_0, if_neg (fun z => hq ((iI_le inR_0 ha).mp z)), if_neg hq, iI_sub, Int.zero_sub]
  rw [e9]
  exact h
theorem x_copy {ix t a d m0 m1 : Nat} {sp dp w : Int} {ps : List Nat} (ho : isA σ a m0) (ho1 : isA σ d m1) (h0 : 0 ≤ sp) (h3 : 0 ≤ dp) (h4 : 0 ≤ w) (h5 : sp + w ≤ m0) (h6 : dp + w ≤ m1) (hm : m0 ≤ 100000) (hm1 : m1 ≤ 100000) (hc : ctN (owN y) ix = some (8, t, ps)) (hh : 1 ≤ htN y) (hl : cats st + (nativeFrameWords "java/lang/System" "arraycopy" 5 + 11) ≤ loN y) (hd : decode (cdN y) pc = .ok (.invokestatic ix, 3))
    (kk : Ex l y k n (pc + 3) L st (cp2 σ.1 a sp d dp w, σ.2) Q) : Ex l y k n pc L (.int (iI w) :: .int (iI dp) :: .ref d :: .int (iI sp) :: .ref a :: st) σ Q := by
  intro G p e R s m args below meth c0 A CE SE Qf hA hC hS hF H locs cells slots ls h1 h2 hL hW hR
  obtain ⟨hw, -⟩ := ctIn hc
  have hts := hA.2.2.2.2.2.2.2.2.1
  have hST := hA.2.2.2.2.2.2.2.2.2.2.2.2.2
  have r1 : InR sp := ⟨by omega, by omega⟩
  have r2 : InR dp := ⟨by omega, by omega⟩
  have r3 : InR w := ⟨by omega, by omega⟩
  rw [show cvs G (.int (iI w) :: .int (iI dp) :: .ref d :: .int (iI sp) :: .ref a :: st) = .int (iI w) :: .int (iI dp) :: .ref (adr G d) :: .int (iI sp) :: .ref (adr G a) :: cvs G st from rfl, adr_lt (Nat.lt_of_lt_of_le ho.1 hW.1), adr_lt (Nat.lt_of_lt_of_le ho1.1 hW.1)]
  refine va_copyi hA.2.1 hA.2.2.1 (by rw [hA.2.2.2.1]; exact hL.1.symm) hA.2.2.2.2.2.1 (hts _ (tw (hw _ (by simp [ctW])) rfl)) (hts _ (tw (hw _ (by simp [ctW])) rfl)) (hts _ (tw (hw _ (by simp [ctW])) rfl)) (hts _ (tw (hw _ (by simp [ctW])) rfl)) hST.1 hW.2.1 hW.2.2.1 hW.2.2.2 a d 0 0 (ty := .int) (by rw [wsO_get ho.1, cell_A ho.2]) (by rw [wsO_get ho1.1, cell_A ho1.2]) rfl rfl rfl
    (by rw [iI_0, iI_lt r1 inR_0]; omega) (by rw [iI_0, iI_lt r2 inR_0]; omega) (by rw [iI_0, iI_lt r3 inR_0]; omega) (by rw [iI_clamp r1, iI_clamp r3]; omega) (by rw [iI_clamp r2, iI_clamp r3]; omega) (fun _ _ => rfl) (by rw [hA.2.2.2.2.2.2.2.2.2.2.1]; exact hh)
    (by rw [hA.2.2.2.2.2.2.2.2.2.2.2.1]; exact (by rw [cvs_cats]; exact hl : ((cvs G st).map fun v => v.category).sum + (nativeFrameWords "java/lang/System" "arraycopy" 5 + 11) ≤ loN y)) hd (fun H1 locs1 hP hD hS1 => ?_)
  have heq : (wsO G σ).set d (G.2.2.2.2.2 + d, .inl (G.2.1.1, m1, .inl (va_cpy (fun j => iI (σ.1 a (j : Int))) (fun j => iI (σ.1 d (j : Int))) (iI sp).toNatClampNeg (iI dp).toNatClampNeg (iI w).toNatClampNeg))) = wsO G (cp2 σ.1 a sp d dp w, σ.2) := by
    refine wsO_set ho1.1 rfl ?_ (fun i hi _ => cell_same (fun b => if_neg (fun z => hi z.1)) (fun _ => rfl) rfl (fun _ => rfl))
    rw [cell_A (σ := (cp2 σ.1 a sp d dp w, σ.2)) ho1.2, iI_clamp r1, iI_clamp r2, iI_clamp r3]
    congr 4
    funext j
    show (if dp.toNat ≤ j ∧ j < dp.toNat + w.toNat then iI (σ.1 a ((sp.toNat + (j - dp.toNat) : Nat) : Int)) else iI (σ.1 d (j : Int))) = iI (cp2 σ.1 a sp d dp w d (j : Int))
    by_cases hj : dp.toNat ≤ j ∧ j < dp.toNat + w.toNat
    · rw [if_pos hj, show cp2 σ.1 a sp d dp w d (j : Int) = σ.1 a (sp + ((j : Int) - dp)) from if_pos ⟨rfl, by omega, by omega⟩, show ((sp.toNat + (j - dp.toNat) : Nat) : Int) = sp + ((j : Int) - dp) from by omega]
    · rw [if_neg hj, show cp2 σ.1 a sp d dp w d (j : Int) = σ.1 d j from if_neg (fun z => hj ⟨by omega, by omega⟩)]
  rw [heq] at hP hD
  exact kk G p e R s m args below meth c0 A CE SE Qf hA hC hS hF H1 locs1 cells slots ls h1 h2 hL ⟨hW.1, hP, hD, hS1⟩ hR
end Rows3
end
section
/-! ===== calls of the world's own methods ===== -/
theorem exLk0 : exL.all (fun e => lw_tbl.any (fun v => decide (v = .classLink (clsN e.1.1) e.1.2 (exc e.2))) && decide (e.2 < 3) && decide (¬ e.1.2 = 0)) = true := by decide +kernel
theorem exLk {o i e : Nat} (h : exN o i = some e) : Cond.classLink (clsN o) i (exc e) ∈ T0 ∧ e < 3 ∧ ¬ i = 0 := by
  unfold exN at h
  cases hf : exL.find? (fun e => e.1.1 == o && e.1.2 == i) with
  | none => rw [hf] at h; cases h
  | some f =>
    rw [hf] at h
    have h2 : f.2 = e := Option.some.inj h
    have h3 := List.find?_some hf
    simp only [Bool.and_eq_true, beq_iff_eq] at h3
    have h4 := List.all_eq_true.mp exLk0 f (List.mem_of_find?_eq_some hf)
    simp only [Bool.and_eq_true, decide_eq_true_eq, List.any_eq_true] at h4
    obtain ⟨⟨⟨v, hv, rfl⟩, h5⟩, h6⟩ := h4
    obtain ⟨⟨a, b⟩, g⟩ := f
    obtain ⟨rfl, rfl⟩ := h3
    subst h2
    exact ⟨tw hv rfl, h5, h6⟩
theorem exCa0 : (List.range 3).all (fun e => faL.any (fun v => decide (v = .castable (exc e) (exc e)))) = true := by decide +kernel
theorem exCa {e : Nat} (h : e < 3) : Cond.castable (exc e) (exc e) ∈ faL := by
  have := List.all_eq_true.mp exCa0 e (List.mem_range.mpr h)
  simp only [List.any_eq_true, decide_eq_true_eq] at this
  obtain ⟨v, hv, rfl⟩ := this
  exact hv
/-- how the handlers' table takes the exception E thrown at pc: the store's place behind the handler's first instruction, the local -/
def takes (y pc E pc2 i : Nat) : Prop := ∃ (pre suf : List (Nat × Nat × Nat × Nat)) (x : Nat × Nat × Nat × Nat), hhN y = pre ++ x :: suf ∧ (∀ z ∈ pre, ∃ e, exN (owN y) z.2.2.2 = some e ∧ e ≠ E) ∧ x.1 ≤ pc ∧ pc < x.2.1 ∧ exN (owN y) x.2.2.2 = some E ∧
  ((∃ f : Fin 4, (f : Nat) = i ∧ decode (cdN y) x.2.2.1 = .ok (.astore_n f, 1) ∧ pc2 = x.2.2.1 + 1) ∨ (decode (cdN y) x.2.2.1 = .ok (.astore i, 2) ∧ pc2 = x.2.2.1 + 2))
/-- an exception that a callee threw: it leaves this method too, or is taken -/
def XH (l : LX) (y k n pc : Nat) (L : LL) (Q : OO → Prop) (E : Nat) (τ : MM) : Prop := (hhN y = [] ∧ Q (.inr E, τ)) ∨ ∃ pc2 i : Nat, takes y pc E pc2 i ∧ i < mlN y ∧ ncA L i = true ∧ Ex l y k n pc2 (L.set i none) [] τ Q
section Calls2
variable {l : LX} {y k n pc : Nat} {L : LL} {σ : MM} {Q : OO → Prop}
theorem xh_w {E : Nat} {τ : MM} (h : XH l y k n pc L Q E τ) {G : GG} {p : Program} {e : Env} {R : Room} {s : State} {m : MethodId} {args : Array Value} {below : List Frame} {meth : Method} {c : Code} {A : Nat → Prop} {CE SE : Nat} {Qf : State → Prop}
    (hA : AMB l y G p R s m args meth c A) (hC : CE ≤ R.cells) (hS : SE ≤ R.slots) (hF : FIN l y G p e R s m args below meth c A CE SE Qf Q) {H : Heap} {locs : List Loc} {cells slots : Nat} {ls : Array Slot} {rest : List Value} (h1 : cells + k = CE) (h2 : slots + n = SE) (hL : LR G ls (mlN y) L) (hW : WOK G A s H locs τ) (hf : τ.2.2.2.2.2 = false)
    {q : Addr} {ce : Cell} (hce : H[q]? = some ce) (hv : ce.vm = .none) (hcl : s.vm.findClass (exc E) = some ce.cls) : vx_W p l.1 e R s m args below meth c H locs cells slots Qf (F0 m pc ls rest) q := by
  rcases h with ⟨h3, h4⟩ | ⟨pc2, i, ⟨pre, suf, x, e1, e2, e3, e4, e5, e6⟩, hi, hn, hk⟩
  · exact hF.2.2 H locs cells slots pc ls rest τ E q ce h3 (by omega) (by omega) hW hf h4 hce hv hcl
  · have hST := hA.2.2.2.2.2.2.2.2.2.2.2.2.2
    have hts := hA.2.2.2.2.2.2.2.2.1
    have htab := hA.2.2.2.2.2.2.2.2.2.1
    obtain ⟨w1, hE, hx0⟩ := exLk e5
    refine vx_catch (E := exc E) (name := exc E) hA.2.2.2.2.2.1 (tableOf pre) ⟨x.1, x.2.1, x.2.2.1, x.2.2.2⟩ (tableOf suf) (by rw [htab, e1]; unfold tableOf; rw [List.map_append]; rfl) (fun z hz => ?_) (by unfold covers; simp [e3, e4]) hx0 (hts _ w1)
      (by
        have h9 := exCa hE
        have h7 := (List.mem_filter.mp h9).2
        simp only [Bool.and_eq_true] at h7
        exact va_Nw.use h7.2 (hST.2.2.2.2.2.2.2.2.1 _ h9)) hce hv hcl ?_
    · unfold tableOf at hz
      obtain ⟨w, hw, rfl⟩ := List.mem_map.mp hz
      obtain ⟨e9, f1, f2⟩ := e2 w hw
      obtain ⟨g1, g2, g3⟩ := exLk f1
      exact Or.inr ⟨g3, exc e9, hts _ g1, hST.2.2.2.2.2.2.2.1 E e9 hE g2 (fun z => f2 z.symm)⟩
    · have hgo : ∀ ls', LR G ls' (mlN y) (L.set i none) → W p l.1 e R s m args below meth c H locs cells slots Qf (F0 m pc2 ls' []) := fun ls' hl' => hk G p e R s m args below meth c A CE SE Qf hA hC hS hF H locs cells slots ls' h1 h2 hl' hW (fun z => by rw [hf] at z; cases z)
      rcases e6 with ⟨f, rfl, hd, rfl⟩ | ⟨hd, rfl⟩
      · exact lv_astore_n (x := q) hA.2.1 hA.2.2.1 hd rfl hL.has hi rfl (fun ls' h' => hgo ls' (hL.st1 (fun v hv => by cases hv) hn h'))
      · exact lv_astore (x := q) hA.2.1 hA.2.2.1 hd hL.has hi rfl (fun ls' h' => hgo ls' (hL.st1 (fun v hv => by cases hv) hn h'))
/-- the goal of a call: what the callee's run gives -/
theorem x_call {k1 n1 : Nat} {st rest As : List Value} {Q1 : OO → Prop}
    (run : ∀ (G : GG) (p : Program) (e : Env) (R : Room) (s : State) (m : MethodId) (args : Array Value) (below : List Frame) (meth : Method) (c : Code) (A : Nat → Prop) (H : Heap) (locs : List Loc) (cells slots : Nat) (ls : Array Slot), AMB l y G p R s m args meth c A → cells + k1 ≤ R.cells → slots + n1 ≤ R.slots → LR G ls (mlN y) L → WOK G A s H locs σ → (σ.2.2.2.2.2 = true → H.size = G.2.2.2.2.2 + σ.2.2.2.1) →
      vx_Run p l.1 e R s m args below meth c H locs cells slots k1 n1 (F0 m pc ls (cvs G st)) (cvs G rest) (QW G σ H.size k1 Q1 (cvs G As).toArray) (XW G σ H.size k1 Q1) (va_A (wsO G σ) H.size))
    (hu : σ.2.2.2.2.2 = true ∨ ∀ (v : Option Value) (τ : MM), Q1 (.inl v, τ) → τ.2.2.2.2.2 = false) (kk : ∀ (v : Option Value) (τ : MM), Q1 (.inl v, τ) → Ex l y k n (pc + 3) L (v.toList ++ rest) τ Q) (kx : ∀ (E : Nat) (τ : MM), Q1 (.inr E, τ) → τ.2.2.2.2.2 = false → XH l y k n pc L Q E τ) : Ex l y (k1 + k) (n1 + n) pc L st σ Q := by
  intro G p e R s m args below meth c A CE SE Qf hA hC hS hF H locs cells slots ls h1 h2 hL hW hR
  refine W_by fun T hT X => ?_
  have hsz := size_of hW hR X hT
  refine cal_go (Q := Q1) (a := (cvs G As).toArray) hA hW (run G p e R s m args below meth c A H locs cells slots ls hA (by omega) (by omega) hL hW hsz) (fun v τ H1 locs1 hn hq hW1 hfr => ?_) (fun E τ H1 locs1 q ce hq hf hW1 hce hv hcl => ?_)
  · have h := kk v τ hq G p e R s m args below meth c A CE SE Qf hA hC hS hF H1 locs1 (cells + k1) (slots + n1) ls (by omega) (by omega) hL hW1 (fun z => by
      rcases hu with hu | hu
      · have e1 := hfr z
        have e2 := hsz hu
        have e3 := hR hu
        omega
      · have e1 := hu v τ hq
        rw [e1] at z
        cases z)
    have e1 : cvs G (v.toList ++ rest) = v.toList ++ cvs G rest := by
      cases v with
      | none => rfl
      | some w => cases w <;> first | rfl | exact absurd rfl (hn _)
    rw [e1] at h
    exact h
  · exact xh_w (kx E τ hq hf) hA hC hS hF (by omega) (by omega) hL hW1 hf hce hv hcl
theorem ctm {o i kd t : Nat} {ps : List Nat} (h : ctN o i = some (kd, t, ps)) : t < 332 := by
  have := (ctIn h).2
  simp only [ctB, Bool.and_eq_true, decide_eq_true_eq] at this
  exact this.1
theorem x_callV {ix t a k1 n1 : Nat} {ps : List Nat} {As rest : List Value} {st : List Value} {Q1 : OO → Prop} (hc : ctN (owN y) ix = some (0, t, ps)) (hCT : CT l t (.ref a :: As) σ k1 n1 Q1) (ho : isO σ a (owN t)) (hst : st = As.reverse ++ .ref a :: rest) (hlen : As.length = naN t) (hcat : cats rest ≤ 8) (hh : htN t + 1 ≤ htN y) (hlo : 8 + (mlN t + 11) + loN t ≤ loN y) (hd : decode (cdN y) pc = .ok (.invokevirtual ix, 3))
    (hu : σ.2.2.2.2.2 = true ∨ ∀ (v : Option Value) (τ : MM), Q1 (.inl v, τ) → τ.2.2.2.2.2 = false) (kk : ∀ (v : Option Value) (τ : MM), Q1 (.inl v, τ) → Ex l y k n (pc + 3) L (v.toList ++ rest) τ Q) (kx : ∀ (E : Nat) (τ : MM), Q1 (.inr E, τ) → τ.2.2.2.2.2 = false → XH l y k n pc L Q E τ) : Ex l y (k1 + k) (n1 + n) pc L st σ Q := by
  have ht := ctm hc
  obtain ⟨hw, hb9⟩ := ctIn hc
  simp only [ctB, Bool.and_eq_true, decide_eq_true_eq] at hb9
  obtain ⟨-, hh0, ho11⟩ := hb9
  refine x_call (rest := rest) (As := .ref a :: As) (Q1 := Q1) (fun G p e R s m args below meth c A H locs cells slots ls hA h1 h2 hL hW hsz => ?_) hu kk kx
  have hts := hA.2.2.2.2.2.2.2.2.1
  have hST := hA.2.2.2.2.2.2.2.2.2.2.2.2.2
  have hpre := (pre_of hA hW).2 (cvs G (.ref a :: As))
  have hcl : (ynN t).cls = clsN (owN t) := mtCls (by omega)
  have hno := mtNo (y := t) (by omega)
  have ha : adr G a = G.2.2.2.2.2 + a := adr_lt (Nat.lt_of_lt_of_le ho.1 hW.1)
  have hrec := va_recv hST.1 hW.2.1 (vwOk ho11) (by rw [wsO_get ho.1, cell_O ho.2])
  have e1 : cvs G (.ref a :: As) = .ref (G.2.2.2.2.2 + a) :: cvs G As := by
    show Value.ref (adr G a) :: cvs G As = _
    rw [ha]
  have hM := hCT G H.size hsz hA.1.2
  rw [e1] at hM hpre ⊢
  refine vx_runV (Ts := cdW t :: T0) (own := clsN (owN y)) (C := clsN (owN t)) (cc := cdN y) (nL := mlN y) (y := ynN t) (bytes := cdN t) (maxL := mlN t) (ret := rtN t) (ws := cdW t :: T0) (index := ix) (n := naN t) (b := G.2.2.2.2.2 + a) (As := cvs G As) ⟨hA.2.1, hA.2.2.1, hA.2.2.2.1, hA.2.2.2.2.2.1, ?_⟩ hM ?_ ⟨hpre.1, hrec, hpre.2⟩ rfl (by unfold cvs; rw [List.length_map]; exact hlen) hL.1 ?_ ?_ hd ⟨h1, h2⟩
  · intro w hw2
    rcases List.mem_cons.mp hw2 with rfl | h
    · exact hts _ (cpOk ht)
    · exact hts w h
  · refine cwV (naN t) (Ts := T0) (ws' := T0) hts (fun w hw2 => ?_) (by rw [cdW_plain hh0]) rfl rfl ⟨hcl, hno.1, hno.2, mtPar (by omega)⟩ ⟨by rw [hA.2.2.2.2.2.2.2.2.2.2.1]; exact hh, by rw [hA.2.2.2.2.2.2.2.2.2.2.2.1]; exact hlo⟩
    refine T0_good w ?_
    rcases List.mem_append.mp hw2 with h | h
    · rw [← hcl] at h
      simp only [List.mem_cons, List.not_mem_nil, or_false] at h
      rcases h with rfl | rfl | rfl | rfl <;> exact tw (hw _ (by simp [ctW])) rfl
    · rcases List.mem_cons.mp h with rfl | h
      · exact cpOk ht
      · exact h
  · rw [hst]
    show (As.reverse ++ Value.ref a :: rest).map (cv G) = _
    rw [List.map_append, List.map_reverse]
    show _ ++ Value.ref (adr G a) :: _ = _
    rw [ha]
    rfl
  · show 2 * 0 + ((cvs G rest).map fun v => v.category).sum ≤ 8
    rw [cvs_cats]
    omega
/-- static: of the same class (1), of a nest mate (3), with handlers (12) -/
theorem x_callS {ix t k1 n1 : Nat} {ps : List Nat} {As rest : List Value} {st : List Value} {Q1 : OO → Prop} (hc : ctN (owN y) ix = some (1, t, ps)) (hCT : CT l t As σ k1 n1 Q1) (hst : st = As.reverse ++ rest) (hlen : As.length = naN t) (hcat : cats rest ≤ 8) (hh : htN t + 1 ≤ htN y) (hlo : 8 + (mlN t + 11) + loN t ≤ loN y) (hown : owN t = owN y) (hd : decode (cdN y) pc = .ok (.invokestatic ix, 3))
    (hu : σ.2.2.2.2.2 = true ∨ ∀ (v : Option Value) (τ : MM), Q1 (.inl v, τ) → τ.2.2.2.2.2 = false) (kk : ∀ (v : Option Value) (τ : MM), Q1 (.inl v, τ) → Ex l y k n (pc + 3) L (v.toList ++ rest) τ Q) (kx : ∀ (E : Nat) (τ : MM), Q1 (.inr E, τ) → τ.2.2.2.2.2 = false → XH l y k n pc L Q E τ) : Ex l y (k1 + k) (n1 + n) pc L st σ Q := by
  have ht := ctm hc
  obtain ⟨hw, hb9⟩ := ctIn hc
  simp only [ctB, Bool.and_eq_true, decide_eq_true_eq] at hb9
  obtain ⟨-, hh0⟩ := hb9
  refine x_call (rest := rest) (As := As) (Q1 := Q1) (fun G p e R s m args below meth c A H locs cells slots ls hA h1 h2 hL hW hsz => ?_) hu kk kx
  have hts := hA.2.2.2.2.2.2.2.2.1
  have hpre := (pre_of hA hW).2 (cvs G As)
  have hcl : (ynN t).cls = clsN (owN t) := mtCls (by omega)
  have hno := mtNo (y := t) (by omega)
  have hM := hCT G H.size hsz hA.1.2
  refine vx_runS (Ts := cdW t :: T0) (own := clsN (owN y)) (cc := cdN y) (nL := mlN y) (y := ynN t) (bytes := cdN t) (maxL := mlN t) (ret := rtN t) (ws := cdW t :: T0) (index := ix) (n := naN t) (As := cvs G As) ⟨hA.2.1, hA.2.2.1, hA.2.2.2.1, hA.2.2.2.2.2.1, ?_⟩ hM ?_ hpre rfl (by unfold cvs; rw [List.length_map]; exact hlen) hL.1 ?_ ?_ hd ⟨h1, h2⟩
  · intro w hw2
    rcases List.mem_cons.mp hw2 with rfl | h
    · exact hts _ (cpOk ht)
    · exact hts w h
  · refine cwS (naN t) (Ts := T0) (ws' := T0) hts (fun w hw2 => ?_) (by rw [cdW_plain hh0]) rfl rfl ⟨by rw [hcl, hown], hno.1, hno.2, mtPar (by omega)⟩ ⟨by rw [hA.2.2.2.2.2.2.2.2.2.2.1]; exact hh, by rw [hA.2.2.2.2.2.2.2.2.2.2.2.1]; exact hlo⟩
    refine T0_good w ?_
    rcases List.mem_append.mp hw2 with h | h
    · rw [← hown, ← hcl, ] at h
      simp only [List.mem_cons, List.not_mem_nil, or_false] at h
      rcases h with rfl | rfl | rfl
      · have := hw (.methodLink (clsN (owN y)) ix (ynN t)) (by simp [ctW])
        rw [← hown, ← hcl] at this
        exact tw this rfl
      · exact tw (hw _ (by simp [ctW])) rfl
      · exact tw (hw _ (by simp [ctW])) rfl
    · rcases List.mem_cons.mp h with rfl | h
      · exact cpOk ht
      · exact h
  · rw [hst]
    show (As.reverse ++ rest).map (cv G) = _
    rw [List.map_append, List.map_reverse]
    rfl
  · show 2 * 0 + ((cvs G rest).map fun v => v.category).sum ≤ 8
    rw [cvs_cats]
    omega
theorem x_callSW {ix t k1 n1 : Nat} {ps : List Nat} {As rest : List Value} {st : List Value} {Q1 : OO → Prop} (hc : ctN (owN y) ix = some (12, t, ps)) (hCT : CT l t As σ k1 n1 Q1) (hst : st = As.reverse ++ rest) (hlen : As.length = naN t) (hcat : cats rest ≤ 8) (hh : htN t + 1 ≤ htN y) (hlo : 8 + (mlN t + 11) + loN t ≤ loN y) (hd : decode (cdN y) pc = .ok (.invokestatic ix, 3))
    (hu : σ.2.2.2.2.2 = true ∨ ∀ (v : Option Value) (τ : MM), Q1 (.inl v, τ) → τ.2.2.2.2.2 = false) (kk : ∀ (v : Option Value) (τ : MM), Q1 (.inl v, τ) → Ex l y k n (pc + 3) L (v.toList ++ rest) τ Q) (kx : ∀ (E : Nat) (τ : MM), Q1 (.inr E, τ) → τ.2.2.2.2.2 = false → XH l y k n pc L Q E τ) : Ex l y (k1 + k) (n1 + n) pc L st σ Q := by
  have ht := ctm hc
  obtain ⟨hw, hb9⟩ := ctIn hc
  simp only [ctB, Bool.and_eq_true, decide_eq_true_eq] at hb9
  obtain ⟨-, hh0⟩ := hb9
  refine x_call (rest := rest) (As := As) (Q1 := Q1) (fun G p e R s m args below meth c A H locs cells slots ls hA h1 h2 hL hW hsz => ?_) hu kk kx
  have hts := hA.2.2.2.2.2.2.2.2.1
  have hpre := (pre_of hA hW).2 (cvs G As)
  have hno := mtNo (y := t) (by omega)
  have hM := hCT G H.size hsz hA.1.2
  refine vx_runSX (hh := hhN t) (Ts := cdW t :: T0) (own := clsN (owN y)) (cc := cdN y) (nL := mlN y) (y := ynN t) (bytes := cdN t) (maxL := mlN t) (ret := rtN t) (ws := cdW t :: T0) (index := ix) (n := naN t) (As := cvs G As) ⟨hA.2.1, hA.2.2.1, hA.2.2.2.1, hA.2.2.2.2.2.1, ?_⟩ hM ?_ hpre rfl (by unfold cvs; rw [List.length_map]; exact hlen) hL.1 ?_ ?_ hd ⟨h1, h2⟩
  · intro w hw2
    rcases List.mem_cons.mp hw2 with rfl | h
    · exact hts _ (cpOk ht)
    · exact hts w h
  · refine vx_cwSW (naN t) (Ts := T0) (ws' := T0) hts (fun w hw2 => ?_) (by rw [cdW_with hh0]) rfl rfl ⟨hno.1, hno.2, mtPar (by omega)⟩ ⟨by rw [hA.2.2.2.2.2.2.2.2.2.2.1]; exact hh, by rw [hA.2.2.2.2.2.2.2.2.2.2.2.1]; exact hlo⟩
    refine T0_good w ?_
    rcases List.mem_append.mp hw2 with h | h
    · simp only [List.mem_cons, List.not_mem_nil, or_false] at h
      rcases h with rfl | rfl | rfl <;> exact tw (hw _ (by simp [ctW])) rfl
    · rcases List.mem_cons.mp h with rfl | h
      · exact cpOk ht
      · exact h
  · rw [hst]
    show (As.reverse ++ rest).map (cv G) = _
    rw [List.map_append, List.map_reverse]
    rfl
  · show 2 * 0 + ((cvs G rest).map fun v => v.category).sum ≤ 8
    rw [cvs_cats]
    omega
/-- a nest mate's static method -/
theorem x_callSN {ix t k1 n1 : Nat} {ps : List Nat} {As rest : List Value} {st : List Value} {Q1 : OO → Prop} (hc : ctN (owN y) ix = some (3, t, ps)) (hCT : CT l t As σ k1 n1 Q1) (hst : st = As.reverse ++ rest) (hlen : As.length = naN t) (hcat : cats rest ≤ 8) (hh : htN t + 1 ≤ htN y) (hlo : 8 + (mlN t + 11) + loN t ≤ loN y) (hd : decode (cdN y) pc = .ok (.invokestatic ix, 3))
    (hu : σ.2.2.2.2.2 = true ∨ ∀ (v : Option Value) (τ : MM), Q1 (.inl v, τ) → τ.2.2.2.2.2 = false) (kk : ∀ (v : Option Value) (τ : MM), Q1 (.inl v, τ) → Ex l y k n (pc + 3) L (v.toList ++ rest) τ Q) (kx : ∀ (E : Nat) (τ : MM), Q1 (.inr E, τ) → τ.2.2.2.2.2 = false → XH l y k n pc L Q E τ) : Ex l y (k1 + k) (n1 + n) pc L st σ Q := by
  have ht := ctm hc
  obtain ⟨hw, hb9⟩ := ctIn hc
  simp only [ctB, Bool.and_eq_true, decide_eq_true_eq] at hb9
  obtain ⟨-, hne, hh0⟩ := hb9
  refine x_call (rest := rest) (As := As) (Q1 := Q1) (fun G p e R s m args below meth c A H locs cells slots ls hA h1 h2 hL hW hsz => ?_) hu kk kx
  have hts := hA.2.2.2.2.2.2.2.2.1
  have hST := hA.2.2.2.2.2.2.2.2.2.2.2.2.2
  have hpre := (pre_of hA hW).2 (cvs G As)
  have hno := mtNo (y := t) (by omega)
  have hM := hCT G H.size hsz hA.1.2
  refine vx_runSN (host := neH) (Ts := cdW t :: T0) (own := clsN (owN y)) (cc := cdN y) (nL := mlN y) (y := ynN t) (bytes := cdN t) (maxL := mlN t) (ret := rtN t) (ws := cdW t :: T0) (index := ix) (n := naN t) (As := cvs G As) ⟨hA.2.1, hA.2.2.1, hA.2.2.2.1, hA.2.2.2.2.2.1, ?_⟩ hM ⟨?_, hts _ (tw (hw _ (by simp [ctW])) rfl), trivial⟩ hpre rfl (by unfold cvs; rw [List.length_map]; exact hlen) hL.1 ?_ ?_ hd ⟨h1, h2⟩
  · intro w hw2
    rcases List.mem_cons.mp hw2 with rfl | h
    · exact hts _ (cpOk ht)
    · exact hts w h
  · refine va_cnB (naN t) (Ts := T0) (ws' := T0) hts (fun w hw2 => T0_good w ?_) (by rw [cdW_plain hh0]) rfl rfl (hST.2.2.2.2.2.2.1 _ hne) (hts _ (tw (hw _ (by simp [ctW])) rfl)) ⟨hno.1, hno.2, mtPar (by omega)⟩ ⟨by rw [hA.2.2.2.2.2.2.2.2.2.2.1]; exact hh, by rw [hA.2.2.2.2.2.2.2.2.2.2.2.1]; exact hlo⟩
    rcases List.mem_cons.mp hw2 with rfl | h
    · exact cpOk ht
    · exact h
  · rw [hst]
    show (As.reverse ++ rest).map (cv G) = _
    rw [List.map_append, List.map_reverse]
    rfl
  · show 2 * 0 + ((cvs G rest).map fun v => v.category).sum ≤ 8
    rw [cvs_cats]
    omega
/-- constructors: of the same nest by name (2), of a nest mate (4) -/
theorem x_callI {ix t a k1 n1 : Nat} {ps : List Nat} {As rest : List Value} {st : List Value} {Q1 : OO → Prop} (hc : ctN (owN y) ix = some (2, t, ps)) (hCT : CT l t (.ref a :: As) σ k1 n1 Q1) (hlt : a < scr) (hst : st = As.reverse ++ .ref a :: rest) (hlen : As.length = naN t) (hcat : cats rest ≤ 8) (hh : htN t + 1 ≤ htN y) (hlo : 8 + (mlN t + 11) + loN t ≤ loN y) (hd : decode (cdN y) pc = .ok (.invokespecial ix, 3))
    (hu : σ.2.2.2.2.2 = true ∨ ∀ (v : Option Value) (τ : MM), Q1 (.inl v, τ) → τ.2.2.2.2.2 = false) (kk : ∀ (v : Option Value) (τ : MM), Q1 (.inl v, τ) → Ex l y k n (pc + 3) L (v.toList ++ rest) τ Q) (kx : ∀ (E : Nat) (τ : MM), Q1 (.inr E, τ) → τ.2.2.2.2.2 = false → XH l y k n pc L Q E τ) : Ex l y (k1 + k) (n1 + n) pc L st σ Q := by
  have ht := ctm hc
  obtain ⟨hw, hb9⟩ := ctIn hc
  simp only [ctB, Bool.and_eq_true, decide_eq_true_eq] at hb9
  obtain ⟨-, ⟨hh0, hnm⟩, hrt⟩ := hb9
  refine x_call (rest := rest) (As := .ref a :: As) (Q1 := Q1) (fun G p e R s m args below meth c A H locs cells slots ls hA h1 h2 hL hW hsz => ?_) hu kk kx
  have hts := hA.2.2.2.2.2.2.2.2.1
  have hpre := (pre_of hA hW).2 (cvs G (.ref a :: As))
  have hno := mtNo (y := t) (by omega)
  have ha : adr G a = G.2.2.2.2.2 + a := adr_lt hlt
  have e1 : cvs G (.ref a :: As) = .ref (G.2.2.2.2.2 + a) :: cvs G As := by
    show Value.ref (adr G a) :: cvs G As = _
    rw [ha]
  have hM := hCT G H.size hsz hA.1.2
  rw [e1] at hM hpre ⊢
  refine vx_runI (Ts := cdW t :: T0) (own := clsN (owN y)) (cc := cdN y) (nL := mlN y) (y := ynN t) (bytes := cdN t) (maxL := mlN t) (ws := cdW t :: T0) (index := ix) (n := naN t) (b := G.2.2.2.2.2 + a) (As := cvs G As) ⟨hA.2.1, hA.2.2.1, hA.2.2.2.1, hA.2.2.2.2.2.1, ?_⟩ hM ?_ hpre rfl (by unfold cvs; rw [List.length_map]; exact hlen) hL.1 ?_ ?_ hd ⟨h1, h2⟩
  · intro w hw2
    rcases List.mem_cons.mp hw2 with rfl | h
    · exact hts _ (cpOk ht)
    · exact hts w h
  · refine cwI (naN t) (Ts := T0) (ws' := T0) hts (fun w hw2 => T0_good w ?_) (by rw [cdW_plain hh0, hrt]) rfl rfl (hts _ (tw (hw _ (by simp [ctW])) rfl)) (hts _ (tw (hw _ (by simp [ctW])) rfl)) (hts _ (tw (hw _ (by simp [ctW])) rfl)) hnm ⟨hno.1, hno.2, mtPar (by omega)⟩ ⟨by rw [hA.2.2.2.2.2.2.2.2.2.2.1]; exact hh, by rw [hA.2.2.2.2.2.2.2.2.2.2.2.1]; exact hlo⟩
    rcases List.mem_cons.mp hw2 with rfl | h
    · exact cpOk ht
    · exact h
  · rw [hst]
    show (As.reverse ++ Value.ref a :: rest).map (cv G) = _
    rw [List.map_append, List.map_reverse]
    show _ ++ Value.ref (adr G a) :: _ = _
    rw [ha]
    rfl
  · show 2 * 0 + ((cvs G rest).map fun v => v.category).sum ≤ 8
    rw [cvs_cats]
    omega
theorem x_callIN {ix t a k1 n1 : Nat} {ps : List Nat} {As rest : List Value} {st : List Value} {Q1 : OO → Prop} (hc : ctN (owN y) ix = some (4, t, ps)) (hCT : CT l t (.ref a :: As) σ k1 n1 Q1) (hlt : a < scr) (hst : st = As.reverse ++ .ref a :: rest) (hlen : As.length = naN t) (hcat : cats rest ≤ 8) (hh : htN t + 1 ≤ htN y) (hlo : 8 + (mlN t + 11) + loN t ≤ loN y) (hd : decode (cdN y) pc = .ok (.invokespecial ix, 3))
    (hu : σ.2.2.2.2.2 = true ∨ ∀ (v : Option Value) (τ : MM), Q1 (.inl v, τ) → τ.2.2.2.2.2 = false) (kk : ∀ (v : Option Value) (τ : MM), Q1 (.inl v, τ) → Ex l y k n (pc + 3) L (v.toList ++ rest) τ Q) (kx : ∀ (E : Nat) (τ : MM), Q1 (.inr E, τ) → τ.2.2.2.2.2 = false → XH l y k n pc L Q E τ) : Ex l y (k1 + k) (n1 + n) pc L st σ Q := by
  have ht := ctm hc
  obtain ⟨hw, hb9⟩ := ctIn hc
  simp only [ctB, Bool.and_eq_true, decide_eq_true_eq] at hb9
  obtain ⟨-, ⟨⟨hne, hh0⟩, hnm⟩, hrt⟩ := hb9
  refine x_call (rest := rest) (As := .ref a :: As) (Q1 := Q1) (fun G p e R s m args below meth c A H locs cells slots ls hA h1 h2 hL hW hsz => ?_) hu kk kx
  have hts := hA.2.2.2.2.2.2.2.2.1
  have hST := hA.2.2.2.2.2.2.2.2.2.2.2.2.2
  have hpre := (pre_of hA hW).2 (cvs G (.ref a :: As))
  have hno := mtNo (y := t) (by omega)
  have ha : adr G a = G.2.2.2.2.2 + a := adr_lt hlt
  have e1 : cvs G (.ref a :: As) = .ref (G.2.2.2.2.2 + a) :: cvs G As := by
    show Value.ref (adr G a) :: cvs G As = _
    rw [ha]
  have hM := hCT G H.size hsz hA.1.2
  rw [e1] at hM hpre ⊢
  refine vx_runIN (host := neH) (Ts := cdW t :: T0) (own := clsN (owN y)) (cc := cdN y) (nL := mlN y) (y := ynN t) (bytes := cdN t) (maxL := mlN t) (ws := cdW t :: T0) (index := ix) (n := naN t) (b := G.2.2.2.2.2 + a) (As := cvs G As) ⟨hA.2.1, hA.2.2.1, hA.2.2.2.1, hA.2.2.2.2.2.1, ?_⟩ hM ⟨?_, hnm, hts _ (tw (hw _ (by simp [ctW])) rfl)⟩ hpre rfl (by unfold cvs; rw [List.length_map]; exact hlen) hL.1 ?_ ?_ hd ⟨h1, h2⟩
  · intro w hw2
    rcases List.mem_cons.mp hw2 with rfl | h
    · exact hts _ (cpOk ht)
    · exact hts w h
  · refine va_cnB (naN t) (Ts := T0) (ws' := T0) hts (fun w hw2 => T0_good w ?_) (by rw [cdW_plain hh0, hrt]) rfl rfl (hST.2.2.2.2.2.2.1 _ hne) (hts _ (tw (hw _ (by simp [ctW])) rfl)) ⟨hno.1, hno.2, mtPar (by omega)⟩ ⟨by rw [hA.2.2.2.2.2.2.2.2.2.2.1]; exact hh, by rw [hA.2.2.2.2.2.2.2.2.2.2.2.1]; exact hlo⟩
    rcases List.mem_cons.mp hw2 with rfl | h
    · exact cpOk ht
    · exact h
  · rw [hst]
    show (As.reverse ++ Value.ref a :: rest).map (cv G) = _
    rw [List.map_append, List.map_reverse]
    show _ ++ Value.ref (adr G a) :: _ = _
    rw [ha]
    rfl
  · show 2 * 0 + ((cvs G rest).map fun v => v.category).sum ≤ 8
    rw [cvs_cats]
    omega
end Calls2
end
section
/-! ===== the layout after construction ===== -/
def K0L : List Nat := [95, 75, 5000, 75, 530, 85, 5, 300, 300, 300, 300, 65, 480, 60, 45, 81, 55, 120, 120, 25, 30, 30, 30, 35, 480, 480, 480, 480, 2880, 2880, 15, 55, 120, 120, 25, 30, 30, 30, 35, 480, 480, 480, 480, 2880, 2880, 15, 55, 120, 120, 25, 30, 30, 30, 35, 480, 480, 480, 480, 2880, 2880, 15, 55, 120, 120, 25, 30, 30, 30, 35, 480, 480, 480, 480, 2880, 2880, 15, 55, 120, 120, 25, 30, 30, 30, 35, 480, 480, 480, 480, 2880, 2880, 15, 55, 120, 120, 25, 30, 30, 30, 35, 480, 480, 480, 480, 2880, 2880, 15, 55, 120, 120, 25, 30, 30, 30, 35, 480, 480, 480, 480, 2880, 2880, 15, 55, 120, 120, 25, 30, 30, 30, 35, 480, 480, 480, 480, 2880, 2880, 15, 55, 120, 120, 25, 30, 30, 30, 35, 480, 480, 480, 480, 2880, 2880, 15, 55, 120, 120, 25, 30, 30, 30, 35, 480, 480, 480, 480, 2880, 2880, 15, 55, 120, 120, 25, 30, 30, 30, 35, 480, 480, 480, 480, 2880, 2880, 15, 105, 10110, 10110, 10110, 10110, 80880, 160, 60, 5000, 5400, 600, 12]
def K0 (a : Nat) : Nat := K0L.getD a 0
def R0L : List (List (Option Nat)) := [[some 1, some 3, some 5, some 6, some 11, some 14, some 136, some 151, some 166], [some 2], [], [some 4], [], [some 1], [none, some 7, some 8, some 9, some 10], [], [], [], [], [some 12, some 13], [], [], [none, none, some 15], [some 16, some 31, some 46, some 61, some 76, some 91, some 106, some 121], [none, none, none, none, none, none, none, none, some 17, some 18, some 19, some 23, some 30], [], [], [none, some 20, some 21, some 22], [], [], [], [none, some 24, some 25, some 26, some 27, some 28, some 29], [], [], [], [], [], [], [], [none, none, none, none, none, none, none, none, some 32, some 33, some 34, some 38, some 45], [], [], [none, some 35, some 36, some 37], [], [], [], [none, some 39, some 40, some 41, some 42, some 43, some 44], [], [], [], [], [], [], [], [none, none, none, none, none, none, none, none, some 47, some 48, some 49, some 53, some 60], [], [], [none, some 50, some 51, some 52], [], [], [], [none, some 54, some 55, some 56, some 57, some 58, some 59], [], [], [], [], [], [], [], [none, none, none, none, none, none, none, none, some 62, some 63, some 64, some 68, some 75], [], [], [none, some 65, some 66, some 67], [], [], [], [none, some 69, some 70, some 71, some 72, some 73, some 74], [], [], [], [], [], [], [], [none, none, none, none, none, none, none, none, some 77, some 78, some 79, some 83, some 90], [], [], [none, some 80, some 81, some 82], [], [], [], [none, some 84, some 85, some 86, some 87, some 88, some 89], [], [], [], [], [], [], [], [none, none, none, none, none, none, none, none, some 92, some 93, some 94, some 98, some 105], [], [], [none, some 95, some 96, some 97], [], [], [], [none, some 99, some 100, some 101, some 102, some 103, some 104], [], [], [], [], [], [], [], [none, none, none, none, none, none, none, none, some 107, some 108, some 109, some 113, some 120], [], [], [none, some 110, some 111, some 112], [], [], [], [none, some 114, some 115, some 116, some 117, some 118, some 119], [], [], [], [], [], [], [], [none, none, none, none, none, none, none, none, some 122, some 123, some 124, some 128, some 135], [], [], [none, some 125, some 126, some 127], [], [], [], [none, some 129, some 130, some 131, some 132, some 133, some 134], [], [], [], [], [], [], [], [none, none, none, none, none, none, none, none, some 137, some 138, some 139, some 143, some 150], [], [], [none, some 140, some 141, some 142], [], [], [], [none, some 144, some 145, some 146, some 147, some 148, some 149], [], [], [], [], [], [], [], [none, none, none, none, none, none, none, none, some 152, some 153, some 154, some 158, some 165], [], [], [none, some 155, some 156, some 157], [], [], [], [none, some 159, some 160, some 161, some 162, some 163, some 164], [], [], [], [], [], [], [], [none, none, none, none, none, none, none, none, some 167, some 168, some 169, some 173, some 180], [], [], [none, some 170, some 171, some 172], [], [], [], [none, some 174, some 175, some 176, some 177, some 178, some 179], [], [], [], [], [], [], [], [some 182, some 183, some 184, some 185, some 186, none, none, none, some 187, some 188, none, some 189, none, none, none, none, none, none, none, none, some 190, none, some 191], [], [], [], [], [], [], [], [], [], [], []]
def R0 (a j : Nat) : Option Nat := (R0L.getD a []).getD j none
/-- the memory with this layout: the number of places, the ints, the long cell, whether cells are counted -/
def mm (q : Nat) (I : Nat → Int → Int) (v : Int) (fr : Bool) : MM := (I, R0, K0, q, v, fr)
section Lay
variable {q : Nat} {I : Nat → Int → Int} {v : Int} {fr : Bool}
theorem ko_of {a c N : Nat} (h : a < N) (hK : K0 a = 10 * c + 5) (hq : N ≤ q) : isO (mm q I v fr) a c := ⟨Nat.lt_of_lt_of_le h hq, hK⟩
theorem ka_of {a n N : Nat} (h : a < N) (hK : K0 a = 10 * n) (hq : N ≤ q) : isA (mm q I v fr) a n := ⟨Nat.lt_of_lt_of_le h hq, hK⟩
theorem kr_of {a n N : Nat} (h : a < N) (hK : K0 a = 10 * n + 1) (hq : N ≤ q) : isR (mm q I v fr) a n := ⟨Nat.lt_of_lt_of_le h hq, hK⟩
theorem ko0 (hq : 181 ≤ q) : isO (mm q I v fr) 0 9 := ko_of (N := 181) (by decide) (by decide +kernel) hq
theorem ko1 (hq : 181 ≤ q) : isO (mm q I v fr) 1 7 := ko_of (N := 181) (by decide) (by decide +kernel) hq
theorem ka2 (hq : 181 ≤ q) : isA (mm q I v fr) 2 500 := ka_of (N := 181) (by decide) (by decide +kernel) hq
theorem ko3 (hq : 181 ≤ q) : isO (mm q I v fr) 3 7 := ko_of (N := 181) (by decide) (by decide +kernel) hq
theorem ka4 (hq : 181 ≤ q) : isA (mm q I v fr) 4 53 := ka_of (N := 181) (by decide) (by decide +kernel) hq
theorem ko5 (hq : 181 ≤ q) : isO (mm q I v fr) 5 8 := ko_of (N := 181) (by decide) (by decide +kernel) hq
theorem ko6 (hq : 181 ≤ q) : isO (mm q I v fr) 6 0 := ko_of (N := 181) (by decide) (by decide +kernel) hq
theorem ka7 (hq : 181 ≤ q) : isA (mm q I v fr) 7 30 := ka_of (N := 181) (by decide) (by decide +kernel) hq
theorem ka8 (hq : 181 ≤ q) : isA (mm q I v fr) 8 30 := ka_of (N := 181) (by decide) (by decide +kernel) hq
theorem ka9 (hq : 181 ≤ q) : isA (mm q I v fr) 9 30 := ka_of (N := 181) (by decide) (by decide +kernel) hq
theorem ka10 (hq : 181 ≤ q) : isA (mm q I v fr) 10 30 := ka_of (N := 181) (by decide) (by decide +kernel) hq
theorem ko11 (hq : 181 ≤ q) : isO (mm q I v fr) 11 6 := ko_of (N := 181) (by decide) (by decide +kernel) hq
theorem ka12 (hq : 181 ≤ q) : isA (mm q I v fr) 12 48 := ka_of (N := 181) (by decide) (by decide +kernel) hq
theorem ka13 (hq : 181 ≤ q) : isA (mm q I v fr) 13 6 := ka_of (N := 181) (by decide) (by decide +kernel) hq
theorem ko14 (hq : 181 ≤ q) : isO (mm q I v fr) 14 4 := ko_of (N := 181) (by decide) (by decide +kernel) hq
theorem kr15 (hq : 181 ≤ q) : isR (mm q I v fr) 15 8 := kr_of (N := 181) (by decide) (by decide +kernel) hq
theorem ko16 (hq : 181 ≤ q) : isO (mm q I v fr) 16 5 := ko_of (N := 181) (by decide) (by decide +kernel) hq
theorem ka17 (hq : 181 ≤ q) : isA (mm q I v fr) 17 12 := ka_of (N := 181) (by decide) (by decide +kernel) hq
theorem ka18 (hq : 181 ≤ q) : isA (mm q I v fr) 18 12 := ka_of (N := 181) (by decide) (by decide +kernel) hq
theorem ko19 (hq : 181 ≤ q) : isO (mm q I v fr) 19 2 := ko_of (N := 181) (by decide) (by decide +kernel) hq
theorem ka20 (hq : 181 ≤ q) : isA (mm q I v fr) 20 3 := ka_of (N := 181) (by decide) (by decide +kernel) hq
theorem ka21 (hq : 181 ≤ q) : isA (mm q I v fr) 21 3 := ka_of (N := 181) (by decide) (by decide +kernel) hq
theorem ka22 (hq : 181 ≤ q) : isA (mm q I v fr) 22 3 := ka_of (N := 181) (by decide) (by decide +kernel) hq
theorem ko23 (hq : 181 ≤ q) : isO (mm q I v fr) 23 3 := ko_of (N := 181) (by decide) (by decide +kernel) hq
theorem ka24 (hq : 181 ≤ q) : isA (mm q I v fr) 24 48 := ka_of (N := 181) (by decide) (by decide +kernel) hq
theorem ka25 (hq : 181 ≤ q) : isA (mm q I v fr) 25 48 := ka_of (N := 181) (by decide) (by decide +kernel) hq
theorem ka26 (hq : 181 ≤ q) : isA (mm q I v fr) 26 48 := ka_of (N := 181) (by decide) (by decide +kernel) hq
theorem ka27 (hq : 181 ≤ q) : isA (mm q I v fr) 27 48 := ka_of (N := 181) (by decide) (by decide +kernel) hq
theorem ka28 (hq : 181 ≤ q) : isA (mm q I v fr) 28 288 := ka_of (N := 181) (by decide) (by decide +kernel) hq
theorem ka29 (hq : 181 ≤ q) : isA (mm q I v fr) 29 288 := ka_of (N := 181) (by decide) (by decide +kernel) hq
theorem ko30 (hq : 181 ≤ q) : isO (mm q I v fr) 30 1 := ko_of (N := 181) (by decide) (by decide +kernel) hq
theorem ko31 (hq : 181 ≤ q) : isO (mm q I v fr) 31 5 := ko_of (N := 181) (by decide) (by decide +kernel) hq
theorem ka32 (hq : 181 ≤ q) : isA (mm q I v fr) 32 12 := ka_of (N := 181) (by decide) (by decide +kernel) hq
theorem ka33 (hq : 181 ≤ q) : isA (mm q I v fr) 33 12 := ka_of (N := 181) (by decide) (by decide +kernel) hq
theorem ko34 (hq : 181 ≤ q) : isO (mm q I v fr) 34 2 := ko_of (N := 181) (by decide) (by decide +kernel) hq
theorem ka35 (hq : 181 ≤ q) : isA (mm q I v fr) 35 3 := ka_of (N := 181) (by decide) (by decide +kernel) hq
theorem ka36 (hq : 181 ≤ q) : isA (mm q I v fr) 36 3 := ka_of (N := 181) (by decide) (by decide +kernel) hq
theorem ka37 (hq : 181 ≤ q) : isA (mm q I v fr) 37 3 := ka_of (N := 181) (by decide) (by decide +kernel) hq
theorem ko38 (hq : 181 ≤ q) : isO (mm q I v fr) 38 3 := ko_of (N := 181) (by decide) (by decide +kernel) hq
theorem ka39 (hq : 181 ≤ q) : isA (mm q I v fr) 39 48 := ka_of (N := 181) (by decide) (by decide +kernel) hq
theorem ka40 (hq : 181 ≤ q) : isA (mm q I v fr) 40 48 := ka_of (N := 181) (by decide) (by decide +kernel) hq
theorem ka41 (hq : 181 ≤ q) : isA (mm q I v fr) 41 48 := ka_of (N := 181) (by decide) (by decide +kernel) hq
theorem ka42 (hq : 181 ≤ q) : isA (mm q I v fr) 42 48 := ka_of (N := 181) (by decide) (by decide +kernel) hq
theorem ka43 (hq : 181 ≤ q) : isA (mm q I v fr) 43 288 := ka_of (N := 181) (by decide) (by decide +kernel) hq
theorem ka44 (hq : 181 ≤ q) : isA (mm q I v fr) 44 288 := ka_of (N := 181) (by decide) (by decide +kernel) hq
theorem ko45 (hq : 181 ≤ q) : isO (mm q I v fr) 45 1 := ko_of (N := 181) (by decide) (by decide +kernel) hq
theorem ko46 (hq : 181 ≤ q) : isO (mm q I v fr) 46 5 := ko_of (N := 181) (by decide) (by decide +kernel) hq
theorem ka47 (hq : 181 ≤ q) : isA (mm q I v fr) 47 12 := ka_of (N := 181) (by decide) (by decide +kernel) hq
theorem ka48 (hq : 181 ≤ q) : isA (mm q I v fr) 48 12 := ka_of (N := 181) (by decide) (by decide +kernel) hq
theorem ko49 (hq : 181 ≤ q) : isO (mm q I v fr) 49 2 := ko_of (N := 181) (by decide) (by decide +kernel) hq
theorem ka50 (hq : 181 ≤ q) : isA (mm q I v fr) 50 3 := ka_of (N := 181) (by decide) (by decide +kernel) hq
theorem ka51 (hq : 181 ≤ q) : isA (mm q I v fr) 51 3 := ka_of (N := 181) (by decide) (by decide +kernel) hq
theorem ka52 (hq : 181 ≤ q) : isA (mm q I v fr) 52 3 := ka_of (N := 181) (by decide) (by decide +kernel) hq
theorem ko53 (hq : 181 ≤ q) : isO (mm q I v fr) 53 3 := ko_of (N := 181) (by decide) (by decide +kernel) hq
theorem ka54 (hq : 181 ≤ q) : isA (mm q I v fr) 54 48 := ka_of (N := 181) (by decide) (by decide +kernel) hq
theorem ka55 (hq : 181 ≤ q) : isA (mm q I v fr) 55 48 := ka_of (N := 181) (by decide) (by decide +kernel) hq
theorem ka56 (hq : 181 ≤ q) : isA (mm q I v fr) 56 48 := ka_of (N := 181) (by decide) (by decide +kernel) hq
theorem ka57 (hq : 181 ≤ q) : isA (mm q I v fr) 57 48 := ka_of (N := 181) (by decide) (by decide +kernel) hq
theorem ka58 (hq : 181 ≤ q) : isA (mm q I v fr) 58 288 := ka_of (N := 181) (by decide) (by decide +kernel) hq
theorem ka59 (hq : 181 ≤ q) : isA (mm q I v fr) 59 288 := ka_of (N := 181) (by decide) (by decide +kernel) hq
theorem ko60 (hq : 181 ≤ q) : isO (mm q I v fr) 60 1 := ko_of (N := 181) (by decide) (by decide +kernel) hq
theorem ko61 (hq : 181 ≤ q) : isO (mm q I v fr) 61 5 := ko_of (N := 181) (by decide) (by decide +kernel) hq
theorem ka62 (hq : 181 ≤ q) : isA (mm q I v fr) 62 12 := ka_of (N := 181) (by decide) (by decide +kernel) hq
theorem ka63 (hq : 181 ≤ q) : isA (mm q I v fr) 63 12 := ka_of (N := 181) (by decide) (by decide +kernel) hq
theorem ko64 (hq : 181 ≤ q) : isO (mm q I v fr) 64 2 := ko_of (N := 181) (by decide) (by decide +kernel) hq
theorem ka65 (hq : 181 ≤ q) : isA (mm q I v fr) 65 3 := ka_of (N := 181) (by decide) (by decide +kernel) hq
theorem ka66 (hq : 181 ≤ q) : isA (mm q I v fr) 66 3 := ka_of (N := 181) (by decide) (by decide +kernel) hq
theorem ka67 (hq : 181 ≤ q) : isA (mm q I v fr) 67 3 := ka_of (N := 181) (by decide) (by decide +kernel) hq
theorem ko68 (hq : 181 ≤ q) : isO (mm q I v fr) 68 3 := ko_of (N := 181) (by decide) (by decide +kernel) hq
theorem ka69 (hq : 181 ≤ q) : isA (mm q I v fr) 69 48 := ka_of (N := 181) (by decide) (by decide +kernel) hq
theorem ka70 (hq : 181 ≤ q) : isA (mm q I v fr) 70 48 := ka_of (N := 181) (by decide) (by decide +kernel) hq
theorem ka71 (hq : 181 ≤ q) : isA (mm q I v fr) 71 48 := ka_of (N := 181) (by decide) (by decide +kernel) hq
theorem ka72 (hq : 181 ≤ q) : isA (mm q I v fr) 72 48 := ka_of (N := 181) (by decide) (by decide +kernel) hq
theorem ka73 (hq : 181 ≤ q) : isA (mm q I v fr) 73 288 := ka_of (N := 181) (by decide) (by decide +kernel) hq
theorem ka74 (hq : 181 ≤ q) : isA (mm q I v fr) 74 288 := ka_of (N := 181) (by decide) (by decide +kernel) hq
theorem ko75 (hq : 181 ≤ q) : isO (mm q I v fr) 75 1 := ko_of (N := 181) (by decide) (by decide +kernel) hq
theorem ko76 (hq : 181 ≤ q) : isO (mm q I v fr) 76 5 := ko_of (N := 181) (by decide) (by decide +kernel) hq
theorem ka77 (hq : 181 ≤ q) : isA (mm q I v fr) 77 12 := ka_of (N := 181) (by decide) (by decide +kernel) hq
theorem ka78 (hq : 181 ≤ q) : isA (mm q I v fr) 78 12 := ka_of (N := 181) (by decide) (by decide +kernel) hq
theorem ko79 (hq : 181 ≤ q) : isO (mm q I v fr) 79 2 := ko_of (N := 181) (by decide) (by decide +kernel) hq
theorem ka80 (hq : 181 ≤ q) : isA (mm q I v fr) 80 3 := ka_of (N := 181) (by decide) (by decide +kernel) hq
theorem ka81 (hq : 181 ≤ q) : isA (mm q I v fr) 81 3 := ka_of (N := 181) (by decide) (by decide +kernel) hq
theorem ka82 (hq : 181 ≤ q) : isA (mm q I v fr) 82 3 := ka_of (N := 181) (by decide) (by decide +kernel) hq
theorem ko83 (hq : 181 ≤ q) : isO (mm q I v fr) 83 3 := ko_of (N := 181) (by decide) (by decide +kernel) hq
theorem ka84 (hq : 181 ≤ q) : isA (mm q I v fr) 84 48 := ka_of (N := 181) (by decide) (by decide +kernel) hq
theorem ka85 (hq : 181 ≤ q) : isA (mm q I v fr) 85 48 := ka_of (N := 181) (by decide) (by decide +kernel) hq
theorem ka86 (hq : 181 ≤ q) : isA (mm q I v fr) 86 48 := ka_of (N := 181) (by decide) (by decide +kernel) hq
theorem ka87 (hq : 181 ≤ q) : isA (mm q I v fr) 87 48 := ka_of (N := 181) (by decide) (by decide +kernel) hq
theorem ka88 (hq : 181 ≤ q) : isA (mm q I v fr) 88 288 := ka_of (N := 181) (by decide) (by decide +kernel) hq
theorem ka89 (hq : 181 ≤ q) : isA (mm q I v fr) 89 288 := ka_of (N := 181) (by decide) (by decide +kernel) hq
theorem ko90 (hq : 181 ≤ q) : isO (mm q I v fr) 90 1 := ko_of (N := 181) (by decide) (by decide +kernel) hq
theorem ko91 (hq : 181 ≤ q) : isO (mm q I v fr) 91 5 := ko_of (N := 181) (by decide) (by decide +kernel) hq
theorem ka92 (hq : 181 ≤ q) : isA (mm q I v fr) 92 12 := ka_of (N := 181) (by decide) (by decide +kernel) hq
theorem ka93 (hq : 181 ≤ q) : isA (mm q I v fr) 93 12 := ka_of (N := 181) (by decide) (by decide +kernel) hq
theorem ko94 (hq : 181 ≤ q) : isO (mm q I v fr) 94 2 := ko_of (N := 181) (by decide) (by decide +kernel) hq
theorem ka95 (hq : 181 ≤ q) : isA (mm q I v fr) 95 3 := ka_of (N := 181) (by decide) (by decide +kernel) hq
theorem ka96 (hq : 181 ≤ q) : isA (mm q I v fr) 96 3 := ka_of (N := 181) (by decide) (by decide +kernel) hq
theorem ka97 (hq : 181 ≤ q) : isA (mm q I v fr) 97 3 := ka_of (N := 181) (by decide) (by decide +kernel) hq
theorem ko98 (hq : 181 ≤ q) : isO (mm q I v fr) 98 3 := ko_of (N := 181) (by decide) (by decide +kernel) hq
theorem ka99 (hq : 181 ≤ q) : isA (mm q I v fr) 99 48 := ka_of (N := 181) (by decide) (by decide +kernel) hq
theorem ka100 (hq : 181 ≤ q) : isA (mm q I v fr) 100 48 := ka_of (N := 181) (by decide) (by decide +kernel) hq
theorem ka101 (hq : 181 ≤ q) : isA (mm q I v fr) 101 48 := ka_of (N := 181) (by decide) (by decide +kernel) hq
theorem ka102 (hq : 181 ≤ q) : isA (mm q I v fr) 102 48 := ka_of (N := 181) (by decide) (by decide +kernel) hq
theorem ka103 (hq : 181 ≤ q) : isA (mm q I v fr) 103 288 := ka_of (N := 181) (by decide) (by decide +kernel) hq
theorem ka104 (hq : 181 ≤ q) : isA (mm q I v fr) 104 288 := ka_of (N := 181) (by decide) (by decide +kernel) hq
theorem ko105 (hq : 181 ≤ q) : isO (mm q I v fr) 105 1 := ko_of (N := 181) (by decide) (by decide +kernel) hq
theorem ko106 (hq : 181 ≤ q) : isO (mm q I v fr) 106 5 := ko_of (N := 181) (by decide) (by decide +kernel) hq
theorem ka107 (hq : 181 ≤ q) : isA (mm q I v fr) 107 12 := ka_of (N := 181) (by decide) (by decide +kernel) hq
theorem ka108 (hq : 181 ≤ q) : isA (mm q I v fr) 108 12 := ka_of (N := 181) (by decide) (by decide +kernel) hq
theorem ko109 (hq : 181 ≤ q) : isO (mm q I v fr) 109 2 := ko_of (N := 181) (by decide) (by decide +kernel) hq
theorem ka110 (hq : 181 ≤ q) : isA (mm q I v fr) 110 3 := ka_of (N := 181) (by decide) (by decide +kernel) hq
theorem ka111 (hq : 181 ≤ q) : isA (mm q I v fr) 111 3 := ka_of (N := 181) (by decide) (by decide +kernel) hq
theorem ka112 (hq : 181 ≤ q) : isA (mm q I v fr) 112 3 := ka_of (N := 181) (by decide) (by decide +kernel) hq
theorem ko113 (hq : 181 ≤ q) : isO (mm q I v fr) 113 3 := ko_of (N := 181) (by decide) (by decide +kernel) hq
theorem ka114 (hq : 181 ≤ q) : isA (mm q I v fr) 114 48 := ka_of (N := 181) (by decide) (by decide +kernel) hq
theorem ka115 (hq : 181 ≤ q) : isA (mm q I v fr) 115 48 := ka_of (N := 181) (by decide) (by decide +kernel) hq
theorem ka116 (hq : 181 ≤ q) : isA (mm q I v fr) 116 48 := ka_of (N := 181) (by decide) (by decide +kernel) hq
theorem ka117 (hq : 181 ≤ q) : isA (mm q I v fr) 117 48 := ka_of (N := 181) (by decide) (by decide +kernel) hq
theorem ka118 (hq : 181 ≤ q) : isA (mm q I v fr) 118 288 := ka_of (N := 181) (by decide) (by decide +kernel) hq
theorem ka119 (hq : 181 ≤ q) : isA (mm q I v fr) 119 288 := ka_of (N := 181) (by decide) (by decide +kernel) hq
theorem ko120 (hq : 181 ≤ q) : isO (mm q I v fr) 120 1 := ko_of (N := 181) (by decide) (by decide +kernel) hq
theorem ko121 (hq : 181 ≤ q) : isO (mm q I v fr) 121 5 := ko_of (N := 181) (by decide) (by decide +kernel) hq
theorem ka122 (hq : 181 ≤ q) : isA (mm q I v fr) 122 12 := ka_of (N := 181) (by decide) (by decide +kernel) hq
theorem ka123 (hq : 181 ≤ q) : isA (mm q I v fr) 123 12 := ka_of (N := 181) (by decide) (by decide +kernel) hq
theorem ko124 (hq : 181 ≤ q) : isO (mm q I v fr) 124 2 := ko_of (N := 181) (by decide) (by decide +kernel) hq
theorem ka125 (hq : 181 ≤ q) : isA (mm q I v fr) 125 3 := ka_of (N := 181) (by decide) (by decide +kernel) hq
theorem ka126 (hq : 181 ≤ q) : isA (mm q I v fr) 126 3 := ka_of (N := 181) (by decide) (by decide +kernel) hq
theorem ka127 (hq : 181 ≤ q) : isA (mm q I v fr) 127 3 := ka_of (N := 181) (by decide) (by decide +kernel) hq
theorem ko128 (hq : 181 ≤ q) : isO (mm q I v fr) 128 3 := ko_of (N := 181) (by decide) (by decide +kernel) hq
theorem ka129 (hq : 181 ≤ q) : isA (mm q I v fr) 129 48 := ka_of (N := 181) (by decide) (by decide +kernel) hq
theorem ka130 (hq : 181 ≤ q) : isA (mm q I v fr) 130 48 := ka_of (N := 181) (by decide) (by decide +kernel) hq
theorem ka131 (hq : 181 ≤ q) : isA (mm q I v fr) 131 48 := ka_of (N := 181) (by decide) (by decide +kernel) hq
theorem ka132 (hq : 181 ≤ q) : isA (mm q I v fr) 132 48 := ka_of (N := 181) (by decide) (by decide +kernel) hq
theorem ka133 (hq : 181 ≤ q) : isA (mm q I v fr) 133 288 := ka_of (N := 181) (by decide) (by decide +kernel) hq
theorem ka134 (hq : 181 ≤ q) : isA (mm q I v fr) 134 288 := ka_of (N := 181) (by decide) (by decide +kernel) hq
theorem ko135 (hq : 181 ≤ q) : isO (mm q I v fr) 135 1 := ko_of (N := 181) (by decide) (by decide +kernel) hq
theorem ko136 (hq : 181 ≤ q) : isO (mm q I v fr) 136 5 := ko_of (N := 181) (by decide) (by decide +kernel) hq
theorem ka137 (hq : 181 ≤ q) : isA (mm q I v fr) 137 12 := ka_of (N := 181) (by decide) (by decide +kernel) hq
theorem ka138 (hq : 181 ≤ q) : isA (mm q I v fr) 138 12 := ka_of (N := 181) (by decide) (by decide +kernel) hq
theorem ko139 (hq : 181 ≤ q) : isO (mm q I v fr) 139 2 := ko_of (N := 181) (by decide) (by decide +kernel) hq
theorem ka140 (hq : 181 ≤ q) : isA (mm q I v fr) 140 3 := ka_of (N := 181) (by decide) (by decide +kernel) hq
theorem ka141 (hq : 181 ≤ q) : isA (mm q I v fr) 141 3 := ka_of (N := 181) (by decide) (by decide +kernel) hq
theorem ka142 (hq : 181 ≤ q) : isA (mm q I v fr) 142 3 := ka_of (N := 181) (by decide) (by decide +kernel) hq
theorem ko143 (hq : 181 ≤ q) : isO (mm q I v fr) 143 3 := ko_of (N := 181) (by decide) (by decide +kernel) hq
theorem ka144 (hq : 181 ≤ q) : isA (mm q I v fr) 144 48 := ka_of (N := 181) (by decide) (by decide +kernel) hq
theorem ka145 (hq : 181 ≤ q) : isA (mm q I v fr) 145 48 := ka_of (N := 181) (by decide) (by decide +kernel) hq
theorem ka146 (hq : 181 ≤ q) : isA (mm q I v fr) 146 48 := ka_of (N := 181) (by decide) (by decide +kernel) hq
theorem ka147 (hq : 181 ≤ q) : isA (mm q I v fr) 147 48 := ka_of (N := 181) (by decide) (by decide +kernel) hq
theorem ka148 (hq : 181 ≤ q) : isA (mm q I v fr) 148 288 := ka_of (N := 181) (by decide) (by decide +kernel) hq
theorem ka149 (hq : 181 ≤ q) : isA (mm q I v fr) 149 288 := ka_of (N := 181) (by decide) (by decide +kernel) hq
theorem ko150 (hq : 181 ≤ q) : isO (mm q I v fr) 150 1 := ko_of (N := 181) (by decide) (by decide +kernel) hq
theorem ko151 (hq : 181 ≤ q) : isO (mm q I v fr) 151 5 := ko_of (N := 181) (by decide) (by decide +kernel) hq
theorem ka152 (hq : 181 ≤ q) : isA (mm q I v fr) 152 12 := ka_of (N := 181) (by decide) (by decide +kernel) hq
theorem ka153 (hq : 181 ≤ q) : isA (mm q I v fr) 153 12 := ka_of (N := 181) (by decide) (by decide +kernel) hq
theorem ko154 (hq : 181 ≤ q) : isO (mm q I v fr) 154 2 := ko_of (N := 181) (by decide) (by decide +kernel) hq
theorem ka155 (hq : 181 ≤ q) : isA (mm q I v fr) 155 3 := ka_of (N := 181) (by decide) (by decide +kernel) hq
theorem ka156 (hq : 181 ≤ q) : isA (mm q I v fr) 156 3 := ka_of (N := 181) (by decide) (by decide +kernel) hq
theorem ka157 (hq : 181 ≤ q) : isA (mm q I v fr) 157 3 := ka_of (N := 181) (by decide) (by decide +kernel) hq
theorem ko158 (hq : 181 ≤ q) : isO (mm q I v fr) 158 3 := ko_of (N := 181) (by decide) (by decide +kernel) hq
theorem ka159 (hq : 181 ≤ q) : isA (mm q I v fr) 159 48 := ka_of (N := 181) (by decide) (by decide +kernel) hq
theorem ka160 (hq : 181 ≤ q) : isA (mm q I v fr) 160 48 := ka_of (N := 181) (by decide) (by decide +kernel) hq
theorem ka161 (hq : 181 ≤ q) : isA (mm q I v fr) 161 48 := ka_of (N := 181) (by decide) (by decide +kernel) hq
theorem ka162 (hq : 181 ≤ q) : isA (mm q I v fr) 162 48 := ka_of (N := 181) (by decide) (by decide +kernel) hq
theorem ka163 (hq : 181 ≤ q) : isA (mm q I v fr) 163 288 := ka_of (N := 181) (by decide) (by decide +kernel) hq
theorem ka164 (hq : 181 ≤ q) : isA (mm q I v fr) 164 288 := ka_of (N := 181) (by decide) (by decide +kernel) hq
theorem ko165 (hq : 181 ≤ q) : isO (mm q I v fr) 165 1 := ko_of (N := 181) (by decide) (by decide +kernel) hq
theorem ko166 (hq : 181 ≤ q) : isO (mm q I v fr) 166 5 := ko_of (N := 181) (by decide) (by decide +kernel) hq
theorem ka167 (hq : 181 ≤ q) : isA (mm q I v fr) 167 12 := ka_of (N := 181) (by decide) (by decide +kernel) hq
theorem ka168 (hq : 181 ≤ q) : isA (mm q I v fr) 168 12 := ka_of (N := 181) (by decide) (by decide +kernel) hq
theorem ko169 (hq : 181 ≤ q) : isO (mm q I v fr) 169 2 := ko_of (N := 181) (by decide) (by decide +kernel) hq
theorem ka170 (hq : 181 ≤ q) : isA (mm q I v fr) 170 3 := ka_of (N := 181) (by decide) (by decide +kernel) hq
theorem ka171 (hq : 181 ≤ q) : isA (mm q I v fr) 171 3 := ka_of (N := 181) (by decide) (by decide +kernel) hq
theorem ka172 (hq : 181 ≤ q) : isA (mm q I v fr) 172 3 := ka_of (N := 181) (by decide) (by decide +kernel) hq
theorem ko173 (hq : 181 ≤ q) : isO (mm q I v fr) 173 3 := ko_of (N := 181) (by decide) (by decide +kernel) hq
theorem ka174 (hq : 181 ≤ q) : isA (mm q I v fr) 174 48 := ka_of (N := 181) (by decide) (by decide +kernel) hq
theorem ka175 (hq : 181 ≤ q) : isA (mm q I v fr) 175 48 := ka_of (N := 181) (by decide) (by decide +kernel) hq
theorem ka176 (hq : 181 ≤ q) : isA (mm q I v fr) 176 48 := ka_of (N := 181) (by decide) (by decide +kernel) hq
theorem ka177 (hq : 181 ≤ q) : isA (mm q I v fr) 177 48 := ka_of (N := 181) (by decide) (by decide +kernel) hq
theorem ka178 (hq : 181 ≤ q) : isA (mm q I v fr) 178 288 := ka_of (N := 181) (by decide) (by decide +kernel) hq
theorem ka179 (hq : 181 ≤ q) : isA (mm q I v fr) 179 288 := ka_of (N := 181) (by decide) (by decide +kernel) hq
theorem ko180 (hq : 181 ≤ q) : isO (mm q I v fr) 180 1 := ko_of (N := 181) (by decide) (by decide +kernel) hq
theorem ko181 (hq : 193 ≤ q) : isO (mm q I v fr) 181 10 := ko_of (N := 193) (by decide) (by decide +kernel) hq
theorem ka182 (hq : 193 ≤ q) : isA (mm q I v fr) 182 1011 := ka_of (N := 193) (by decide) (by decide +kernel) hq
theorem ka183 (hq : 193 ≤ q) : isA (mm q I v fr) 183 1011 := ka_of (N := 193) (by decide) (by decide +kernel) hq
theorem ka184 (hq : 193 ≤ q) : isA (mm q I v fr) 184 1011 := ka_of (N := 193) (by decide) (by decide +kernel) hq
theorem ka185 (hq : 193 ≤ q) : isA (mm q I v fr) 185 1011 := ka_of (N := 193) (by decide) (by decide +kernel) hq
theorem ka186 (hq : 193 ≤ q) : isA (mm q I v fr) 186 8088 := ka_of (N := 193) (by decide) (by decide +kernel) hq
theorem ka187 (hq : 193 ≤ q) : isA (mm q I v fr) 187 16 := ka_of (N := 193) (by decide) (by decide +kernel) hq
theorem ka188 (hq : 193 ≤ q) : isA (mm q I v fr) 188 6 := ka_of (N := 193) (by decide) (by decide +kernel) hq
theorem ka189 (hq : 193 ≤ q) : isA (mm q I v fr) 189 500 := ka_of (N := 193) (by decide) (by decide +kernel) hq
theorem ka190 (hq : 193 ≤ q) : isA (mm q I v fr) 190 540 := ka_of (N := 193) (by decide) (by decide +kernel) hq
theorem ka191 (hq : 193 ≤ q) : isA (mm q I v fr) 191 60 := ka_of (N := 193) (by decide) (by decide +kernel) hq
theorem rr0_0 : R0 0 0 = some 1 := by decide +kernel
theorem rr0_1 : R0 0 1 = some 3 := by decide +kernel
theorem rr0_2 : R0 0 2 = some 5 := by decide +kernel
theorem rr0_3 : R0 0 3 = some 6 := by decide +kernel
theorem rr0_4 : R0 0 4 = some 11 := by decide +kernel
theorem rr0_5 : R0 0 5 = some 14 := by decide +kernel
theorem rr0_6 : R0 0 6 = some 136 := by decide +kernel
theorem rr0_7 : R0 0 7 = some 151 := by decide +kernel
theorem rr0_8 : R0 0 8 = some 166 := by decide +kernel
theorem rr1_0 : R0 1 0 = some 2 := by decide +kernel
theorem rr3_0 : R0 3 0 = some 4 := by decide +kernel
theorem rr5_0 : R0 5 0 = some 1 := by decide +kernel
theorem rr6_1 : R0 6 1 = some 7 := by decide +kernel
theorem rr6_2 : R0 6 2 = some 8 := by decide +kernel
theorem rr6_3 : R0 6 3 = some 9 := by decide +kernel
theorem rr6_4 : R0 6 4 = some 10 := by decide +kernel
theorem rr11_0 : R0 11 0 = some 12 := by decide +kernel
theorem rr11_1 : R0 11 1 = some 13 := by decide +kernel
theorem rr14_2 : R0 14 2 = some 15 := by decide +kernel
theorem rr15_0 : R0 15 0 = some 16 := by decide +kernel
theorem rr15_1 : R0 15 1 = some 31 := by decide +kernel
theorem rr15_2 : R0 15 2 = some 46 := by decide +kernel
theorem rr15_3 : R0 15 3 = some 61 := by decide +kernel
theorem rr15_4 : R0 15 4 = some 76 := by decide +kernel
theorem rr15_5 : R0 15 5 = some 91 := by decide +kernel
theorem rr15_6 : R0 15 6 = some 106 := by decide +kernel
theorem rr15_7 : R0 15 7 = some 121 := by decide +kernel
theorem rr16_8 : R0 16 8 = some 17 := by decide +kernel
theorem rr16_9 : R0 16 9 = some 18 := by decide +kernel
theorem rr16_10 : R0 16 10 = some 19 := by decide +kernel
theorem rr16_11 : R0 16 11 = some 23 := by decide +kernel
theorem rr16_12 : R0 16 12 = some 30 := by decide +kernel
theorem rr19_1 : R0 19 1 = some 20 := by decide +kernel
theorem rr19_2 : R0 19 2 = some 21 := by decide +kernel
theorem rr19_3 : R0 19 3 = some 22 := by decide +kernel
theorem rr23_1 : R0 23 1 = some 24 := by decide +kernel
theorem rr23_2 : R0 23 2 = some 25 := by decide +kernel
theorem rr23_3 : R0 23 3 = some 26 := by decide +kernel
theorem rr23_4 : R0 23 4 = some 27 := by decide +kernel
theorem rr23_5 : R0 23 5 = some 28 := by decide +kernel
theorem rr23_6 : R0 23 6 = some 29 := by decide +kernel
theorem rr31_8 : R0 31 8 = some 32 := by decide +kernel
theorem rr31_9 : R0 31 9 = some 33 := by decide +kernel
theorem rr31_10 : R0 31 10 = some 34 := by decide +kernel
theorem rr31_11 : R0 31 11 = some 38 := by decide +kernel
theorem rr31_12 : R0 31 12 = some 45 := by decide +kernel
theorem rr34_1 : R0 34 1 = some 35 := by decide +kernel
theorem rr34_2 : R0 34 2 = some 36 := by decide +kernel
theorem rr34_3 : R0 34 3 = some 37 := by decide +kernel
theorem rr38_1 : R0 38 1 = some 39 := by decide +kernel
theorem rr38_2 : R0 38 2 = some 40 := by decide +kernel
theorem rr38_3 : R0 38 3 = some 41 := by decide +kernel
theorem rr38_4 : R0 38 4 = some 42 := by decide +kernel
theorem rr38_5 : R0 38 5 = some 43 := by decide +kernel
theorem rr38_6 : R0 38 6 = some 44 := by decide +kernel
theorem rr46_8 : R0 46 8 = some 47 := by decide +kernel
theorem rr46_9 : R0 46 9 = some 48 := by decide +kernel
theorem rr46_10 : R0 46 10 = some 49 := by decide +kernel
theorem rr46_11 : R0 46 11 = some 53 := by decide +kernel
theorem rr46_12 : R0 46 12 = some 60 := by decide +kernel
theorem rr49_1 : R0 49 1 = some 50 := by decide +kernel
theorem rr49_2 : R0 49 2 = some 51 := by decide +kernel
theorem rr49_3 : R0 49 3 = some 52 := by decide +kernel
theorem rr53_1 : R0 53 1 = some 54 := by decide +kernel
theorem rr53_2 : R0 53 2 = some 55 := by decide +kernel
theorem rr53_3 : R0 53 3 = some 56 := by decide +kernel
theorem rr53_4 : R0 53 4 = some 57 := by decide +kernel
theorem rr53_5 : R0 53 5 = some 58 := by decide +kernel
theorem rr53_6 : R0 53 6 = some 59 := by decide +kernel
theorem rr61_8 : R0 61 8 = some 62 := by decide +kernel
theorem rr61_9 : R0 61 9 = some 63 := by decide +kernel
theorem rr61_10 : R0 61 10 = some 64 := by decide +kernel
theorem rr61_11 : R0 61 11 = some 68 := by decide +kernel
theorem rr61_12 : R0 61 12 = some 75 := by decide +kernel
theorem rr64_1 : R0 64 1 = some 65 := by decide +kernel
theorem rr64_2 : R0 64 2 = some 66 := by decide +kernel
theorem rr64_3 : R0 64 3 = some 67 := by decide +kernel
theorem rr68_1 : R0 68 1 = some 69 := by decide +kernel
theorem rr68_2 : R0 68 2 = some 70 := by decide +kernel
theorem rr68_3 : R0 68 3 = some 71 := by decide +kernel
theorem rr68_4 : R0 68 4 = some 72 := by decide +kernel
theorem rr68_5 : R0 68 5 = some 73 := by decide +kernel
theorem rr68_6 : R0 68 6 = some 74 := by decide +kernel
theorem rr76_8 : R0 76 8 = some 77 := by decide +kernel
theorem rr76_9 : R0 76 9 = some 78 := by decide +kernel
theorem rr76_10 : R0 76 10 = some 79 := by decide +kernel
theorem rr76_11 : R0 76 11 = some 83 := by decide +kernel
theorem rr76_12 : R0 76 12 = some 90 := by decide +kernel
theorem rr79_1 : R0 79 1 = some 80 := by decide +kernel
theorem rr79_2 : R0 79 2 = some 81 := by decide +kernel
theorem rr79_3 : R0 79 3 = some 82 := by decide +kernel
theorem rr83_1 : R0 83 1 = some 84 := by decide +kernel
theorem rr83_2 : R0 83 2 = some 85 := by decide +kernel
theorem rr83_3 : R0 83 3 = some 86 := by decide +kernel
theorem rr83_4 : R0 83 4 = some 87 := by decide +kernel
theorem rr83_5 : R0 83 5 = some 88 := by decide +kernel
theorem rr83_6 : R0 83 6 = some 89 := by decide +kernel
theorem rr91_8 : R0 91 8 = some 92 := by decide +kernel
theorem rr91_9 : R0 91 9 = some 93 := by decide +kernel
theorem rr91_10 : R0 91 10 = some 94 := by decide +kernel
theorem rr91_11 : R0 91 11 = some 98 := by decide +kernel
theorem rr91_12 : R0 91 12 = some 105 := by decide +kernel
theorem rr94_1 : R0 94 1 = some 95 := by decide +kernel
theorem rr94_2 : R0 94 2 = some 96 := by decide +kernel
theorem rr94_3 : R0 94 3 = some 97 := by decide +kernel
theorem rr98_1 : R0 98 1 = some 99 := by decide +kernel
theorem rr98_2 : R0 98 2 = some 100 := by decide +kernel
theorem rr98_3 : R0 98 3 = some 101 := by decide +kernel
theorem rr98_4 : R0 98 4 = some 102 := by decide +kernel
theorem rr98_5 : R0 98 5 = some 103 := by decide +kernel
theorem rr98_6 : R0 98 6 = some 104 := by decide +kernel
theorem rr106_8 : R0 106 8 = some 107 := by decide +kernel
theorem rr106_9 : R0 106 9 = some 108 := by decide +kernel
theorem rr106_10 : R0 106 10 = some 109 := by decide +kernel
theorem rr106_11 : R0 106 11 = some 113 := by decide +kernel
theorem rr106_12 : R0 106 12 = some 120 := by decide +kernel
theorem rr109_1 : R0 109 1 = some 110 := by decide +kernel
theorem rr109_2 : R0 109 2 = some 111 := by decide +kernel
theorem rr109_3 : R0 109 3 = some 112 := by decide +kernel
theorem rr113_1 : R0 113 1 = some 114 := by decide +kernel
theorem rr113_2 : R0 113 2 = some 115 := by decide +kernel
theorem rr113_3 : R0 113 3 = some 116 := by decide +kernel
theorem rr113_4 : R0 113 4 = some 117 := by decide +kernel
theorem rr113_5 : R0 113 5 = some 118 := by decide +kernel
theorem rr113_6 : R0 113 6 = some 119 := by decide +kernel
theorem rr121_8 : R0 121 8 = some 122 := by decide +kernel
theorem rr121_9 : R0 121 9 = some 123 := by decide +kernel
theorem rr121_10 : R0 121 10 = some 124 := by decide +kernel
theorem rr121_11 : R0 121 11 = some 128 := by decide +kernel
theorem rr121_12 : R0 121 12 = some 135 := by decide +kernel
theorem rr124_1 : R0 124 1 = some 125 := by decide +kernel
theorem rr124_2 : R0 124 2 = some 126 := by decide +kernel
theorem rr124_3 : R0 124 3 = some 127 := by decide +kernel
theorem rr128_1 : R0 128 1 = some 129 := by decide +kernel
theorem rr128_2 : R0 128 2 = some 130 := by decide +kernel
theorem rr128_3 : R0 128 3 = some 131 := by decide +kernel
theorem rr128_4 : R0 128 4 = some 132 := by decide +kernel
theorem rr128_5 : R0 128 5 = some 133 := by decide +kernel
theorem rr128_6 : R0 128 6 = some 134 := by decide +kernel
theorem rr136_8 : R0 136 8 = some 137 := by decide +kernel
theorem rr136_9 : R0 136 9 = some 138 := by decide +kernel
theorem rr136_10 : R0 136 10 = some 139 := by decide +kernel
theorem rr136_11 : R0 136 11 = some 143 := by decide +kernel
theorem rr136_12 : R0 136 12 = some 150 := by decide +kernel
theorem rr139_1 : R0 139 1 = some 140 := by decide +kernel
theorem rr139_2 : R0 139 2 = some 141 := by decide +kernel
theorem rr139_3 : R0 139 3 = some 142 := by decide +kernel
theorem rr143_1 : R0 143 1 = some 144 := by decide +kernel
theorem rr143_2 : R0 143 2 = some 145 := by decide +kernel
theorem rr143_3 : R0 143 3 = some 146 := by decide +kernel
theorem rr143_4 : R0 143 4 = some 147 := by decide +kernel
theorem rr143_5 : R0 143 5 = some 148 := by decide +kernel
theorem rr143_6 : R0 143 6 = some 149 := by decide +kernel
theorem rr151_8 : R0 151 8 = some 152 := by decide +kernel
theorem rr151_9 : R0 151 9 = some 153 := by decide +kernel
theorem rr151_10 : R0 151 10 = some 154 := by decide +kernel
theorem rr151_11 : R0 151 11 = some 158 := by decide +kernel
theorem rr151_12 : R0 151 12 = some 165 := by decide +kernel
theorem rr154_1 : R0 154 1 = some 155 := by decide +kernel
theorem rr154_2 : R0 154 2 = some 156 := by decide +kernel
theorem rr154_3 : R0 154 3 = some 157 := by decide +kernel
theorem rr158_1 : R0 158 1 = some 159 := by decide +kernel
theorem rr158_2 : R0 158 2 = some 160 := by decide +kernel
theorem rr158_3 : R0 158 3 = some 161 := by decide +kernel
theorem rr158_4 : R0 158 4 = some 162 := by decide +kernel
theorem rr158_5 : R0 158 5 = some 163 := by decide +kernel
theorem rr158_6 : R0 158 6 = some 164 := by decide +kernel
theorem rr166_8 : R0 166 8 = some 167 := by decide +kernel
theorem rr166_9 : R0 166 9 = some 168 := by decide +kernel
theorem rr166_10 : R0 166 10 = some 169 := by decide +kernel
theorem rr166_11 : R0 166 11 = some 173 := by decide +kernel
theorem rr166_12 : R0 166 12 = some 180 := by decide +kernel
theorem rr169_1 : R0 169 1 = some 170 := by decide +kernel
theorem rr169_2 : R0 169 2 = some 171 := by decide +kernel
theorem rr169_3 : R0 169 3 = some 172 := by decide +kernel
theorem rr173_1 : R0 173 1 = some 174 := by decide +kernel
theorem rr173_2 : R0 173 2 = some 175 := by decide +kernel
theorem rr173_3 : R0 173 3 = some 176 := by decide +kernel
theorem rr173_4 : R0 173 4 = some 177 := by decide +kernel
theorem rr173_5 : R0 173 5 = some 178 := by decide +kernel
theorem rr173_6 : R0 173 6 = some 179 := by decide +kernel
theorem rr181_0 : R0 181 0 = some 182 := by decide +kernel
theorem rr181_1 : R0 181 1 = some 183 := by decide +kernel
theorem rr181_2 : R0 181 2 = some 184 := by decide +kernel
theorem rr181_3 : R0 181 3 = some 185 := by decide +kernel
theorem rr181_4 : R0 181 4 = some 186 := by decide +kernel
theorem rr181_8 : R0 181 8 = some 187 := by decide +kernel
theorem rr181_9 : R0 181 9 = some 188 := by decide +kernel
theorem rr181_11 : R0 181 11 = some 189 := by decide +kernel
theorem rr181_20 : R0 181 20 = some 190 := by decide +kernel
theorem rr181_22 : R0 181 22 = some 191 := by decide +kernel
end Lay
/-- a line at p, with all that belongs to it -/
def LineAt (q p : Nat) : Prop := (16 ≤ p ∧ p + 14 < 181) ∧ (p < q ∧ K0 p = 55) ∧ (p + 1 < q ∧ K0 (p + 1) = 120) ∧ (p + 2 < q ∧ K0 (p + 2) = 120) ∧ ((p + 3 < q ∧ K0 (p + 3) = 25) ∧ (p + 4 < q ∧ K0 (p + 4) = 30) ∧ (p + 5 < q ∧ K0 (p + 5) = 30) ∧ (p + 6 < q ∧ K0 (p + 6) = 30) ∧ R0 (p + 3) 1 = some (p + 4) ∧ R0 (p + 3) 2 = some (p + 5) ∧ R0 (p + 3) 3 = some (p + 6)) ∧
  ((p + 7 < q ∧ K0 (p + 7) = 35) ∧ (p + 8 < q ∧ K0 (p + 8) = 480) ∧ (p + 9 < q ∧ K0 (p + 9) = 480) ∧ (p + 10 < q ∧ K0 (p + 10) = 480) ∧ (p + 11 < q ∧ K0 (p + 11) = 480) ∧ (p + 12 < q ∧ K0 (p + 12) = 2880) ∧ (p + 13 < q ∧ K0 (p + 13) = 2880) ∧
  R0 (p + 7) 1 = some (p + 8) ∧ R0 (p + 7) 2 = some (p + 9) ∧ R0 (p + 7) 3 = some (p + 10) ∧ R0 (p + 7) 4 = some (p + 11) ∧ R0 (p + 7) 5 = some (p + 12) ∧ R0 (p + 7) 6 = some (p + 13)) ∧ (p + 14 < q ∧ K0 (p + 14) = 15) ∧
  R0 p 8 = some (p + 1) ∧ R0 p 9 = some (p + 2) ∧ R0 p 10 = some (p + 3) ∧ R0 p 11 = some (p + 7) ∧ R0 p 12 = some (p + 14)
theorem la16 {q : Nat} (hq : 181 ≤ q) : LineAt q 16 := ⟨by decide, ⟨(Nat.lt_of_lt_of_le (by decide) hq), (by decide +kernel)⟩, ⟨(Nat.lt_of_lt_of_le (by decide) hq), (by decide +kernel)⟩, ⟨(Nat.lt_of_lt_of_le (by decide) hq), (by decide +kernel)⟩, ⟨⟨(Nat.lt_of_lt_of_le (by decide) hq), (by decide +kernel)⟩, ⟨(Nat.lt_of_lt_of_le (by decide) hq), (by decide +kernel)⟩, ⟨(Nat.lt_of_lt_of_le (by decide) hq), (by decide +kernel)⟩, ⟨(Nat.lt_of_lt_of_le (by decide) hq), (by decide +kernel)⟩, (by decide +kernel), (by decide +kernel), (by decide +kernel)⟩, ⟨⟨(Nat.lt_of_lt_of_le (by decide) hq), (by decide +kernel)⟩, ⟨(Nat.lt_of_lt_of_le (by decide) hq), (by decide +kernel)⟩, ⟨(Nat.lt_of_lt_of_le (by decide) hq), (by decide +kernel)⟩, ⟨(Nat.lt_of_lt_of_le (by decide) hq), (by decide +kernel)⟩, ⟨(Nat.lt_of_lt_of_le (by decide) hq), (by decide +kernel)⟩, ⟨(Nat.lt_of_lt_of_le (by decide) hq), (by decide +kernel)⟩, ⟨(Nat.lt_of_lt_of_le (by decide) hq), (by decide +kernel)⟩, (by decide +kernel), (by decide +kernel), (by decide +kernel), (by decide +kernel), (by decide +kernel), (by decide +kernel)⟩, ⟨(Nat.lt_of_lt_of_le (by decide) hq), (by decide +kernel)⟩, (by decide +kernel), (by decide +kernel), (by decide +kernel), (by decide +kernel), (by decide +kernel)⟩
theorem la31 {q : Nat} (hq : 181 ≤ q) : LineAt q 31 := ⟨by decide, ⟨(Nat.lt_of_lt_of_le (by decide) hq), (by decide +kernel)⟩, ⟨(Nat.lt_of_lt_of_le (by decide) hq), (by decide +kernel)⟩, ⟨(Nat.lt_of_lt_of_le (by decide) hq), (by decide +kernel)⟩, ⟨⟨(Nat.lt_of_lt_of_le (by decide) hq), (by decide +kernel)⟩, ⟨(Nat.lt_of_lt_of_le (by decide) hq), (by decide +kernel)⟩, ⟨(Nat.lt_of_lt_of_le (by decide) hq), (by decide +kernel)⟩, ⟨(Nat.lt_of_lt_of_le (by decide) hq), (by decide +kernel)⟩, (by decide +kernel), (by decide +kernel), (by decide +kernel)⟩, ⟨⟨(Nat.lt_of_lt_of_le (by decide) hq), (by decide +kernel)⟩, ⟨(Nat.lt_of_lt_of_le (by decide) hq), (by decide +kernel)⟩, ⟨(Nat.lt_of_lt_of_le (by decide) hq), (by decide +kernel)⟩, ⟨(Nat.lt_of_lt_of_le (by decide) hq), (by decide +kernel)⟩, ⟨(Nat.lt_of_lt_of_le (by decide) hq), (by decide +kernel)⟩, ⟨(Nat.lt_of_lt_of_le (by decide) hq), (by decide +kernel)⟩, ⟨(Nat.lt_of_lt_of_le (by decide) hq), (by decide +kernel)⟩, (by decide +kernel), (by decide +kernel), (by decide +kernel), (by decide +kernel), (by decide +kernel), (by decide +kernel)⟩, ⟨(Nat.lt_of_lt_of_le (by decide) hq), (by decide +kernel)⟩, (by decide +kernel), (by decide +kernel), (by decide +kernel), (by decide +kernel), (by decide +kernel)⟩
theorem la46 {q : Nat} (hq : 181 ≤ q) : LineAt q 46 := ⟨by decide, ⟨(Nat.lt_of_lt_of_le (by decide) hq), (by decide +kernel)⟩, ⟨(Nat.lt_of_lt_of_le (by decide) hq), (by decide +kernel)⟩, ⟨(Nat.lt_of_lt_of_le (by decide) hq), (by decide +kernel)⟩, ⟨⟨(Nat.lt_of_lt_of_le (by decide) hq), (by decide +kernel)⟩, ⟨(Nat.lt_of_lt_of_le (by decide) hq), (by decide +kernel)⟩, ⟨(Nat.lt_of_lt_of_le (by decide) hq), (by decide +kernel)⟩, ⟨(Nat.lt_of_lt_of_le (by decide) hq), (by decide +kernel)⟩, (by decide +kernel), (by decide +kernel), (by decide +kernel)⟩, ⟨⟨(Nat.lt_of_lt_of_le (by decide) hq), (by decide +kernel)⟩, ⟨(Nat.lt_of_lt_of_le (by decide) hq), (by decide +kernel)⟩, ⟨(Nat.lt_of_lt_of_le (by decide) hq), (by decide +kernel)⟩, ⟨(Nat.lt_of_lt_of_le (by decide) hq), (by decide +kernel)⟩, ⟨(Nat.lt_of_lt_of_le (by decide) hq), (by decide +kernel)⟩, ⟨(Nat.lt_of_lt_of_le (by decide) hq), (by decide +kernel)⟩, ⟨(Nat.lt_of_lt_of_le (by decide) hq), (by decide +kernel)⟩, (by decide +kernel), (by decide +kernel), (by decide +kernel), (by decide +kernel), (by decide +kernel), (by decide +kernel)⟩, ⟨(Nat.lt_of_lt_of_le (by decide) hq), (by decide +kernel)⟩, (by decide +kernel), (by decide +kernel), (by decide +kernel), (by decide +kernel), (by decide +kernel)⟩
theorem la61 {q : Nat} (hq : 181 ≤ q) : LineAt q 61 := ⟨by decide, ⟨(Nat.lt_of_lt_of_le (by decide) hq), (by decide +kernel)⟩, ⟨(Nat.lt_of_lt_of_le (by decide) hq), (by decide +kernel)⟩, ⟨(Nat.lt_of_lt_of_le (by decide) hq), (by decide +kernel)⟩, ⟨⟨(Nat.lt_of_lt_of_le (by decide) hq), (by decide +kernel)⟩, ⟨(Nat.lt_of_lt_of_le (by decide) hq), (by decide +kernel)⟩, ⟨(Nat.lt_of_lt_of_le (by decide) hq), (by decide +kernel)⟩, ⟨(Nat.lt_of_lt_of_le (by decide) hq), (by decide +kernel)⟩, (by decide +kernel), (by decide +kernel), (by decide +kernel)⟩, ⟨⟨(Nat.lt_of_lt_of_le (by decide) hq), (by decide +kernel)⟩, ⟨(Nat.lt_of_lt_of_le (by decide) hq), (by decide +kernel)⟩, ⟨(Nat.lt_of_lt_of_le (by decide) hq), (by decide +kernel)⟩, ⟨(Nat.lt_of_lt_of_le (by decide) hq), (by decide +kernel)⟩, ⟨(Nat.lt_of_lt_of_le (by decide) hq), (by decide +kernel)⟩, ⟨(Nat.lt_of_lt_of_le (by decide) hq), (by decide +kernel)⟩, ⟨(Nat.lt_of_lt_of_le (by decide) hq), (by decide +kernel)⟩, (by decide +kernel), (by decide +kernel), (by decide +kernel), (by decide +kernel), (by decide +kernel), (by decide +kernel)⟩, ⟨(Nat.lt_of_lt_of_le (by decide) hq), (by decide +kernel)⟩, (by decide +kernel), (by decide +kernel), (by decide +kernel), (by decide +kernel), (by decide +kernel)⟩
theorem la76 {q : Nat} (hq : 181 ≤ q) : LineAt q 76 := ⟨by decide, ⟨(Nat.lt_of_lt_of_le (by decide) hq), (by decide +kernel)⟩, ⟨(Nat.lt_of_lt_of_le (by decide) hq), (by decide +kernel)⟩, ⟨(Nat.lt_of_lt_of_le (by decide) hq), (by decide +kernel)⟩, ⟨⟨(Nat.lt_of_lt_of_le (by decide) hq), (by decide +kernel)⟩, ⟨(Nat.lt_of_lt_of_le (by decide) hq), (by decide +kernel)⟩, ⟨(Nat.lt_of_lt_of_le (by decide) hq), (by decide +kernel)⟩, ⟨(Nat.lt_of_lt_of_le (by decide) hq), (by decide +kernel)⟩, (by decide +kernel), (by decide +kernel), (by decide +kernel)⟩, ⟨⟨(Nat.lt_of_lt_of_le (by decide) hq), (by decide +kernel)⟩, ⟨(Nat.lt_of_lt_of_le (by decide) hq), (by decide +kernel)⟩, ⟨(Nat.lt_of_lt_of_le (by decide) hq), (by decide +kernel)⟩, ⟨(Nat.lt_of_lt_of_le (by decide) hq), (by decide +kernel)⟩, ⟨(Nat.lt_of_lt_of_le (by decide) hq), (by decide +kernel)⟩, ⟨(Nat.lt_of_lt_of_le (by decide) hq), (by decide +kernel)⟩, ⟨(Nat.lt_of_lt_of_le (by decide) hq), (by decide +kernel)⟩, (by decide +kernel), (by decide +kernel), (by decide +kernel), (by decide +kernel), (by decide +kernel), (by decide +kernel)⟩, ⟨(Nat.lt_of_lt_of_le (by decide) hq), (by decide +kernel)⟩, (by decide +kernel), (by decide +kernel), (by decide +kernel), (by decide +kernel), (by decide +kernel)⟩
theorem la91 {q : Nat} (hq : 181 ≤ q) : LineAt q 91 := ⟨by decide, ⟨(Nat.lt_of_lt_of_le (by decide) hq), (by decide +kernel)⟩, ⟨(Nat.lt_of_lt_of_le (by decide) hq), (by decide +kernel)⟩, ⟨(Nat.lt_of_lt_of_le (by decide) hq), (by decide +kernel)⟩, ⟨⟨(Nat.lt_of_lt_of_le (by decide) hq), (by decide +kernel)⟩, ⟨(Nat.lt_of_lt_of_le (by decide) hq), (by decide +kernel)⟩, ⟨(Nat.lt_of_lt_of_le (by decide) hq), (by decide +kernel)⟩, ⟨(Nat.lt_of_lt_of_le (by decide) hq), (by decide +kernel)⟩, (by decide +kernel), (by decide +kernel), (by decide +kernel)⟩, ⟨⟨(Nat.lt_of_lt_of_le (by decide) hq), (by decide +kernel)⟩, ⟨(Nat.lt_of_lt_of_le (by decide) hq), (by decide +kernel)⟩, ⟨(Nat.lt_of_lt_of_le (by decide) hq), (by decide +kernel)⟩, ⟨(Nat.lt_of_lt_of_le (by decide) hq), (by decide +kernel)⟩, ⟨(Nat.lt_of_lt_of_le (by decide) hq), (by decide +kernel)⟩, ⟨(Nat.lt_of_lt_of_le (by decide) hq), (by decide +kernel)⟩, ⟨(Nat.lt_of_lt_of_le (by decide) hq), (by decide +kernel)⟩, (by decide +kernel), (by decide +kernel), (by decide +kernel), (by decide +kernel), (by decide +kernel), (by decide +kernel)⟩, ⟨(Nat.lt_of_lt_of_le (by decide) hq), (by decide +kernel)⟩, (by decide +kernel), (by decide +kernel), (by decide +kernel), (by decide +kernel), (by decide +kernel)⟩
theorem la106 {q : Nat} (hq : 181 ≤ q) : LineAt q 106 := ⟨by decide, ⟨(Nat.lt_of_lt_of_le (by decide) hq), (by decide +kernel)⟩, ⟨(Nat.lt_of_lt_of_le (by decide) hq), (by decide +kernel)⟩, ⟨(Nat.lt_of_lt_of_le (by decide) hq), (by decide +kernel)⟩, ⟨⟨(Nat.lt_of_lt_of_le (by decide) hq), (by decide +kernel)⟩, ⟨(Nat.lt_of_lt_of_le (by decide) hq), (by decide +kernel)⟩, ⟨(Nat.lt_of_lt_of_le (by decide) hq), (by decide +kernel)⟩, ⟨(Nat.lt_of_lt_of_le (by decide) hq), (by decide +kernel)⟩, (by decide +kernel), (by decide +kernel), (by decide +kernel)⟩, ⟨⟨(Nat.lt_of_lt_of_le (by decide) hq), (by decide +kernel)⟩, ⟨(Nat.lt_of_lt_of_le (by decide) hq), (by decide +kernel)⟩, ⟨(Nat.lt_of_lt_of_le (by decide) hq), (by decide +kernel)⟩, ⟨(Nat.lt_of_lt_of_le (by decide) hq), (by decide +kernel)⟩, ⟨(Nat.lt_of_lt_of_le (by decide) hq), (by decide +kernel)⟩, ⟨(Nat.lt_of_lt_of_le (by decide) hq), (by decide +kernel)⟩, ⟨(Nat.lt_of_lt_of_le (by decide) hq), (by decide +kernel)⟩, (by decide +kernel), (by decide +kernel), (by decide +kernel), (by decide +kernel), (by decide +kernel), (by decide +kernel)⟩, ⟨(Nat.lt_of_lt_of_le (by decide) hq), (by decide +kernel)⟩, (by decide +kernel), (by decide +kernel), (by decide +kernel), (by decide +kernel), (by decide +kernel)⟩
theorem la121 {q : Nat} (hq : 181 ≤ q) : LineAt q 121 := ⟨by decide, ⟨(Nat.lt_of_lt_of_le (by decide) hq), (by decide +kernel)⟩, ⟨(Nat.lt_of_lt_of_le (by decide) hq), (by decide +kernel)⟩, ⟨(Nat.lt_of_lt_of_le (by decide) hq), (by decide +kernel)⟩, ⟨⟨(Nat.lt_of_lt_of_le (by decide) hq), (by decide +kernel)⟩, ⟨(Nat.lt_of_lt_of_le (by decide) hq), (by decide +kernel)⟩, ⟨(Nat.lt_of_lt_of_le (by decide) hq), (by decide +kernel)⟩, ⟨(Nat.lt_of_lt_of_le (by decide) hq), (by decide +kernel)⟩, (by decide +kernel), (by decide +kernel), (by decide +kernel)⟩, ⟨⟨(Nat.lt_of_lt_of_le (by decide) hq), (by decide +kernel)⟩, ⟨(Nat.lt_of_lt_of_le (by decide) hq), (by decide +kernel)⟩, ⟨(Nat.lt_of_lt_of_le (by decide) hq), (by decide +kernel)⟩, ⟨(Nat.lt_of_lt_of_le (by decide) hq), (by decide +kernel)⟩, ⟨(Nat.lt_of_lt_of_le (by decide) hq), (by decide +kernel)⟩, ⟨(Nat.lt_of_lt_of_le (by decide) hq), (by decide +kernel)⟩, ⟨(Nat.lt_of_lt_of_le (by decide) hq), (by decide +kernel)⟩, (by decide +kernel), (by decide +kernel), (by decide +kernel), (by decide +kernel), (by decide +kernel), (by decide +kernel)⟩, ⟨(Nat.lt_of_lt_of_le (by decide) hq), (by decide +kernel)⟩, (by decide +kernel), (by decide +kernel), (by decide +kernel), (by decide +kernel), (by decide +kernel)⟩
theorem la136 {q : Nat} (hq : 181 ≤ q) : LineAt q 136 := ⟨by decide, ⟨(Nat.lt_of_lt_of_le (by decide) hq), (by decide +kernel)⟩, ⟨(Nat.lt_of_lt_of_le (by decide) hq), (by decide +kernel)⟩, ⟨(Nat.lt_of_lt_of_le (by decide) hq), (by decide +kernel)⟩, ⟨⟨(Nat.lt_of_lt_of_le (by decide) hq), (by decide +kernel)⟩, ⟨(Nat.lt_of_lt_of_le (by decide) hq), (by decide +kernel)⟩, ⟨(Nat.lt_of_lt_of_le (by decide) hq), (by decide +kernel)⟩, ⟨(Nat.lt_of_lt_of_le (by decide) hq), (by decide +kernel)⟩, (by decide +kernel), (by decide +kernel), (by decide +kernel)⟩, ⟨⟨(Nat.lt_of_lt_of_le (by decide) hq), (by decide +kernel)⟩, ⟨(Nat.lt_of_lt_of_le (by decide) hq), (by decide +kernel)⟩, ⟨(Nat.lt_of_lt_of_le (by decide) hq), (by decide +kernel)⟩, ⟨(Nat.lt_of_lt_of_le (by decide) hq), (by decide +kernel)⟩, ⟨(Nat.lt_of_lt_of_le (by decide) hq), (by decide +kernel)⟩, ⟨(Nat.lt_of_lt_of_le (by decide) hq), (by decide +kernel)⟩, ⟨(Nat.lt_of_lt_of_le (by decide) hq), (by decide +kernel)⟩, (by decide +kernel), (by decide +kernel), (by decide +kernel), (by decide +kernel), (by decide +kernel), (by decide +kernel)⟩, ⟨(Nat.lt_of_lt_of_le (by decide) hq), (by decide +kernel)⟩, (by decide +kernel), (by decide +kernel), (by decide +kernel), (by decide +kernel), (by decide +kernel)⟩
theorem la151 {q : Nat} (hq : 181 ≤ q) : LineAt q 151 := ⟨by decide, ⟨(Nat.lt_of_lt_of_le (by decide) hq), (by decide +kernel)⟩, ⟨(Nat.lt_of_lt_of_le (by decide) hq), (by decide +kernel)⟩, ⟨(Nat.lt_of_lt_of_le (by decide) hq), (by decide +kernel)⟩, ⟨⟨(Nat.lt_of_lt_of_le (by decide) hq), (by decide +kernel)⟩, ⟨(Nat.lt_of_lt_of_le (by decide) hq), (by decide +kernel)⟩, ⟨(Nat.lt_of_lt_of_le (by decide) hq), (by decide +kernel)⟩, ⟨(Nat.lt_of_lt_of_le (by decide) hq), (by decide +kernel)⟩, (by decide +kernel), (by decide +kernel), (by decide +kernel)⟩, ⟨⟨(Nat.lt_of_lt_of_le (by decide) hq), (by decide +kernel)⟩, ⟨(Nat.lt_of_lt_of_le (by decide) hq), (by decide +kernel)⟩, ⟨(Nat.lt_of_lt_of_le (by decide) hq), (by decide +kernel)⟩, ⟨(Nat.lt_of_lt_of_le (by decide) hq), (by decide +kernel)⟩, ⟨(Nat.lt_of_lt_of_le (by decide) hq), (by decide +kernel)⟩, ⟨(Nat.lt_of_lt_of_le (by decide) hq), (by decide +kernel)⟩, ⟨(Nat.lt_of_lt_of_le (by decide) hq), (by decide +kernel)⟩, (by decide +kernel), (by decide +kernel), (by decide +kernel), (by decide +kernel), (by decide +kernel), (by decide +kernel)⟩, ⟨(Nat.lt_of_lt_of_le (by decide) hq), (by decide +kernel)⟩, (by decide +kernel), (by decide +kernel), (by decide +kernel), (by decide +kernel), (by decide +kernel)⟩
theorem la166 {q : Nat} (hq : 181 ≤ q) : LineAt q 166 := ⟨by decide, ⟨(Nat.lt_of_lt_of_le (by decide) hq), (by decide +kernel)⟩, ⟨(Nat.lt_of_lt_of_le (by decide) hq), (by decide +kernel)⟩, ⟨(Nat.lt_of_lt_of_le (by decide) hq), (by decide +kernel)⟩, ⟨⟨(Nat.lt_of_lt_of_le (by decide) hq), (by decide +kernel)⟩, ⟨(Nat.lt_of_lt_of_le (by decide) hq), (by decide +kernel)⟩, ⟨(Nat.lt_of_lt_of_le (by decide) hq), (by decide +kernel)⟩, ⟨(Nat.lt_of_lt_of_le (by decide) hq), (by decide +kernel)⟩, (by decide +kernel), (by decide +kernel), (by decide +kernel)⟩, ⟨⟨(Nat.lt_of_lt_of_le (by decide) hq), (by decide +kernel)⟩, ⟨(Nat.lt_of_lt_of_le (by decide) hq), (by decide +kernel)⟩, ⟨(Nat.lt_of_lt_of_le (by decide) hq), (by decide +kernel)⟩, ⟨(Nat.lt_of_lt_of_le (by decide) hq), (by decide +kernel)⟩, ⟨(Nat.lt_of_lt_of_le (by decide) hq), (by decide +kernel)⟩, ⟨(Nat.lt_of_lt_of_le (by decide) hq), (by decide +kernel)⟩, ⟨(Nat.lt_of_lt_of_le (by decide) hq), (by decide +kernel)⟩, (by decide +kernel), (by decide +kernel), (by decide +kernel), (by decide +kernel), (by decide +kernel), (by decide +kernel)⟩, ⟨(Nat.lt_of_lt_of_le (by decide) hq), (by decide +kernel)⟩, (by decide +kernel), (by decide +kernel), (by decide +kernel), (by decide +kernel), (by decide +kernel)⟩
section LayP
variable {q p : Nat} {I : Nat → Int → Int} {v : Int} {fr : Bool}
theorem LineAt.b (h : LineAt q p) : 16 ≤ p ∧ p + 14 < 181 := h.1
theorem LineAt.o0 (h : LineAt q p) : isO (mm q I v fr) p 5 := h.2.1
theorem LineAt.a1 (h : LineAt q p) : isA (mm q I v fr) (p + 1) 12 := h.2.2.1
theorem LineAt.a2 (h : LineAt q p) : isA (mm q I v fr) (p + 2) 12 := h.2.2.2.1
theorem LineAt.o3 (h : LineAt q p) : isO (mm q I v fr) (p + 3) 2 := h.2.2.2.2.1.1
theorem LineAt.a4 (h : LineAt q p) : isA (mm q I v fr) (p + 4) 3 := h.2.2.2.2.1.2.1
theorem LineAt.a5 (h : LineAt q p) : isA (mm q I v fr) (p + 5) 3 := h.2.2.2.2.1.2.2.1
theorem LineAt.a6 (h : LineAt q p) : isA (mm q I v fr) (p + 6) 3 := h.2.2.2.2.1.2.2.2.1
theorem LineAt.r3_1 (h : LineAt q p) : R0 (p + 3) 1 = some (p + 4) := h.2.2.2.2.1.2.2.2.2.1
theorem LineAt.r3_2 (h : LineAt q p) : R0 (p + 3) 2 = some (p + 5) := h.2.2.2.2.1.2.2.2.2.2.1
theorem LineAt.r3_3 (h : LineAt q p) : R0 (p + 3) 3 = some (p + 6) := h.2.2.2.2.1.2.2.2.2.2.2
theorem LineAt.o7 (h : LineAt q p) : isO (mm q I v fr) (p + 7) 3 := h.2.2.2.2.2.1.1
theorem LineAt.a8 (h : LineAt q p) : isA (mm q I v fr) (p + 8) 48 := h.2.2.2.2.2.1.2.1
theorem LineAt.a9 (h : LineAt q p) : isA (mm q I v fr) (p + 9) 48 := h.2.2.2.2.2.1.2.2.1
theorem LineAt.a10 (h : LineAt q p) : isA (mm q I v fr) (p + 10) 48 := h.2.2.2.2.2.1.2.2.2.1
theorem LineAt.a11 (h : LineAt q p) : isA (mm q I v fr) (p + 11) 48 := h.2.2.2.2.2.1.2.2.2.2.1
theorem LineAt.a12 (h : LineAt q p) : isA (mm q I v fr) (p + 12) 288 := h.2.2.2.2.2.1.2.2.2.2.2.1
theorem LineAt.a13 (h : LineAt q p) : isA (mm q I v fr) (p + 13) 288 := h.2.2.2.2.2.1.2.2.2.2.2.2.1
theorem LineAt.r7_1 (h : LineAt q p) : R0 (p + 7) 1 = some (p + 8) := h.2.2.2.2.2.1.2.2.2.2.2.2.2.1
theorem LineAt.r7_2 (h : LineAt q p) : R0 (p + 7) 2 = some (p + 9) := h.2.2.2.2.2.1.2.2.2.2.2.2.2.2.1
theorem LineAt.r7_3 (h : LineAt q p) : R0 (p + 7) 3 = some (p + 10) := h.2.2.2.2.2.1.2.2.2.2.2.2.2.2.2.1
theorem LineAt.r7_4 (h : LineAt q p) : R0 (p + 7) 4 = some (p + 11) := h.2.2.2.2.2.1.2.2.2.2.2.2.2.2.2.2.1
theorem LineAt.r7_5 (h : LineAt q p) : R0 (p + 7) 5 = some (p + 12) := h.2.2.2.2.2.1.2.2.2.2.2.2.2.2.2.2.2.1
theorem LineAt.r7_6 (h : LineAt q p) : R0 (p + 7) 6 = some (p + 13) := h.2.2.2.2.2.1.2.2.2.2.2.2.2.2.2.2.2.2
theorem LineAt.o14 (h : LineAt q p) : isO (mm q I v fr) (p + 14) 1 := h.2.2.2.2.2.2.1
theorem LineAt.r0_8 (h : LineAt q p) : R0 p 8 = some (p + 1) := h.2.2.2.2.2.2.2.1
theorem LineAt.r0_9 (h : LineAt q p) : R0 p 9 = some (p + 2) := h.2.2.2.2.2.2.2.2.1
theorem LineAt.r0_10 (h : LineAt q p) : R0 p 10 = some (p + 3) := h.2.2.2.2.2.2.2.2.2.1
theorem LineAt.r0_11 (h : LineAt q p) : R0 p 11 = some (p + 7) := h.2.2.2.2.2.2.2.2.2.2.1
theorem LineAt.r0_12 (h : LineAt q p) : R0 p 12 = some (p + 14) := h.2.2.2.2.2.2.2.2.2.2.2
end LayP
end
section
/-! ===== rows over the layout; contracts of one outcome ===== -/
theorem up2_s {I : Nat → Int → Int} {k : Nat} {j v : Int} : up2 I k j v k j = v := if_pos ⟨rfl, rfl⟩
theorem up2_p {I : Nat → Int → Int} {k a : Nat} {j v b : Int} (h : a ≠ k) : up2 I k j v a b = I a b := if_neg (fun z => h z.1)
theorem up2_i {I : Nat → Int → Int} {k a : Nat} {j v b : Int} (h : b ≠ j) : up2 I k j v a b = I a b := if_neg (fun z => h z.2)
theorem up2_e {I : Nat → Int → Int} {k a : Nat} {j v b : Int} (h1 : a = k) (h2 : b = j) : up2 I k j v a b = v := if_pos ⟨h1, h2⟩
def b01 (b : Bool) : Int := if b then 1 else 0
theorem b01_t : b01 true = 1 := rfl
theorem b01_f : b01 false = 0 := rfl
theorem b01_or (b : Bool) : b01 b = 0 ∨ b01 b = 1 := by cases b <;> decide
theorem b01_r (b : Bool) : InR (b01 b) := by rcases b01_or b with h | h <;> rw [h] <;> exact ⟨by decide, by decide⟩
def mask : List Bool → LL → LL
  | true :: M, x :: L => x :: mask M L
  | false :: M, _ :: L => none :: mask M L
  | _, L => L
theorem mask_len : ∀ (M : List Bool) (L : LL), (mask M L).length = L.length
  | [], L => by cases L <;> rfl
  | true :: M, [] => rfl
  | false :: M, [] => rfl
  | true :: M, x :: L => by show (mask M L).length + 1 = L.length + 1; rw [mask_len M L]
  | false :: M, x :: L => by show (mask M L).length + 1 = L.length + 1; rw [mask_len M L]
theorem mask_get : ∀ (M : List Bool) (L : LL) (i : Nat) (v : Value), (mask M L)[i]? = some (some v) → L[i]? = some (some v)
  | [], L, i, v, h => by cases L <;> exact h
  | true :: M, [], i, v, h => h
  | false :: M, [], i, v, h => h
  | true :: M, x :: L, 0, v, h => h
  | true :: M, x :: L, i + 1, v, h => mask_get M L i v h
  | false :: M, x :: L, 0, v, h => by cases h
  | false :: M, x :: L, i + 1, v, h => mask_get M L i v h
def DT (l : LX) (y : Nat) (as : List Value) (σ : MM) (k n : Nat) (o : OO) : Prop := CT l y as σ k n (fun o' => o' = o)
section Rows4
variable {l : LX} {y k n pc : Nat} {L : LL} {st : List Value} {Q : OO → Prop} {q : Nat} {I : Nat → Int → Int} {v : Int} {fr : Bool} {σ τ : MM}
theorem mkdt (hl : l.1.stackTraces = false) (hy : y < 332) {as : List Value} {o : OO} (hlen : (enL as).length ≤ mlN y) (hL : en y as = L) (h : Ex l y k n 0 L [] σ (fun o' => o' = o)) : DT l y as σ k n o := mkct hl hy hlen (by rw [hL]; exact h)
theorem x_mask (M : List Bool) (kk : Ex l y k n pc (mask M L) st σ Q) : Ex l y k n pc L st σ Q := x_forget (mask_len M L) (mask_get M L) kk
theorem m_getI {ix c j q9 a : Nat} {z : Int} (hf : ftN (owN y) ix = some (c, j, q9)) (hk : ¬ fk c j = 2) (hz : (j : Int) = z) (ho : isO (mm q I v fr) a c) (hd : decode (cdN y) pc = .ok (.getfield ix, 3)) (kk : Ex l y k n (pc + 3) L (.int (iI (I a z)) :: st) (mm q I v fr) Q) : Ex l y k n pc L (.ref a :: st) (mm q I v fr) Q := x_getI hf ho hk hz hd kk
/-- .. with what is known of it -/
theorem m_getW {ix c j q9 a : Nat} {z w : Int} (hf : ftN (owN y) ix = some (c, j, q9)) (hk : ¬ fk c j = 2) (hz : (j : Int) = z) (ho : isO (mm q I v fr) a c) (hw : I a z = w) (hd : decode (cdN y) pc = .ok (.getfield ix, 3)) (kk : Ex l y k n (pc + 3) L (.int (iI w) :: st) (mm q I v fr) Q) : Ex l y k n pc L (.ref a :: st) (mm q I v fr) Q := x_getI hf ho hk hz hd (by rw [show (mm q I v fr).1 a z = w from hw]; exact kk)
theorem m_getR {ix c j q9 a r : Nat} (hf : ftN (owN y) ix = some (c, j, q9)) (hk : fk c j = 2) (ho : isO (mm q I v fr) a c) (hr : R0 a j = some r) (hd : decode (cdN y) pc = .ok (.getfield ix, 3)) (kk : Ex l y k n (pc + 3) L (.ref r :: st) (mm q I v fr) Q) : Ex l y k n pc L (.ref a :: st) (mm q I v fr) Q := x_getR hf ho hk hr hd kk
theorem m_putI {ix c j q9 a : Nat} {z w : Int} (hf : ftN (owN y) ix = some (c, j, q9)) (hk : fk c j = 0) (hff : ff c j = false) (hz : (j : Int) = z) (ho : isO (mm q I v fr) a c) (hd : decode (cdN y) pc = .ok (.putfield ix, 3)) (kk : Ex l y k n (pc + 3) L st (mm q (up2 I a z w) v fr) Q) : Ex l y k n pc L (.int (iI w) :: .ref a :: st) (mm q I v fr) Q := x_putI hf ho (Or.inl hk) hff hz hd kk
theorem m_putZ {ix c j q9 a : Nat} {z w : Int} (hf : ftN (owN y) ix = some (c, j, q9)) (hk : fk c j = 1) (hff : ff c j = false) (hz : (j : Int) = z) (ho : isO (mm q I v fr) a c) (hw : w = 0 ∨ w = 1) (hd : decode (cdN y) pc = .ok (.putfield ix, 3)) (kk : Ex l y k n (pc + 3) L st (mm q (up2 I a z w) v fr) Q) : Ex l y k n pc L (.int (iI w) :: .ref a :: st) (mm q I v fr) Q := x_putI hf ho (Or.inr ⟨hk, hw⟩) hff hz hd kk
theorem m_iald {a m0 : Nat} {i : Int} (ho : isA (mm q I v fr) a m0) (h0 : 0 ≤ i) (h9 : i < m0) (hm : i ≤ 2147483647) (hd : decode (cdN y) pc = .ok (.iaload, 1)) (kk : Ex l y k n (pc + 1) L (.int (iI (I a i)) :: st) (mm q I v fr) Q) : Ex l y k n pc L (.int (iI i) :: .ref a :: st) (mm q I v fr) Q := x_iald ho h0 h9 hm hd kk
theorem m_ialdW {a m0 : Nat} {i w : Int} (ho : isA (mm q I v fr) a m0) (h0 : 0 ≤ i) (h9 : i < m0) (hm : i ≤ 2147483647) (hw : I a i = w) (hd : decode (cdN y) pc = .ok (.iaload, 1)) (kk : Ex l y k n (pc + 1) L (.int (iI w) :: st) (mm q I v fr) Q) : Ex l y k n pc L (.int (iI i) :: .ref a :: st) (mm q I v fr) Q := x_iald ho h0 h9 hm hd (by rw [show (mm q I v fr).1 a i = w from hw]; exact kk)
theorem m_iast {a m0 : Nat} {i w : Int} (ho : isA (mm q I v fr) a m0) (h0 : 0 ≤ i) (h9 : i < m0) (hm : i ≤ 2147483647) (hd : decode (cdN y) pc = .ok (.iastore, 1)) (kk : Ex l y k n (pc + 1) L st (mm q (up2 I a i w) v fr) Q) : Ex l y k n pc L (.int (iI w) :: .int (iI i) :: .ref a :: st) (mm q I v fr) Q := x_iast ho h0 h9 hm hd kk
theorem m_alen {a m0 : Nat} {z : Int} (ho : isA (mm q I v fr) a m0) (hz : (m0 : Int) = z) (hd : decode (cdN y) pc = .ok (.arraylength, 1)) (kk : Ex l y k n (pc + 1) L (.int (iI z) :: st) (mm q I v fr) Q) : Ex l y k n pc L (.ref a :: st) (mm q I v fr) Q := x_alen ho hd (by rw [hz]; exact kk)
theorem m_aald {a m0 r : Nat} {i : Int} (ho : isR (mm q I v fr) a m0) (h0 : 0 ≤ i) (h9 : i < m0) (hm : i ≤ 2147483647) (hr : R0 a i.toNat = some r) (hd : decode (cdN y) pc = .ok (.aaload, 1)) (kk : Ex l y k n (pc + 1) L (.ref r :: st) (mm q I v fr) Q) : Ex l y k n pc L (.int (iI i) :: .ref a :: st) (mm q I v fr) Q := x_aald ho h0 h9 hm hr hd kk
theorem m_copy {ix t a d m0 m1 : Nat} {sp dp w : Int} {ps : List Nat} (hc : ctN (owN y) ix = some (8, t, ps)) (ho : isA (mm q I v fr) a m0) (ho1 : isA (mm q I v fr) d m1) (h0 : 0 ≤ sp) (h3 : 0 ≤ dp) (h4 : 0 ≤ w) (h5 : sp + w ≤ m0) (h6 : dp + w ≤ m1) (hm : m0 ≤ 100000) (hm1 : m1 ≤ 100000) (hh : 1 ≤ htN y) (hl : cats st + (nativeFrameWords "java/lang/System" "arraycopy" 5 + 11) ≤ loN y) (hd : decode (cdN y) pc = .ok (.invokestatic ix, 3))
    (kk : Ex l y k n (pc + 3) L st (mm q (cp2 I a sp d dp w) v fr) Q) : Ex l y k n pc L (.int (iI w) :: .int (iI dp) :: .ref d :: .int (iI sp) :: .ref a :: st) (mm q I v fr) Q := x_copy ho ho1 h0 h3 h4 h5 h6 hm hm1 hc hh hl hd kk
theorem m_lald {a : Nat} (hq : a < q) (hK : K0 a = 12) (hd : decode (cdN y) pc = .ok (.laload, 1)) (kk : Ex l y k n (pc + 1) L (.long (lL v) :: st) (mm q I v fr) Q) : Ex l y k n pc L (.int (iI 0) :: .ref a :: st) (mm q I v fr) Q := x_lald ⟨hq, hK⟩ hd kk
/-- branches on booleans -/
theorem x_ifB_eq {off : Int} {tgt : Nat} {b : Bool} (hd : decode (cdN y) pc = .ok (.ifCond .eq off, 3)) (ht : (pc : Int) + off = (tgt : Int)) (kt : b = false → Ex l y k n tgt L st σ Q) (kf : b = true → Ex l y k n (pc + 3) L st σ Q) : Ex l y k n pc L (.int (iI (b01 b)) :: st) σ Q :=
  x_if_eq (b01_r b) hd ht (fun h => kt (by cases b; rfl; cases h)) (fun h => kf (by cases b; exact absurd rfl h; rfl))
theorem x_ifB_ne {off : Int} {tgt : Nat} {b : Bool} (hd : decode (cdN y) pc = .ok (.ifCond .ne off, 3)) (ht : (pc : Int) + off = (tgt : Int)) (kt : b = true → Ex l y k n tgt L st σ Q) (kf : b = false → Ex l y k n (pc + 3) L st σ Q) : Ex l y k n pc L (.int (iI (b01 b)) :: st) σ Q :=
  x_if_ne (b01_r b) hd ht (fun h => kt (by cases b; exact absurd rfl h; rfl)) (fun h => kf (by cases b; rfl; cases h))
/-- lcmp and its branch -/
theorem cmpZ_r (a b : Int) : InR (cmpZ a b) := by
  unfold cmpZ
  split
  · exact ⟨by decide, by decide⟩
  · split <;> exact ⟨by decide, by decide⟩
theorem cmpZ_lt (a b : Int) : cmpZ a b < 0 ↔ a < b := by unfold cmpZ; split; omega; split <;> omega
theorem cmpZ_gt (a b : Int) : 0 < cmpZ a b ↔ b < a := by unfold cmpZ; split; omega; split <;> omega
theorem cmpZ_eq (a b : Int) : cmpZ a b = 0 ↔ a = b := by unfold cmpZ; split; omega; split <;> omega
theorem x_lc_lt {off : Int} {tgt : Nat} {a b : Int} (ha : InL a) (hb : InL b) (hd : decode (cdN y) pc = .ok (.lcmp, 1)) (hd2 : decode (cdN y) (pc + 1) = .ok (.ifCond .lt off, 3)) (ht : ((pc + 1 : Nat) : Int) + off = (tgt : Int)) (kt : a < b → Ex l y k n tgt L st σ Q) (kf : b ≤ a → Ex l y k n (pc + 4) L st σ Q) : Ex l y k n pc L (.long (lL b) :: .long (lL a) :: st) σ Q :=
  x_lcmp ha hb hd (x_if_lt (cmpZ_r a b) hd2 ht (fun h => kt ((cmpZ_lt a b).mp h)) (fun h => kf (Int.not_lt.mp fun z => by have := (cmpZ_lt a b).mpr z; omega)))
theorem x_lc_ge {off : Int} {tgt : Nat} {a b : Int} (ha : InL a) (hb : InL b) (hd : decode (cdN y) pc = .ok (.lcmp, 1)) (hd2 : decode (cdN y) (pc + 1) = .ok (.ifCond .ge off, 3)) (ht : ((pc + 1 : Nat) : Int) + off = (tgt : Int)) (kt : b ≤ a → Ex l y k n tgt L st σ Q) (kf : a < b → Ex l y k n (pc + 4) L st σ Q) : Ex l y k n pc L (.long (lL b) :: .long (lL a) :: st) σ Q :=
  x_lcmp ha hb hd (x_if_ge (cmpZ_r a b) hd2 ht (fun h => kt (Int.not_lt.mp fun z => by have := (cmpZ_lt a b).mpr z; omega)) (fun h => kf ((cmpZ_lt a b).mp h)))
theorem x_lc_gt {off : Int} {tgt : Nat} {a b : Int} (ha : InL a) (hb : InL b) (hd : decode (cdN y) pc = .ok (.lcmp, 1)) (hd2 : decode (cdN y) (pc + 1) = .ok (.ifCond .gt off, 3)) (ht : ((pc + 1 : Nat) : Int) + off = (tgt : Int)) (kt : b < a → Ex l y k n tgt L st σ Q) (kf : a ≤ b → Ex l y k n (pc + 4) L st σ Q) : Ex l y k n pc L (.long (lL b) :: .long (lL a) :: st) σ Q :=
  x_lcmp ha hb hd (x_if_gt (cmpZ_r a b) hd2 ht (fun h => kt ((cmpZ_gt a b).mp h)) (fun h => kf (Int.not_lt.mp fun z => by have := (cmpZ_gt a b).mpr z; omega)))
theorem x_lc_eq {off : Int} {tgt : Nat} {a b : Int} (ha : InL a) (hb : InL b) (hd : decode (cdN y) pc = .ok (.lcmp, 1)) (hd2 : decode (cdN y) (pc + 1) = .ok (.ifCond .eq off, 3)) (ht : ((pc + 1 : Nat) : Int) + off = (tgt : Int)) (kt : a = b → Ex l y k n tgt L st σ Q) (kf : a ≠ b → Ex l y k n (pc + 4) L st σ Q) : Ex l y k n pc L (.long (lL b) :: .long (lL a) :: st) σ Q :=
  x_lcmp ha hb hd (x_if_eq (cmpZ_r a b) hd2 ht (fun h => kt ((cmpZ_eq a b).mp h)) (fun h => kf (fun z => h ((cmpZ_eq a b).mpr z))))
/-- calls of one outcome: it returns and makes nothing -/
theorem fr_or (h : τ.2.2.2.2.2 = σ.2.2.2.2.2) {w : Option Value} : σ.2.2.2.2.2 = true ∨ ∀ (v : Option Value) (τ' : MM), ((Sum.inl v, τ') : OO) = (.inl w, τ) → τ'.2.2.2.2.2 = false := by
  cases hs : σ.2.2.2.2.2 with
  | true => exact Or.inl rfl
  | false =>
    refine Or.inr fun v τ' e => ?_
    have e2 : τ' = τ := congrArg Prod.snd e
    rw [e2, h, hs]
theorem ex_00 (h : Ex l y (0 + k) (0 + n) pc L st σ Q) : Ex l y k n pc L st σ Q := by rw [Nat.zero_add, Nat.zero_add] at h; exact h
theorem x_cV {ix t a : Nat} {ps : List Nat} {As rest : List Value} {w : Option Value} (hc : ctN (owN y) ix = some (0, t, ps)) (hCT : DT l t (.ref a :: As) σ 0 0 (.inl w, τ)) (ho : isO σ a (owN t)) (hst : st = As.reverse ++ .ref a :: rest) (hlen : As.length = naN t) (hcat : cats rest ≤ 8) (hh : htN t + 1 ≤ htN y) (hlo : 8 + (mlN t + 11) + loN t ≤ loN y) (hfr : τ.2.2.2.2.2 = σ.2.2.2.2.2) (hd : decode (cdN y) pc = .ok (.invokevirtual ix, 3))
    (kk : Ex l y k n (pc + 3) L (w.toList ++ rest) τ Q) : Ex l y k n pc L st σ Q :=
  ex_00 (x_callV hc hCT ho hst hlen hcat hh hlo hd (fr_or hfr) (fun v τ' e => by cases e; exact kk) (fun E τ' e _ => by cases e))
theorem x_cS {ix t : Nat} {ps : List Nat} {As rest : List Value} {w : Option Value} (hc : ctN (owN y) ix = some (1, t, ps)) (hCT : DT l t As σ 0 0 (.inl w, τ)) (hst : st = As.reverse ++ rest) (hlen : As.length = naN t) (hcat : cats rest ≤ 8) (hh : htN t + 1 ≤ htN y) (hlo : 8 + (mlN t + 11) + loN t ≤ loN y) (hown : owN t = owN y) (hfr : τ.2.2.2.2.2 = σ.2.2.2.2.2) (hd : decode (cdN y) pc = .ok (.invokestatic ix, 3))
    (kk : Ex l y k n (pc + 3) L (w.toList ++ rest) τ Q) : Ex l y k n pc L st σ Q :=
  ex_00 (x_callS hc hCT hst hlen hcat hh hlo hown hd (fr_or hfr) (fun v τ' e => by cases e; exact kk) (fun E τ' e _ => by cases e))
theorem x_cSN {ix t : Nat} {ps : List Nat} {As rest : List Value} {w : Option Value} (hc : ctN (owN y) ix = some (3, t, ps)) (hCT : DT l t As σ 0 0 (.inl w, τ)) (hst : st = As.reverse ++ rest) (hlen : As.length = naN t) (hcat : cats rest ≤ 8) (hh : htN t + 1 ≤ htN y) (hlo : 8 + (mlN t + 11) + loN t ≤ loN y) (hfr : τ.2.2.2.2.2 = σ.2.2.2.2.2) (hd : decode (cdN y) pc = .ok (.invokestatic ix, 3))
    (kk : Ex l y k n (pc + 3) L (w.toList ++ rest) τ Q) : Ex l y k n pc L st σ Q :=
  ex_00 (x_callSN hc hCT hst hlen hcat hh hlo hd (fr_or hfr) (fun v τ' e => by cases e; exact kk) (fun E τ' e _ => by cases e))
/-- .. it throws, and this method has no handlers -/
theorem x_cVt {ix t a E : Nat} {ps : List Nat} {As rest : List Value} (hc : ctN (owN y) ix = some (0, t, ps)) (hCT : DT l t (.ref a :: As) σ 1 6 (.inr E, τ)) (ho : isO σ a (owN t)) (hst : st = As.reverse ++ .ref a :: rest) (hlen : As.length = naN t) (hcat : cats rest ≤ 8) (hh : htN t + 1 ≤ htN y) (hlo : 8 + (mlN t + 11) + loN t ≤ loN y) (hy : hhN y = []) (hd : decode (cdN y) pc = .ok (.invokevirtual ix, 3))
    (kk : Q (.inr E, τ)) : Ex l y 1 6 pc L st σ Q :=
  x_callV (k := 0) (n := 0) hc hCT ho hst hlen hcat hh hlo hd (Or.inr fun v τ' e => by cases e) (fun v τ' e => by cases e) (fun E τ' e _ => by cases e; exact Or.inl ⟨hy, kk⟩)
theorem x_cSt {ix t E : Nat} {ps : List Nat} {As rest : List Value} (hc : ctN (owN y) ix = some (1, t, ps)) (hCT : DT l t As σ 1 6 (.inr E, τ)) (hst : st = As.reverse ++ rest) (hlen : As.length = naN t) (hcat : cats rest ≤ 8) (hh : htN t + 1 ≤ htN y) (hlo : 8 + (mlN t + 11) + loN t ≤ loN y) (hown : owN t = owN y) (hy : hhN y = []) (hd : decode (cdN y) pc = .ok (.invokestatic ix, 3))
    (kk : Q (.inr E, τ)) : Ex l y 1 6 pc L st σ Q :=
  x_callS (k := 0) (n := 0) hc hCT hst hlen hcat hh hlo hown hd (Or.inr fun v τ' e => by cases e) (fun v τ' e => by cases e) (fun E τ' e _ => by cases e; exact Or.inl ⟨hy, kk⟩)
end Rows4
section Rows5
variable {l : LX} {y k n pc : Nat} {L : LL} {st : List Value} {Q : OO → Prop} {σ τ : MM}
theorem x_cVs {ix t a : Nat} {ps : List Nat} {As rest : List Value} {w : Value} (hc : ctN (owN y) ix = some (0, t, ps)) (hCT : DT l t (.ref a :: As) σ 0 0 (.inl (some w), τ)) (ho : isO σ a (owN t)) (hst : st = As.reverse ++ .ref a :: rest) (hlen : As.length = naN t) (hcat : cats rest ≤ 8) (hh : htN t + 1 ≤ htN y) (hlo : 8 + (mlN t + 11) + loN t ≤ loN y) (hfr : τ.2.2.2.2.2 = σ.2.2.2.2.2) (hd : decode (cdN y) pc = .ok (.invokevirtual ix, 3))
    (kk : Ex l y k n (pc + 3) L (w :: rest) τ Q) : Ex l y k n pc L st σ Q := x_cV hc hCT ho hst hlen hcat hh hlo hfr hd kk
theorem x_cVv {ix t a : Nat} {ps : List Nat} {As rest : List Value} (hc : ctN (owN y) ix = some (0, t, ps)) (hCT : DT l t (.ref a :: As) σ 0 0 (.inl none, τ)) (ho : isO σ a (owN t)) (hst : st = As.reverse ++ .ref a :: rest) (hlen : As.length = naN t) (hcat : cats rest ≤ 8) (hh : htN t + 1 ≤ htN y) (hlo : 8 + (mlN t + 11) + loN t ≤ loN y) (hfr : τ.2.2.2.2.2 = σ.2.2.2.2.2) (hd : decode (cdN y) pc = .ok (.invokevirtual ix, 3))
    (kk : Ex l y k n (pc + 3) L rest τ Q) : Ex l y k n pc L st σ Q := x_cV hc hCT ho hst hlen hcat hh hlo hfr hd kk
theorem x_cSs {ix t : Nat} {ps : List Nat} {As rest : List Value} {w : Value} (hc : ctN (owN y) ix = some (1, t, ps)) (hCT : DT l t As σ 0 0 (.inl (some w), τ)) (hst : st = As.reverse ++ rest) (hlen : As.length = naN t) (hcat : cats rest ≤ 8) (hh : htN t + 1 ≤ htN y) (hlo : 8 + (mlN t + 11) + loN t ≤ loN y) (hown : owN t = owN y) (hfr : τ.2.2.2.2.2 = σ.2.2.2.2.2) (hd : decode (cdN y) pc = .ok (.invokestatic ix, 3))
    (kk : Ex l y k n (pc + 3) L (w :: rest) τ Q) : Ex l y k n pc L st σ Q := x_cS hc hCT hst hlen hcat hh hlo hown hfr hd kk
theorem x_cSv {ix t : Nat} {ps : List Nat} {As rest : List Value} (hc : ctN (owN y) ix = some (1, t, ps)) (hCT : DT l t As σ 0 0 (.inl none, τ)) (hst : st = As.reverse ++ rest) (hlen : As.length = naN t) (hcat : cats rest ≤ 8) (hh : htN t + 1 ≤ htN y) (hlo : 8 + (mlN t + 11) + loN t ≤ loN y) (hown : owN t = owN y) (hfr : τ.2.2.2.2.2 = σ.2.2.2.2.2) (hd : decode (cdN y) pc = .ok (.invokestatic ix, 3))
    (kk : Ex l y k n (pc + 3) L rest τ Q) : Ex l y k n pc L st σ Q := x_cS hc hCT hst hlen hcat hh hlo hown hfr hd kk
theorem x_cSNs {ix t : Nat} {ps : List Nat} {As rest : List Value} {w : Value} (hc : ctN (owN y) ix = some (3, t, ps)) (hCT : DT l t As σ 0 0 (.inl (some w), τ)) (hst : st = As.reverse ++ rest) (hlen : As.length = naN t) (hcat : cats rest ≤ 8) (hh : htN t + 1 ≤ htN y) (hlo : 8 + (mlN t + 11) + loN t ≤ loN y) (hfr : τ.2.2.2.2.2 = σ.2.2.2.2.2) (hd : decode (cdN y) pc = .ok (.invokestatic ix, 3))
    (kk : Ex l y k n (pc + 3) L (w :: rest) τ Q) : Ex l y k n pc L st σ Q := x_cSN hc hCT hst hlen hcat hh hlo hfr hd kk
theorem x_bool {z : Int} {b : Bool} (h : z = b01 b) {rest : List Value} (kk : Ex l y k n pc L (.int (iI (b01 b)) :: rest) σ Q) : Ex l y k n pc L (.int (iI z) :: rest) σ Q := by rw [h]; exact kk
theorem x_val {z w : Int} (h : z = w) {rest : List Value} (kk : Ex l y k n pc L (.int (iI w) :: rest) σ Q) : Ex l y k n pc L (.int (iI z) :: rest) σ Q := by rw [h]; exact kk
end Rows5
section Rows6
variable {l : LX} {y k n pc : Nat} {L : LL} {st : List Value} {Q : OO → Prop} {q : Nat} {I : Nat → Int → Int} {v : Int} {fr : Bool}
/-- a memory of which this is known; with an answer -/
def oE (q : Nat) (v : Int) (fr : Bool) (w : Option Value) (P : (Nat → Int → Int) → Prop) : OO → Prop := fun o => ∃ J, o = (.inl w, mm q J v fr) ∧ P J
theorem mkct2 {σ : MM} (hl : l.1.stackTraces = false) (hy : y < 332) {as : List Value} (hlen : (enL as).length ≤ mlN y) (hL : en y as = L) (h : Ex l y k n 0 L [] σ Q) : CT l y as σ k n Q := mkct hl hy hlen (by rw [hL]; exact h)
theorem fr_or2 {w : Option Value} {P : (Nat → Int → Int) → Prop} : (mm q I v fr).2.2.2.2.2 = true ∨ ∀ (v' : Option Value) (τ' : MM), oE q v fr w P (.inl v', τ') → τ'.2.2.2.2.2 = false := by
  cases fr with
  | true => exact Or.inl rfl
  | false =>
    refine Or.inr fun v' τ' e => ?_
    obtain ⟨J, e1, -⟩ := e
    have e2 : τ' = mm q J v false := congrArg Prod.snd e1
    rw [e2]
    rfl
theorem x_cVe {ix t a : Nat} {ps : List Nat} {As rest : List Value} {w : Option Value} {P : (Nat → Int → Int) → Prop} (hc : ctN (owN y) ix = some (0, t, ps)) (hCT : CT l t (.ref a :: As) (mm q I v fr) 0 0 (oE q v fr w P)) (ho : isO (mm q I v fr) a (owN t)) (hst : st = As.reverse ++ .ref a :: rest) (hlen : As.length = naN t) (hcat : cats rest ≤ 8) (hh : htN t + 1 ≤ htN y) (hlo : 8 + (mlN t + 11) + loN t ≤ loN y) (hd : decode (cdN y) pc = .ok (.invokevirtual ix, 3))
    (kk : ∀ J, P J → Ex l y k n (pc + 3) L (w.toList ++ rest) (mm q J v fr) Q) : Ex l y k n pc L st (mm q I v fr) Q :=
  ex_00 (x_callV hc hCT ho hst hlen hcat hh hlo hd fr_or2 (fun v' τ' e => by
    obtain ⟨J, e1, hJ⟩ := e
    cases e1
    exact kk J hJ) (fun E τ' e _ => by obtain ⟨J, e1, -⟩ := e; cases e1))
theorem x_cVev {ix t a : Nat} {ps : List Nat} {As rest : List Value} {P : (Nat → Int → Int) → Prop} (hc : ctN (owN y) ix = some (0, t, ps)) (hCT : CT l t (.ref a :: As) (mm q I v fr) 0 0 (oE q v fr none P)) (ho : isO (mm q I v fr) a (owN t)) (hst : st = As.reverse ++ .ref a :: rest) (hlen : As.length = naN t) (hcat : cats rest ≤ 8) (hh : htN t + 1 ≤ htN y) (hlo : 8 + (mlN t + 11) + loN t ≤ loN y) (hd : decode (cdN y) pc = .ok (.invokevirtual ix, 3))
    (kk : ∀ J, P J → Ex l y k n (pc + 3) L rest (mm q J v fr) Q) : Ex l y k n pc L st (mm q I v fr) Q := x_cVe hc hCT ho hst hlen hcat hh hlo hd kk
theorem x_cVes {ix t a : Nat} {ps : List Nat} {As rest : List Value} {w : Value} {P : (Nat → Int → Int) → Prop} (hc : ctN (owN y) ix = some (0, t, ps)) (hCT : CT l t (.ref a :: As) (mm q I v fr) 0 0 (oE q v fr (some w) P)) (ho : isO (mm q I v fr) a (owN t)) (hst : st = As.reverse ++ .ref a :: rest) (hlen : As.length = naN t) (hcat : cats rest ≤ 8) (hh : htN t + 1 ≤ htN y) (hlo : 8 + (mlN t + 11) + loN t ≤ loN y) (hd : decode (cdN y) pc = .ok (.invokevirtual ix, 3))
    (kk : ∀ J, P J → Ex l y k n (pc + 3) L (w :: rest) (mm q J v fr) Q) : Ex l y k n pc L st (mm q I v fr) Q := x_cVe hc hCT ho hst hlen hcat hh hlo hd kk
end Rows6
end
section
/-! ===== bits, as integers ===== -/
theorem iI_bv (a : Int) : (iI a).toBitVec.toNat = (a % 4294967296).toNat := by
  show (BitVec.ofInt 32 a).toNat = _
  rw [BitVec.toNat_ofInt]
  rfl
theorem iI_ext {x : Int32} {z : Int} (h : x.toBitVec.toNat = (z % 4294967296).toNat) : x = iI z := by
  apply Int32.toBitVec_inj.mp
  apply BitVec.eq_of_toNat_eq
  rw [h, iI_bv]
theorem iI_and (a : Int) {m : Int} (k : Nat) (hk : k ≤ 30) (hm : m = 2 ^ k - 1) : iI a &&& iI m = iI (a % 2 ^ k) := by
  have hp : (2 : Int) ^ k ≤ 1073741824 := by
    have h1 : (2 : Nat) ^ k ≤ 2 ^ 30 := Nat.pow_le_pow_right (by decide) hk
    have h2 : ((2 ^ k : Nat) : Int) ≤ ((2 ^ 30 : Nat) : Int) := Int.ofNat_le.mpr h1
    have h3 : ((2 ^ k : Nat) : Int) = (2 : Int) ^ k := by push_cast; rfl
    have h4 : ((2 ^ 30 : Nat) : Int) = 1073741824 := by decide
    rw [h3, h4] at h2
    exact h2
  have hp0 : (0 : Int) < 2 ^ k := Int.pow_pos (by decide)
  have hmm : (iI m).toBitVec.toNat = 2 ^ k - 1 := by
    rw [iI_bv, hm, Int.emod_eq_of_lt (by omega) (by omega)]
    have h3 : ((2 ^ k : Nat) : Int) = (2 : Int) ^ k := by push_cast; rfl
    rw [← h3]
    have h5 : 0 < 2 ^ k := Nat.pow_pos (by decide)
    omega
  rw [pk_and (iI a) k hmm, iI_bv, iI_nat]
  congr 1
  have h3 : ((2 ^ k : Nat) : Int) = (2 : Int) ^ k := by push_cast; rfl
  have h6 : (2 : Int) ^ k ∣ 4294967296 := ⟨2 ^ (32 - k), by
    rw [← Int.pow_add, show k + (32 - k) = 32 from by omega]; decide⟩
  rw [Int.natCast_emod, Int.toNat_of_nonneg (Int.emod_nonneg _ (by decide)), h3, Int.emod_emod_of_dvd _ h6]
theorem iI_smod : ∀ s : Fin 32, ((iI (s.val : Int) &&& 31).toBitVec.smod 32).toNat = s.val := by decide +kernel
theorem iI_smod' {s : Int} (h0 : 0 ≤ s) (h1 : s ≤ 31) : ((iI s &&& 31).toBitVec.smod 32).toNat = s.toNat := by
  have := iI_smod ⟨s.toNat, by omega⟩
  rw [show ((⟨s.toNat, by omega⟩ : Fin 32).val : Int) = s from by show (s.toNat : Int) = s; omega] at this
  exact this
theorem iI_shr {a s : Int} (ha : InR a) (h0 : 0 ≤ s) (h1 : s ≤ 31) : iI a >>> (iI s &&& 31) = iI (a / 2 ^ s.toNat) := by
  have h := pk_shr (iI a) (iI s &&& 31) s.toNat (iI_smod' h0 h1)
  rw [iI_toInt ha, Int.shiftRight_eq_div_pow] at h
  rw [← iI_self (iI a >>> (iI s &&& 31)), h]
  rfl
theorem iI_shl {a s : Int} (h0 : 0 ≤ s) (h1 : s ≤ 31) : iI a <<< (iI s &&& 31) = iI (a * 2 ^ s.toNat) := by
  apply iI_ext
  rw [pk_shl (iI a) (iI s &&& 31) s.toNat (iI_smod' h0 h1), iI_bv]
  have h3 : ((2 ^ s.toNat : Nat) : Int) = (2 : Int) ^ s.toNat := by push_cast; rfl
  have h4 : (((a % 4294967296).toNat * 2 ^ s.toNat % 2 ^ 32 : Nat) : Int) = a * 2 ^ s.toNat % 4294967296 := by
    rw [Int.natCast_emod, Int.natCast_mul, h3, Int.toNat_of_nonneg (Int.emod_nonneg _ (by decide)), show ((2 ^ 32 : Nat) : Int) = 4294967296 from by decide, Int.mul_emod, Int.emod_emod_of_dvd _ (Int.dvd_refl _), ← Int.mul_emod]
  have h5 : 0 ≤ a * 2 ^ s.toNat % 4294967296 := Int.emod_nonneg _ (by decide)
  omega
theorem iI_ushr_s : ∀ s : Fin 32, (((iI (s.val : Int)).toUInt32 &&& Int32.toUInt32 31).toBitVec % 32).toNat = s.val := by decide +kernel
theorem iI_ushr {a s : Int} (h0 : 0 ≤ s) (h1 : s ≤ 31) : ((iI a).toUInt32 >>> ((iI s).toUInt32 &&& Int32.toUInt32 31)).toInt32 = iI (a % 4294967296 / 2 ^ s.toNat) := by
  have hs : (((iI s).toUInt32 &&& Int32.toUInt32 31).toBitVec % 32).toNat = s.toNat := by
    have := iI_ushr_s ⟨s.toNat, by omega⟩
    rw [show ((⟨s.toNat, by omega⟩ : Fin 32).val : Int) = s from by show (s.toNat : Int) = s; omega] at this
    exact this
  apply iI_ext
  rw [pk_ushr (iI a) (iI s) s.toNat hs, iI_bv]
  have hp : (0 : Int) < 2 ^ s.toNat := Int.pow_pos (by decide)
  have h0' : 0 ≤ a % 4294967296 := Int.emod_nonneg _ (by decide)
  have h1' : a % 4294967296 < 4294967296 := Int.emod_lt_of_pos _ (by decide)
  have h2' : 0 ≤ a % 4294967296 / 2 ^ s.toNat := Int.ediv_nonneg h0' (by omega)
  have h3' : a % 4294967296 / 2 ^ s.toNat ≤ a % 4294967296 := Int.ediv_le_self _ h0'
  rw [Int.emod_eq_of_lt h2' (by omega)]
  have h4 : (((a % 4294967296).toNat / 2 ^ s.toNat : Nat) : Int) = a % 4294967296 / 2 ^ s.toNat := by
    push_cast
    rw [Int.toNat_of_nonneg h0']
  omega
def xorZ (a b : Int) : Int := ((a.toNat ^^^ b.toNat : Nat) : Int)
theorem iI_xor {a b : Int} (ha : 0 ≤ a) (ha2 : a ≤ 2147483647) (hb : 0 ≤ b) (hb2 : b ≤ 2147483647) : iI a ^^^ iI b = iI (xorZ a b) := by
  apply iI_ext
  have hx : (a.toNat ^^^ b.toNat) < 2 ^ 31 := Nat.xor_lt_two_pow (by omega) (by omega)
  rw [Int32.toBitVec_xor, BitVec.toNat_xor, iI_bv, iI_bv, Int.emod_eq_of_lt ha (by omega), Int.emod_eq_of_lt hb (by omega)]
  unfold xorZ
  rw [Int.emod_eq_of_lt (by omega) (by omega)]
  rfl
theorem xorZ_r {a b : Int} {k : Nat} (ha : 0 ≤ a) (ha2 : a < 2 ^ k) (hb : 0 ≤ b) (hb2 : b < 2 ^ k) : 0 ≤ xorZ a b ∧ xorZ a b < 2 ^ k := by
  have h3 : ((2 ^ k : Nat) : Int) = (2 : Int) ^ k := by push_cast; rfl
  rw [← h3] at ha2 hb2 ⊢
  have hx : (a.toNat ^^^ b.toNat) < 2 ^ k := Nat.xor_lt_two_pow (by omega) (by omega)
  unfold xorZ
  omega
theorem iI_and8 (a : Int) : iI a &&& iI 255 = iI (a % 256) := iI_and a 8 (by decide) (by decide)
theorem iI_and4 (a : Int) : iI a &&& iI 15 = iI (a % 16) := iI_and a 4 (by decide) (by decide)
theorem iI_and6 (a : Int) : iI a &&& iI 63 = iI (a % 64) := iI_and a 6 (by decide) (by decide)
theorem iI_and1 (a : Int) : iI a &&& iI 1 = iI (a % 2) := iI_and a 1 (by decide) (by decide)
end
section
/-! ===== what both sides compute ===== -/
theorem p28 : (2 : Int) ^ 8 = 256 := by decide
def crcS (s : Int) : Int := if 128 ≤ s then xorZ (s * 2 % 256) 7 else s * 2
def crc8 : Nat → Int → Int
  | 0, s => s
  | n + 1, s => crc8 n (crcS s)
def crcB (s b : Int) : Int := crc8 8 (xorZ s b)
def crcF (B : Int → Int) : Nat → Int
  | 0 => 0
  | n + 1 => crcB (crcF B n) (B n)
theorem xorZ_b {a b : Int} (ha : 0 ≤ a) (ha2 : a ≤ 255) (hb : 0 ≤ b) (hb2 : b ≤ 255) : 0 ≤ xorZ a b ∧ xorZ a b ≤ 255 := by
  have h := xorZ_r (k := 8) ha (by rw [p28]; omega) hb (by rw [p28]; omega)
  rw [p28] at h
  omega
theorem crcS_b {s : Int} (h0 : 0 ≤ s) (h1 : s ≤ 255) : 0 ≤ crcS s ∧ crcS s ≤ 255 := by
  unfold crcS
  split
  · exact xorZ_b (by omega) (by omega) (by decide) (by decide)
  · omega
theorem crc8_b : ∀ (n : Nat) {s : Int}, 0 ≤ s → s ≤ 255 → 0 ≤ crc8 n s ∧ crc8 n s ≤ 255
  | 0, _, h0, h1 => ⟨h0, h1⟩
  | n + 1, _, h0, h1 => crc8_b n (crcS_b h0 h1).1 (crcS_b h0 h1).2
theorem crcB_b {s b : Int} (h0 : 0 ≤ s) (h1 : s ≤ 255) (hb : 0 ≤ b) (hb2 : b ≤ 255) : 0 ≤ crcB s b ∧ crcB s b ≤ 255 := crc8_b 8 (xorZ_b h0 h1 hb hb2).1 (xorZ_b h0 h1 hb hb2).2
theorem crcF_b {B : Int → Int} : ∀ (n : Nat), (∀ i : Int, 0 ≤ i → i < n → 0 ≤ B i ∧ B i ≤ 255) → 0 ≤ crcF B n ∧ crcF B n ≤ 255
  | 0, _ => ⟨Int.le_refl 0, (by decide : (0 : Int) ≤ 255)⟩
  | n + 1, h => by
    have ih := crcF_b n (fun i h0 h1 => h i h0 (by omega))
    have hb := h n (by omega) (by omega)
    exact crcB_b ih.1 ih.2 hb.1 hb.2
theorem crcF_congr {B C : Int → Int} : ∀ (n : Nat), (∀ i : Int, 0 ≤ i → i < n → B i = C i) → crcF B n = crcF C n
  | 0, _ => rfl
  | n + 1, h => by
    show crcB (crcF B n) (B n) = crcB (crcF C n) (C n)
    rw [crcF_congr n (fun i h0 h1 => h i h0 (by omega)), h n (by omega) (by omega)]
/-- bit b of bytes S -/
def bitZ (S : Int → Int) (b : Int) : Int := S (b / 8) / 2 ^ (7 - b % 8).toNat % 2
theorem bitZ_r (S : Int → Int) (b : Int) : bitZ S b = 0 ∨ bitZ S b = 1 := by unfold bitZ; omega
/-- .. on the cable -/
def cabZ (S : Int → Int) (ch : Int → Bool) (b : Int) : Int := if ch b then 1 - bitZ S b else bitZ S b
theorem cabZ_r (S : Int → Int) (ch : Int → Bool) (b : Int) : cabZ S ch b = 0 ∨ cabZ S ch b = 1 := by
  unfold cabZ
  have := bitZ_r S b
  split <;> omega
def tkI (b dr : Int) : Int := (2 * b + 1) * (1000 + dr) / 2000
/-- the bit that is taken for bit b of n -/
def takZ (cab : Int → Int) (n dr b : Int) : Int := if tkI b dr < n then cab (tkI b dr) else 0
/-- byte k of the bits t -/
def byteN (t : Int → Int) (k : Int) : Nat → Int
  | 0 => 0
  | i + 1 => 2 * byteN t k i + t (8 * k + i)
def byteZ (t : Int → Int) (k : Int) : Int := byteN t k 8
theorem byteN_b {t : Int → Int} (ht : ∀ b, t b = 0 ∨ t b = 1) (k : Int) : ∀ n : Nat, 0 ≤ byteN t k n ∧ byteN t k n < 2 ^ n
  | 0 => ⟨Int.le_refl 0, (by decide : (0 : Int) < 2 ^ 0)⟩
  | n + 1 => by
    have ih := byteN_b ht k n
    have := ht (8 * k + n)
    show 0 ≤ 2 * byteN t k n + t (8 * k + n) ∧ 2 * byteN t k n + t (8 * k + n) < 2 ^ (n + 1)
    rw [Int.pow_succ]
    omega
theorem byteZ_b {t : Int → Int} (ht : ∀ b, t b = 0 ∨ t b = 1) (k : Int) : 0 ≤ byteZ t k ∧ byteZ t k ≤ 255 := by
  have h : byteN t k 8 < 2 ^ 8 := (byteN_b ht k 8).2
  rw [p28] at h
  have h0 := (byteN_b ht k 8).1
  unfold byteZ
  omega
/-- n bytes as they should be -/
def readZ (B : Int → Int) (n : Nat) : Bool := decide (B ((n : Int) - 1) = crcF B (n - 1)) && decide (B 0 % 16 = (n : Int) - 2)
theorem readZ_congr {B C : Int → Int} {n : Nat} (hn : 1 ≤ n) (h : ∀ i : Int, 0 ≤ i → i < n → B i = C i) : readZ B n = readZ C n := by
  unfold readZ
  rw [crcF_congr (n - 1) (fun i h0 h1 => h i h0 (by omega)), h ((n : Int) - 1) (by omega) (by omega), h 0 (by omega) (by omega)]
/-- is the acknowledgement lost -/
def ackZ (ch : Int → Bool) (n : Int) : Bool := (List.range 8).any (fun i => ch (n + i))
/-- the result of an attempt: a frame of n bytes S, chewed bits ch -/
def resZ (S : Int → Int) (n : Nat) (ch : Int → Bool) (dr : Int) : Int :=
  if readZ (byteZ (takZ (cabZ S ch) (8 * n) dr)) n then (if ackZ ch (8 * n) then 2 else 0) else 1
end
section
/-! ===== dogs ===== -/
theorem d14_0 : decode (cdN 14) 0 = .ok (.aload_n 0, 1) := by decide +kernel
theorem d14_1 : decode (cdN 14) 1 = .ok (.getfield 21, 3) := by decide +kernel
theorem f14_21 : ftN (owN 14) 21 = some (2, 0, 260) := by decide +kernel
theorem d14_4 : decode (cdN 14) 4 = .ok (.ifCond .lt 11, 3) := by decide +kernel
theorem d14_7 : decode (cdN 14) 7 = .ok (.aload_n 0, 1) := by decide +kernel
theorem d14_8 : decode (cdN 14) 8 = .ok (.getfield 21, 3) := by decide +kernel
theorem d14_11 : decode (cdN 14) 11 = .ok (.iconst 3, 1) := by decide +kernel
theorem d14_12 : decode (cdN 14) 12 = .ok (.if_icmp .lt 5, 3) := by decide +kernel
theorem d14_15 : decode (cdN 14) 15 = .ok (.iconst 0, 1) := by decide +kernel
theorem d14_16 : decode (cdN 14) 16 = .ok (.ireturn, 1) := by decide +kernel
theorem d14_17 : decode (cdN 14) 17 = .ok (.aload_n 0, 1) := by decide +kernel
theorem d14_18 : decode (cdN 14) 18 = .ok (.getfield 9, 3) := by decide +kernel
theorem f14_9 : ftN (owN 14) 9 = some (2, 1, 263) := by decide +kernel
theorem d14_21 : decode (cdN 14) 21 = .ok (.aload_n 0, 1) := by decide +kernel
theorem d14_22 : decode (cdN 14) 22 = .ok (.getfield 21, 3) := by decide +kernel
theorem d14_25 : decode (cdN 14) 25 = .ok (.iload_n 1, 1) := by decide +kernel
theorem d14_26 : decode (cdN 14) 26 = .ok (.iastore, 1) := by decide +kernel
theorem d14_27 : decode (cdN 14) 27 = .ok (.aload_n 0, 1) := by decide +kernel
theorem d14_28 : decode (cdN 14) 28 = .ok (.getfield 15, 3) := by decide +kernel
theorem f14_15 : ftN (owN 14) 15 = some (2, 2, 264) := by decide +kernel
theorem d14_31 : decode (cdN 14) 31 = .ok (.aload_n 0, 1) := by decide +kernel
theorem d14_32 : decode (cdN 14) 32 = .ok (.getfield 21, 3) := by decide +kernel
theorem d14_35 : decode (cdN 14) 35 = .ok (.iload_n 2, 1) := by decide +kernel
theorem d14_36 : decode (cdN 14) 36 = .ok (.iastore, 1) := by decide +kernel
theorem d14_37 : decode (cdN 14) 37 = .ok (.aload_n 0, 1) := by decide +kernel
theorem d14_38 : decode (cdN 14) 38 = .ok (.getfield 18, 3) := by decide +kernel
theorem f14_18 : ftN (owN 14) 18 = some (2, 3, 265) := by decide +kernel
theorem d14_41 : decode (cdN 14) 41 = .ok (.aload_n 0, 1) := by decide +kernel
theorem d14_42 : decode (cdN 14) 42 = .ok (.getfield 21, 3) := by decide +kernel
theorem d14_45 : decode (cdN 14) 45 = .ok (.iload_n 3, 1) := by decide +kernel
theorem d14_46 : decode (cdN 14) 46 = .ok (.iastore, 1) := by decide +kernel
theorem d14_47 : decode (cdN 14) 47 = .ok (.aload_n 0, 1) := by decide +kernel
theorem d14_48 : decode (cdN 14) 48 = .ok (.dup, 1) := by decide +kernel
theorem d14_49 : decode (cdN 14) 49 = .ok (.getfield 21, 3) := by decide +kernel
theorem d14_52 : decode (cdN 14) 52 = .ok (.iconst 1, 1) := by decide +kernel
theorem d14_53 : decode (cdN 14) 53 = .ok (.iadd, 1) := by decide +kernel
theorem d14_54 : decode (cdN 14) 54 = .ok (.putfield 21, 3) := by decide +kernel
theorem d14_57 : decode (cdN 14) 57 = .ok (.iconst 1, 1) := by decide +kernel
theorem d14_58 : decode (cdN 14) 58 = .ok (.ireturn, 1) := by decide +kernel
theorem d15_0 : decode (cdN 15) 0 = .ok (.iload_n 1, 1) := by decide +kernel
theorem d15_1 : decode (cdN 15) 1 = .ok (.ifCond .lt 11, 3) := by decide +kernel
theorem d15_4 : decode (cdN 15) 4 = .ok (.iload_n 1, 1) := by decide +kernel
theorem d15_5 : decode (cdN 15) 5 = .ok (.aload_n 0, 1) := by decide +kernel
theorem d15_6 : decode (cdN 15) 6 = .ok (.getfield 21, 3) := by decide +kernel
theorem f15_21 : ftN (owN 15) 21 = some (2, 0, 260) := by decide +kernel
theorem d15_9 : decode (cdN 15) 9 = .ok (.if_icmp .lt 5, 3) := by decide +kernel
theorem d15_12 : decode (cdN 15) 12 = .ok (.iconst 0, 1) := by decide +kernel
theorem d15_13 : decode (cdN 15) 13 = .ok (.ireturn, 1) := by decide +kernel
theorem d15_14 : decode (cdN 15) 14 = .ok (.iload_n 1, 1) := by decide +kernel
theorem d15_15 : decode (cdN 15) 15 = .ok (.istore_n 2, 1) := by decide +kernel
theorem d15_16 : decode (cdN 15) 16 = .ok (.iload_n 2, 1) := by decide +kernel
theorem d15_17 : decode (cdN 15) 17 = .ok (.iconst 1, 1) := by decide +kernel
theorem d15_18 : decode (cdN 15) 18 = .ok (.iadd, 1) := by decide +kernel
theorem d15_19 : decode (cdN 15) 19 = .ok (.aload_n 0, 1) := by decide +kernel
theorem d15_20 : decode (cdN 15) 20 = .ok (.getfield 21, 3) := by decide +kernel
theorem d15_23 : decode (cdN 15) 23 = .ok (.if_icmp .ge 58, 3) := by decide +kernel
theorem d15_26 : decode (cdN 15) 26 = .ok (.iload_n 2, 1) := by decide +kernel
theorem d15_27 : decode (cdN 15) 27 = .ok (.iconst 1, 1) := by decide +kernel
theorem d15_28 : decode (cdN 15) 28 = .ok (.iadd, 1) := by decide +kernel
theorem d15_29 : decode (cdN 15) 29 = .ok (.iconst 3, 1) := by decide +kernel
theorem d15_30 : decode (cdN 15) 30 = .ok (.if_icmp .ge 51, 3) := by decide +kernel
theorem d15_33 : decode (cdN 15) 33 = .ok (.aload_n 0, 1) := by decide +kernel
theorem d15_34 : decode (cdN 15) 34 = .ok (.getfield 9, 3) := by decide +kernel
theorem f15_9 : ftN (owN 15) 9 = some (2, 1, 263) := by decide +kernel
theorem d15_37 : decode (cdN 15) 37 = .ok (.iload_n 2, 1) := by decide +kernel
theorem d15_38 : decode (cdN 15) 38 = .ok (.aload_n 0, 1) := by decide +kernel
theorem d15_39 : decode (cdN 15) 39 = .ok (.getfield 9, 3) := by decide +kernel
theorem d15_42 : decode (cdN 15) 42 = .ok (.iload_n 2, 1) := by decide +kernel
theorem d15_43 : decode (cdN 15) 43 = .ok (.iconst 1, 1) := by decide +kernel
theorem d15_44 : decode (cdN 15) 44 = .ok (.iadd, 1) := by decide +kernel
theorem d15_45 : decode (cdN 15) 45 = .ok (.iaload, 1) := by decide +kernel
theorem d15_46 : decode (cdN 15) 46 = .ok (.iastore, 1) := by decide +kernel
theorem d15_47 : decode (cdN 15) 47 = .ok (.aload_n 0, 1) := by decide +kernel
theorem d15_48 : decode (cdN 15) 48 = .ok (.getfield 15, 3) := by decide +kernel
theorem f15_15 : ftN (owN 15) 15 = some (2, 2, 264) := by decide +kernel
theorem d15_51 : decode (cdN 15) 51 = .ok (.iload_n 2, 1) := by decide +kernel
theorem d15_52 : decode (cdN 15) 52 = .ok (.aload_n 0, 1) := by decide +kernel
theorem d15_53 : decode (cdN 15) 53 = .ok (.getfield 15, 3) := by decide +kernel
theorem d15_56 : decode (cdN 15) 56 = .ok (.iload_n 2, 1) := by decide +kernel
theorem d15_57 : decode (cdN 15) 57 = .ok (.iconst 1, 1) := by decide +kernel
theorem d15_58 : decode (cdN 15) 58 = .ok (.iadd, 1) := by decide +kernel
theorem d15_59 : decode (cdN 15) 59 = .ok (.iaload, 1) := by decide +kernel
theorem d15_60 : decode (cdN 15) 60 = .ok (.iastore, 1) := by decide +kernel
theorem d15_61 : decode (cdN 15) 61 = .ok (.aload_n 0, 1) := by decide +kernel
theorem d15_62 : decode (cdN 15) 62 = .ok (.getfield 18, 3) := by decide +kernel
theorem f15_18 : ftN (owN 15) 18 = some (2, 3, 265) := by decide +kernel
theorem d15_65 : decode (cdN 15) 65 = .ok (.iload_n 2, 1) := by decide +kernel
theorem d15_66 : decode (cdN 15) 66 = .ok (.aload_n 0, 1) := by decide +kernel
theorem d15_67 : decode (cdN 15) 67 = .ok (.getfield 18, 3) := by decide +kernel
theorem d15_70 : decode (cdN 15) 70 = .ok (.iload_n 2, 1) := by decide +kernel
theorem d15_71 : decode (cdN 15) 71 = .ok (.iconst 1, 1) := by decide +kernel
theorem d15_72 : decode (cdN 15) 72 = .ok (.iadd, 1) := by decide +kernel
theorem d15_73 : decode (cdN 15) 73 = .ok (.iaload, 1) := by decide +kernel
theorem d15_74 : decode (cdN 15) 74 = .ok (.iastore, 1) := by decide +kernel
theorem d15_75 : decode (cdN 15) 75 = .ok (.iinc 2 1, 3) := by decide +kernel
theorem d15_78 : decode (cdN 15) 78 = .ok (.goto (-62), 3) := by decide +kernel
theorem d15_81 : decode (cdN 15) 81 = .ok (.aload_n 0, 1) := by decide +kernel
theorem d15_82 : decode (cdN 15) 82 = .ok (.dup, 1) := by decide +kernel
theorem d15_83 : decode (cdN 15) 83 = .ok (.getfield 21, 3) := by decide +kernel
theorem d15_86 : decode (cdN 15) 86 = .ok (.iconst 1, 1) := by decide +kernel
theorem d15_87 : decode (cdN 15) 87 = .ok (.isub, 1) := by decide +kernel
theorem d15_88 : decode (cdN 15) 88 = .ok (.putfield 21, 3) := by decide +kernel
theorem d15_91 : decode (cdN 15) 91 = .ok (.iconst 1, 1) := by decide +kernel
theorem d15_92 : decode (cdN 15) 92 = .ok (.ireturn, 1) := by decide +kernel
theorem d16_0 : decode (cdN 16) 0 = .ok (.iconst 0, 1) := by decide +kernel
theorem d16_1 : decode (cdN 16) 1 = .ok (.istore_n 2, 1) := by decide +kernel
theorem d16_2 : decode (cdN 16) 2 = .ok (.iload_n 2, 1) := by decide +kernel
theorem d16_3 : decode (cdN 16) 3 = .ok (.aload_n 0, 1) := by decide +kernel
theorem d16_4 : decode (cdN 16) 4 = .ok (.getfield 21, 3) := by decide +kernel
theorem f16_21 : ftN (owN 16) 21 = some (2, 0, 260) := by decide +kernel
theorem d16_7 : decode (cdN 16) 7 = .ok (.if_icmp .ge 55, 3) := by decide +kernel
theorem d16_10 : decode (cdN 16) 10 = .ok (.iload_n 2, 1) := by decide +kernel
theorem d16_11 : decode (cdN 16) 11 = .ok (.iconst 3, 1) := by decide +kernel
theorem d16_12 : decode (cdN 16) 12 = .ok (.if_icmp .ge 50, 3) := by decide +kernel
theorem d16_15 : decode (cdN 16) 15 = .ok (.aload_n 0, 1) := by decide +kernel
theorem d16_16 : decode (cdN 16) 16 = .ok (.getfield 9, 3) := by decide +kernel
theorem f16_9 : ftN (owN 16) 9 = some (2, 1, 263) := by decide +kernel
theorem d16_19 : decode (cdN 16) 19 = .ok (.iload_n 2, 1) := by decide +kernel
theorem d16_20 : decode (cdN 16) 20 = .ok (.iaload, 1) := by decide +kernel
theorem d16_21 : decode (cdN 16) 21 = .ok (.istore_n 3, 1) := by decide +kernel
theorem d16_22 : decode (cdN 16) 22 = .ok (.iload_n 1, 1) := by decide +kernel
theorem d16_23 : decode (cdN 16) 23 = .ok (.aload_n 0, 1) := by decide +kernel
theorem d16_24 : decode (cdN 16) 24 = .ok (.getfield 18, 3) := by decide +kernel
theorem f16_18 : ftN (owN 16) 18 = some (2, 3, 265) := by decide +kernel
theorem d16_27 : decode (cdN 16) 27 = .ok (.iload_n 2, 1) := by decide +kernel
theorem d16_28 : decode (cdN 16) 28 = .ok (.iaload, 1) := by decide +kernel
theorem d16_29 : decode (cdN 16) 29 = .ok (.isub, 1) := by decide +kernel
theorem d16_30 : decode (cdN 16) 30 = .ok (.istore 4, 2) := by decide +kernel
theorem d16_32 : decode (cdN 16) 32 = .ok (.iload 4, 2) := by decide +kernel
theorem d16_34 : decode (cdN 16) 34 = .ok (.ifCond .lt 22, 3) := by decide +kernel
theorem d16_37 : decode (cdN 16) 37 = .ok (.iload_n 3, 1) := by decide +kernel
theorem d16_38 : decode (cdN 16) 38 = .ok (.ifCond .le 18, 3) := by decide +kernel
theorem d16_41 : decode (cdN 16) 41 = .ok (.iload 4, 2) := by decide +kernel
theorem d16_43 : decode (cdN 16) 43 = .ok (.iload_n 3, 1) := by decide +kernel
theorem d16_44 : decode (cdN 16) 44 = .ok (.irem, 1) := by decide +kernel
theorem d16_45 : decode (cdN 16) 45 = .ok (.aload_n 0, 1) := by decide +kernel
theorem d16_46 : decode (cdN 16) 46 = .ok (.getfield 15, 3) := by decide +kernel
theorem f16_15 : ftN (owN 16) 15 = some (2, 2, 264) := by decide +kernel
theorem d16_49 : decode (cdN 16) 49 = .ok (.iload_n 2, 1) := by decide +kernel
theorem d16_50 : decode (cdN 16) 50 = .ok (.iaload, 1) := by decide +kernel
theorem d16_51 : decode (cdN 16) 51 = .ok (.if_icmp .ge 5, 3) := by decide +kernel
theorem d16_54 : decode (cdN 16) 54 = .ok (.iconst 1, 1) := by decide +kernel
theorem d16_55 : decode (cdN 16) 55 = .ok (.ireturn, 1) := by decide +kernel
theorem d16_56 : decode (cdN 16) 56 = .ok (.iinc 2 1, 3) := by decide +kernel
theorem d16_59 : decode (cdN 16) 59 = .ok (.goto (-57), 3) := by decide +kernel
theorem d16_62 : decode (cdN 16) 62 = .ok (.iconst 0, 1) := by decide +kernel
theorem d16_63 : decode (cdN 16) 63 = .ok (.ireturn, 1) := by decide +kernel
/-- do some of n dogs chew at t -/
def chewG (P Lg Of : Int → Int) (t : Int) (i : Nat) : Bool := decide (0 ≤ t - Of i) && decide ((t - Of i) % P i < Lg i)
def chewD (n : Int) (P Lg Of : Int → Int) (t : Int) : Bool := (List.range n.toNat).any (chewG P Lg Of t)
def chewF (I : Nat → Int → Int) (p : Nat) (t : Int) (i : Nat) : Bool := chewG (I (p + 4)) (I (p + 5)) (I (p + 6)) t i
def chew (I : Nat → Int → Int) (p : Nat) (t : Int) : Bool := chewD (I (p + 3) 0) (I (p + 4)) (I (p + 5)) (I (p + 6)) t
/-- what holds of the dogs -/
def DogsOK (I : Nat → Int → Int) (p : Nat) : Prop := (0 ≤ I (p + 3) 0 ∧ I (p + 3) 0 ≤ 3) ∧ ∀ i : Int, 0 ≤ i → i < I (p + 3) 0 → (2 ≤ I (p + 4) i ∧ I (p + 4) i ≤ 999) ∧ (1 ≤ I (p + 5) i ∧ I (p + 5) i < I (p + 4) i) ∧ (0 ≤ I (p + 6) i ∧ I (p + 6) i ≤ 999)
theorem chew_step {P Lg Of : Int → Int} {t : Int} {i : Nat} (h : ∀ j, j < i → chewG P Lg Of t j = false) (h2 : chewG P Lg Of t i = false) : ∀ j, j < i + 1 → chewG P Lg Of t j = false := fun j hj => by
  by_cases e : j = i
  · rw [e]; exact h2
  · exact h j (by omega)
theorem chewD_no {n : Int} {P Lg Of : Int → Int} {t : Int} {i : Nat} (hi : n ≤ i) (h : ∀ j, j < i → chewG P Lg Of t j = false) : chewD n P Lg Of t = false := by
  unfold chewD
  rw [List.any_eq_false]
  intro j hj
  rw [h j (by have := List.mem_range.mp hj; omega)]
  decide
theorem chewD_yes {n : Int} {P Lg Of : Int → Int} {t : Int} {i : Nat} (hi : (i : Int) < n) (h : chewG P Lg Of t i = true) : chewD n P Lg Of t = true := by
  unfold chewD
  rw [List.any_eq_true]
  exact ⟨i, List.mem_range.mpr (by omega), h⟩
theorem chewG_f1 {P Lg Of : Int → Int} {t : Int} {i : Nat} (h : t - Of i < 0) : chewG P Lg Of t i = false := by unfold chewG; rw [decide_eq_false (by omega)]; rfl
theorem chewG_f2 {P Lg Of : Int → Int} {t : Int} {i : Nat} (h : Lg i ≤ (t - Of i) % P i) : chewG P Lg Of t i = false := by unfold chewG; rw [decide_eq_false (p := _ < _) (by omega), Bool.and_false]
theorem chewG_t {P Lg Of : Int → Int} {t : Int} {i : Nat} (h : 0 ≤ t - Of i) (h2 : (t - Of i) % P i < Lg i) : chewG P Lg Of t i = true := by unfold chewG; rw [decide_eq_true h, decide_eq_true h2]; rfl
theorem chewD_congr {n : Int} {P Lg Of P2 Lg2 Of2 : Int → Int} (h : ∀ i : Int, 0 ≤ i → i < n → P i = P2 i ∧ Lg i = Lg2 i ∧ Of i = Of2 i) (t : Int) : chewD n P Lg Of t = chewD n P2 Lg2 Of2 t := by
  unfold chewD
  rw [Bool.eq_iff_iff, List.any_eq_true, List.any_eq_true]
  have e : ∀ i ∈ List.range n.toNat, chewG P Lg Of t i = chewG P2 Lg2 Of2 t i := fun i hi => by
    have := List.mem_range.mp hi
    obtain ⟨e1, e2, e3⟩ := h i (by omega) (by omega)
    unfold chewG
    rw [e1, e2, e3]
  constructor
  · rintro ⟨i, hi, h1⟩; exact ⟨i, hi, by rw [← e i hi]; exact h1⟩
  · rintro ⟨i, hi, h1⟩; exact ⟨i, hi, by rw [e i hi]; exact h1⟩
section Dogs
variable {l : LX} {q p : Nat} {I : Nat → Int → Int} {v : Int} {fr : Bool}
theorem lp_chewIn (hl : l.1.stackTraces = false) (hp : LineAt q p) (hD : DogsOK I p) {t : Int} (ht : 0 ≤ t) (ht2 : t ≤ 100000000) : ∀ (m : Nat) (i : Nat), (i : Int) ≤ I (p + 3) 0 → I (p + 3) 0 - i < m → (∀ j, j < i → chewF I p t j = false) →
    Ex l 16 0 0 2 [some (.ref (p + 3)), some (.int (iI t)), some (.int (iI i)), none, none] [] (mm q I v fr) (fun o => o = (.inl (some (.int (iI (b01 (chew I p t))))), mm q I v fr)) := by
  have hpb := hp.b
  intro m
  induction m with
  | zero => intro i h1 h2 _; omega
  | succ m ih =>
    intro i h1 h2 hno
    have hc := hD.1
    refine x_iload_n (pc := 2) rfl d16_2 ?_
    refine x_aload_n (pc := 3) rfl d16_3 ?_
    refine m_getI (pc := 4) (z := 0) f16_21 (by decide +kernel) rfl hp.o3 d16_4 ?_
    refine x_icmp_ge (pc := 7) (tgt := 62) ⟨by omega, by omega⟩ ⟨by omega, by omega⟩ d16_7 (by decide) (fun g7 => ?_) (fun g7 => ?_)
    · refine x_iconst (pc := 62) d16_62 ?_
      refine x_zret (pc := 63) rfl (Or.inl rfl) (fun _ => rfl) d16_63 ?_
      rw [show chew I p t = false from chewD_no (by omega) hno]; rfl
    · refine x_iload_n (pc := 10) rfl d16_10 ?_
      refine x_iconst (pc := 11) d16_11 ?_
      refine x_icmp_ge (pc := 12) (tgt := 62) ⟨by omega, by omega⟩ ⟨by omega, by omega⟩ d16_12 (by decide) (fun g12 => ?_) (fun g12 => ?_)
      · refine x_iconst (pc := 62) d16_62 ?_
        refine x_zret (pc := 63) rfl (Or.inl rfl) (fun _ => rfl) d16_63 ?_
        exfalso; omega
      · have hb := hD.2 i (by omega) (by omega)
        refine x_aload_n (pc := 15) rfl d16_15 ?_
        refine m_getR (pc := 16) f16_9 (by decide +kernel) hp.o3 hp.r3_1 d16_16 ?_
        refine x_iload_n (pc := 19) rfl d16_19 ?_
        refine m_iald (pc := 20) hp.a4 (by omega) (by omega) (by omega) d16_20 ?_
        refine x_istore_n (pc := 21) (by decide +kernel) rfl d16_21 ?_
        dsimp only [List.set]
        refine x_iload_n (pc := 22) rfl d16_22 ?_
        refine x_aload_n (pc := 23) rfl d16_23 ?_
        refine m_getR (pc := 24) f16_18 (by decide +kernel) hp.o3 hp.r3_3 d16_24 ?_
        refine x_iload_n (pc := 27) rfl d16_27 ?_
        refine m_iald (pc := 28) hp.a6 (by omega) (by omega) (by omega) d16_28 ?_
        refine x_isub (pc := 29) d16_29 ?_
        refine x_istore (pc := 30) (by decide +kernel) rfl d16_30 ?_
        dsimp only [List.set]
        refine x_iload (pc := 32) rfl d16_32 ?_
        refine x_if_lt (pc := 34) (tgt := 56) ⟨by omega, by omega⟩ d16_34 (by decide) (fun g34 => ?_) (fun g34 => ?_)
        · refine x_iinc (pc := 56) rfl (by decide +kernel) rfl d16_56 ?_
          dsimp only [List.set]
          refine x_goto (pc := 59) (tgt := 2) d16_59 (by decide) ?_
          refine x_mask [true, true, true, false, false] ?_
          dsimp only [mask]
          refine ih (i + 1) (by omega) (by omega) (chew_step hno (chewG_f1 g34))
        · refine x_iload_n (pc := 37) rfl d16_37 ?_
          refine x_if_le (pc := 38) (tgt := 56) ⟨by omega, by omega⟩ d16_38 (by decide) (fun g38 => ?_) (fun g38 => ?_)
          · refine x_iinc (pc := 56) rfl (by decide +kernel) rfl d16_56 ?_
            dsimp only [List.set]
            refine x_goto (pc := 59) (tgt := 2) d16_59 (by decide) ?_
            refine x_mask [true, true, true, false, false] ?_
            dsimp only [mask]
            exfalso; omega
          · have hm1 := Int.emod_nonneg (t - I (p + 6) i) (b := I (p + 4) i) (by omega)
            have hm2 := Int.emod_lt_of_pos (t - I (p + 6) i) (b := I (p + 4) i) (by omega)
            refine x_iload (pc := 41) rfl d16_41 ?_
            refine x_iload_n (pc := 43) rfl d16_43 ?_
            refine x_irem (pc := 44) (by omega) (by omega) (by omega) (by omega) d16_44 ?_
            refine x_aload_n (pc := 45) rfl d16_45 ?_
            refine m_getR (pc := 46) f16_15 (by decide +kernel) hp.o3 hp.r3_2 d16_46 ?_
            refine x_iload_n (pc := 49) rfl d16_49 ?_
            refine m_iald (pc := 50) hp.a5 (by omega) (by omega) (by omega) d16_50 ?_
            refine x_icmp_ge (pc := 51) (tgt := 56) ⟨by omega, by omega⟩ ⟨by omega, by omega⟩ d16_51 (by decide) (fun g51 => ?_) (fun g51 => ?_)
            · refine x_iinc (pc := 56) rfl (by decide +kernel) rfl d16_56 ?_
              dsimp only [List.set]
              refine x_goto (pc := 59) (tgt := 2) d16_59 (by decide) ?_
              refine x_mask [true, true, true, false, false] ?_
              dsimp only [mask]
              refine ih (i + 1) (by omega) (by omega) (chew_step hno (chewG_f2 g51))
            · refine x_iconst (pc := 54) d16_54 ?_
              refine x_zret (pc := 55) rfl (Or.inr rfl) (fun _ => rfl) d16_55 ?_
              rw [show chew I p t = true from chewD_yes (i := i) (by omega) (chewG_t g34 g51)]; rfl
theorem dt_chewIn (hl : l.1.stackTraces = false) (hp : LineAt q p) (hD : DogsOK I p) {t : Int} (ht : 0 ≤ t) (ht2 : t ≤ 100000000) : DT l 16 [.ref (p + 3), .int (iI t)] (mm q I v fr) 0 0 (.inl (some (.int (iI (b01 (chew I p t))))), mm q I v fr) := by
  refine mkdt hl (by decide) (Nat.le_of_ble_eq_true rfl) (L := [some (.ref (p + 3)), some (.int (iI t)), none, none, none]) rfl ?_
  refine x_iconst (pc := 0) d16_0 ?_
  refine x_istore_n (pc := 1) (by decide +kernel) rfl d16_1 ?_
  dsimp only [List.set]
  exact lp_chewIn hl hp hD ht ht2 4 0 hD.1.1 (by have := hD.1; omega) (fun j hj => absurd hj (Nat.not_lt_zero _))
/-- Dogs.add -/
theorem dt_dogAdd (hl : l.1.stackTraces = false) (hp : LineAt q p) {a b c : Int} (h0 : 0 ≤ I (p + 3) 0) (h3 : I (p + 3) 0 < 3) : DT l 14 [.ref (p + 3), .int (iI a), .int (iI b), .int (iI c)] (mm q I v fr) 0 0 (.inl (some (.int (iI 1))), mm q (up2 (up2 (up2 (up2 I (p + 4) (I (p + 3) 0) a) (p + 5) (I (p + 3) 0) b) (p + 6) (I (p + 3) 0) c) (p + 3) 0 (I (p + 3) 0 + 1)) v fr) := by
  have hpb := hp.b
  refine mkdt hl (by decide) (Nat.le_of_ble_eq_true rfl) (L := [some (.ref (p + 3)), some (.int (iI a)), some (.int (iI b)), some (.int (iI c))]) rfl ?_
  refine x_aload_n (pc := 0) rfl d14_0 ?_
  refine m_getI (pc := 1) (z := 0) f14_21 (by decide +kernel) rfl hp.o3 d14_1 ?_
  refine x_if_lt (pc := 4) (tgt := 15) ⟨by omega, by omega⟩ d14_4 (by decide) (fun g4 => ?_) (fun g4 => ?_)
  · refine x_iconst (pc := 15) d14_15 ?_
    refine x_zret (pc := 16) rfl (Or.inl rfl) (fun _ => rfl) d14_16 ?_
    first | rfl | (exfalso; omega)
  · refine x_aload_n (pc := 7) rfl d14_7 ?_
    refine m_getI (pc := 8) (z := 0) f14_21 (by decide +kernel) rfl hp.o3 d14_8 ?_
    refine x_iconst (pc := 11) d14_11 ?_
    refine x_icmp_lt (pc := 12) (tgt := 17) ⟨by omega, by omega⟩ ⟨by omega, by omega⟩ d14_12 (by decide) (fun g12 => ?_) (fun g12 => ?_)
    · refine x_aload_n (pc := 17) rfl d14_17 ?_
      refine m_getR (pc := 18) f14_9 (by decide +kernel) hp.o3 hp.r3_1 d14_18 ?_
      refine x_aload_n (pc := 21) rfl d14_21 ?_
      refine m_getI (pc := 22) (z := 0) f14_21 (by decide +kernel) rfl hp.o3 d14_22 ?_
      refine x_iload_n (pc := 25) rfl d14_25 ?_
      refine m_iast (pc := 26) hp.a4 (by omega) (by omega) (by omega) d14_26 ?_
      refine x_aload_n (pc := 27) rfl d14_27 ?_
      refine m_getR (pc := 28) f14_15 (by decide +kernel) hp.o3 hp.r3_2 d14_28 ?_
      refine x_aload_n (pc := 31) rfl d14_31 ?_
      refine m_getW (pc := 32) (z := 0) (w := (I (p + 3) 0)) f14_21 (by decide +kernel) rfl hp.o3 (by rw [up2_p (by omega)]) d14_32 ?_
      refine x_iload_n (pc := 35) rfl d14_35 ?_
      refine m_iast (pc := 36) hp.a5 (by omega) (by omega) (by omega) d14_36 ?_
      refine x_aload_n (pc := 37) rfl d14_37 ?_
      refine m_getR (pc := 38) f14_18 (by decide +kernel) hp.o3 hp.r3_3 d14_38 ?_
      refine x_aload_n (pc := 41) rfl d14_41 ?_
      refine m_getW (pc := 42) (z := 0) (w := (I (p + 3) 0)) f14_21 (by decide +kernel) rfl hp.o3 (by rw [up2_p (by omega), up2_p (by omega)]) d14_42 ?_
      refine x_iload_n (pc := 45) rfl d14_45 ?_
      refine m_iast (pc := 46) hp.a6 (by omega) (by omega) (by omega) d14_46 ?_
      refine x_aload_n (pc := 47) rfl d14_47 ?_
      refine x_dup (pc := 48) rfl d14_48 ?_
      refine m_getW (pc := 49) (z := 0) (w := (I (p + 3) 0)) f14_21 (by decide +kernel) rfl hp.o3 (by rw [up2_p (by omega), up2_p (by omega), up2_p (by omega)]) d14_49 ?_
      refine x_iconst (pc := 52) d14_52 ?_
      refine x_iadd (pc := 53) d14_53 ?_
      refine m_putI (pc := 54) (z := 0) f14_21 (by decide +kernel) (by decide +kernel) rfl hp.o3 d14_54 ?_
      refine x_iconst (pc := 57) d14_57 ?_
      refine x_zret (pc := 58) rfl (Or.inr rfl) (fun _ => rfl) d14_58 ?_
      first | rfl | (exfalso; omega)
    · refine x_iconst (pc := 15) d14_15 ?_
      refine x_zret (pc := 16) rfl (Or.inl rfl) (fun _ => rfl) d14_16 ?_
      first | rfl | (exfalso; omega)
theorem dt_dogFull (hl : l.1.stackTraces = false) (hp : LineAt q p) {a b c : Int} (h3 : I (p + 3) 0 = 3) : DT l 14 [.ref (p + 3), .int (iI a), .int (iI b), .int (iI c)] (mm q I v fr) 0 0 (.inl (some (.int (iI 0))), mm q I v fr) := by
  have hpb := hp.b
  refine mkdt hl (by decide) (Nat.le_of_ble_eq_true rfl) (L := [some (.ref (p + 3)), some (.int (iI a)), some (.int (iI b)), some (.int (iI c))]) rfl ?_
  refine x_aload_n (pc := 0) rfl d14_0 ?_
  refine m_getI (pc := 1) (z := 0) f14_21 (by decide +kernel) rfl hp.o3 d14_1 ?_
  refine x_if_lt (pc := 4) (tgt := 15) ⟨by omega, by omega⟩ d14_4 (by decide) (fun g4 => ?_) (fun g4 => ?_)
  · refine x_iconst (pc := 15) d14_15 ?_
    refine x_zret (pc := 16) rfl (Or.inl rfl) (fun _ => rfl) d14_16 ?_
    first | rfl | (exfalso; omega)
  · refine x_aload_n (pc := 7) rfl d14_7 ?_
    refine m_getI (pc := 8) (z := 0) f14_21 (by decide +kernel) rfl hp.o3 d14_8 ?_
    refine x_iconst (pc := 11) d14_11 ?_
    refine x_icmp_lt (pc := 12) (tgt := 17) ⟨by omega, by omega⟩ ⟨by omega, by omega⟩ d14_12 (by decide) (fun g12 => ?_) (fun g12 => ?_)
    · refine x_aload_n (pc := 17) rfl d14_17 ?_
      refine m_getR (pc := 18) f14_9 (by decide +kernel) hp.o3 hp.r3_1 d14_18 ?_
      refine x_aload_n (pc := 21) rfl d14_21 ?_
      refine m_getI (pc := 22) (z := 0) f14_21 (by decide +kernel) rfl hp.o3 d14_22 ?_
      refine x_iload_n (pc := 25) rfl d14_25 ?_
      refine m_iast (pc := 26) hp.a4 (by omega) (by omega) (by omega) d14_26 ?_
      refine x_aload_n (pc := 27) rfl d14_27 ?_
      refine m_getR (pc := 28) f14_15 (by decide +kernel) hp.o3 hp.r3_2 d14_28 ?_
      refine x_aload_n (pc := 31) rfl d14_31 ?_
      refine m_getW (pc := 32) (z := 0) (w := (I (p + 3) 0)) f14_21 (by decide +kernel) rfl hp.o3 (by rw [up2_p (by omega)]) d14_32 ?_
      refine x_iload_n (pc := 35) rfl d14_35 ?_
      refine m_iast (pc := 36) hp.a5 (by omega) (by omega) (by omega) d14_36 ?_
      refine x_aload_n (pc := 37) rfl d14_37 ?_
      refine m_getR (pc := 38) f14_18 (by decide +kernel) hp.o3 hp.r3_3 d14_38 ?_
      refine x_aload_n (pc := 41) rfl d14_41 ?_
      refine m_getW (pc := 42) (z := 0) (w := (I (p + 3) 0)) f14_21 (by decide +kernel) rfl hp.o3 (by rw [up2_p (by omega), up2_p (by omega)]) d14_42 ?_
      refine x_iload_n (pc := 45) rfl d14_45 ?_
      refine m_iast (pc := 46) hp.a6 (by omega) (by omega) (by omega) d14_46 ?_
      refine x_aload_n (pc := 47) rfl d14_47 ?_
      refine x_dup (pc := 48) rfl d14_48 ?_
      refine m_getW (pc := 49) (z := 0) (w := (I (p + 3) 0)) f14_21 (by decide +kernel) rfl hp.o3 (by rw [up2_p (by omega), up2_p (by omega), up2_p (by omega)]) d14_49 ?_
      refine x_iconst (pc := 52) d14_52 ?_
      refine x_iadd (pc := 53) d14_53 ?_
      refine m_putI (pc := 54) (z := 0) f14_21 (by decide +kernel) (by decide +kernel) rfl hp.o3 d14_54 ?_
      refine x_iconst (pc := 57) d14_57 ?_
      refine x_zret (pc := 58) rfl (Or.inr rfl) (fun _ => rfl) d14_58 ?_
      first | rfl | (exfalso; omega)
    · refine x_iconst (pc := 15) d14_15 ?_
      refine x_zret (pc := 16) rfl (Or.inl rfl) (fun _ => rfl) d14_16 ?_
      first | rfl | (exfalso; omega)
end Dogs
end
section
/-! ===== MatchboxModem.checksumOf, takenIndex, binaryDigits ===== -/
theorem d143_0 : decode (cdN 143) 0 = .ok (.iconst 0, 1) := by decide +kernel
theorem d143_1 : decode (cdN 143) 1 = .ok (.istore_n 3, 1) := by decide +kernel
theorem d143_2 : decode (cdN 143) 2 = .ok (.iload_n 1, 1) := by decide +kernel
theorem d143_3 : decode (cdN 143) 3 = .ok (.iconst 0, 1) := by decide +kernel
theorem d143_4 : decode (cdN 143) 4 = .ok (.invokestatic 390, 3) := by decide +kernel
theorem c143_390 : ctN (owN 143) 390 = some (5, 0, [472, 130, 94, 131]) := by decide +kernel
theorem d143_7 : decode (cdN 143) 7 = .ok (.istore 4, 2) := by decide +kernel
theorem d143_9 : decode (cdN 143) 9 = .ok (.iload 4, 2) := by decide +kernel
theorem d143_11 : decode (cdN 143) 11 = .ok (.iload_n 2, 1) := by decide +kernel
theorem d143_12 : decode (cdN 143) 12 = .ok (.if_icmp .ge 63, 3) := by decide +kernel
theorem d143_15 : decode (cdN 143) 15 = .ok (.iload 4, 2) := by decide +kernel
theorem d143_17 : decode (cdN 143) 17 = .ok (.aload_n 0, 1) := by decide +kernel
theorem d143_18 : decode (cdN 143) 18 = .ok (.arraylength, 1) := by decide +kernel
theorem d143_19 : decode (cdN 143) 19 = .ok (.if_icmp .ge 56, 3) := by decide +kernel
theorem d143_22 : decode (cdN 143) 22 = .ok (.iload_n 3, 1) := by decide +kernel
theorem d143_23 : decode (cdN 143) 23 = .ok (.aload_n 0, 1) := by decide +kernel
theorem d143_24 : decode (cdN 143) 24 = .ok (.iload 4, 2) := by decide +kernel
theorem d143_26 : decode (cdN 143) 26 = .ok (.iaload, 1) := by decide +kernel
theorem d143_27 : decode (cdN 143) 27 = .ok (.ixor, 1) := by decide +kernel
theorem d143_28 : decode (cdN 143) 28 = .ok (.istore_n 3, 1) := by decide +kernel
theorem d143_29 : decode (cdN 143) 29 = .ok (.iconst 0, 1) := by decide +kernel
theorem d143_30 : decode (cdN 143) 30 = .ok (.istore 5, 2) := by decide +kernel
theorem d143_32 : decode (cdN 143) 32 = .ok (.iload 5, 2) := by decide +kernel
theorem d143_34 : decode (cdN 143) 34 = .ok (.bipush 8, 2) := by decide +kernel
theorem d143_36 : decode (cdN 143) 36 = .ok (.if_icmp .ge 33, 3) := by decide +kernel
theorem d143_39 : decode (cdN 143) 39 = .ok (.iload_n 3, 1) := by decide +kernel
theorem d143_40 : decode (cdN 143) 40 = .ok (.sipush 128, 3) := by decide +kernel
theorem d143_43 : decode (cdN 143) 43 = .ok (.if_icmp .lt 16, 3) := by decide +kernel
theorem d143_46 : decode (cdN 143) 46 = .ok (.iload_n 3, 1) := by decide +kernel
theorem d143_47 : decode (cdN 143) 47 = .ok (.iconst 2, 1) := by decide +kernel
theorem d143_48 : decode (cdN 143) 48 = .ok (.imul, 1) := by decide +kernel
theorem d143_49 : decode (cdN 143) 49 = .ok (.sipush 255, 3) := by decide +kernel
theorem d143_52 : decode (cdN 143) 52 = .ok (.iand, 1) := by decide +kernel
theorem d143_53 : decode (cdN 143) 53 = .ok (.bipush 7, 2) := by decide +kernel
theorem d143_55 : decode (cdN 143) 55 = .ok (.ixor, 1) := by decide +kernel
theorem d143_56 : decode (cdN 143) 56 = .ok (.goto 6, 3) := by decide +kernel
theorem d143_59 : decode (cdN 143) 59 = .ok (.iload_n 3, 1) := by decide +kernel
theorem d143_60 : decode (cdN 143) 60 = .ok (.iconst 2, 1) := by decide +kernel
theorem d143_61 : decode (cdN 143) 61 = .ok (.imul, 1) := by decide +kernel
theorem d143_62 : decode (cdN 143) 62 = .ok (.istore_n 3, 1) := by decide +kernel
theorem d143_63 : decode (cdN 143) 63 = .ok (.iinc 5 1, 3) := by decide +kernel
theorem d143_66 : decode (cdN 143) 66 = .ok (.goto (-34), 3) := by decide +kernel
theorem d143_69 : decode (cdN 143) 69 = .ok (.iinc 4 1, 3) := by decide +kernel
theorem d143_72 : decode (cdN 143) 72 = .ok (.goto (-63), 3) := by decide +kernel
theorem d143_75 : decode (cdN 143) 75 = .ok (.iload_n 3, 1) := by decide +kernel
theorem d143_76 : decode (cdN 143) 76 = .ok (.ireturn, 1) := by decide +kernel
theorem d144_0 : decode (cdN 144) 0 = .ok (.iconst 0, 1) := by decide +kernel
theorem d144_1 : decode (cdN 144) 1 = .ok (.istore_n 1, 1) := by decide +kernel
theorem d144_2 : decode (cdN 144) 2 = .ok (.iload_n 1, 1) := by decide +kernel
theorem d144_3 : decode (cdN 144) 3 = .ok (.bipush 16, 2) := by decide +kernel
theorem d144_5 : decode (cdN 144) 5 = .ok (.if_icmp .ge 15, 3) := by decide +kernel
theorem d144_8 : decode (cdN 144) 8 = .ok (.iload_n 0, 1) := by decide +kernel
theorem d144_9 : decode (cdN 144) 9 = .ok (.iload_n 1, 1) := by decide +kernel
theorem d144_10 : decode (cdN 144) 10 = .ok (.ishr, 1) := by decide +kernel
theorem d144_11 : decode (cdN 144) 11 = .ok (.ifCond .le 9, 3) := by decide +kernel
theorem d144_14 : decode (cdN 144) 14 = .ok (.iinc 1 1, 3) := by decide +kernel
theorem d144_17 : decode (cdN 144) 17 = .ok (.goto (-15), 3) := by decide +kernel
theorem d144_20 : decode (cdN 144) 20 = .ok (.iload_n 1, 1) := by decide +kernel
theorem d144_21 : decode (cdN 144) 21 = .ok (.ireturn, 1) := by decide +kernel
theorem d145_0 : decode (cdN 145) 0 = .ok (.iconst 2, 1) := by decide +kernel
theorem d145_1 : decode (cdN 145) 1 = .ok (.iload_n 0, 1) := by decide +kernel
theorem d145_2 : decode (cdN 145) 2 = .ok (.imul, 1) := by decide +kernel
theorem d145_3 : decode (cdN 145) 3 = .ok (.iconst 1, 1) := by decide +kernel
theorem d145_4 : decode (cdN 145) 4 = .ok (.iadd, 1) := by decide +kernel
theorem d145_5 : decode (cdN 145) 5 = .ok (.sipush 1000, 3) := by decide +kernel
theorem d145_8 : decode (cdN 145) 8 = .ok (.iload_n 1, 1) := by decide +kernel
theorem d145_9 : decode (cdN 145) 9 = .ok (.iadd, 1) := by decide +kernel
theorem d145_10 : decode (cdN 145) 10 = .ok (.imul, 1) := by decide +kernel
theorem d145_11 : decode (cdN 145) 11 = .ok (.sipush 2000, 3) := by decide +kernel
theorem d145_14 : decode (cdN 145) 14 = .ok (.idiv, 1) := by decide +kernel
theorem d145_15 : decode (cdN 145) 15 = .ok (.ireturn, 1) := by decide +kernel
section Sum
variable {l : LX} {q a m0 : Nat} {I : Nat → Int → Int} {v : Int} {fr : Bool}
theorem lp_crc8 (hl : l.1.stackTraces = false) (ha : a < q ∧ K0 a = 10 * m0) (hm : m0 ≤ 100000) {to i : Int} {Q : OO → Prop} (h0 : 0 ≤ i) (h1 : i ≤ 100000) : ∀ (n : Nat) (s : Int) (j : Int), 0 ≤ s → s ≤ 255 → j = 8 - n → 0 ≤ j →
    Ex l 143 0 0 9 [some (.ref a), none, some (.int (iI to)), some (.int (iI (crc8 n s))), some (.int (iI (i + 1))), none] [] (mm q I v fr) Q →
    Ex l 143 0 0 32 [some (.ref a), none, some (.int (iI to)), some (.int (iI s)), some (.int (iI i)), some (.int (iI j))] [] (mm q I v fr) Q := by
  intro n
  induction n with
  | zero =>
    intro s j hs hs2 hj hj0 hk
    refine x_iload (pc := 32) rfl d143_32 ?_
    refine x_bipush (pc := 34) (by decide) d143_34 ?_
    refine x_icmp_ge (pc := 36) (tgt := 69) ⟨by omega, by omega⟩ ⟨by omega, by omega⟩ d143_36 (by decide) (fun g36 => ?_) (fun g36 => ?_)
    · refine x_iinc (pc := 69) rfl (by decide +kernel) rfl d143_69 ?_
      dsimp only [List.set]
      refine x_goto (pc := 72) (tgt := 9) d143_72 (by decide) ?_
      refine x_mask [true, true, true, true, true, false] ?_
      dsimp only [mask]
      exact hk
    · refine x_iload_n (pc := 39) rfl d143_39 ?_
      refine x_sipush (pc := 40) (by decide) d143_40 ?_
      refine x_icmp_lt (pc := 43) (tgt := 59) ⟨by omega, by omega⟩ ⟨by omega, by omega⟩ d143_43 (by decide) (fun g43 => ?_) (fun g43 => ?_)
      · refine x_iload_n (pc := 59) rfl d143_59 ?_
        refine x_iconst (pc := 60) d143_60 ?_
        refine x_imul (pc := 61) d143_61 ?_
        refine x_istore_n (pc := 62) (by decide +kernel) rfl d143_62 ?_
        dsimp only [List.set]
        refine x_iinc (pc := 63) rfl (by decide +kernel) rfl d143_63 ?_
        dsimp only [List.set]
        refine x_goto (pc := 66) (tgt := 32) d143_66 (by decide) ?_
        exfalso; omega
      · refine x_iload_n (pc := 46) rfl d143_46 ?_
        refine x_iconst (pc := 47) d143_47 ?_
        refine x_imul (pc := 48) d143_48 ?_
        refine x_sipush (pc := 49) (by decide) d143_49 ?_
        refine x_iand (pc := 52) (iI_and8 _) d143_52 ?_
        refine x_bipush (pc := 53) (by decide) d143_53 ?_
        refine x_ixor (pc := 55) (iI_xor (by omega) (by omega) (by omega) (by omega)) d143_55 ?_
        refine x_goto (pc := 56) (tgt := 62) d143_56 (by decide) ?_
        refine x_istore_n (pc := 62) (by decide +kernel) rfl d143_62 ?_
        dsimp only [List.set]
        refine x_iinc (pc := 63) rfl (by decide +kernel) rfl d143_63 ?_
        dsimp only [List.set]
        refine x_goto (pc := 66) (tgt := 32) d143_66 (by decide) ?_
        exfalso; omega
  | succ n ih =>
    intro s j hs hs2 hj hj0 hk
    have hb := crcS_b hs hs2
    refine x_iload (pc := 32) rfl d143_32 ?_
    refine x_bipush (pc := 34) (by decide) d143_34 ?_
    refine x_icmp_ge (pc := 36) (tgt := 69) ⟨by omega, by omega⟩ ⟨by omega, by omega⟩ d143_36 (by decide) (fun g36 => ?_) (fun g36 => ?_)
    · refine x_iinc (pc := 69) rfl (by decide +kernel) rfl d143_69 ?_
      dsimp only [List.set]
      refine x_goto (pc := 72) (tgt := 9) d143_72 (by decide) ?_
      refine x_mask [true, true, true, true, true, false] ?_
      dsimp only [mask]
      exfalso; omega
    · refine x_iload_n (pc := 39) rfl d143_39 ?_
      refine x_sipush (pc := 40) (by decide) d143_40 ?_
      refine x_icmp_lt (pc := 43) (tgt := 59) ⟨by omega, by omega⟩ ⟨by omega, by omega⟩ d143_43 (by decide) (fun g43 => ?_) (fun g43 => ?_)
      · refine x_iload_n (pc := 59) rfl d143_59 ?_
        refine x_iconst (pc := 60) d143_60 ?_
        refine x_imul (pc := 61) d143_61 ?_
        refine x_istore_n (pc := 62) (by decide +kernel) rfl d143_62 ?_
        dsimp only [List.set]
        refine x_iinc (pc := 63) rfl (by decide +kernel) rfl d143_63 ?_
        dsimp only [List.set]
        refine x_goto (pc := 66) (tgt := 32) d143_66 (by decide) ?_
        refine ih (s * 2) (j + 1) (by omega) (by omega) (by omega) (by omega) ?_
        rw [show s * 2 = crcS s from (if_neg (by omega)).symm]; exact hk
      · refine x_iload_n (pc := 46) rfl d143_46 ?_
        refine x_iconst (pc := 47) d143_47 ?_
        refine x_imul (pc := 48) d143_48 ?_
        refine x_sipush (pc := 49) (by decide) d143_49 ?_
        refine x_iand (pc := 52) (iI_and8 _) d143_52 ?_
        refine x_bipush (pc := 53) (by decide) d143_53 ?_
        refine x_ixor (pc := 55) (iI_xor (by omega) (by omega) (by omega) (by omega)) d143_55 ?_
        refine x_goto (pc := 56) (tgt := 62) d143_56 (by decide) ?_
        refine x_istore_n (pc := 62) (by decide +kernel) rfl d143_62 ?_
        dsimp only [List.set]
        refine x_iinc (pc := 63) rfl (by decide +kernel) rfl d143_63 ?_
        dsimp only [List.set]
        refine x_goto (pc := 66) (tgt := 32) d143_66 (by decide) ?_
        have e : crcS s = xorZ (s * 2 % 256) 7 := by unfold crcS; rw [if_pos (by omega)]
        rw [← e]
        exact ih (crcS s) (j + 1) hb.1 hb.2 (by omega) (by omega) hk
theorem lp_crc (hl : l.1.stackTraces = false) (ha : a < q ∧ K0 a = 10 * m0) (hm : m0 ≤ 100000) {fm to : Int} (h0 : 0 ≤ fm) (h1 : fm ≤ to) (h2 : to ≤ m0) (hB : ∀ i : Int, fm ≤ i → i < to → 0 ≤ I a i ∧ I a i ≤ 255) : ∀ (m : Nat) (i : Nat), fm + i ≤ to → to - (fm + i) < m →
    Ex l 143 0 0 9 [some (.ref a), none, some (.int (iI to)), some (.int (iI (crcF (fun k => I a (fm + k)) i))), some (.int (iI (fm + i))), none] [] (mm q I v fr) (fun o => o = (.inl (some (.int (iI (crcF (fun k => I a (fm + k)) (to - fm).toNat)))), mm q I v fr)) := by
  intro m
  induction m with
  | zero => intro i h3 h4; omega
  | succ m ih =>
    intro i h3 h4
    have hb := crcF_b (B := fun k => I a (fm + k)) i (fun j hj hj2 => hB (fm + j) (by omega) (by omega))
    generalize hs : crcF (fun k => I a (fm + k)) i = s at hb ⊢
    refine x_iload (pc := 9) rfl d143_9 ?_
    refine x_iload_n (pc := 11) rfl d143_11 ?_
    refine x_icmp_ge (pc := 12) (tgt := 75) ⟨by omega, by omega⟩ ⟨by omega, by omega⟩ d143_12 (by decide) (fun g12 => ?_) (fun g12 => ?_)
    · refine x_iload_n (pc := 75) rfl d143_75 ?_
      refine x_iret (pc := 76) rfl (fun _ => rfl) d143_76 ?_
      rw [← hs, show (to - fm).toNat = i from by omega]
    · refine x_iload (pc := 15) rfl d143_15 ?_
      refine x_aload_n (pc := 17) rfl d143_17 ?_
      have hc := hB (fm + i) (by omega) (by omega)
      refine m_alen (pc := 18) (z := (m0 : Int)) ha rfl d143_18 ?_
      refine x_icmp_ge (pc := 19) (tgt := 75) ⟨by omega, by omega⟩ ⟨by omega, by omega⟩ d143_19 (by decide) (fun g19 => ?_) (fun g19 => ?_)
      · refine x_iload_n (pc := 75) rfl d143_75 ?_
        refine x_iret (pc := 76) rfl (fun _ => rfl) d143_76 ?_
        exfalso; omega
      · refine x_iload_n (pc := 22) rfl d143_22 ?_
        refine x_aload_n (pc := 23) rfl d143_23 ?_
        refine x_iload (pc := 24) rfl d143_24 ?_
        refine m_iald (pc := 26) ha (by omega) (by omega) (by omega) d143_26 ?_
        refine x_ixor (pc := 27) (iI_xor (by omega) (by omega) (by omega) (by omega)) d143_27 ?_
        refine x_istore_n (pc := 28) (by decide +kernel) rfl d143_28 ?_
        dsimp only [List.set]
        refine x_iconst (pc := 29) d143_29 ?_
        refine x_istore (pc := 30) (by decide +kernel) rfl d143_30 ?_
        dsimp only [List.set]
        have hx := xorZ_b hb.1 hb.2 hc.1 hc.2
        refine lp_crc8 hl ha hm (by omega) (by omega) 8 _ 0 hx.1 hx.2 (by omega) (by omega) ?_
        have e : crc8 8 (xorZ s (I a (fm + i))) = crcF (fun k => I a (fm + k)) (i + 1) := by
          show _ = crcB (crcF (fun k => I a (fm + k)) i) _
          rw [hs]; rfl
        rw [e, show fm + (i : Int) + 1 = fm + ((i + 1 : Nat) : Int) from by omega]
        exact ih (i + 1) (by omega) (by omega)
/-- checksumOf -/
theorem dt_sum (hl : l.1.stackTraces = false) (ha : a < q ∧ K0 a = 10 * m0) (hm : m0 ≤ 100000) {fm to : Int} (h0 : 0 ≤ fm) (h1 : fm ≤ to) (h2 : to ≤ m0) (hB : ∀ i : Int, fm ≤ i → i < to → 0 ≤ I a i ∧ I a i ≤ 255) : DT l 143 [.ref a, .int (iI fm), .int (iI to)] (mm q I v fr) 0 0 (.inl (some (.int (iI (crcF (fun k => I a (fm + k)) (to - fm).toNat)))), mm q I v fr) := by
  refine mkdt hl (by decide) (Nat.le_of_ble_eq_true rfl) (L := [some (.ref a), some (.int (iI fm)), some (.int (iI to)), none, none, none]) rfl ?_
  refine x_iconst (pc := 0) d143_0 ?_
  refine x_istore_n (pc := 1) (by decide +kernel) rfl d143_1 ?_
  dsimp only [List.set]
  refine x_iload_n (pc := 2) rfl d143_2 ?_
  refine x_iconst (pc := 3) d143_3 ?_
  refine x_max (pc := 4) ⟨by omega, by omega⟩ ⟨by omega, by omega⟩ c143_390 (by decide +kernel) (Nat.le_of_ble_eq_true rfl) d143_4 ?_
  refine x_istore (pc := 7) (by decide +kernel) rfl d143_7 ?_
  dsimp only [List.set]
  refine x_mask [true, false, true, true, true, true] ?_
  dsimp only [mask]
  rw [Int.max_eq_left h0]
  have := lp_crc (fr := fr) (v := v) hl ha hm h0 h1 h2 hB ((to - fm).toNat + 1) 0 (by omega) (by omega)
  rw [show fm + ((0 : Nat) : Int) = fm from by omega] at this
  exact this
/-- takenIndex -/
theorem dt_tkI (hl : l.1.stackTraces = false) {b dr : Int} (h0 : 0 ≤ b) (h1 : b ≤ 1000) (h2 : -99 ≤ dr) (h3 : dr ≤ 99) : DT l 145 [.int (iI b), .int (iI dr)] (mm q I v fr) 0 0 (.inl (some (.int (iI (tkI b dr)))), mm q I v fr) := by
  have hm1 : 0 ≤ (2 * b + 1) * (1000 + dr) := Int.mul_nonneg (by omega) (by omega)
  have hm2 : (2 * b + 1) * (1000 + dr) ≤ 2001 * 1099 := Int.mul_le_mul (by omega) (by omega) (by omega) (by omega)
  refine mkdt hl (by decide) (Nat.le_of_ble_eq_true rfl) (L := [some (.int (iI b)), some (.int (iI dr))]) rfl ?_
  refine x_iconst (pc := 0) d145_0 ?_
  refine x_iload_n (pc := 1) rfl d145_1 ?_
  refine x_imul (pc := 2) d145_2 ?_
  refine x_iconst (pc := 3) d145_3 ?_
  refine x_iadd (pc := 4) d145_4 ?_
  refine x_sipush (pc := 5) (by decide) d145_5 ?_
  refine x_iload_n (pc := 8) rfl d145_8 ?_
  refine x_iadd (pc := 9) d145_9 ?_
  refine x_imul (pc := 10) d145_10 ?_
  refine x_sipush (pc := 11) (by decide) d145_11 ?_
  refine x_idiv (pc := 14) (by omega) (by omega) (by omega) (by omega) d145_14 ?_
  refine x_iret (pc := 15) rfl (fun _ => rfl) d145_15 ?_
  first | rfl | (exfalso; omega)
def bdig (z : Int) : Nat → Nat
  | 0 => 0
  | n + 1 => if 0 < z then 1 + bdig (z / 2) n else 0
end Sum
end
section
/-! ===== frames ===== -/
theorem d20_0 : decode (cdN 20) 0 = .ok (.iload_n 1, 1) := by decide +kernel
theorem d20_1 : decode (cdN 20) 1 = .ok (.ifCond .lt 17, 3) := by decide +kernel
theorem d20_4 : decode (cdN 20) 4 = .ok (.iload_n 1, 1) := by decide +kernel
theorem d20_5 : decode (cdN 20) 5 = .ok (.aload_n 0, 1) := by decide +kernel
theorem d20_6 : decode (cdN 20) 6 = .ok (.getfield 30, 3) := by decide +kernel
theorem f20_30 : ftN (owN 20) 30 = some (3, 0, 281) := by decide +kernel
theorem d20_9 : decode (cdN 20) 9 = .ok (.if_icmp .ge 9, 3) := by decide +kernel
theorem d20_12 : decode (cdN 20) 12 = .ok (.iload_n 1, 1) := by decide +kernel
theorem d20_13 : decode (cdN 20) 13 = .ok (.bipush 48, 2) := by decide +kernel
theorem d20_15 : decode (cdN 20) 15 = .ok (.if_icmp .lt 7, 3) := by decide +kernel
theorem d20_18 : decode (cdN 20) 18 = .ok (.iconst 0, 1) := by decide +kernel
theorem d20_19 : decode (cdN 20) 19 = .ok (.goto 12, 3) := by decide +kernel
theorem d20_22 : decode (cdN 20) 22 = .ok (.aload_n 0, 1) := by decide +kernel
theorem d20_23 : decode (cdN 20) 23 = .ok (.getfield 9, 3) := by decide +kernel
theorem f20_9 : ftN (owN 20) 9 = some (3, 1, 284) := by decide +kernel
theorem d20_26 : decode (cdN 20) 26 = .ok (.iload_n 1, 1) := by decide +kernel
theorem d20_27 : decode (cdN 20) 27 = .ok (.iaload, 1) := by decide +kernel
theorem d20_28 : decode (cdN 20) 28 = .ok (.bipush 8, 2) := by decide +kernel
theorem d20_30 : decode (cdN 20) 30 = .ok (.imul, 1) := by decide +kernel
theorem d20_31 : decode (cdN 20) 31 = .ok (.ireturn, 1) := by decide +kernel
theorem d21_0 : decode (cdN 21) 0 = .ok (.iload_n 2, 1) := by decide +kernel
theorem d21_1 : decode (cdN 21) 1 = .ok (.ifCond .lt 12, 3) := by decide +kernel
theorem d21_4 : decode (cdN 21) 4 = .ok (.iload_n 2, 1) := by decide +kernel
theorem d21_5 : decode (cdN 21) 5 = .ok (.aload_n 0, 1) := by decide +kernel
theorem d21_6 : decode (cdN 21) 6 = .ok (.iload_n 1, 1) := by decide +kernel
theorem d21_7 : decode (cdN 21) 7 = .ok (.invokevirtual 44, 3) := by decide +kernel
theorem c21_44 : ctN (owN 21) 44 = some (0, 20, [611, 604, 605, 101]) := by decide +kernel
theorem d21_10 : decode (cdN 21) 10 = .ok (.if_icmp .lt 5, 3) := by decide +kernel
theorem d21_13 : decode (cdN 21) 13 = .ok (.iconst (-1), 1) := by decide +kernel
theorem d21_14 : decode (cdN 21) 14 = .ok (.ireturn, 1) := by decide +kernel
theorem d21_15 : decode (cdN 21) 15 = .ok (.aload_n 0, 1) := by decide +kernel
theorem d21_16 : decode (cdN 21) 16 = .ok (.getfield 24, 3) := by decide +kernel
theorem f21_24 : ftN (owN 21) 24 = some (3, 5, 295) := by decide +kernel
theorem d21_19 : decode (cdN 21) 19 = .ok (.iload_n 1, 1) := by decide +kernel
theorem d21_20 : decode (cdN 21) 20 = .ok (.bipush 6, 2) := by decide +kernel
theorem d21_22 : decode (cdN 21) 22 = .ok (.imul, 1) := by decide +kernel
theorem d21_23 : decode (cdN 21) 23 = .ok (.iload_n 2, 1) := by decide +kernel
theorem d21_24 : decode (cdN 21) 24 = .ok (.bipush 8, 2) := by decide +kernel
theorem d21_26 : decode (cdN 21) 26 = .ok (.idiv, 1) := by decide +kernel
theorem d21_27 : decode (cdN 21) 27 = .ok (.iadd, 1) := by decide +kernel
theorem d21_28 : decode (cdN 21) 28 = .ok (.iaload, 1) := by decide +kernel
theorem d21_29 : decode (cdN 21) 29 = .ok (.bipush 7, 2) := by decide +kernel
theorem d21_31 : decode (cdN 21) 31 = .ok (.iload_n 2, 1) := by decide +kernel
theorem d21_32 : decode (cdN 21) 32 = .ok (.bipush 8, 2) := by decide +kernel
theorem d21_34 : decode (cdN 21) 34 = .ok (.irem, 1) := by decide +kernel
theorem d21_35 : decode (cdN 21) 35 = .ok (.isub, 1) := by decide +kernel
theorem d21_36 : decode (cdN 21) 36 = .ok (.ishr, 1) := by decide +kernel
theorem d21_37 : decode (cdN 21) 37 = .ok (.iconst 1, 1) := by decide +kernel
theorem d21_38 : decode (cdN 21) 38 = .ok (.iand, 1) := by decide +kernel
theorem d21_39 : decode (cdN 21) 39 = .ok (.ireturn, 1) := by decide +kernel
theorem d22_0 : decode (cdN 22) 0 = .ok (.iconst 0, 1) := by decide +kernel
theorem d22_1 : decode (cdN 22) 1 = .ok (.istore_n 1, 1) := by decide +kernel
theorem d22_2 : decode (cdN 22) 2 = .ok (.iload_n 1, 1) := by decide +kernel
theorem d22_3 : decode (cdN 22) 3 = .ok (.aload_n 0, 1) := by decide +kernel
theorem d22_4 : decode (cdN 22) 4 = .ok (.getfield 30, 3) := by decide +kernel
theorem f22_30 : ftN (owN 22) 30 = some (3, 0, 281) := by decide +kernel
theorem d22_7 : decode (cdN 22) 7 = .ok (.if_icmp .ge 26, 3) := by decide +kernel
theorem d22_10 : decode (cdN 22) 10 = .ok (.iload_n 1, 1) := by decide +kernel
theorem d22_11 : decode (cdN 22) 11 = .ok (.bipush 48, 2) := by decide +kernel
theorem d22_13 : decode (cdN 22) 13 = .ok (.if_icmp .ge 20, 3) := by decide +kernel
theorem d22_16 : decode (cdN 22) 16 = .ok (.aload_n 0, 1) := by decide +kernel
theorem d22_17 : decode (cdN 22) 17 = .ok (.getfield 15, 3) := by decide +kernel
theorem f22_15 : ftN (owN 22) 15 = some (3, 2, 287) := by decide +kernel
theorem d22_20 : decode (cdN 22) 20 = .ok (.iload_n 1, 1) := by decide +kernel
theorem d22_21 : decode (cdN 22) 21 = .ok (.iaload, 1) := by decide +kernel
theorem d22_22 : decode (cdN 22) 22 = .ok (.ifCond .ne 5, 3) := by decide +kernel
theorem d22_25 : decode (cdN 22) 25 = .ok (.iload_n 1, 1) := by decide +kernel
theorem d22_26 : decode (cdN 22) 26 = .ok (.ireturn, 1) := by decide +kernel
theorem d22_27 : decode (cdN 22) 27 = .ok (.iinc 1 1, 3) := by decide +kernel
theorem d22_30 : decode (cdN 22) 30 = .ok (.goto (-28), 3) := by decide +kernel
theorem d22_33 : decode (cdN 22) 33 = .ok (.iconst (-1), 1) := by decide +kernel
theorem d22_34 : decode (cdN 22) 34 = .ok (.ireturn, 1) := by decide +kernel
theorem d24_0 : decode (cdN 24) 0 = .ok (.iload_n 1, 1) := by decide +kernel
theorem d24_1 : decode (cdN 24) 1 = .ok (.ifCond .lt 18, 3) := by decide +kernel
theorem d24_4 : decode (cdN 24) 4 = .ok (.iload_n 1, 1) := by decide +kernel
theorem d24_5 : decode (cdN 24) 5 = .ok (.bipush 48, 2) := by decide +kernel
theorem d24_7 : decode (cdN 24) 7 = .ok (.if_icmp .ge 12, 3) := by decide +kernel
theorem d24_10 : decode (cdN 24) 10 = .ok (.aload_n 0, 1) := by decide +kernel
theorem d24_11 : decode (cdN 24) 11 = .ok (.getfield 21, 3) := by decide +kernel
theorem f24_21 : ftN (owN 24) 21 = some (3, 4, 293) := by decide +kernel
theorem d24_14 : decode (cdN 24) 14 = .ok (.iload_n 1, 1) := by decide +kernel
theorem d24_15 : decode (cdN 24) 15 = .ok (.iaload, 1) := by decide +kernel
theorem d24_16 : decode (cdN 24) 16 = .ok (.ifCond .ne 5, 3) := by decide +kernel
theorem d24_19 : decode (cdN 24) 19 = .ok (.iconst 0, 1) := by decide +kernel
theorem d24_20 : decode (cdN 24) 20 = .ok (.ireturn, 1) := by decide +kernel
theorem d24_21 : decode (cdN 24) 21 = .ok (.iload_n 1, 1) := by decide +kernel
theorem d24_22 : decode (cdN 24) 22 = .ok (.bipush 6, 2) := by decide +kernel
theorem d24_24 : decode (cdN 24) 24 = .ok (.imul, 1) := by decide +kernel
theorem d24_25 : decode (cdN 24) 25 = .ok (.istore_n 2, 1) := by decide +kernel
theorem d24_26 : decode (cdN 24) 26 = .ok (.iconst 0, 1) := by decide +kernel
theorem d24_27 : decode (cdN 24) 27 = .ok (.istore_n 3, 1) := by decide +kernel
theorem d24_28 : decode (cdN 24) 28 = .ok (.iload_n 3, 1) := by decide +kernel
theorem d24_29 : decode (cdN 24) 29 = .ok (.aload_n 0, 1) := by decide +kernel
theorem d24_30 : decode (cdN 24) 30 = .ok (.getfield 9, 3) := by decide +kernel
theorem f24_9 : ftN (owN 24) 9 = some (3, 1, 284) := by decide +kernel
theorem d24_33 : decode (cdN 24) 33 = .ok (.iload_n 1, 1) := by decide +kernel
theorem d24_34 : decode (cdN 24) 34 = .ok (.iaload, 1) := by decide +kernel
theorem d24_35 : decode (cdN 24) 35 = .ok (.if_icmp .ge 36, 3) := by decide +kernel
theorem d24_38 : decode (cdN 24) 38 = .ok (.iload_n 3, 1) := by decide +kernel
theorem d24_39 : decode (cdN 24) 39 = .ok (.bipush 6, 2) := by decide +kernel
theorem d24_41 : decode (cdN 24) 41 = .ok (.if_icmp .ge 30, 3) := by decide +kernel
theorem d24_44 : decode (cdN 24) 44 = .ok (.aload_n 0, 1) := by decide +kernel
theorem d24_45 : decode (cdN 24) 45 = .ok (.getfield 27, 3) := by decide +kernel
theorem f24_27 : ftN (owN 24) 27 = some (3, 6, 298) := by decide +kernel
theorem d24_48 : decode (cdN 24) 48 = .ok (.iload_n 2, 1) := by decide +kernel
theorem d24_49 : decode (cdN 24) 49 = .ok (.iload_n 3, 1) := by decide +kernel
theorem d24_50 : decode (cdN 24) 50 = .ok (.iadd, 1) := by decide +kernel
theorem d24_51 : decode (cdN 24) 51 = .ok (.iaload, 1) := by decide +kernel
theorem d24_52 : decode (cdN 24) 52 = .ok (.aload_n 0, 1) := by decide +kernel
theorem d24_53 : decode (cdN 24) 53 = .ok (.getfield 24, 3) := by decide +kernel
theorem f24_24 : ftN (owN 24) 24 = some (3, 5, 295) := by decide +kernel
theorem d24_56 : decode (cdN 24) 56 = .ok (.iload_n 2, 1) := by decide +kernel
theorem d24_57 : decode (cdN 24) 57 = .ok (.iload_n 3, 1) := by decide +kernel
theorem d24_58 : decode (cdN 24) 58 = .ok (.iadd, 1) := by decide +kernel
theorem d24_59 : decode (cdN 24) 59 = .ok (.iaload, 1) := by decide +kernel
theorem d24_60 : decode (cdN 24) 60 = .ok (.if_icmp .eq 5, 3) := by decide +kernel
theorem d24_63 : decode (cdN 24) 63 = .ok (.iconst 0, 1) := by decide +kernel
theorem d24_64 : decode (cdN 24) 64 = .ok (.ireturn, 1) := by decide +kernel
theorem d24_65 : decode (cdN 24) 65 = .ok (.iinc 3 1, 3) := by decide +kernel
theorem d24_68 : decode (cdN 24) 68 = .ok (.goto (-40), 3) := by decide +kernel
theorem d24_71 : decode (cdN 24) 71 = .ok (.iconst 1, 1) := by decide +kernel
theorem d24_72 : decode (cdN 24) 72 = .ok (.ireturn, 1) := by decide +kernel
theorem d25_0 : decode (cdN 25) 0 = .ok (.iconst 0, 1) := by decide +kernel
theorem d25_1 : decode (cdN 25) 1 = .ok (.istore_n 1, 1) := by decide +kernel
theorem d25_2 : decode (cdN 25) 2 = .ok (.iconst 0, 1) := by decide +kernel
theorem d25_3 : decode (cdN 25) 3 = .ok (.istore_n 2, 1) := by decide +kernel
theorem d25_4 : decode (cdN 25) 4 = .ok (.iload_n 2, 1) := by decide +kernel
theorem d25_5 : decode (cdN 25) 5 = .ok (.aload_n 0, 1) := by decide +kernel
theorem d25_6 : decode (cdN 25) 6 = .ok (.getfield 30, 3) := by decide +kernel
theorem f25_30 : ftN (owN 25) 30 = some (3, 0, 281) := by decide +kernel
theorem d25_9 : decode (cdN 25) 9 = .ok (.if_icmp .ge 24, 3) := by decide +kernel
theorem d25_12 : decode (cdN 25) 12 = .ok (.iload_n 2, 1) := by decide +kernel
theorem d25_13 : decode (cdN 25) 13 = .ok (.bipush 48, 2) := by decide +kernel
theorem d25_15 : decode (cdN 25) 15 = .ok (.if_icmp .ge 18, 3) := by decide +kernel
theorem d25_18 : decode (cdN 25) 18 = .ok (.iload_n 1, 1) := by decide +kernel
theorem d25_19 : decode (cdN 25) 19 = .ok (.aload_n 0, 1) := by decide +kernel
theorem d25_20 : decode (cdN 25) 20 = .ok (.getfield 18, 3) := by decide +kernel
theorem f25_18 : ftN (owN 25) 18 = some (3, 3, 290) := by decide +kernel
theorem d25_23 : decode (cdN 25) 23 = .ok (.iload_n 2, 1) := by decide +kernel
theorem d25_24 : decode (cdN 25) 24 = .ok (.iaload, 1) := by decide +kernel
theorem d25_25 : decode (cdN 25) 25 = .ok (.iadd, 1) := by decide +kernel
theorem d25_26 : decode (cdN 25) 26 = .ok (.istore_n 1, 1) := by decide +kernel
theorem d25_27 : decode (cdN 25) 27 = .ok (.iinc 2 1, 3) := by decide +kernel
theorem d25_30 : decode (cdN 25) 30 = .ok (.goto (-26), 3) := by decide +kernel
theorem d25_33 : decode (cdN 25) 33 = .ok (.iload_n 1, 1) := by decide +kernel
theorem d25_34 : decode (cdN 25) 34 = .ok (.ireturn, 1) := by decide +kernel
theorem d26_0 : decode (cdN 26) 0 = .ok (.iconst 0, 1) := by decide +kernel
theorem d26_1 : decode (cdN 26) 1 = .ok (.istore_n 1, 1) := by decide +kernel
theorem d26_2 : decode (cdN 26) 2 = .ok (.iconst 0, 1) := by decide +kernel
theorem d26_3 : decode (cdN 26) 3 = .ok (.istore_n 2, 1) := by decide +kernel
theorem d26_4 : decode (cdN 26) 4 = .ok (.iload_n 2, 1) := by decide +kernel
theorem d26_5 : decode (cdN 26) 5 = .ok (.aload_n 0, 1) := by decide +kernel
theorem d26_6 : decode (cdN 26) 6 = .ok (.getfield 30, 3) := by decide +kernel
theorem f26_30 : ftN (owN 26) 30 = some (3, 0, 281) := by decide +kernel
theorem d26_9 : decode (cdN 26) 9 = .ok (.if_icmp .ge 37, 3) := by decide +kernel
theorem d26_12 : decode (cdN 26) 12 = .ok (.iload_n 2, 1) := by decide +kernel
theorem d26_13 : decode (cdN 26) 13 = .ok (.bipush 48, 2) := by decide +kernel
theorem d26_15 : decode (cdN 26) 15 = .ok (.if_icmp .ge 31, 3) := by decide +kernel
theorem d26_18 : decode (cdN 26) 18 = .ok (.aload_n 0, 1) := by decide +kernel
theorem d26_19 : decode (cdN 26) 19 = .ok (.getfield 15, 3) := by decide +kernel
theorem f26_15 : ftN (owN 26) 15 = some (3, 2, 287) := by decide +kernel
theorem d26_22 : decode (cdN 26) 22 = .ok (.iload_n 2, 1) := by decide +kernel
theorem d26_23 : decode (cdN 26) 23 = .ok (.iaload, 1) := by decide +kernel
theorem d26_24 : decode (cdN 26) 24 = .ok (.iconst 1, 1) := by decide +kernel
theorem d26_25 : decode (cdN 26) 25 = .ok (.if_icmp .ne 15, 3) := by decide +kernel
theorem d26_28 : decode (cdN 26) 28 = .ok (.aload_n 0, 1) := by decide +kernel
theorem d26_29 : decode (cdN 26) 29 = .ok (.getfield 18, 3) := by decide +kernel
theorem f26_18 : ftN (owN 26) 18 = some (3, 3, 290) := by decide +kernel
theorem d26_32 : decode (cdN 26) 32 = .ok (.iload_n 2, 1) := by decide +kernel
theorem d26_33 : decode (cdN 26) 33 = .ok (.iaload, 1) := by decide +kernel
theorem d26_34 : decode (cdN 26) 34 = .ok (.ifCond .ne 6, 3) := by decide +kernel
theorem d26_37 : decode (cdN 26) 37 = .ok (.iinc 1 1, 3) := by decide +kernel
theorem d26_40 : decode (cdN 26) 40 = .ok (.iinc 2 1, 3) := by decide +kernel
theorem d26_43 : decode (cdN 26) 43 = .ok (.goto (-39), 3) := by decide +kernel
theorem d26_46 : decode (cdN 26) 46 = .ok (.iload_n 1, 1) := by decide +kernel
theorem d26_47 : decode (cdN 26) 47 = .ok (.ireturn, 1) := by decide +kernel
theorem d27_0 : decode (cdN 27) 0 = .ok (.iconst 0, 1) := by decide +kernel
theorem d27_1 : decode (cdN 27) 1 = .ok (.istore_n 1, 1) := by decide +kernel
theorem d27_2 : decode (cdN 27) 2 = .ok (.iconst 0, 1) := by decide +kernel
theorem d27_3 : decode (cdN 27) 3 = .ok (.istore_n 2, 1) := by decide +kernel
theorem d27_4 : decode (cdN 27) 4 = .ok (.iload_n 2, 1) := by decide +kernel
theorem d27_5 : decode (cdN 27) 5 = .ok (.aload_n 0, 1) := by decide +kernel
theorem d27_6 : decode (cdN 27) 6 = .ok (.getfield 30, 3) := by decide +kernel
theorem f27_30 : ftN (owN 27) 30 = some (3, 0, 281) := by decide +kernel
theorem d27_9 : decode (cdN 27) 9 = .ok (.if_icmp .ge 36, 3) := by decide +kernel
theorem d27_12 : decode (cdN 27) 12 = .ok (.iload_n 2, 1) := by decide +kernel
theorem d27_13 : decode (cdN 27) 13 = .ok (.bipush 48, 2) := by decide +kernel
theorem d27_15 : decode (cdN 27) 15 = .ok (.if_icmp .ge 30, 3) := by decide +kernel
theorem d27_18 : decode (cdN 27) 18 = .ok (.aload_n 0, 1) := by decide +kernel
theorem d27_19 : decode (cdN 27) 19 = .ok (.getfield 15, 3) := by decide +kernel
theorem f27_15 : ftN (owN 27) 15 = some (3, 2, 287) := by decide +kernel
theorem d27_22 : decode (cdN 27) 22 = .ok (.iload_n 2, 1) := by decide +kernel
theorem d27_23 : decode (cdN 27) 23 = .ok (.iaload, 1) := by decide +kernel
theorem d27_24 : decode (cdN 27) 24 = .ok (.iconst 1, 1) := by decide +kernel
theorem d27_25 : decode (cdN 27) 25 = .ok (.if_icmp .ne 14, 3) := by decide +kernel
theorem d27_28 : decode (cdN 27) 28 = .ok (.iload_n 1, 1) := by decide +kernel
theorem d27_29 : decode (cdN 27) 29 = .ok (.aload_n 0, 1) := by decide +kernel
theorem d27_30 : decode (cdN 27) 30 = .ok (.getfield 9, 3) := by decide +kernel
theorem f27_9 : ftN (owN 27) 9 = some (3, 1, 284) := by decide +kernel
theorem d27_33 : decode (cdN 27) 33 = .ok (.iload_n 2, 1) := by decide +kernel
theorem d27_34 : decode (cdN 27) 34 = .ok (.iaload, 1) := by decide +kernel
theorem d27_35 : decode (cdN 27) 35 = .ok (.iconst 2, 1) := by decide +kernel
theorem d27_36 : decode (cdN 27) 36 = .ok (.isub, 1) := by decide +kernel
theorem d27_37 : decode (cdN 27) 37 = .ok (.iadd, 1) := by decide +kernel
theorem d27_38 : decode (cdN 27) 38 = .ok (.istore_n 1, 1) := by decide +kernel
theorem d27_39 : decode (cdN 27) 39 = .ok (.iinc 2 1, 3) := by decide +kernel
theorem d27_42 : decode (cdN 27) 42 = .ok (.goto (-38), 3) := by decide +kernel
theorem d27_45 : decode (cdN 27) 45 = .ok (.iload_n 1, 1) := by decide +kernel
theorem d27_46 : decode (cdN 27) 46 = .ok (.ireturn, 1) := by decide +kernel
def sumF (g : Int → Int) : Nat → Int
  | 0 => 0
  | n + 1 => sumF g n + g n
theorem sumF_congr {g h : Int → Int} : ∀ n : Nat, (∀ i : Int, 0 ≤ i → i < n → g i = h i) → sumF g n = sumF h n
  | 0, _ => rfl
  | n + 1, e => by
    show sumF g n + g n = sumF h n + h n
    rw [sumF_congr n (fun i h0 h1 => e i h0 (by omega)), e n (by omega) (by omega)]
/-- the first of m from i on that is queued -/
def pdN (St : Int → Int) : Nat → Int → Int
  | 0, _ => -1
  | m + 1, i => if St i = 0 then i else pdN St m (i + 1)
def pendD (n : Int) (St : Int → Int) : Int := pdN St n.toNat 0
theorem pdN_r (St : Int → Int) : ∀ (m : Nat) (i : Int), 0 ≤ i → pdN St m i = -1 ∨ (i ≤ pdN St m i ∧ pdN St m i < i + m ∧ St (pdN St m i) = 0)
  | 0, _, _ => Or.inl rfl
  | m + 1, i, h => by
    unfold pdN
    split
    · exact Or.inr ⟨Int.le_refl i, by omega, by assumption⟩
    · rcases pdN_r St m (i + 1) (by omega) with e | ⟨e1, e2, e3⟩
      · exact Or.inl e
      · exact Or.inr ⟨by omega, by omega, e3⟩
theorem pendD_r (n : Int) (St : Int → Int) : pendD n St = -1 ∨ (0 ≤ pendD n St ∧ pendD n St < n ∧ St (pendD n St) = 0) := by
  rcases pdN_r St n.toNat 0 (Int.le_refl 0) with e | ⟨e1, e2, e3⟩
  · exact Or.inl e
  · exact Or.inr ⟨e1, by unfold pendD; omega, e3⟩
theorem pdN_congr {St St2 : Int → Int} : ∀ (m : Nat) (i : Int), (∀ j : Int, i ≤ j → j < i + m → St j = St2 j) → pdN St m i = pdN St2 m i
  | 0, _, _ => rfl
  | m + 1, i, h => by
    unfold pdN
    rw [h i (Int.le_refl i) (by omega), pdN_congr m (i + 1) (fun j h0 h1 => h j (by omega) (by omega))]
theorem pendD_congr {n : Int} {St St2 : Int → Int} (h : ∀ i : Int, 0 ≤ i → i < n → St i = St2 i) : pendD n St = pendD n St2 := pdN_congr _ 0 (fun j h0 h1 => h j h0 (by omega))
def allD (n : Int) (P : Int → Bool) : Bool := (List.range n.toNat).all (fun i => P i)
theorem allD_yes {n : Int} {P : Int → Bool} {i : Nat} (hi : n ≤ i) (h : ∀ j : Nat, j < i → P j = true) : allD n P = true := by
  unfold allD
  rw [List.all_eq_true]
  exact fun j hj => h j (by have := List.mem_range.mp hj; omega)
theorem allD_no {n : Int} {P : Int → Bool} {i : Nat} (hi : (i : Int) < n) (h : P i = false) : allD n P = false := by
  unfold allD
  rw [List.all_eq_false]
  exact ⟨i, List.mem_range.mpr (by omega), by rw [h]; decide⟩
theorem allD_congr {n : Int} {P P2 : Int → Bool} (h : ∀ i : Int, 0 ≤ i → i < n → P i = P2 i) : allD n P = allD n P2 := by
  unfold allD
  rw [Bool.eq_iff_iff, List.all_eq_true, List.all_eq_true]
  have e : ∀ i ∈ List.range n.toNat, P i = P2 i := fun i hi => by
    have := List.mem_range.mp hi
    exact h i (by omega) (by omega)
  constructor
  · exact fun g i hi => by rw [← e i hi]; exact g i hi
  · exact fun g i hi => by rw [e i hi]; exact g i hi
/-- what holds of the frames: numbers, bytes -/
def FramesOK (I : Nat → Int → Int) (p : Nat) : Prop := (0 ≤ I (p + 7) 0 ∧ I (p + 7) 0 ≤ 48) ∧
  (∀ f : Int, 0 ≤ f → f < I (p + 7) 0 → (3 ≤ I (p + 8) f ∧ I (p + 8) f ≤ 6) ∧ (0 ≤ I (p + 9) f ∧ I (p + 9) f ≤ 2) ∧ (0 ≤ I (p + 10) f ∧ I (p + 10) f ≤ 9) ∧ (0 ≤ I (p + 11) f ∧ I (p + 11) f ≤ 9)) ∧
  (∀ i : Int, 0 ≤ i → i < 288 → (0 ≤ I (p + 12) i ∧ I (p + 12) i ≤ 255) ∧ (0 ≤ I (p + 13) i ∧ I (p + 13) i ≤ 255))
section Frames
variable {l : LX} {q p : Nat} {I : Nat → Int → Int} {v : Int} {fr : Bool}
/-- bitsOf -/
theorem dt_bitsOf (hl : l.1.stackTraces = false) (hp : LineAt q p) (hF : FramesOK I p) {f : Int} (h0 : 0 ≤ f) (h1 : f < I (p + 7) 0) : DT l 20 [.ref (p + 7), .int (iI f)] (mm q I v fr) 0 0 (.inl (some (.int (iI (I (p + 8) f * 8)))), mm q I v fr) := by
  have hpb := hp.b
  have hc := hF.1
  refine mkdt hl (by decide) (Nat.le_of_ble_eq_true rfl) (L := [some (.ref (p + 7)), some (.int (iI f))]) rfl ?_
  refine x_iload_n (pc := 0) rfl d20_0 ?_
  refine x_if_lt (pc := 1) (tgt := 18) ⟨by omega, by omega⟩ d20_1 (by decide) (fun g1 => ?_) (fun g1 => ?_)
  · refine x_iconst (pc := 18) d20_18 ?_
    refine x_goto (pc := 19) (tgt := 31) d20_19 (by decide) ?_
    refine x_iret (pc := 31) rfl (fun _ => rfl) d20_31 ?_
    first | rfl | (exfalso; omega)
  · refine x_iload_n (pc := 4) rfl d20_4 ?_
    refine x_aload_n (pc := 5) rfl d20_5 ?_
    refine m_getI (pc := 6) (z := 0) f20_30 (by decide +kernel) rfl hp.o7 d20_6 ?_
    refine x_icmp_ge (pc := 9) (tgt := 18) ⟨by omega, by omega⟩ ⟨by omega, by omega⟩ d20_9 (by decide) (fun g9 => ?_) (fun g9 => ?_)
    · refine x_iconst (pc := 18) d20_18 ?_
      refine x_goto (pc := 19) (tgt := 31) d20_19 (by decide) ?_
      refine x_iret (pc := 31) rfl (fun _ => rfl) d20_31 ?_
      first | rfl | (exfalso; omega)
    · refine x_iload_n (pc := 12) rfl d20_12 ?_
      refine x_bipush (pc := 13) (by decide) d20_13 ?_
      refine x_icmp_lt (pc := 15) (tgt := 22) ⟨by omega, by omega⟩ ⟨by omega, by omega⟩ d20_15 (by decide) (fun g15 => ?_) (fun g15 => ?_)
      · refine x_aload_n (pc := 22) rfl d20_22 ?_
        refine m_getR (pc := 23) f20_9 (by decide +kernel) hp.o7 hp.r7_1 d20_23 ?_
        refine x_iload_n (pc := 26) rfl d20_26 ?_
        refine m_iald (pc := 27) hp.a8 (by omega) (by omega) (by omega) d20_27 ?_
        refine x_bipush (pc := 28) (by decide) d20_28 ?_
        refine x_imul (pc := 30) d20_30 ?_
        refine x_iret (pc := 31) rfl (fun _ => rfl) d20_31 ?_
        first | rfl | (exfalso; omega)
      · refine x_iconst (pc := 18) d20_18 ?_
        refine x_goto (pc := 19) (tgt := 31) d20_19 (by decide) ?_
        refine x_iret (pc := 31) rfl (fun _ => rfl) d20_31 ?_
        first | rfl | (exfalso; omega)
/-- bitOf -/
theorem dt_bitOf (hl : l.1.stackTraces = false) (hp : LineAt q p) (hF : FramesOK I p) {f b : Int} (h0 : 0 ≤ f) (h1 : f < I (p + 7) 0) (h2 : 0 ≤ b) (h3 : b < I (p + 8) f * 8) : DT l 21 [.ref (p + 7), .int (iI f), .int (iI b)] (mm q I v fr) 0 0 (.inl (some (.int (iI (bitZ (fun k => I (p + 12) (f * 6 + k)) b)))), mm q I v fr) := by
  have hpb := hp.b
  have hc := hF.1
  have hf := hF.2.1 f h0 h1
  have hs := hF.2.2 (f * 6 + b / 8) (by omega) (by omega)
  refine mkdt hl (by decide) (Nat.le_of_ble_eq_true rfl) (L := [some (.ref (p + 7)), some (.int (iI f)), some (.int (iI b))]) rfl ?_
  refine x_iload_n (pc := 0) rfl d21_0 ?_
  refine x_if_lt (pc := 1) (tgt := 13) ⟨by omega, by omega⟩ d21_1 (by decide) (fun g1 => ?_) (fun g1 => ?_)
  · refine x_iconst (pc := 13) d21_13 ?_
    refine x_iret (pc := 14) rfl (fun _ => rfl) d21_14 ?_
    exfalso; omega
  · refine x_iload_n (pc := 4) rfl d21_4 ?_
    refine x_aload_n (pc := 5) rfl d21_5 ?_
    refine x_iload_n (pc := 6) rfl d21_6 ?_
    refine x_cVs (pc := 7) c21_44 (dt_bitsOf hl hp hF (f := f) (by omega) (by omega)) hp.o7 rfl rfl (Nat.le_of_ble_eq_true rfl) (by decide +kernel) (by decide +kernel) rfl d21_7 ?_
    refine x_icmp_lt (pc := 10) (tgt := 15) ⟨by omega, by omega⟩ ⟨by omega, by omega⟩ d21_10 (by decide) (fun g10 => ?_) (fun g10 => ?_)
    · refine x_aload_n (pc := 15) rfl d21_15 ?_
      refine m_getR (pc := 16) f21_24 (by decide +kernel) hp.o7 hp.r7_5 d21_16 ?_
      refine x_iload_n (pc := 19) rfl d21_19 ?_
      refine x_bipush (pc := 20) (by decide) d21_20 ?_
      refine x_imul (pc := 22) d21_22 ?_
      refine x_iload_n (pc := 23) rfl d21_23 ?_
      refine x_bipush (pc := 24) (by decide) d21_24 ?_
      refine x_idiv (pc := 26) (by omega) (by omega) (by omega) (by omega) d21_26 ?_
      refine x_iadd (pc := 27) d21_27 ?_
      refine m_iald (pc := 28) hp.a12 (by omega) (by omega) (by omega) d21_28 ?_
      refine x_bipush (pc := 29) (by decide) d21_29 ?_
      refine x_iload_n (pc := 31) rfl d21_31 ?_
      refine x_bipush (pc := 32) (by decide) d21_32 ?_
      refine x_irem (pc := 34) (by omega) (by omega) (by omega) (by omega) d21_34 ?_
      refine x_isub (pc := 35) d21_35 ?_
      refine x_ishr (pc := 36) (iI_shr ⟨by omega, by omega⟩ (by omega) (by omega)) d21_36 ?_
      refine x_iconst (pc := 37) d21_37 ?_
      refine x_iand (pc := 38) (iI_and1 _) d21_38 ?_
      refine x_iret (pc := 39) rfl (fun _ => rfl) d21_39 ?_
      rfl
    · refine x_iconst (pc := 13) d21_13 ?_
      refine x_iret (pc := 14) rfl (fun _ => rfl) d21_14 ?_
      exfalso; omega
theorem dt_bitOut (hl : l.1.stackTraces = false) (hp : LineAt q p) (hF : FramesOK I p) {f b : Int} (h0 : 0 ≤ f) (h1 : f < I (p + 7) 0) (hb : InR b) (h2 : b < 0 ∨ I (p + 8) f * 8 ≤ b) : DT l 21 [.ref (p + 7), .int (iI f), .int (iI b)] (mm q I v fr) 0 0 (.inl (some (.int (iI (-1)))), mm q I v fr) := by
  have hpb := hp.b
  have hc := hF.1
  have hf := hF.2.1 f h0 h1
  obtain ⟨hb1, hb2⟩ := hb
  refine mkdt hl (by decide) (Nat.le_of_ble_eq_true rfl) (L := [some (.ref (p + 7)), some (.int (iI f)), some (.int (iI b))]) rfl ?_
  refine x_iload_n (pc := 0) rfl d21_0 ?_
  refine x_if_lt (pc := 1) (tgt := 13) ⟨by omega, by omega⟩ d21_1 (by decide) (fun g1 => ?_) (fun g1 => ?_)
  · refine x_iconst (pc := 13) d21_13 ?_
    refine x_iret (pc := 14) rfl (fun _ => rfl) d21_14 ?_
    rfl
  · refine x_iload_n (pc := 4) rfl d21_4 ?_
    refine x_aload_n (pc := 5) rfl d21_5 ?_
    refine x_iload_n (pc := 6) rfl d21_6 ?_
    refine x_cVs (pc := 7) c21_44 (dt_bitsOf hl hp hF (f := f) (by omega) (by omega)) hp.o7 rfl rfl (Nat.le_of_ble_eq_true rfl) (by decide +kernel) (by decide +kernel) rfl d21_7 ?_
    refine x_icmp_lt (pc := 10) (tgt := 15) ⟨by omega, by omega⟩ ⟨by omega, by omega⟩ d21_10 (by decide) (fun g10 => ?_) (fun g10 => ?_)
    · refine x_aload_n (pc := 15) rfl d21_15 ?_
      refine m_getR (pc := 16) f21_24 (by decide +kernel) hp.o7 hp.r7_5 d21_16 ?_
      refine x_iload_n (pc := 19) rfl d21_19 ?_
      refine x_bipush (pc := 20) (by decide) d21_20 ?_
      refine x_imul (pc := 22) d21_22 ?_
      refine x_iload_n (pc := 23) rfl d21_23 ?_
      refine x_bipush (pc := 24) (by decide) d21_24 ?_
      refine x_idiv (pc := 26) (by omega) (by omega) (by omega) (by omega) d21_26 ?_
      refine x_iadd (pc := 27) d21_27 ?_
      refine m_iald (pc := 28) hp.a12 (by omega) (by omega) (by omega) d21_28 ?_
      refine x_bipush (pc := 29) (by decide) d21_29 ?_
      refine x_iload_n (pc := 31) rfl d21_31 ?_
      refine x_bipush (pc := 32) (by decide) d21_32 ?_
      refine x_irem (pc := 34) (by omega) (by omega) (by omega) (by omega) d21_34 ?_
      refine x_isub (pc := 35) d21_35 ?_
      refine x_ishr (pc := 36) (iI_shr ⟨by omega, by omega⟩ (by omega) (by omega)) d21_36 ?_
      refine x_iconst (pc := 37) d21_37 ?_
      refine x_iand (pc := 38) (iI_and1 _) d21_38 ?_
      refine x_iret (pc := 39) rfl (fun _ => rfl) d21_39 ?_
      exfalso; omega
    · refine x_iconst (pc := 13) d21_13 ?_
      refine x_iret (pc := 14) rfl (fun _ => rfl) d21_14 ?_
      rfl
theorem lp_firstQueued (hl : l.1.stackTraces = false) (hp : LineAt q p) (hF : FramesOK I p) : ∀ (m : Nat) (i : Int), 0 ≤ i → i ≤ I (p + 7) 0 → I (p + 7) 0 - i = m →
    Ex l 22 0 0 2 [some (.ref (p + 7)), some (.int (iI i))] [] (mm q I v fr) (fun o => o = (.inl (some (.int (iI (pdN (I (p + 9)) m i)))), mm q I v fr)) := by
  have hpb := hp.b
  have hc := hF.1
  intro m
  induction m with
  | zero =>
    intro i h0 h1 h2
    refine x_iload_n (pc := 2) rfl d22_2 ?_
    refine x_aload_n (pc := 3) rfl d22_3 ?_
    refine m_getI (pc := 4) (z := 0) f22_30 (by decide +kernel) rfl hp.o7 d22_4 ?_
    refine x_icmp_ge (pc := 7) (tgt := 33) ⟨by omega, by omega⟩ ⟨by omega, by omega⟩ d22_7 (by decide) (fun g7 => ?_) (fun g7 => ?_)
    · refine x_iconst (pc := 33) d22_33 ?_
      refine x_iret (pc := 34) rfl (fun _ => rfl) d22_34 ?_
      rfl
    · refine x_iload_n (pc := 10) rfl d22_10 ?_
      refine x_bipush (pc := 11) (by decide) d22_11 ?_
      refine x_icmp_ge (pc := 13) (tgt := 33) ⟨by omega, by omega⟩ ⟨by omega, by omega⟩ d22_13 (by decide) (fun g13 => ?_) (fun g13 => ?_)
      · refine x_iconst (pc := 33) d22_33 ?_
        refine x_iret (pc := 34) rfl (fun _ => rfl) d22_34 ?_
        rfl
      · refine x_aload_n (pc := 16) rfl d22_16 ?_
        refine m_getR (pc := 17) f22_15 (by decide +kernel) hp.o7 hp.r7_2 d22_17 ?_
        refine x_iload_n (pc := 20) rfl d22_20 ?_
        refine m_iald (pc := 21) hp.a9 (by omega) (by omega) (by omega) d22_21 ?_
        refine x_if_ne (pc := 22) (tgt := 27) ⟨by omega, by omega⟩ d22_22 (by decide) (fun g22 => ?_) (fun g22 => ?_)
        · refine x_iinc (pc := 27) rfl (by decide +kernel) rfl d22_27 ?_
          dsimp only [List.set]
          refine x_goto (pc := 30) (tgt := 2) d22_30 (by decide) ?_
          exfalso; omega
        · refine x_iload_n (pc := 25) rfl d22_25 ?_
          refine x_iret (pc := 26) rfl (fun _ => rfl) d22_26 ?_
          exfalso; omega
  | succ m ih =>
    intro i h0 h1 h2
    unfold pdN
    refine x_iload_n (pc := 2) rfl d22_2 ?_
    refine x_aload_n (pc := 3) rfl d22_3 ?_
    refine m_getI (pc := 4) (z := 0) f22_30 (by decide +kernel) rfl hp.o7 d22_4 ?_
    refine x_icmp_ge (pc := 7) (tgt := 33) ⟨by omega, by omega⟩ ⟨by omega, by omega⟩ d22_7 (by decide) (fun g7 => ?_) (fun g7 => ?_)
    · refine x_iconst (pc := 33) d22_33 ?_
      refine x_iret (pc := 34) rfl (fun _ => rfl) d22_34 ?_
      exfalso; omega
    · refine x_iload_n (pc := 10) rfl d22_10 ?_
      refine x_bipush (pc := 11) (by decide) d22_11 ?_
      refine x_icmp_ge (pc := 13) (tgt := 33) ⟨by omega, by omega⟩ ⟨by omega, by omega⟩ d22_13 (by decide) (fun g13 => ?_) (fun g13 => ?_)
      · refine x_iconst (pc := 33) d22_33 ?_
        refine x_iret (pc := 34) rfl (fun _ => rfl) d22_34 ?_
        exfalso; omega
      · have hb := (hF.2.1 i (by omega) (by omega)).2.1
        refine x_aload_n (pc := 16) rfl d22_16 ?_
        refine m_getR (pc := 17) f22_15 (by decide +kernel) hp.o7 hp.r7_2 d22_17 ?_
        refine x_iload_n (pc := 20) rfl d22_20 ?_
        refine m_iald (pc := 21) hp.a9 (by omega) (by omega) (by omega) d22_21 ?_
        refine x_if_ne (pc := 22) (tgt := 27) ⟨by omega, by omega⟩ d22_22 (by decide) (fun g22 => ?_) (fun g22 => ?_)
        · refine x_iinc (pc := 27) rfl (by decide +kernel) rfl d22_27 ?_
          dsimp only [List.set]
          refine x_goto (pc := 30) (tgt := 2) d22_30 (by decide) ?_
          rw [if_neg g22]
          exact ih (i + 1) (by omega) (by omega) (by omega)
        · refine x_iload_n (pc := 25) rfl d22_25 ?_
          refine x_iret (pc := 26) rfl (fun _ => rfl) d22_26 ?_
          rw [if_pos g22]
theorem dt_firstQueued (hl : l.1.stackTraces = false) (hp : LineAt q p) (hF : FramesOK I p) : DT l 22 [.ref (p + 7)] (mm q I v fr) 0 0 (.inl (some (.int (iI (pendD (I (p + 7) 0) (I (p + 9)))))), mm q I v fr) := by
  have hc := hF.1
  refine mkdt hl (by decide) (Nat.le_of_ble_eq_true rfl) (L := [some (.ref (p + 7)), none]) rfl ?_
  refine x_iconst (pc := 0) d22_0 ?_
  refine x_istore_n (pc := 1) (by decide +kernel) rfl d22_1 ?_
  dsimp only [List.set]
  exact lp_firstQueued hl hp hF _ 0 (Int.le_refl 0) hc.1 (by omega)
end Frames
end
section
/-! ===== Sending ===== -/
theorem d56_0 : decode (cdN 56) 0 = .ok (.aload_n 0, 1) := by decide +kernel
theorem d56_1 : decode (cdN 56) 1 = .ok (.aload_n 1, 1) := by decide +kernel
theorem d56_2 : decode (cdN 56) 2 = .ok (.getfield 18, 3) := by decide +kernel
theorem f56_18 : ftN (owN 56) 18 = some (5, 11, 391) := by decide +kernel
theorem d56_5 : decode (cdN 56) 5 = .ok (.iload_n 2, 1) := by decide +kernel
theorem d56_6 : decode (cdN 56) 6 = .ok (.invokevirtual 24, 3) := by decide +kernel
theorem c56_24 : ctN (owN 56) 24 = some (0, 20, [603, 604, 605, 101]) := by decide +kernel
theorem d56_9 : decode (cdN 56) 9 = .ok (.putfield 30, 3) := by decide +kernel
theorem f56_30 : ftN (owN 56) 30 = some (6, 2, 223) := by decide +kernel
theorem d56_12 : decode (cdN 56) 12 = .ok (.aload_n 0, 1) := by decide +kernel
theorem d56_13 : decode (cdN 56) 13 = .ok (.iconst 0, 1) := by decide +kernel
theorem d56_14 : decode (cdN 56) 14 = .ok (.putfield 34, 3) := by decide +kernel
theorem f56_34 : ftN (owN 56) 34 = some (6, 3, 226) := by decide +kernel
theorem d56_17 : decode (cdN 56) 17 = .ok (.aload_n 0, 1) := by decide +kernel
theorem d56_18 : decode (cdN 56) 18 = .ok (.iconst 0, 1) := by decide +kernel
theorem d56_19 : decode (cdN 56) 19 = .ok (.putfield 37, 3) := by decide +kernel
theorem f56_37 : ftN (owN 56) 37 = some (6, 4, 228) := by decide +kernel
theorem d56_22 : decode (cdN 56) 22 = .ok (.iconst 0, 1) := by decide +kernel
theorem d56_23 : decode (cdN 56) 23 = .ok (.istore 5, 2) := by decide +kernel
theorem d56_25 : decode (cdN 56) 25 = .ok (.iconst 0, 1) := by decide +kernel
theorem d56_26 : decode (cdN 56) 26 = .ok (.istore 6, 2) := by decide +kernel
theorem d56_28 : decode (cdN 56) 28 = .ok (.iload 6, 2) := by decide +kernel
theorem d56_30 : decode (cdN 56) 30 = .ok (.aload_n 0, 1) := by decide +kernel
theorem d56_31 : decode (cdN 56) 31 = .ok (.getfield 30, 3) := by decide +kernel
theorem d56_34 : decode (cdN 56) 34 = .ok (.if_icmp .ge 98, 3) := by decide +kernel
theorem d56_37 : decode (cdN 56) 37 = .ok (.iload 6, 2) := by decide +kernel
theorem d56_39 : decode (cdN 56) 39 = .ok (.bipush 48, 2) := by decide +kernel
theorem d56_41 : decode (cdN 56) 41 = .ok (.if_icmp .ge 91, 3) := by decide +kernel
theorem d56_44 : decode (cdN 56) 44 = .ok (.aload_n 0, 1) := by decide +kernel
theorem d56_45 : decode (cdN 56) 45 = .ok (.getfield 9, 3) := by decide +kernel
theorem f56_9 : ftN (owN 56) 9 = some (6, 0, 219) := by decide +kernel
theorem d56_48 : decode (cdN 56) 48 = .ok (.iload 6, 2) := by decide +kernel
theorem d56_50 : decode (cdN 56) 50 = .ok (.aload_n 1, 1) := by decide +kernel
theorem d56_51 : decode (cdN 56) 51 = .ok (.getfield 18, 3) := by decide +kernel
theorem d56_54 : decode (cdN 56) 54 = .ok (.iload_n 2, 1) := by decide +kernel
theorem d56_55 : decode (cdN 56) 55 = .ok (.iload 6, 2) := by decide +kernel
theorem d56_57 : decode (cdN 56) 57 = .ok (.invokevirtual 40, 3) := by decide +kernel
theorem c56_40 : ctN (owN 56) 40 = some (0, 21, [607, 608, 609, 101]) := by decide +kernel
theorem d56_60 : decode (cdN 56) 60 = .ok (.iastore, 1) := by decide +kernel
theorem d56_61 : decode (cdN 56) 61 = .ok (.aload_n 1, 1) := by decide +kernel
theorem d56_62 : decode (cdN 56) 62 = .ok (.getfield 44, 3) := by decide +kernel
theorem f56_44 : ftN (owN 56) 44 = some (5, 10, 388) := by decide +kernel
theorem d56_65 : decode (cdN 56) 65 = .ok (.iload_n 3, 1) := by decide +kernel
theorem d56_66 : decode (cdN 56) 66 = .ok (.iload 6, 2) := by decide +kernel
theorem d56_68 : decode (cdN 56) 68 = .ok (.iload 4, 2) := by decide +kernel
theorem d56_70 : decode (cdN 56) 70 = .ok (.imul, 1) := by decide +kernel
theorem d56_71 : decode (cdN 56) 71 = .ok (.iadd, 1) := by decide +kernel
theorem d56_72 : decode (cdN 56) 72 = .ok (.invokevirtual 48, 3) := by decide +kernel
theorem c56_48 : ctN (owN 56) 48 = some (0, 16, [612, 613, 614, 100]) := by decide +kernel
theorem d56_75 : decode (cdN 56) 75 = .ok (.ifCond .eq 48, 3) := by decide +kernel
theorem d56_78 : decode (cdN 56) 78 = .ok (.aload_n 0, 1) := by decide +kernel
theorem d56_79 : decode (cdN 56) 79 = .ok (.getfield 9, 3) := by decide +kernel
theorem d56_82 : decode (cdN 56) 82 = .ok (.iload 6, 2) := by decide +kernel
theorem d56_84 : decode (cdN 56) 84 = .ok (.iconst 1, 1) := by decide +kernel
theorem d56_85 : decode (cdN 56) 85 = .ok (.aload_n 0, 1) := by decide +kernel
theorem d56_86 : decode (cdN 56) 86 = .ok (.getfield 9, 3) := by decide +kernel
theorem d56_89 : decode (cdN 56) 89 = .ok (.iload 6, 2) := by decide +kernel
theorem d56_91 : decode (cdN 56) 91 = .ok (.iaload, 1) := by decide +kernel
theorem d56_92 : decode (cdN 56) 92 = .ok (.isub, 1) := by decide +kernel
theorem d56_93 : decode (cdN 56) 93 = .ok (.iastore, 1) := by decide +kernel
theorem d56_94 : decode (cdN 56) 94 = .ok (.aload_n 0, 1) := by decide +kernel
theorem d56_95 : decode (cdN 56) 95 = .ok (.dup, 1) := by decide +kernel
theorem d56_96 : decode (cdN 56) 96 = .ok (.getfield 34, 3) := by decide +kernel
theorem d56_99 : decode (cdN 56) 99 = .ok (.iconst 1, 1) := by decide +kernel
theorem d56_100 : decode (cdN 56) 100 = .ok (.iadd, 1) := by decide +kernel
theorem d56_101 : decode (cdN 56) 101 = .ok (.putfield 34, 3) := by decide +kernel
theorem d56_104 : decode (cdN 56) 104 = .ok (.iinc 5 1, 3) := by decide +kernel
theorem d56_107 : decode (cdN 56) 107 = .ok (.aload_n 0, 1) := by decide +kernel
theorem d56_108 : decode (cdN 56) 108 = .ok (.aload_n 0, 1) := by decide +kernel
theorem d56_109 : decode (cdN 56) 109 = .ok (.getfield 37, 3) := by decide +kernel
theorem d56_112 : decode (cdN 56) 112 = .ok (.iload 5, 2) := by decide +kernel
theorem d56_114 : decode (cdN 56) 114 = .ok (.invokestatic 54, 3) := by decide +kernel
theorem c56_54 : ctN (owN 56) 54 = some (5, 0, [616, 130, 94, 131]) := by decide +kernel
theorem d56_117 : decode (cdN 56) 117 = .ok (.putfield 37, 3) := by decide +kernel
theorem d56_120 : decode (cdN 56) 120 = .ok (.goto 6, 3) := by decide +kernel
theorem d56_123 : decode (cdN 56) 123 = .ok (.iconst 0, 1) := by decide +kernel
theorem d56_124 : decode (cdN 56) 124 = .ok (.istore 5, 2) := by decide +kernel
theorem d56_126 : decode (cdN 56) 126 = .ok (.iinc 6 1, 3) := by decide +kernel
theorem d56_129 : decode (cdN 56) 129 = .ok (.goto (-101), 3) := by decide +kernel
theorem d56_132 : decode (cdN 56) 132 = .ok (.return_, 1) := by decide +kernel
theorem d57_0 : decode (cdN 57) 0 = .ok (.iload_n 1, 1) := by decide +kernel
theorem d57_1 : decode (cdN 57) 1 = .ok (.iload_n 2, 1) := by decide +kernel
theorem d57_2 : decode (cdN 57) 2 = .ok (.invokestatic 59, 3) := by decide +kernel
theorem c57_59 : ctN (owN 57) 59 = some (3, 145, [546, 92]) := by decide +kernel
theorem d57_5 : decode (cdN 57) 5 = .ok (.istore_n 3, 1) := by decide +kernel
theorem d57_6 : decode (cdN 57) 6 = .ok (.iload_n 3, 1) := by decide +kernel
theorem d57_7 : decode (cdN 57) 7 = .ok (.ifCond .lt 26, 3) := by decide +kernel
theorem d57_10 : decode (cdN 57) 10 = .ok (.iload_n 3, 1) := by decide +kernel
theorem d57_11 : decode (cdN 57) 11 = .ok (.aload_n 0, 1) := by decide +kernel
theorem d57_12 : decode (cdN 57) 12 = .ok (.getfield 30, 3) := by decide +kernel
theorem f57_30 : ftN (owN 57) 30 = some (6, 2, 223) := by decide +kernel
theorem d57_15 : decode (cdN 57) 15 = .ok (.if_icmp .ge 18, 3) := by decide +kernel
theorem d57_18 : decode (cdN 57) 18 = .ok (.iload_n 3, 1) := by decide +kernel
theorem d57_19 : decode (cdN 57) 19 = .ok (.bipush 48, 2) := by decide +kernel
theorem d57_21 : decode (cdN 57) 21 = .ok (.if_icmp .ge 12, 3) := by decide +kernel
theorem d57_24 : decode (cdN 57) 24 = .ok (.aload_n 0, 1) := by decide +kernel
theorem d57_25 : decode (cdN 57) 25 = .ok (.getfield 9, 3) := by decide +kernel
theorem f57_9 : ftN (owN 57) 9 = some (6, 0, 219) := by decide +kernel
theorem d57_28 : decode (cdN 57) 28 = .ok (.iload_n 3, 1) := by decide +kernel
theorem d57_29 : decode (cdN 57) 29 = .ok (.iaload, 1) := by decide +kernel
theorem d57_30 : decode (cdN 57) 30 = .ok (.goto 4, 3) := by decide +kernel
theorem d57_33 : decode (cdN 57) 33 = .ok (.iconst 0, 1) := by decide +kernel
theorem d57_34 : decode (cdN 57) 34 = .ok (.ireturn, 1) := by decide +kernel
theorem d58_0 : decode (cdN 58) 0 = .ok (.iconst 0, 1) := by decide +kernel
theorem d58_1 : decode (cdN 58) 1 = .ok (.istore_n 2, 1) := by decide +kernel
theorem d58_2 : decode (cdN 58) 2 = .ok (.iload_n 2, 1) := by decide +kernel
theorem d58_3 : decode (cdN 58) 3 = .ok (.bipush 6, 2) := by decide +kernel
theorem d58_5 : decode (cdN 58) 5 = .ok (.if_icmp .ge 16, 3) := by decide +kernel
theorem d58_8 : decode (cdN 58) 8 = .ok (.aload_n 0, 1) := by decide +kernel
theorem d58_9 : decode (cdN 58) 9 = .ok (.getfield 15, 3) := by decide +kernel
theorem f58_15 : ftN (owN 58) 15 = some (6, 1, 221) := by decide +kernel
theorem d58_12 : decode (cdN 58) 12 = .ok (.iload_n 2, 1) := by decide +kernel
theorem d58_13 : decode (cdN 58) 13 = .ok (.iconst 0, 1) := by decide +kernel
theorem d58_14 : decode (cdN 58) 14 = .ok (.iastore, 1) := by decide +kernel
theorem d58_15 : decode (cdN 58) 15 = .ok (.iinc 2 1, 3) := by decide +kernel
theorem d58_18 : decode (cdN 58) 18 = .ok (.goto (-16), 3) := by decide +kernel
theorem d58_21 : decode (cdN 58) 21 = .ok (.iconst 0, 1) := by decide +kernel
theorem d58_22 : decode (cdN 58) 22 = .ok (.istore_n 2, 1) := by decide +kernel
theorem d58_23 : decode (cdN 58) 23 = .ok (.iload_n 2, 1) := by decide +kernel
theorem d58_24 : decode (cdN 58) 24 = .ok (.aload_n 0, 1) := by decide +kernel
theorem d58_25 : decode (cdN 58) 25 = .ok (.getfield 30, 3) := by decide +kernel
theorem f58_30 : ftN (owN 58) 30 = some (6, 2, 223) := by decide +kernel
theorem d58_28 : decode (cdN 58) 28 = .ok (.if_icmp .ge 42, 3) := by decide +kernel
theorem d58_31 : decode (cdN 58) 31 = .ok (.iload_n 2, 1) := by decide +kernel
theorem d58_32 : decode (cdN 58) 32 = .ok (.bipush 48, 2) := by decide +kernel
theorem d58_34 : decode (cdN 58) 34 = .ok (.if_icmp .ge 36, 3) := by decide +kernel
theorem d58_37 : decode (cdN 58) 37 = .ok (.aload_n 0, 1) := by decide +kernel
theorem d58_38 : decode (cdN 58) 38 = .ok (.getfield 15, 3) := by decide +kernel
theorem d58_41 : decode (cdN 58) 41 = .ok (.iload_n 2, 1) := by decide +kernel
theorem d58_42 : decode (cdN 58) 42 = .ok (.bipush 8, 2) := by decide +kernel
theorem d58_44 : decode (cdN 58) 44 = .ok (.idiv, 1) := by decide +kernel
theorem d58_45 : decode (cdN 58) 45 = .ok (.aload_n 0, 1) := by decide +kernel
theorem d58_46 : decode (cdN 58) 46 = .ok (.getfield 15, 3) := by decide +kernel
theorem d58_49 : decode (cdN 58) 49 = .ok (.iload_n 2, 1) := by decide +kernel
theorem d58_50 : decode (cdN 58) 50 = .ok (.bipush 8, 2) := by decide +kernel
theorem d58_52 : decode (cdN 58) 52 = .ok (.idiv, 1) := by decide +kernel
theorem d58_53 : decode (cdN 58) 53 = .ok (.iaload, 1) := by decide +kernel
theorem d58_54 : decode (cdN 58) 54 = .ok (.iconst 2, 1) := by decide +kernel
theorem d58_55 : decode (cdN 58) 55 = .ok (.imul, 1) := by decide +kernel
theorem d58_56 : decode (cdN 58) 56 = .ok (.aload_n 0, 1) := by decide +kernel
theorem d58_57 : decode (cdN 58) 57 = .ok (.iload_n 2, 1) := by decide +kernel
theorem d58_58 : decode (cdN 58) 58 = .ok (.iload_n 1, 1) := by decide +kernel
theorem d58_59 : decode (cdN 58) 59 = .ok (.invokevirtual 62, 3) := by decide +kernel
theorem c58_62 : ctN (owN 58) 62 = some (0, 57, [621, 622, 623, 97]) := by decide +kernel
theorem d58_62 : decode (cdN 58) 62 = .ok (.iadd, 1) := by decide +kernel
theorem d58_63 : decode (cdN 58) 63 = .ok (.iastore, 1) := by decide +kernel
theorem d58_64 : decode (cdN 58) 64 = .ok (.iinc 2 1, 3) := by decide +kernel
theorem d58_67 : decode (cdN 58) 67 = .ok (.goto (-44), 3) := by decide +kernel
theorem d58_70 : decode (cdN 58) 70 = .ok (.return_, 1) := by decide +kernel
theorem d59_0 : decode (cdN 59) 0 = .ok (.aload_n 0, 1) := by decide +kernel
theorem d59_1 : decode (cdN 59) 1 = .ok (.aload_n 1, 1) := by decide +kernel
theorem d59_2 : decode (cdN 59) 2 = .ok (.iload_n 2, 1) := by decide +kernel
theorem d59_3 : decode (cdN 59) 3 = .ok (.invokevirtual 24, 3) := by decide +kernel
theorem c59_24 : ctN (owN 59) 24 = some (0, 20, [603, 604, 605, 101]) := by decide +kernel
theorem d59_6 : decode (cdN 59) 6 = .ok (.putfield 30, 3) := by decide +kernel
theorem f59_30 : ftN (owN 59) 30 = some (6, 2, 223) := by decide +kernel
theorem d59_9 : decode (cdN 59) 9 = .ok (.iconst 0, 1) := by decide +kernel
theorem d59_10 : decode (cdN 59) 10 = .ok (.istore 6, 2) := by decide +kernel
theorem d59_12 : decode (cdN 59) 12 = .ok (.iload 6, 2) := by decide +kernel
theorem d59_14 : decode (cdN 59) 14 = .ok (.aload_n 0, 1) := by decide +kernel
theorem d59_15 : decode (cdN 59) 15 = .ok (.getfield 30, 3) := by decide +kernel
theorem d59_18 : decode (cdN 59) 18 = .ok (.if_icmp .ge 69, 3) := by decide +kernel
theorem d59_21 : decode (cdN 59) 21 = .ok (.iload 6, 2) := by decide +kernel
theorem d59_23 : decode (cdN 59) 23 = .ok (.bipush 48, 2) := by decide +kernel
theorem d59_25 : decode (cdN 59) 25 = .ok (.if_icmp .ge 62, 3) := by decide +kernel
theorem d59_28 : decode (cdN 59) 28 = .ok (.iload 5, 2) := by decide +kernel
theorem d59_30 : decode (cdN 59) 30 = .ok (.iload 4, 2) := by decide +kernel
theorem d59_32 : decode (cdN 59) 32 = .ok (.iadd, 1) := by decide +kernel
theorem d59_33 : decode (cdN 59) 33 = .ok (.iconst 1, 1) := by decide +kernel
theorem d59_34 : decode (cdN 59) 34 = .ok (.isub, 1) := by decide +kernel
theorem d59_35 : decode (cdN 59) 35 = .ok (.iload 6, 2) := by decide +kernel
theorem d59_37 : decode (cdN 59) 37 = .ok (.isub, 1) := by decide +kernel
theorem d59_38 : decode (cdN 59) 38 = .ok (.istore 7, 2) := by decide +kernel
theorem d59_40 : decode (cdN 59) 40 = .ok (.iload 7, 2) := by decide +kernel
theorem d59_42 : decode (cdN 59) 42 = .ok (.ifCond .lt 19, 3) := by decide +kernel
theorem d59_45 : decode (cdN 59) 45 = .ok (.iload 7, 2) := by decide +kernel
theorem d59_47 : decode (cdN 59) 47 = .ok (.iload 4, 2) := by decide +kernel
theorem d59_49 : decode (cdN 59) 49 = .ok (.if_icmp .ge 12, 3) := by decide +kernel
theorem d59_52 : decode (cdN 59) 52 = .ok (.iload_n 3, 1) := by decide +kernel
theorem d59_53 : decode (cdN 59) 53 = .ok (.iload 7, 2) := by decide +kernel
theorem d59_55 : decode (cdN 59) 55 = .ok (.ishr, 1) := by decide +kernel
theorem d59_56 : decode (cdN 59) 56 = .ok (.iconst 1, 1) := by decide +kernel
theorem d59_57 : decode (cdN 59) 57 = .ok (.iand, 1) := by decide +kernel
theorem d59_58 : decode (cdN 59) 58 = .ok (.goto 4, 3) := by decide +kernel
theorem d59_61 : decode (cdN 59) 61 = .ok (.iconst 0, 1) := by decide +kernel
theorem d59_62 : decode (cdN 59) 62 = .ok (.istore 8, 2) := by decide +kernel
theorem d59_64 : decode (cdN 59) 64 = .ok (.aload_n 0, 1) := by decide +kernel
theorem d59_65 : decode (cdN 59) 65 = .ok (.getfield 9, 3) := by decide +kernel
theorem f59_9 : ftN (owN 59) 9 = some (6, 0, 219) := by decide +kernel
theorem d59_68 : decode (cdN 59) 68 = .ok (.iload 6, 2) := by decide +kernel
theorem d59_70 : decode (cdN 59) 70 = .ok (.aload_n 1, 1) := by decide +kernel
theorem d59_71 : decode (cdN 59) 71 = .ok (.iload_n 2, 1) := by decide +kernel
theorem d59_72 : decode (cdN 59) 72 = .ok (.iload 6, 2) := by decide +kernel
theorem d59_74 : decode (cdN 59) 74 = .ok (.invokevirtual 40, 3) := by decide +kernel
theorem c59_40 : ctN (owN 59) 40 = some (0, 21, [607, 608, 609, 101]) := by decide +kernel
theorem d59_77 : decode (cdN 59) 77 = .ok (.iload 8, 2) := by decide +kernel
theorem d59_79 : decode (cdN 59) 79 = .ok (.ixor, 1) := by decide +kernel
theorem d59_80 : decode (cdN 59) 80 = .ok (.iastore, 1) := by decide +kernel
theorem d59_81 : decode (cdN 59) 81 = .ok (.iinc 6 1, 3) := by decide +kernel
theorem d59_84 : decode (cdN 59) 84 = .ok (.goto (-72), 3) := by decide +kernel
theorem d59_87 : decode (cdN 59) 87 = .ok (.aload_n 0, 1) := by decide +kernel
theorem d59_88 : decode (cdN 59) 88 = .ok (.iconst 0, 1) := by decide +kernel
theorem d59_89 : decode (cdN 59) 89 = .ok (.invokevirtual 65, 3) := by decide +kernel
theorem c59_65 : ctN (owN 59) 65 = some (0, 58, [617, 619, 2, 97]) := by decide +kernel
theorem d59_92 : decode (cdN 59) 92 = .ok (.return_, 1) := by decide +kernel
theorem d60_0 : decode (cdN 60) 0 = .ok (.aload_n 0, 1) := by decide +kernel
theorem d60_1 : decode (cdN 60) 1 = .ok (.getfield 30, 3) := by decide +kernel
theorem f60_30 : ftN (owN 60) 30 = some (6, 2, 223) := by decide +kernel
theorem d60_4 : decode (cdN 60) 4 = .ok (.bipush 8, 2) := by decide +kernel
theorem d60_6 : decode (cdN 60) 6 = .ok (.idiv, 1) := by decide +kernel
theorem d60_7 : decode (cdN 60) 7 = .ok (.iconst 1, 1) := by decide +kernel
theorem d60_8 : decode (cdN 60) 8 = .ok (.isub, 1) := by decide +kernel
theorem d60_9 : decode (cdN 60) 9 = .ok (.istore_n 1, 1) := by decide +kernel
theorem d60_10 : decode (cdN 60) 10 = .ok (.iload_n 1, 1) := by decide +kernel
theorem d60_11 : decode (cdN 60) 11 = .ok (.ifCond .lt 46, 3) := by decide +kernel
theorem d60_14 : decode (cdN 60) 14 = .ok (.iload_n 1, 1) := by decide +kernel
theorem d60_15 : decode (cdN 60) 15 = .ok (.bipush 6, 2) := by decide +kernel
theorem d60_17 : decode (cdN 60) 17 = .ok (.if_icmp .ge 40, 3) := by decide +kernel
theorem d60_20 : decode (cdN 60) 20 = .ok (.aload_n 0, 1) := by decide +kernel
theorem d60_21 : decode (cdN 60) 21 = .ok (.getfield 15, 3) := by decide +kernel
theorem f60_15 : ftN (owN 60) 15 = some (6, 1, 221) := by decide +kernel
theorem d60_24 : decode (cdN 60) 24 = .ok (.iload_n 1, 1) := by decide +kernel
theorem d60_25 : decode (cdN 60) 25 = .ok (.iaload, 1) := by decide +kernel
theorem d60_26 : decode (cdN 60) 26 = .ok (.aload_n 0, 1) := by decide +kernel
theorem d60_27 : decode (cdN 60) 27 = .ok (.getfield 15, 3) := by decide +kernel
theorem d60_30 : decode (cdN 60) 30 = .ok (.iconst 0, 1) := by decide +kernel
theorem d60_31 : decode (cdN 60) 31 = .ok (.iload_n 1, 1) := by decide +kernel
theorem d60_32 : decode (cdN 60) 32 = .ok (.invokestatic 69, 3) := by decide +kernel
theorem c60_69 : ctN (owN 60) 69 = some (3, 143, [470, 92]) := by decide +kernel
theorem d60_35 : decode (cdN 60) 35 = .ok (.if_icmp .ne 22, 3) := by decide +kernel
theorem d60_38 : decode (cdN 60) 38 = .ok (.aload_n 0, 1) := by decide +kernel
theorem d60_39 : decode (cdN 60) 39 = .ok (.getfield 15, 3) := by decide +kernel
theorem d60_42 : decode (cdN 60) 42 = .ok (.iconst 0, 1) := by decide +kernel
theorem d60_43 : decode (cdN 60) 43 = .ok (.iaload, 1) := by decide +kernel
theorem d60_44 : decode (cdN 60) 44 = .ok (.bipush 15, 2) := by decide +kernel
theorem d60_46 : decode (cdN 60) 46 = .ok (.iand, 1) := by decide +kernel
theorem d60_47 : decode (cdN 60) 47 = .ok (.iload_n 1, 1) := by decide +kernel
theorem d60_48 : decode (cdN 60) 48 = .ok (.iconst 1, 1) := by decide +kernel
theorem d60_49 : decode (cdN 60) 49 = .ok (.isub, 1) := by decide +kernel
theorem d60_50 : decode (cdN 60) 50 = .ok (.if_icmp .ne 7, 3) := by decide +kernel
theorem d60_53 : decode (cdN 60) 53 = .ok (.iconst 1, 1) := by decide +kernel
theorem d60_54 : decode (cdN 60) 54 = .ok (.goto 4, 3) := by decide +kernel
theorem d60_57 : decode (cdN 60) 57 = .ok (.iconst 0, 1) := by decide +kernel
theorem d60_58 : decode (cdN 60) 58 = .ok (.ireturn, 1) := by decide +kernel
theorem d61_0 : decode (cdN 61) 0 = .ok (.aload_n 0, 1) := by decide +kernel
theorem d61_1 : decode (cdN 61) 1 = .ok (.aload_n 1, 1) := by decide +kernel
theorem d61_2 : decode (cdN 61) 2 = .ok (.iload_n 2, 1) := by decide +kernel
theorem d61_3 : decode (cdN 61) 3 = .ok (.iload_n 3, 1) := by decide +kernel
theorem d61_4 : decode (cdN 61) 4 = .ok (.iload 4, 2) := by decide +kernel
theorem d61_6 : decode (cdN 61) 6 = .ok (.invokevirtual 73, 3) := by decide +kernel
theorem c61_73 : ctN (owN 61) 73 = some (0, 56, [599, 600, 601, 97]) := by decide +kernel
theorem d61_9 : decode (cdN 61) 9 = .ok (.aload_n 0, 1) := by decide +kernel
theorem d61_10 : decode (cdN 61) 10 = .ok (.aload_n 1, 1) := by decide +kernel
theorem d61_11 : decode (cdN 61) 11 = .ok (.getfield 77, 3) := by decide +kernel
theorem f61_77 : ftN (owN 61) 77 = some (5, 1, 370) := by decide +kernel
theorem d61_14 : decode (cdN 61) 14 = .ok (.invokevirtual 65, 3) := by decide +kernel
theorem c61_65 : ctN (owN 61) 65 = some (0, 58, [617, 619, 2, 97]) := by decide +kernel
theorem d61_17 : decode (cdN 61) 17 = .ok (.aload_n 0, 1) := by decide +kernel
theorem d61_18 : decode (cdN 61) 18 = .ok (.invokevirtual 80, 3) := by decide +kernel
theorem c61_80 : ctN (owN 61) 80 = some (0, 60, [626, 627, 628, 97]) := by decide +kernel
theorem d61_21 : decode (cdN 61) 21 = .ok (.ifCond .ne 5, 3) := by decide +kernel
theorem d61_24 : decode (cdN 61) 24 = .ok (.iconst 1, 1) := by decide +kernel
theorem d61_25 : decode (cdN 61) 25 = .ok (.ireturn, 1) := by decide +kernel
theorem d61_26 : decode (cdN 61) 26 = .ok (.aload_n 0, 1) := by decide +kernel
theorem d61_27 : decode (cdN 61) 27 = .ok (.getfield 30, 3) := by decide +kernel
theorem f61_30 : ftN (owN 61) 30 = some (6, 2, 223) := by decide +kernel
theorem d61_30 : decode (cdN 61) 30 = .ok (.istore 5, 2) := by decide +kernel
theorem d61_32 : decode (cdN 61) 32 = .ok (.iload 5, 2) := by decide +kernel
theorem d61_34 : decode (cdN 61) 34 = .ok (.aload_n 0, 1) := by decide +kernel
theorem d61_35 : decode (cdN 61) 35 = .ok (.getfield 30, 3) := by decide +kernel
theorem d61_38 : decode (cdN 61) 38 = .ok (.bipush 8, 2) := by decide +kernel
theorem d61_40 : decode (cdN 61) 40 = .ok (.iadd, 1) := by decide +kernel
theorem d61_41 : decode (cdN 61) 41 = .ok (.if_icmp .ge 28, 3) := by decide +kernel
theorem d61_44 : decode (cdN 61) 44 = .ok (.aload_n 1, 1) := by decide +kernel
theorem d61_45 : decode (cdN 61) 45 = .ok (.getfield 44, 3) := by decide +kernel
theorem f61_44 : ftN (owN 61) 44 = some (5, 10, 388) := by decide +kernel
theorem d61_48 : decode (cdN 61) 48 = .ok (.iload_n 3, 1) := by decide +kernel
theorem d61_49 : decode (cdN 61) 49 = .ok (.iload 5, 2) := by decide +kernel
theorem d61_51 : decode (cdN 61) 51 = .ok (.iload 4, 2) := by decide +kernel
theorem d61_53 : decode (cdN 61) 53 = .ok (.imul, 1) := by decide +kernel
theorem d61_54 : decode (cdN 61) 54 = .ok (.iadd, 1) := by decide +kernel
theorem d61_55 : decode (cdN 61) 55 = .ok (.invokevirtual 48, 3) := by decide +kernel
theorem c61_48 : ctN (owN 61) 48 = some (0, 16, [612, 613, 614, 100]) := by decide +kernel
theorem d61_58 : decode (cdN 61) 58 = .ok (.ifCond .eq 5, 3) := by decide +kernel
theorem d61_61 : decode (cdN 61) 61 = .ok (.iconst 2, 1) := by decide +kernel
theorem d61_62 : decode (cdN 61) 62 = .ok (.ireturn, 1) := by decide +kernel
theorem d61_63 : decode (cdN 61) 63 = .ok (.iinc 5 1, 3) := by decide +kernel
theorem d61_66 : decode (cdN 61) 66 = .ok (.goto (-34), 3) := by decide +kernel
theorem d61_69 : decode (cdN 61) 69 = .ok (.iconst 0, 1) := by decide +kernel
theorem d61_70 : decode (cdN 61) 70 = .ok (.ireturn, 1) := by decide +kernel
def runN (ch : Int → Bool) : Nat → Int
  | 0 => 0
  | n + 1 => if ch n then runN ch n + 1 else 0
def bstN (ch : Int → Bool) : Nat → Int
  | 0 => 0
  | n + 1 => if ch n then max (bstN ch n) (runN ch n + 1) else bstN ch n
theorem runN_r (ch : Int → Bool) : ∀ n : Nat, 0 ≤ runN ch n ∧ runN ch n ≤ n
  | 0 => ⟨Int.le_refl 0, Int.le_refl 0⟩
  | n + 1 => by
    have := runN_r ch n
    unfold runN
    split <;> omega
theorem bstN_r (ch : Int → Bool) : ∀ n : Nat, 0 ≤ bstN ch n ∧ bstN ch n ≤ n
  | 0 => ⟨Int.le_refl 0, Int.le_refl 0⟩
  | n + 1 => by
    have := bstN_r ch n
    have := runN_r ch n
    unfold bstN
    split <;> omega
def invN (ch : Int → Bool) (n : Nat) : Int := sumF (fun b => b01 (ch b)) n
theorem invN_r (ch : Int → Bool) : ∀ n : Nat, 0 ≤ invN ch n ∧ invN ch n ≤ n
  | 0 => ⟨Int.le_refl 0, Int.le_refl 0⟩
  | n + 1 => by
    have := invN_r ch n
    have h2 := b01_or (ch n)
    show 0 ≤ invN ch n + b01 (ch n) ∧ invN ch n + b01 (ch n) ≤ ((n + 1 : Nat) : Int)
    omega
/-- J is I but for the cable -/
def offC (I J : Nat → Int → Int) : Prop := ∀ a, a ≠ 11 → a ≠ 12 → a ≠ 13 → J a = I a
theorem offC.rf {I : Nat → Int → Int} : offC I I := fun _ _ _ _ => rfl
theorem offC.trans {I J K : Nat → Int → Int} (h : offC I J) (h2 : offC J K) : offC I K := fun a h0 h1 h3 => (h2 a h0 h1 h3).trans (h a h0 h1 h3)
theorem offC.up {I J : Nat → Int → Int} (h : offC I J) {k : Nat} {j z : Int} (hk : k = 11 ∨ k = 12 ∨ k = 13) : offC I (up2 J k j z) := fun a h0 h1 h3 => by
  rw [← h a h0 h1 h3]
  funext b
  exact up2_p (by omega)
theorem DogsOK.off {I J : Nat → Int → Int} {p : Nat} (h : offC I J) (hp : 16 ≤ p) (hD : DogsOK I p) : DogsOK J p := by
  unfold DogsOK
  rw [h (p + 3) (by omega) (by omega) (by omega), h (p + 4) (by omega) (by omega) (by omega), h (p + 5) (by omega) (by omega) (by omega), h (p + 6) (by omega) (by omega) (by omega)]
  exact hD
theorem chew_off {I J : Nat → Int → Int} {p : Nat} (h : offC I J) (hp : 16 ≤ p) (t : Int) : chew J p t = chew I p t := by
  unfold chew
  rw [h (p + 3) (by omega) (by omega) (by omega), h (p + 4) (by omega) (by omega) (by omega), h (p + 5) (by omega) (by omega) (by omega), h (p + 6) (by omega) (by omega) (by omega)]
theorem FramesOK.off {I J : Nat → Int → Int} {p : Nat} (h : offC I J) (hp : 16 ≤ p) (hD : FramesOK I p) : FramesOK J p := by
  unfold FramesOK
  rw [h (p + 7) (by omega) (by omega) (by omega), h (p + 8) (by omega) (by omega) (by omega), h (p + 9) (by omega) (by omega) (by omega), h (p + 10) (by omega) (by omega) (by omega), h (p + 11) (by omega) (by omega) (by omega), h (p + 12) (by omega) (by omega) (by omega), h (p + 13) (by omega) (by omega) (by omega)]
  exact hD
/-- frame f's bytes as sent; what is chewed at a tick with a bit time; the cable -/
def Sf (I : Nat → Int → Int) (p : Nat) (f : Int) : Int → Int := fun k => I (p + 12) (f * 6 + k)
def chF (I : Nat → Int → Int) (p : Nat) (t bt : Int) : Int → Bool := fun b => chew I p (t + b * bt)
def cabF (I : Nat → Int → Int) (p : Nat) (f t bt : Int) : Int → Int := cabZ (Sf I p f) (chF I p t bt)
/-- i bits are on the cable -/
def PutI (I J : Nat → Int → Int) (p : Nat) (f t bt : Int) (n : Int) (i : Nat) : Prop := offC I J ∧ J 11 2 = n ∧ J 11 3 = invN (chF I p t bt) i ∧ J 11 4 = bstN (chF I p t bt) i ∧ ∀ b : Int, 0 ≤ b → b < i → J 12 b = cabF I p f t bt b
theorem put_f {I J : Nat → Int → Int} {p : Nat} {f t bt n : Int} {i : Nat} (h : PutI I J p f t bt n i) (hc : chew I p (t + i * bt) = false) : PutI I (up2 J 12 i (bitZ (Sf I p f) i)) p f t bt n (i + 1) := by
  obtain ⟨j0, j1, j2, j3, j4⟩ := h
  have hc2 : chF I p t bt i = false := hc
  refine ⟨j0.up (by decide), by rw [up2_p (by decide)]; exact j1, ?_, ?_, fun b hb hb2 => ?_⟩
  · rw [up2_p (by decide), j2]
    show _ = invN (chF I p t bt) i + b01 (chF I p t bt i)
    rw [hc2, b01_f, Int.add_zero]
  · rw [up2_p (by decide), j3]
    show _ = if chF I p t bt i then _ else _
    rw [hc2]
    rfl
  · by_cases e : b = i
    · subst e
      rw [up2_s]
      unfold cabF cabZ
      rw [hc2]
      rfl
    · rw [up2_i e]
      exact j4 b hb (by omega)
theorem put_t {I J : Nat → Int → Int} {p : Nat} {f t bt n : Int} {i : Nat} (h : PutI I J p f t bt n i) (hc : chew I p (t + i * bt) = true) : PutI I (up2 (up2 (up2 (up2 J 12 i (bitZ (Sf I p f) i)) 12 i (1 - bitZ (Sf I p f) i)) 11 3 (invN (chF I p t bt) i + 1)) 11 4 (max (bstN (chF I p t bt) i) (runN (chF I p t bt) i + 1))) p f t bt n (i + 1) := by
  obtain ⟨j0, j1, j2, j3, j4⟩ := h
  have hc2 : chF I p t bt i = true := hc
  refine ⟨(((j0.up (by decide)).up (by decide)).up (by decide)).up (by decide), ?_, ?_, ?_, fun b hb hb2 => ?_⟩
  · rw [up2_i (by decide), up2_i (by decide), up2_p (by decide), up2_p (by decide)]; exact j1
  · rw [up2_i (by decide), up2_s]
    show _ = invN (chF I p t bt) i + b01 (chF I p t bt i)
    rw [hc2, b01_t]
  · rw [up2_s]
    show _ = if chF I p t bt i then _ else _
    rw [hc2]
    rfl
  · rw [up2_p (by decide), up2_p (by decide)]
    by_cases e : b = i
    · subst e
      rw [up2_s]
      unfold cabF cabZ
      rw [hc2]
      rfl
    · rw [up2_i e, up2_i e]
      exact j4 b hb (by omega)
theorem runN_f {ch : Int → Bool} {i : Nat} (h : ch i = false) : (0 : Int) = runN ch (i + 1) := by
  show 0 = if ch i then _ else _
  rw [h]; rfl
theorem runN_t {ch : Int → Bool} {i : Nat} (h : ch i = true) : runN ch i + 1 = runN ch (i + 1) := by
  show _ = if ch i then _ else _
  rw [h]; rfl
section Send
variable {l : LX} {q p : Nat} {I : Nat → Int → Int} {v : Int} {fr : Bool}
theorem dt_bitJ (hl : l.1.stackTraces = false) (hp : LineAt q p) (hF : FramesOK I p) {J : Nat → Int → Int} (hJ : offC I J) {f b : Int} (h0 : 0 ≤ f) (h1 : f < I (p + 7) 0) (h2 : 0 ≤ b) (h3 : b < I (p + 8) f * 8) : DT l 21 [.ref (p + 7), .int (iI f), .int (iI b)] (mm q J v fr) 0 0 (.inl (some (.int (iI (bitZ (Sf I p f) b)))), mm q J v fr) := by
  have hpb := hp.b
  have := dt_bitOf (fr := fr) (v := v) hl hp (hF.off hJ (by omega)) (f := f) (b := b) h0 (by rw [hJ (p + 7) (by omega) (by omega) (by omega)]; exact h1) h2 (by rw [hJ (p + 8) (by omega) (by omega) (by omega)]; exact h3)
  rw [hJ (p + 12) (by omega) (by omega) (by omega)] at this
  exact this
theorem dt_bitsJ (hl : l.1.stackTraces = false) (hp : LineAt q p) (hF : FramesOK I p) {J : Nat → Int → Int} (hJ : offC I J) {f : Int} (h0 : 0 ≤ f) (h1 : f < I (p + 7) 0) : DT l 20 [.ref (p + 7), .int (iI f)] (mm q J v fr) 0 0 (.inl (some (.int (iI (I (p + 8) f * 8)))), mm q J v fr) := by
  have hpb := hp.b
  have := dt_bitsOf (fr := fr) (v := v) hl hp (hF.off hJ (by omega)) (f := f) h0 (by rw [hJ (p + 7) (by omega) (by omega) (by omega)]; exact h1)
  rw [hJ (p + 8) (by omega) (by omega) (by omega)] at this
  exact this
theorem dt_chewJ (hl : l.1.stackTraces = false) (hp : LineAt q p) (hD : DogsOK I p) {J : Nat → Int → Int} (hJ : offC I J) {t : Int} (ht : 0 ≤ t) (ht2 : t ≤ 100000000) : DT l 16 [.ref (p + 3), .int (iI t)] (mm q J v fr) 0 0 (.inl (some (.int (iI (b01 (chew I p t))))), mm q J v fr) := by
  have hpb := hp.b
  have := dt_chewIn (fr := fr) (v := v) hl hp (hD.off hJ (by omega)) (t := t) ht ht2
  rw [chew_off hJ (by omega)] at this
  exact this
theorem lp_put (hl : l.1.stackTraces = false) (hq : 181 ≤ q) (hp : LineAt q p) (hD : DogsOK I p) (hF : FramesOK I p) {f t bt : Int} (h0 : 0 ≤ f) (h1 : f < I (p + 7) 0) (ht : 0 ≤ t) (ht2 : t ≤ 50000000) (hb1 : 1 ≤ bt) (hb2 : bt ≤ 9) : ∀ (m i : Nat) (J : Nat → Int → Int), I (p + 8) f * 8 - i = m → PutI I J p f t bt (I (p + 8) f * 8) i →
    Ex l 56 0 0 28 [some (.ref 11), some (.ref p), some (.int (iI f)), some (.int (iI t)), some (.int (iI bt)), some (.int (iI (runN (chF I p t bt) i))), some (.int (iI i))] [] (mm q J v fr) (oE q v fr none (fun K => PutI I K p f t bt (I (p + 8) f * 8) (I (p + 8) f * 8).toNat)) := by
  have hpb := hp.b
  have hc := hF.1
  have hf := hF.2.1 f h0 h1
  intro m
  induction m with
  | zero =>
    intro i J h2 hJ
    obtain ⟨j0, j1, j2, j3, j4⟩ := id hJ
    refine x_iload (pc := 28) rfl d56_28 ?_
    refine x_aload_n (pc := 30) rfl d56_30 ?_
    refine m_getI (pc := 31) (z := 2) f56_30 (by decide +kernel) rfl (ko11 (by omega)) d56_31 ?_
    refine x_val (pc := 34) (w := (I (p + 8) f * 8)) (j1) ?_
    refine x_icmp_ge (pc := 34) (tgt := 132) ⟨by omega, by omega⟩ ⟨by omega, by omega⟩ d56_34 (by decide) (fun g34 => ?_) (fun g34 => ?_)
    · refine x_vret (pc := 132) rfl (fun _ => rfl) d56_132 ?_
      exact ⟨J, rfl, by rw [show (I (p + 8) f * 8).toNat = i from by omega]; exact hJ⟩
    · refine x_iload (pc := 37) rfl d56_37 ?_
      refine x_bipush (pc := 39) (by decide) d56_39 ?_
      refine x_icmp_ge (pc := 41) (tgt := 132) ⟨by omega, by omega⟩ ⟨by omega, by omega⟩ d56_41 (by decide) (fun g41 => ?_) (fun g41 => ?_)
      · refine x_vret (pc := 132) rfl (fun _ => rfl) d56_132 ?_
        first | rfl | (exfalso; omega)
      · refine x_aload_n (pc := 44) rfl d56_44 ?_
        refine m_getR (pc := 45) f56_9 (by decide +kernel) (ko11 (by omega)) rr11_0 d56_45 ?_
        refine x_iload (pc := 48) rfl d56_48 ?_
        refine x_aload_n (pc := 50) rfl d56_50 ?_
        refine m_getR (pc := 51) f56_18 (by decide +kernel) hp.o0 hp.r0_11 d56_51 ?_
        refine x_iload_n (pc := 54) rfl d56_54 ?_
        refine x_iload (pc := 55) rfl d56_55 ?_
        refine x_cVs (pc := 57) c56_40 (dt_bitJ hl hp hF j0 (f := f) (b := i) (by omega) (by omega) (by omega) (by omega)) hp.o7 rfl rfl (Nat.le_of_ble_eq_true rfl) (by decide +kernel) (by decide +kernel) rfl d56_57 ?_
        refine m_iast (pc := 60) (ka12 (by omega)) (by omega) (by omega) (by omega) d56_60 ?_
        refine x_aload_n (pc := 61) rfl d56_61 ?_
        refine m_getR (pc := 62) f56_44 (by decide +kernel) hp.o0 hp.r0_10 d56_62 ?_
        refine x_iload_n (pc := 65) rfl d56_65 ?_
        refine x_iload (pc := 66) rfl d56_66 ?_
        refine x_iload (pc := 68) rfl d56_68 ?_
        refine x_imul (pc := 70) d56_70 ?_
        refine x_iadd (pc := 71) d56_71 ?_
        refine x_cVs (pc := 72) c56_48 (dt_chewJ hl hp hD (j0.up (by decide)) (t := (t + (i * bt))) (by omega) (by omega)) hp.o3 rfl rfl (Nat.le_of_ble_eq_true rfl) (by decide +kernel) (by decide +kernel) rfl d56_72 ?_
        refine x_ifB_eq (pc := 75) (tgt := 123) d56_75 (by decide) (fun g75 => ?_) (fun g75 => ?_)
        · refine x_iconst (pc := 123) d56_123 ?_
          refine x_istore (pc := 124) (by decide +kernel) rfl d56_124 ?_
          dsimp only [List.set]
          refine x_iinc (pc := 126) rfl (by decide +kernel) rfl d56_126 ?_
          dsimp only [List.set]
          refine x_goto (pc := 129) (tgt := 28) d56_129 (by decide) ?_
          first | rfl | (exfalso; omega)
        · refine x_aload_n (pc := 78) rfl d56_78 ?_
          refine m_getR (pc := 79) f56_9 (by decide +kernel) (ko11 (by omega)) rr11_0 d56_79 ?_
          refine x_iload (pc := 82) rfl d56_82 ?_
          refine x_iconst (pc := 84) d56_84 ?_
          refine x_aload_n (pc := 85) rfl d56_85 ?_
          refine m_getR (pc := 86) f56_9 (by decide +kernel) (ko11 (by omega)) rr11_0 d56_86 ?_
          refine x_iload (pc := 89) rfl d56_89 ?_
          refine m_ialdW (pc := 91) (w := (bitZ (Sf I p f) i)) (ka12 (by omega)) (by omega) (by omega) (by omega) (by rw [up2_s]) d56_91 ?_
          refine x_isub (pc := 92) d56_92 ?_
          refine m_iast (pc := 93) (ka12 (by omega)) (by omega) (by omega) (by omega) d56_93 ?_
          refine x_aload_n (pc := 94) rfl d56_94 ?_
          refine x_dup (pc := 95) rfl d56_95 ?_
          refine m_getW (pc := 96) (z := 3) (w := (J 11 3)) f56_34 (by decide +kernel) rfl (ko11 (by omega)) (by rw [up2_p (by omega), up2_p (by omega)]) d56_96 ?_
          refine x_iconst (pc := 99) d56_99 ?_
          refine x_iadd (pc := 100) d56_100 ?_
          refine m_putI (pc := 101) (z := 3) f56_34 (by decide +kernel) (by decide +kernel) rfl (ko11 (by omega)) d56_101 ?_
          refine x_iinc (pc := 104) rfl (by decide +kernel) rfl d56_104 ?_
          dsimp only [List.set]
          refine x_aload_n (pc := 107) rfl d56_107 ?_
          refine x_aload_n (pc := 108) rfl d56_108 ?_
          refine m_getW (pc := 109) (z := 4) (w := (J 11 4)) f56_37 (by decide +kernel) rfl (ko11 (by omega)) (by rw [up2_i (by decide), up2_p (by omega), up2_p (by omega)]) d56_109 ?_
          refine x_iload (pc := 112) rfl d56_112 ?_
          refine x_max (pc := 114) ⟨by omega, by omega⟩ ⟨by omega, by omega⟩ c56_54 (by decide +kernel) (Nat.le_of_ble_eq_true rfl) d56_114 ?_
          refine m_putI (pc := 117) (z := 4) f56_37 (by decide +kernel) (by decide +kernel) rfl (ko11 (by omega)) d56_117 ?_
          refine x_goto (pc := 120) (tgt := 126) d56_120 (by decide) ?_
          refine x_iinc (pc := 126) rfl (by decide +kernel) rfl d56_126 ?_
          dsimp only [List.set]
          refine x_goto (pc := 129) (tgt := 28) d56_129 (by decide) ?_
          first | rfl | (exfalso; omega)
  | succ m ih =>
    intro i J h2 hJ
    obtain ⟨j0, j1, j2, j3, j4⟩ := id hJ
    have hr := runN_r (chF I p t bt) i
    have hb := bstN_r (chF I p t bt) i
    have hv := invN_r (chF I p t bt) i
    have hm0 : 0 ≤ (i : Int) * bt := Int.mul_nonneg (by omega) (by omega)
    have hm1 : (i : Int) * bt ≤ 48 * 9 := Int.mul_le_mul (by omega) (by omega) (by omega) (by omega)
    refine x_iload (pc := 28) rfl d56_28 ?_
    refine x_aload_n (pc := 30) rfl d56_30 ?_
    refine m_getI (pc := 31) (z := 2) f56_30 (by decide +kernel) rfl (ko11 (by omega)) d56_31 ?_
    refine x_val (pc := 34) (w := (I (p + 8) f * 8)) (j1) ?_
    refine x_icmp_ge (pc := 34) (tgt := 132) ⟨by omega, by omega⟩ ⟨by omega, by omega⟩ d56_34 (by decide) (fun g34 => ?_) (fun g34 => ?_)
    · refine x_vret (pc := 132) rfl (fun _ => rfl) d56_132 ?_
      exfalso; omega
    · refine x_iload (pc := 37) rfl d56_37 ?_
      refine x_bipush (pc := 39) (by decide) d56_39 ?_
      refine x_icmp_ge (pc := 41) (tgt := 132) ⟨by omega, by omega⟩ ⟨by omega, by omega⟩ d56_41 (by decide) (fun g41 => ?_) (fun g41 => ?_)
      · refine x_vret (pc := 132) rfl (fun _ => rfl) d56_132 ?_
        exfalso; omega
      · refine x_aload_n (pc := 44) rfl d56_44 ?_
        refine m_getR (pc := 45) f56_9 (by decide +kernel) (ko11 (by omega)) rr11_0 d56_45 ?_
        refine x_iload (pc := 48) rfl d56_48 ?_
        refine x_aload_n (pc := 50) rfl d56_50 ?_
        refine m_getR (pc := 51) f56_18 (by decide +kernel) hp.o0 hp.r0_11 d56_51 ?_
        refine x_iload_n (pc := 54) rfl d56_54 ?_
        refine x_iload (pc := 55) rfl d56_55 ?_
        refine x_cVs (pc := 57) c56_40 (dt_bitJ hl hp hF j0 (f := f) (b := i) (by omega) (by omega) (by omega) (by omega)) hp.o7 rfl rfl (Nat.le_of_ble_eq_true rfl) (by decide +kernel) (by decide +kernel) rfl d56_57 ?_
        refine m_iast (pc := 60) (ka12 (by omega)) (by omega) (by omega) (by omega) d56_60 ?_
        refine x_aload_n (pc := 61) rfl d56_61 ?_
        refine m_getR (pc := 62) f56_44 (by decide +kernel) hp.o0 hp.r0_10 d56_62 ?_
        refine x_iload_n (pc := 65) rfl d56_65 ?_
        refine x_iload (pc := 66) rfl d56_66 ?_
        refine x_iload (pc := 68) rfl d56_68 ?_
        refine x_imul (pc := 70) d56_70 ?_
        refine x_iadd (pc := 71) d56_71 ?_
        refine x_cVs (pc := 72) c56_48 (dt_chewJ hl hp hD (j0.up (by decide)) (t := (t + (i * bt))) (by omega) (by omega)) hp.o3 rfl rfl (Nat.le_of_ble_eq_true rfl) (by decide +kernel) (by decide +kernel) rfl d56_72 ?_
        refine x_ifB_eq (pc := 75) (tgt := 123) d56_75 (by decide) (fun g75 => ?_) (fun g75 => ?_)
        · refine x_iconst (pc := 123) d56_123 ?_
          refine x_istore (pc := 124) (by decide +kernel) rfl d56_124 ?_
          dsimp only [List.set]
          refine x_iinc (pc := 126) rfl (by decide +kernel) rfl d56_126 ?_
          dsimp only [List.set]
          refine x_goto (pc := 129) (tgt := 28) d56_129 (by decide) ?_
          have h9 := ih (i + 1) _ (by omega) (put_f hJ g75)
          rw [← runN_f (show chF I p t bt i = false from g75)] at h9
          exact h9
        · refine x_aload_n (pc := 78) rfl d56_78 ?_
          refine m_getR (pc := 79) f56_9 (by decide +kernel) (ko11 (by omega)) rr11_0 d56_79 ?_
          refine x_iload (pc := 82) rfl d56_82 ?_
          refine x_iconst (pc := 84) d56_84 ?_
          refine x_aload_n (pc := 85) rfl d56_85 ?_
          refine m_getR (pc := 86) f56_9 (by decide +kernel) (ko11 (by omega)) rr11_0 d56_86 ?_
          refine x_iload (pc := 89) rfl d56_89 ?_
          refine m_ialdW (pc := 91) (w := (bitZ (Sf I p f) i)) (ka12 (by omega)) (by omega) (by omega) (by omega) (by rw [up2_s]) d56_91 ?_
          refine x_isub (pc := 92) d56_92 ?_
          refine m_iast (pc := 93) (ka12 (by omega)) (by omega) (by omega) (by omega) d56_93 ?_
          refine x_aload_n (pc := 94) rfl d56_94 ?_
          refine x_dup (pc := 95) rfl d56_95 ?_
          refine m_getW (pc := 96) (z := 3) (w := (J 11 3)) f56_34 (by decide +kernel) rfl (ko11 (by omega)) (by rw [up2_p (by omega), up2_p (by omega)]) d56_96 ?_
          refine x_val (pc := 99) (w := (invN (chF I p t bt) i)) (j2) ?_
          refine x_iconst (pc := 99) d56_99 ?_
          refine x_iadd (pc := 100) d56_100 ?_
          refine m_putI (pc := 101) (z := 3) f56_34 (by decide +kernel) (by decide +kernel) rfl (ko11 (by omega)) d56_101 ?_
          refine x_iinc (pc := 104) rfl (by decide +kernel) rfl d56_104 ?_
          dsimp only [List.set]
          refine x_aload_n (pc := 107) rfl d56_107 ?_
          refine x_aload_n (pc := 108) rfl d56_108 ?_
          refine m_getW (pc := 109) (z := 4) (w := (J 11 4)) f56_37 (by decide +kernel) rfl (ko11 (by omega)) (by rw [up2_i (by decide), up2_p (by omega), up2_p (by omega)]) d56_109 ?_
          refine x_val (pc := 112) (w := (bstN (chF I p t bt) i)) (j3) ?_
          refine x_iload (pc := 112) rfl d56_112 ?_
          refine x_max (pc := 114) ⟨by omega, by omega⟩ ⟨by omega, by omega⟩ c56_54 (by decide +kernel) (Nat.le_of_ble_eq_true rfl) d56_114 ?_
          refine m_putI (pc := 117) (z := 4) f56_37 (by decide +kernel) (by decide +kernel) rfl (ko11 (by omega)) d56_117 ?_
          refine x_goto (pc := 120) (tgt := 126) d56_120 (by decide) ?_
          refine x_iinc (pc := 126) rfl (by decide +kernel) rfl d56_126 ?_
          dsimp only [List.set]
          refine x_goto (pc := 129) (tgt := 28) d56_129 (by decide) ?_
          have h9 := ih (i + 1) _ (by omega) (put_t hJ g75)
          rw [← runN_t (show chF I p t bt i = true from g75)] at h9
          exact h9
/-- putOnCable -/
theorem ct_put (hl : l.1.stackTraces = false) (hq : 181 ≤ q) (hp : LineAt q p) (hD : DogsOK I p) (hF : FramesOK I p) {J0 : Nat → Int → Int} (hJ0 : offC I J0) {f t bt : Int} (h0 : 0 ≤ f) (h1 : f < I (p + 7) 0) (ht : 0 ≤ t) (ht2 : t ≤ 50000000) (hb1 : 1 ≤ bt) (hb2 : bt ≤ 9) : CT l 56 [.ref 11, .ref p, .int (iI f), .int (iI t), .int (iI bt)] (mm q J0 v fr) 0 0 (oE q v fr none (fun K => PutI I K p f t bt (I (p + 8) f * 8) (I (p + 8) f * 8).toNat)) := by
  have hpb := hp.b
  have hc := hF.1
  have hf := hF.2.1 f h0 h1
  refine mkct2 hl (by decide) (Nat.le_of_ble_eq_true rfl) (L := [some (.ref 11), some (.ref p), some (.int (iI f)), some (.int (iI t)), some (.int (iI bt)), none, none]) rfl ?_
  refine x_aload_n (pc := 0) rfl d56_0 ?_
  refine x_aload_n (pc := 1) rfl d56_1 ?_
  refine m_getR (pc := 2) f56_18 (by decide +kernel) hp.o0 hp.r0_11 d56_2 ?_
  refine x_iload_n (pc := 5) rfl d56_5 ?_
  refine x_cVs (pc := 6) c56_24 (dt_bitsJ hl hp hF hJ0 (f := f) (by omega) (by omega)) hp.o7 rfl rfl (Nat.le_of_ble_eq_true rfl) (by decide +kernel) (by decide +kernel) rfl d56_6 ?_
  refine m_putI (pc := 9) (z := 2) f56_30 (by decide +kernel) (by decide +kernel) rfl (ko11 (by omega)) d56_9 ?_
  refine x_aload_n (pc := 12) rfl d56_12 ?_
  refine x_iconst (pc := 13) d56_13 ?_
  refine m_putI (pc := 14) (z := 3) f56_34 (by decide +kernel) (by decide +kernel) rfl (ko11 (by omega)) d56_14 ?_
  refine x_aload_n (pc := 17) rfl d56_17 ?_
  refine x_iconst (pc := 18) d56_18 ?_
  refine m_putI (pc := 19) (z := 4) f56_37 (by decide +kernel) (by decide +kernel) rfl (ko11 (by omega)) d56_19 ?_
  refine x_iconst (pc := 22) d56_22 ?_
  refine x_istore (pc := 23) (by decide +kernel) rfl d56_23 ?_
  dsimp only [List.set]
  refine x_iconst (pc := 25) d56_25 ?_
  refine x_istore (pc := 26) (by decide +kernel) rfl d56_26 ?_
  dsimp only [List.set]
  refine lp_put hl hq hp hD hF h0 h1 ht ht2 hb1 hb2 (I (p + 8) f * 8).toNat 0 _ (by omega) ⟨((hJ0.up (by decide)).up (by decide)).up (by decide), ?_, ?_, up2_s, fun b hb hb2 => by omega⟩
  · rw [up2_i (by decide), up2_i (by decide), up2_s]
  · rw [up2_i (by decide), up2_s]; rfl
end Send
end
section
/-! ===== Sending: what is taken ===== -/
theorem tkI_r {b dr : Int} (h0 : 0 ≤ b) (h1 : b ≤ 1000) (h2 : -99 ≤ dr) (h3 : dr ≤ 99) : 0 ≤ tkI b dr ∧ tkI b dr ≤ 1100 := by
  have hm1 : 0 ≤ (2 * b + 1) * (1000 + dr) := Int.mul_nonneg (by omega) (by omega)
  have hm2 : (2 * b + 1) * (1000 + dr) ≤ 2001 * 1099 := Int.mul_le_mul (by omega) (by omega) (by omega) (by omega)
  unfold tkI
  omega
/-- n bits cb lie on the cable -/
def CabI (J : Nat → Int → Int) (n : Int) (cb : Int → Int) : Prop := J 11 2 = n ∧ ∀ b : Int, 0 ≤ b → b < n → J 12 b = cb b
theorem takZ_r {cb : Int → Int} (h : ∀ b, cb b = 0 ∨ cb b = 1) (n dr b : Int) : takZ cb n dr b = 0 ∨ takZ cb n dr b = 1 := by
  unfold takZ
  split
  · exact h _
  · exact Or.inl rfl
def clN8 (i : Nat) (k : Int) : Nat := (min (max ((i : Int) - 8 * k) 0) 8).toNat
/-- i bits are taken -/
def TakI (I J : Nat → Int → Int) (n : Int) (cb t : Int → Int) (i : Nat) : Prop := offC I J ∧ CabI J n cb ∧ J 11 3 = I 11 3 ∧ J 11 4 = I 11 4 ∧ ∀ k : Int, 0 ≤ k → k < 6 → J 13 k = byteN t k (clN8 i k)
theorem tak_step {I J : Nat → Int → Int} {n : Int} {cb t : Int → Int} {i : Nat} (h : TakI I J n cb t i) (hi : i < 48) : TakI I (up2 J 13 ((i : Int) / 8) (J 13 ((i : Int) / 8) * 2 + t i)) n cb t (i + 1) := by
  obtain ⟨j0, ⟨j1, j2⟩, j3, j4, j5⟩ := h
  refine ⟨j0.up (by decide), ⟨by rw [up2_p (by decide)]; exact j1, fun b hb hb2 => by rw [up2_p (by decide)]; exact j2 b hb hb2⟩, by rw [up2_p (by decide)]; exact j3, by rw [up2_p (by decide)]; exact j4, fun k hk hk2 => ?_⟩
  by_cases e : k = (i : Int) / 8
  · rw [up2_e rfl e, j5 _ (by omega) (by omega)]
    have e1 : clN8 i ((i : Int) / 8) = i % 8 := by unfold clN8; omega
    have e2 : clN8 (i + 1) k = i % 8 + 1 := by unfold clN8; omega
    rw [e1, e2, e]
    show _ = 2 * byteN t ((i : Int) / 8) (i % 8) + t (8 * ((i : Int) / 8) + ((i % 8 : Nat) : Int))
    rw [show 8 * ((i : Int) / 8) + ((i % 8 : Nat) : Int) = i from by omega, Int.mul_comm]
  · rw [up2_i e, j5 k hk hk2]
    congr 1
    unfold clN8
    omega
/-- the memory behind take -/
def GotI (I J : Nat → Int → Int) (n : Int) (cb t : Int → Int) : Prop := offC I J ∧ CabI J n cb ∧ J 11 3 = I 11 3 ∧ J 11 4 = I 11 4 ∧ (∀ k : Int, 0 ≤ k → 8 * k + 8 ≤ n → J 13 k = byteZ t k) ∧ ∀ k : Int, 0 ≤ k → k < 6 → 0 ≤ J 13 k ∧ J 13 k ≤ 255
section Take
variable {l : LX} {q p : Nat} {I : Nat → Int → Int} {v : Int} {fr : Bool}
/-- takenBit -/
theorem dt_takenBit (hl : l.1.stackTraces = false) (hq : 181 ≤ q) {n : Int} {cb : Int → Int} (hC : CabI I n cb) (hn : n ≤ 48) {b dr : Int} (h0 : 0 ≤ b) (h1 : b ≤ 1000) (h2 : -99 ≤ dr) (h3 : dr ≤ 99) (hn0 : 0 ≤ n) : DT l 57 [.ref 11, .int (iI b), .int (iI dr)] (mm q I v fr) 0 0 (.inl (some (.int (iI (takZ cb n dr b)))), mm q I v fr) := by
  have hr := tkI_r h0 h1 h2 h3
  obtain ⟨c1, c2⟩ := hC
  refine mkdt hl (by decide) (Nat.le_of_ble_eq_true rfl) (L := [some (.ref 11), some (.int (iI b)), some (.int (iI dr)), none]) rfl ?_
  refine x_iload_n (pc := 0) rfl d57_0 ?_
  refine x_iload_n (pc := 1) rfl d57_1 ?_
  refine x_cSNs (pc := 2) c57_59 (dt_tkI hl (b := b) (dr := dr) (by omega) (by omega) (by omega) (by omega)) rfl rfl (Nat.le_of_ble_eq_true rfl) (by decide +kernel) (by decide +kernel) rfl d57_2 ?_
  refine x_istore_n (pc := 5) (by decide +kernel) rfl d57_5 ?_
  dsimp only [List.set]
  refine x_iload_n (pc := 6) rfl d57_6 ?_
  refine x_if_lt (pc := 7) (tgt := 33) ⟨by omega, by omega⟩ d57_7 (by decide) (fun g7 => ?_) (fun g7 => ?_)
  · refine x_iconst (pc := 33) d57_33 ?_
    refine x_iret (pc := 34) rfl (fun _ => rfl) d57_34 ?_
    exfalso; omega
  · refine x_iload_n (pc := 10) rfl d57_10 ?_
    refine x_aload_n (pc := 11) rfl d57_11 ?_
    refine m_getI (pc := 12) (z := 2) f57_30 (by decide +kernel) rfl (ko11 (by omega)) d57_12 ?_
    refine x_val (pc := 15) (w := n) (c1) ?_
    refine x_icmp_ge (pc := 15) (tgt := 33) ⟨by omega, by omega⟩ ⟨by omega, by omega⟩ d57_15 (by decide) (fun g15 => ?_) (fun g15 => ?_)
    · refine x_iconst (pc := 33) d57_33 ?_
      refine x_iret (pc := 34) rfl (fun _ => rfl) d57_34 ?_
      unfold takZ; rw [if_neg (by omega)]
    · refine x_iload_n (pc := 18) rfl d57_18 ?_
      refine x_bipush (pc := 19) (by decide) d57_19 ?_
      refine x_icmp_ge (pc := 21) (tgt := 33) ⟨by omega, by omega⟩ ⟨by omega, by omega⟩ d57_21 (by decide) (fun g21 => ?_) (fun g21 => ?_)
      · refine x_iconst (pc := 33) d57_33 ?_
        refine x_iret (pc := 34) rfl (fun _ => rfl) d57_34 ?_
        exfalso; omega
      · refine x_aload_n (pc := 24) rfl d57_24 ?_
        refine m_getR (pc := 25) f57_9 (by decide +kernel) (ko11 (by omega)) rr11_0 d57_25 ?_
        refine x_iload_n (pc := 28) rfl d57_28 ?_
        refine m_iald (pc := 29) (ka12 (by omega)) (by omega) (by omega) (by omega) d57_29 ?_
        refine x_val (pc := 30) (w := (cb (tkI b dr))) (c2 _ hr.1 g15) ?_
        refine x_goto (pc := 30) (tgt := 34) d57_30 (by decide) ?_
        refine x_iret (pc := 34) rfl (fun _ => rfl) d57_34 ?_
        unfold takZ; rw [if_pos (by omega)]
theorem lp_take0 (hl : l.1.stackTraces = false) (hq : 181 ≤ q) {dr : Int} {Q : OO → Prop} {J0 : Nat → Int → Int} : ∀ (m i : Nat) (J : Nat → Int → Int), m + i = 6 → (∀ a, a ≠ 13 → J a = J0 a) → (∀ k : Int, 0 ≤ k → k < i → J 13 k = 0) →
    (∀ J : Nat → Int → Int, (∀ a, a ≠ 13 → J a = J0 a) → (∀ k : Int, 0 ≤ k → k < 6 → J 13 k = 0) → Ex l 58 0 0 23 [some (.ref 11), some (.int (iI dr)), some (.int (iI 0))] [] (mm q J v fr) Q) →
    Ex l 58 0 0 2 [some (.ref 11), some (.int (iI dr)), some (.int (iI i))] [] (mm q J v fr) Q := by
  intro m
  induction m with
  | zero =>
    intro i J h1 h2 h3 hk
    refine x_iload_n (pc := 2) rfl d58_2 ?_
    refine x_bipush (pc := 3) (by decide) d58_3 ?_
    refine x_icmp_ge (pc := 5) (tgt := 21) ⟨by omega, by omega⟩ ⟨by omega, by omega⟩ d58_5 (by decide) (fun g5 => ?_) (fun g5 => ?_)
    · refine x_iconst (pc := 21) d58_21 ?_
      refine x_istore_n (pc := 22) (by decide +kernel) rfl d58_22 ?_
      dsimp only [List.set]
      exact hk J h2 (fun k hk0 hk1 => h3 k hk0 (by omega))
    · refine x_aload_n (pc := 8) rfl d58_8 ?_
      refine m_getR (pc := 9) f58_15 (by decide +kernel) (ko11 (by omega)) rr11_1 d58_9 ?_
      refine x_iload_n (pc := 12) rfl d58_12 ?_
      refine x_iconst (pc := 13) d58_13 ?_
      refine m_iast (pc := 14) (ka13 (by omega)) (by omega) (by omega) (by omega) d58_14 ?_
      refine x_iinc (pc := 15) rfl (by decide +kernel) rfl d58_15 ?_
      dsimp only [List.set]
      refine x_goto (pc := 18) (tgt := 2) d58_18 (by decide) ?_
      exfalso; omega
  | succ m ih =>
    intro i J h1 h2 h3 hk
    refine x_iload_n (pc := 2) rfl d58_2 ?_
    refine x_bipush (pc := 3) (by decide) d58_3 ?_
    refine x_icmp_ge (pc := 5) (tgt := 21) ⟨by omega, by omega⟩ ⟨by omega, by omega⟩ d58_5 (by decide) (fun g5 => ?_) (fun g5 => ?_)
    · refine x_iconst (pc := 21) d58_21 ?_
      refine x_istore_n (pc := 22) (by decide +kernel) rfl d58_22 ?_
      dsimp only [List.set]
      exfalso; omega
    · refine x_aload_n (pc := 8) rfl d58_8 ?_
      refine m_getR (pc := 9) f58_15 (by decide +kernel) (ko11 (by omega)) rr11_1 d58_9 ?_
      refine x_iload_n (pc := 12) rfl d58_12 ?_
      refine x_iconst (pc := 13) d58_13 ?_
      refine m_iast (pc := 14) (ka13 (by omega)) (by omega) (by omega) (by omega) d58_14 ?_
      refine x_iinc (pc := 15) rfl (by decide +kernel) rfl d58_15 ?_
      dsimp only [List.set]
      refine x_goto (pc := 18) (tgt := 2) d58_18 (by decide) ?_
      refine ih (i + 1) _ (by omega) (fun a ha => ?_) (fun k hk0 hk1 => ?_) hk
      · rw [← h2 a ha]; funext b; exact up2_p ha
      · by_cases e : k = i
        · rw [up2_e rfl e]
        · rw [up2_i e]; exact h3 k hk0 (by omega)
theorem lp_take (hl : l.1.stackTraces = false) (hq : 181 ≤ q) {n : Nat} {cb : Int → Int} (hcb : ∀ b, cb b = 0 ∨ cb b = 1) (hn : n ≤ 48) {dr : Int} (h2 : -99 ≤ dr) (h3 : dr ≤ 99) : ∀ (m i : Nat) (J : Nat → Int → Int), m + i = n → TakI I J n cb (takZ cb n dr) i →
    Ex l 58 0 0 23 [some (.ref 11), some (.int (iI dr)), some (.int (iI i))] [] (mm q J v fr) (oE q v fr none (fun K => GotI I K n cb (takZ cb n dr))) := by
  intro m
  induction m with
  | zero =>
    intro i J h1 hJ
    obtain ⟨j0, ⟨j1, j2⟩, j3, j4, j5⟩ := id hJ
    refine x_iload_n (pc := 23) rfl d58_23 ?_
    refine x_aload_n (pc := 24) rfl d58_24 ?_
    refine m_getI (pc := 25) (z := 2) f58_30 (by decide +kernel) rfl (ko11 (by omega)) d58_25 ?_
    refine x_val (pc := 28) (w := (n : Int)) (j1) ?_
    refine x_icmp_ge (pc := 28) (tgt := 70) ⟨by omega, by omega⟩ ⟨by omega, by omega⟩ d58_28 (by decide) (fun g28 => ?_) (fun g28 => ?_)
    · refine x_vret (pc := 70) rfl (fun _ => rfl) d58_70 ?_
      refine ⟨J, rfl, j0, ⟨j1, j2⟩, j3, j4, fun k hk hk2 => ?_, fun k hk hk2 => ?_⟩
      · rw [j5 k hk (by omega)]
        unfold byteZ
        congr 1
        unfold clN8
        omega
      · rw [j5 k hk hk2]
        have h8 := byteN_b (takZ_r hcb n dr) k (clN8 i k)
        have h9 : (2 : Int) ^ clN8 i k ≤ 2 ^ 8 := by
          have : (2 : Nat) ^ clN8 i k ≤ 2 ^ 8 := Nat.pow_le_pow_right (by decide) (by unfold clN8; omega)
          have := Int.ofNat_le.mpr this
          rw [Int.natCast_pow, Int.natCast_pow] at this
          exact this
        rw [p28] at h9
        omega
    · exfalso; omega
  | succ m ih =>
    intro i J h1 hJ
    obtain ⟨j0, ⟨j1, j2⟩, j3, j4, j5⟩ := id hJ
    refine x_iload_n (pc := 23) rfl d58_23 ?_
    refine x_aload_n (pc := 24) rfl d58_24 ?_
    refine m_getI (pc := 25) (z := 2) f58_30 (by decide +kernel) rfl (ko11 (by omega)) d58_25 ?_
    refine x_val (pc := 28) (w := (n : Int)) (j1) ?_
    refine x_icmp_ge (pc := 28) (tgt := 70) ⟨by omega, by omega⟩ ⟨by omega, by omega⟩ d58_28 (by decide) (fun g28 => ?_) (fun g28 => ?_)
    · refine x_vret (pc := 70) rfl (fun _ => rfl) d58_70 ?_
      exfalso; omega
    · refine x_iload_n (pc := 31) rfl d58_31 ?_
      refine x_bipush (pc := 32) (by decide) d58_32 ?_
      refine x_icmp_ge (pc := 34) (tgt := 70) ⟨by omega, by omega⟩ ⟨by omega, by omega⟩ d58_34 (by decide) (fun g34 => ?_) (fun g34 => ?_)
      · refine x_vret (pc := 70) rfl (fun _ => rfl) d58_70 ?_
        exfalso; omega
      · refine x_aload_n (pc := 37) rfl d58_37 ?_
        refine m_getR (pc := 38) f58_15 (by decide +kernel) (ko11 (by omega)) rr11_1 d58_38 ?_
        refine x_iload_n (pc := 41) rfl d58_41 ?_
        refine x_bipush (pc := 42) (by decide) d58_42 ?_
        refine x_idiv (pc := 44) (by omega) (by omega) (by omega) (by omega) d58_44 ?_
        refine x_aload_n (pc := 45) rfl d58_45 ?_
        refine m_getR (pc := 46) f58_15 (by decide +kernel) (ko11 (by omega)) rr11_1 d58_46 ?_
        refine x_iload_n (pc := 49) rfl d58_49 ?_
        refine x_bipush (pc := 50) (by decide) d58_50 ?_
        refine x_idiv (pc := 52) (by omega) (by omega) (by omega) (by omega) d58_52 ?_
        refine m_iald (pc := 53) (ka13 (by omega)) (by omega) (by omega) (by omega) d58_53 ?_
        refine x_iconst (pc := 54) d58_54 ?_
        refine x_imul (pc := 55) d58_55 ?_
        refine x_aload_n (pc := 56) rfl d58_56 ?_
        refine x_iload_n (pc := 57) rfl d58_57 ?_
        refine x_iload_n (pc := 58) rfl d58_58 ?_
        refine x_cVs (pc := 59) c58_62 (dt_takenBit hl hq (n := n) (cb := cb) ⟨j1, j2⟩ (by omega) (b := i) (dr := dr) (by omega) (by omega) (by omega) (by omega) (by omega)) (ko11 (by omega)) rfl rfl (Nat.le_of_ble_eq_true rfl) (by decide +kernel) (by decide +kernel) rfl d58_59 ?_
        refine x_iadd (pc := 62) d58_62 ?_
        refine m_iast (pc := 63) (ka13 (by omega)) (by omega) (by omega) (by omega) d58_63 ?_
        refine x_iinc (pc := 64) rfl (by decide +kernel) rfl d58_64 ?_
        dsimp only [List.set]
        refine x_goto (pc := 67) (tgt := 23) d58_67 (by decide) ?_
        exact ih (i + 1) _ (by omega) (tak_step hJ (by omega))
/-- take -/
theorem ct_take (hl : l.1.stackTraces = false) (hq : 181 ≤ q) {n : Nat} {cb : Int → Int} (hcb : ∀ b, cb b = 0 ∨ cb b = 1) (hn : n ≤ 48) {dr : Int} (h2 : -99 ≤ dr) (h3 : dr ≤ 99) (hC : CabI I n cb) : CT l 58 [.ref 11, .int (iI dr)] (mm q I v fr) 0 0 (oE q v fr none (fun K => GotI I K n cb (takZ cb n dr))) := by
  refine mkct2 hl (by decide) (Nat.le_of_ble_eq_true rfl) (L := [some (.ref 11), some (.int (iI dr)), none]) rfl ?_
  refine x_iconst (pc := 0) d58_0 ?_
  refine x_istore_n (pc := 1) (by decide +kernel) rfl d58_1 ?_
  dsimp only [List.set]
  refine lp_take0 hl hq 6 0 I rfl (fun _ _ => rfl) (fun k h0 h1 => by omega) (fun J hJ hz => ?_)
  refine lp_take hl hq hcb hn h2 h3 n 0 J (by omega) ⟨fun a _ _ h9 => hJ a h9, ⟨by rw [hJ 11 (by decide)]; exact hC.1, by rw [hJ 12 (by decide)]; exact hC.2⟩, by rw [hJ 11 (by decide)], by rw [hJ 11 (by decide)], fun k hk hk2 => ?_⟩
  rw [hz k hk hk2, show clN8 0 k = 0 from by unfold clN8; omega]
  rfl
end Take
end
section
/-! ===== Sending: readable, send, takeInverted ===== -/
section Read
variable {l : LX} {q p : Nat} {I : Nat → Int → Int} {v : Int} {fr : Bool}
/-- readable -/
theorem dt_readable (hl : l.1.stackTraces = false) (hq : 181 ≤ q) {n : Nat} (h1 : 3 ≤ n) (h2 : n ≤ 6) {B : Int → Int} (hn : I 11 2 = 8 * n) (hB : ∀ k : Int, 0 ≤ k → k < n → I 13 k = B k) (hB2 : ∀ k : Int, 0 ≤ k → k < 6 → 0 ≤ I 13 k ∧ I 13 k ≤ 255) : DT l 60 [.ref 11] (mm q I v fr) 0 0 (.inl (some (.int (iI (b01 (readZ B n))))), mm q I v fr) := by
  have e1 := crcF_b (B := fun k => I 13 (0 + k)) (n - 1) (fun j hj hj2 => hB2 (0 + j) (by omega) (by omega))
  have e2 := hB2 ((n : Int) - 1) (by omega) (by omega)
  have e3 := hB2 0 (by omega) (by omega)
  have e4 : crcF (fun k => I 13 (0 + k)) (n - 1) = crcF B (n - 1) := crcF_congr _ (fun i hi hi2 => by rw [Int.zero_add]; exact hB i hi (by omega))
  refine mkdt hl (by decide) (Nat.le_of_ble_eq_true rfl) (L := [some (.ref 11), none]) rfl ?_
  refine x_aload_n (pc := 0) rfl d60_0 ?_
  refine m_getI (pc := 1) (z := 2) f60_30 (by decide +kernel) rfl (ko11 (by omega)) d60_1 ?_
  refine x_val (pc := 4) (w := (8 * (n : Int))) (hn) ?_
  refine x_bipush (pc := 4) (by decide) d60_4 ?_
  refine x_idiv (pc := 6) (by omega) (by omega) (by omega) (by omega) d60_6 ?_
  refine x_iconst (pc := 7) d60_7 ?_
  refine x_isub (pc := 8) d60_8 ?_
  refine x_val (pc := 9) (w := ((n : Int) - 1)) (by omega) ?_
  refine x_istore_n (pc := 9) (by decide +kernel) rfl d60_9 ?_
  dsimp only [List.set]
  refine x_iload_n (pc := 10) rfl d60_10 ?_
  refine x_if_lt (pc := 11) (tgt := 57) ⟨by omega, by omega⟩ d60_11 (by decide) (fun g11 => ?_) (fun g11 => ?_)
  · refine x_iconst (pc := 57) d60_57 ?_
    refine x_zret (pc := 58) rfl (Or.inl rfl) (fun _ => rfl) d60_58 ?_
    exfalso; omega
  · refine x_iload_n (pc := 14) rfl d60_14 ?_
    refine x_bipush (pc := 15) (by decide) d60_15 ?_
    refine x_icmp_ge (pc := 17) (tgt := 57) ⟨by omega, by omega⟩ ⟨by omega, by omega⟩ d60_17 (by decide) (fun g17 => ?_) (fun g17 => ?_)
    · refine x_iconst (pc := 57) d60_57 ?_
      refine x_zret (pc := 58) rfl (Or.inl rfl) (fun _ => rfl) d60_58 ?_
      exfalso; omega
    · refine x_aload_n (pc := 20) rfl d60_20 ?_
      refine m_getR (pc := 21) f60_15 (by decide +kernel) (ko11 (by omega)) rr11_1 d60_21 ?_
      refine x_iload_n (pc := 24) rfl d60_24 ?_
      refine m_iald (pc := 25) (ka13 (by omega)) (by omega) (by omega) (by omega) d60_25 ?_
      refine x_aload_n (pc := 26) rfl d60_26 ?_
      refine m_getR (pc := 27) f60_15 (by decide +kernel) (ko11 (by omega)) rr11_1 d60_27 ?_
      refine x_iconst (pc := 30) d60_30 ?_
      refine x_iload_n (pc := 31) rfl d60_31 ?_
      refine x_cSNs (pc := 32) c60_69 (dt_sum hl (m0 := 6) ⟨by omega, by decide +kernel⟩ (by decide) (fm := 0) (to := (n : Int) - 1) (by omega) (by omega) (by omega) (fun j hj hj2 => hB2 j (by omega) (by omega))) rfl rfl (Nat.le_of_ble_eq_true rfl) (by decide +kernel) (by decide +kernel) rfl d60_32 ?_
      refine x_val (pc := 35) (w := (crcF B (n - 1))) (by rw [show ((n : Int) - 1 - 0).toNat = n - 1 from by omega]; exact e4) ?_
      rw [e4] at e1
      refine x_icmp_ne (pc := 35) (tgt := 57) ⟨by omega, by omega⟩ ⟨by omega, by omega⟩ d60_35 (by decide) (fun g35 => ?_) (fun g35 => ?_)
      · refine x_iconst (pc := 57) d60_57 ?_
        refine x_zret (pc := 58) rfl (Or.inl rfl) (fun _ => rfl) d60_58 ?_
        rw [show readZ B n = false from ?_]; rfl
        unfold readZ
        rw [decide_eq_false (by rw [← hB _ (by omega) (by omega)]; exact g35), Bool.false_and]
      · refine x_aload_n (pc := 38) rfl d60_38 ?_
        refine m_getR (pc := 39) f60_15 (by decide +kernel) (ko11 (by omega)) rr11_1 d60_39 ?_
        refine x_iconst (pc := 42) d60_42 ?_
        refine m_iald (pc := 43) (ka13 (by omega)) (by omega) (by omega) (by omega) d60_43 ?_
        refine x_bipush (pc := 44) (by decide) d60_44 ?_
        refine x_iand (pc := 46) (iI_and4 _) d60_46 ?_
        refine x_iload_n (pc := 47) rfl d60_47 ?_
        refine x_iconst (pc := 48) d60_48 ?_
        refine x_isub (pc := 49) d60_49 ?_
        refine x_icmp_ne (pc := 50) (tgt := 57) ⟨by omega, by omega⟩ ⟨by omega, by omega⟩ d60_50 (by decide) (fun g50 => ?_) (fun g50 => ?_)
        · refine x_iconst (pc := 57) d60_57 ?_
          refine x_zret (pc := 58) rfl (Or.inl rfl) (fun _ => rfl) d60_58 ?_
          rw [show readZ B n = false from ?_]; rfl
          unfold readZ
          rw [decide_eq_false (p := B 0 % 16 = _) (by rw [← hB 0 (by omega) (by omega)]; omega), Bool.and_false]
        · refine x_iconst (pc := 53) d60_53 ?_
          refine x_goto (pc := 54) (tgt := 58) d60_54 (by decide) ?_
          refine x_zret (pc := 58) rfl (Or.inr rfl) (fun _ => rfl) d60_58 ?_
          rw [show readZ B n = true from ?_]; rfl
          unfold readZ
          rw [decide_eq_true (by rw [← hB _ (by omega) (by omega)]; exact g35), decide_eq_true (p := B 0 % 16 = _) (by rw [← hB 0 (by omega) (by omega)]; omega)]
          rfl
/-- what send leaves: the bits' number, the bytes taken -/
def SndI (I K : Nat → Int → Int) (p : Nat) (f t bt dr : Int) : Prop := offC I K ∧ K 11 2 = I (p + 8) f * 8 ∧ (∀ k : Int, 0 ≤ k → k < I (p + 8) f → K 13 k = byteZ (takZ (cabF I p f t bt) (I (p + 8) f * 8) dr) k) ∧ ∀ k : Int, 0 ≤ k → k < 6 → 0 ≤ K 13 k ∧ K 13 k ≤ 255
def resF (I : Nat → Int → Int) (p : Nat) (f t bt dr : Int) : Int := resZ (Sf I p f) (I (p + 8) f).toNat (chF I p t bt) dr
theorem ack_no {ch : Int → Bool} {n : Int} {i : Nat} (hi : 8 ≤ i) (h : ∀ j : Nat, j < i → ch (n + j) = false) : ackZ ch n = false := by
  unfold ackZ
  rw [List.any_eq_false]
  intro j hj
  rw [h j (by have := List.mem_range.mp hj; omega)]
  decide
theorem ack_yes {ch : Int → Bool} {n : Int} {i : Nat} (hi : i < 8) (h : ch (n + i) = true) : ackZ ch n = true := by
  unfold ackZ
  rw [List.any_eq_true]
  exact ⟨i, List.mem_range.mpr hi, h⟩
theorem lp_ack (hl : l.1.stackTraces = false) (hq : 181 ≤ q) (hp : LineAt q p) (hD : DogsOK I p) {f t bt n : Int} {P : (Nat → Int → Int) → Prop} (ht : 0 ≤ t) (ht2 : t ≤ 50000000) (hb1 : 1 ≤ bt) (hb2 : bt ≤ 9) (hn : 0 ≤ n) (hn2 : n ≤ 48) {K : Nat → Int → Int} (j0 : offC I K) (hK : K 11 2 = n) (hP : P K) : ∀ (m i : Nat), m + i = 8 → (∀ j : Nat, j < i → chF I p t bt (n + j) = false) →
    Ex l 61 0 0 32 [some (.ref 11), some (.ref p), none, some (.int (iI t)), some (.int (iI bt)), some (.int (iI (n + i)))] [] (mm q K v fr) (oE q v fr (some (.int (iI (if ackZ (chF I p t bt) n then 2 else 0)))) P) := by
  have hpb := hp.b
  intro m
  induction m with
  | zero =>
    intro i h1 hno
    refine x_iload (pc := 32) rfl d61_32 ?_
    refine x_aload_n (pc := 34) rfl d61_34 ?_
    refine m_getI (pc := 35) (z := 2) f61_30 (by decide +kernel) rfl (ko11 (by omega)) d61_35 ?_
    refine x_val (pc := 38) (w := n) (hK) ?_
    refine x_bipush (pc := 38) (by decide) d61_38 ?_
    refine x_iadd (pc := 40) d61_40 ?_
    refine x_icmp_ge (pc := 41) (tgt := 69) ⟨by omega, by omega⟩ ⟨by omega, by omega⟩ d61_41 (by decide) (fun g41 => ?_) (fun g41 => ?_)
    · refine x_iconst (pc := 69) d61_69 ?_
      refine x_iret (pc := 70) rfl (fun _ => rfl) d61_70 ?_
      rw [ack_no (by omega) hno]; exact ⟨K, rfl, hP⟩
    · exfalso; omega
  | succ m ih =>
    intro i h1 hno
    have hm0 : 0 ≤ (n + i) * bt := Int.mul_nonneg (by omega) (by omega)
    have hm1 : (n + i) * bt ≤ 56 * 9 := Int.mul_le_mul (by omega) (by omega) (by omega) (by omega)
    refine x_iload (pc := 32) rfl d61_32 ?_
    refine x_aload_n (pc := 34) rfl d61_34 ?_
    refine m_getI (pc := 35) (z := 2) f61_30 (by decide +kernel) rfl (ko11 (by omega)) d61_35 ?_
    refine x_val (pc := 38) (w := n) (hK) ?_
    refine x_bipush (pc := 38) (by decide) d61_38 ?_
    refine x_iadd (pc := 40) d61_40 ?_
    refine x_icmp_ge (pc := 41) (tgt := 69) ⟨by omega, by omega⟩ ⟨by omega, by omega⟩ d61_41 (by decide) (fun g41 => ?_) (fun g41 => ?_)
    · refine x_iconst (pc := 69) d61_69 ?_
      refine x_iret (pc := 70) rfl (fun _ => rfl) d61_70 ?_
      exfalso; omega
    · refine x_aload_n (pc := 44) rfl d61_44 ?_
      refine m_getR (pc := 45) f61_44 (by decide +kernel) hp.o0 hp.r0_10 d61_45 ?_
      refine x_iload_n (pc := 48) rfl d61_48 ?_
      refine x_iload (pc := 49) rfl d61_49 ?_
      refine x_iload (pc := 51) rfl d61_51 ?_
      refine x_imul (pc := 53) d61_53 ?_
      refine x_iadd (pc := 54) d61_54 ?_
      refine x_cVs (pc := 55) c61_48 (dt_chewJ hl hp hD j0 (t := (t + ((n + i) * bt))) (by omega) (by omega)) hp.o3 rfl rfl (Nat.le_of_ble_eq_true rfl) (by decide +kernel) (by decide +kernel) rfl d61_55 ?_
      refine x_ifB_eq (pc := 58) (tgt := 63) d61_58 (by decide) (fun g58 => ?_) (fun g58 => ?_)
      · refine x_iinc (pc := 63) rfl (by decide +kernel) rfl d61_63 ?_
        dsimp only [List.set]
        refine x_goto (pc := 66) (tgt := 32) d61_66 (by decide) ?_
        rw [show n + (i : Int) + 1 = n + ((i + 1 : Nat) : Int) from by omega]
        refine ih (i + 1) (by omega) (fun j hj => ?_)
        by_cases e : j = i
        · rw [e]; exact g58
        · exact hno j (by omega)
      · refine x_iconst (pc := 61) d61_61 ?_
        refine x_iret (pc := 62) rfl (fun _ => rfl) d61_62 ?_
        rw [ack_yes (i := i) (by omega) g58]; exact ⟨K, rfl, hP⟩
/-- send -/
theorem ct_send (hl : l.1.stackTraces = false) (hq : 181 ≤ q) (hp : LineAt q p) (hD : DogsOK I p) (hF : FramesOK I p) {J0 : Nat → Int → Int} (hJ0 : offC I J0) {f t bt : Int} (h0 : 0 ≤ f) (h1 : f < I (p + 7) 0) (ht : 0 ≤ t) (ht2 : t ≤ 50000000) (hb1 : 1 ≤ bt) (hb2 : bt ≤ 9) (hd0 : -99 ≤ I p 1) (hd1 : I p 1 ≤ 99) : CT l 61 [.ref 11, .ref p, .int (iI f), .int (iI t), .int (iI bt)] (mm q J0 v fr) 0 0 (oE q v fr (some (.int (iI (resF I p f t bt (I p 1))))) (fun K => SndI I K p f t bt (I p 1))) := by
  have hpb := hp.b
  have hc := hF.1
  have hf := hF.2.1 f h0 h1
  refine mkct2 hl (by decide) (Nat.le_of_ble_eq_true rfl) (L := [some (.ref 11), some (.ref p), some (.int (iI f)), some (.int (iI t)), some (.int (iI bt)), none]) rfl ?_
  refine x_aload_n (pc := 0) rfl d61_0 ?_
  refine x_aload_n (pc := 1) rfl d61_1 ?_
  refine x_iload_n (pc := 2) rfl d61_2 ?_
  refine x_iload_n (pc := 3) rfl d61_3 ?_
  refine x_iload (pc := 4) rfl d61_4 ?_
  refine x_cVev (pc := 6) c61_73 (ct_put hl hq hp hD hF hJ0 h0 h1 ht ht2 hb1 hb2) (ko11 (by omega)) rfl rfl (Nat.le_of_ble_eq_true rfl) (by decide +kernel) (by decide +kernel) d61_6 (fun J1 hJ1 => ?_)
  obtain ⟨a0, a1, a2, a3, a4⟩ := hJ1
  have hC1 : CabI J1 ((I (p + 8) f * 8).toNat : Int) (cabF I p f t bt) := ⟨by rw [a1]; omega, a4⟩
  refine x_aload_n (pc := 9) rfl d61_9 ?_
  refine x_aload_n (pc := 10) rfl d61_10 ?_
  refine m_getI (pc := 11) (z := 1) f61_77 (by decide +kernel) rfl hp.o0 d61_11 ?_
  refine x_val (pc := 14) (w := (I p 1)) (by rw [a0 p (by omega) (by omega) (by omega)]) ?_
  refine x_cVev (pc := 14) c61_65 (ct_take hl hq (n := (I (p + 8) f * 8).toNat) (cb := cabF I p f t bt) (cabZ_r _ _) (by omega) (dr := I p 1) hd0 hd1 hC1) (ko11 (by omega)) rfl rfl (Nat.le_of_ble_eq_true rfl) (by decide +kernel) (by decide +kernel) d61_14 (fun J2 hJ2 => ?_)
  obtain ⟨b0, ⟨b1, b2⟩, b3, b4, b5, b6⟩ := hJ2
  have e8 : ((I (p + 8) f * 8).toNat : Int) = I (p + 8) f * 8 := by omega
  rw [e8] at b1 b2 b5
  have hn2 : J2 11 2 = 8 * (((I (p + 8) f).toNat : Nat) : Int) := by rw [b1]; omega
  have hB : ∀ k : Int, 0 ≤ k → k < ((I (p + 8) f).toNat : Nat) → J2 13 k = byteZ (takZ (cabF I p f t bt) (I (p + 8) f * 8) (I p 1)) k := fun k hk hk2 => b5 k hk (by omega)
  have hB2 := b6
  have hS : SndI I J2 p f t bt (I p 1) := ⟨a0.trans b0, b1, fun k hk hk2 => b5 k hk (by omega), b6⟩
  have e7 : resF I p f t bt (I p 1) = if readZ (byteZ (takZ (cabF I p f t bt) (I (p + 8) f * 8) (I p 1))) (I (p + 8) f).toNat then (if ackZ (chF I p t bt) (I (p + 8) f * 8) then 2 else 0) else 1 := by unfold resF resZ; rw [show 8 * (((I (p + 8) f).toNat : Nat) : Int) = I (p + 8) f * 8 from by omega]; rfl
  rw [e7]
  refine x_aload_n (pc := 17) rfl d61_17 ?_
  refine x_cVs (pc := 18) c61_80 (dt_readable hl hq (n := (I (p + 8) f).toNat) (B := byteZ (takZ (cabF I p f t bt) (I (p + 8) f * 8) (I p 1))) (by omega) (by omega) hn2 hB hB2) (ko11 (by omega)) rfl rfl (Nat.le_of_ble_eq_true rfl) (by decide +kernel) (by decide +kernel) rfl d61_18 ?_
  refine x_ifB_ne (pc := 21) (tgt := 26) d61_21 (by decide) (fun g21 => ?_) (fun g21 => ?_)
  · refine x_aload_n (pc := 26) rfl d61_26 ?_
    refine m_getI (pc := 27) (z := 2) f61_30 (by decide +kernel) rfl (ko11 (by omega)) d61_27 ?_
    refine x_val (pc := 30) (w := (I (p + 8) f * 8 + ((0 : Nat) : Int))) (by rw [b1]; omega) ?_
    refine x_istore (pc := 30) (by decide +kernel) rfl d61_30 ?_
    dsimp only [List.set]
    refine x_mask [true, true, false, true, true, true] ?_
    dsimp only [mask]
    rw [if_pos g21]
    exact lp_ack hl hq hp hD ht ht2 hb1 hb2 (f := f) (by omega) (by omega) (a0.trans b0) b1 hS 8 0 rfl (fun j hj => absurd hj (Nat.not_lt_zero _))
  · refine x_iconst (pc := 24) d61_24 ?_
    refine x_iret (pc := 25) rfl (fun _ => rfl) d61_25 ?_
    rw [g21]; exact ⟨_, rfl, hS⟩
end Read
end
section
/-! ===== the abstract state of a modem, and how a line of the class shows it ===== -/
abbrev AV : Type := Nat → Int → Int
/-- the scalars of line p by the reference's numbers: where each lies, and what is added -/
def sO (i : Nat) : Nat := [0, 0, 0, 0, 3, 0, 7, 0, 0, 0, 14, 14, 14, 14, 14, 14, 14, 14].getD i 0
def sJ (i : Nat) : Int := [0, 1, 2, 3, 0, 7, 0, 4, 5, 6, 0, 1, 2, 3, 4, 7, 5, 8].getD i 0
def sC (i : Nat) : Int := if i = 9 then 1 else 0
def scalC (I : Nat → Int → Int) (p : Nat) (i : Int) : Int := if 0 ≤ i ∧ i < 18 then I (p + sO i.toNat) (sJ i.toNat) + sC i.toNat else 0
theorem sO_le : ∀ n : Fin 18, sO n ≤ 14 := by decide +kernel
theorem s_inj : ∀ a : Fin 18, ∀ b : Fin 18, sO a = sO b → sJ a = sJ b → a = b := by decide +kernel
theorem scal_up {I : Nat → Int → Int} {p n : Nat} {z : Int} (hn : n < 18) (i : Int) : scalC (up2 I (p + sO n) (sJ n) z) p i = if i = n then z + sC n else scalC I p i := by
  unfold scalC
  by_cases h : 0 ≤ i ∧ i < 18
  · rw [if_pos h, if_pos h]
    by_cases e : i = n
    · subst e
      rw [if_pos rfl, show ((n : Int)).toNat = n from by omega, up2_s]
    · rw [if_neg e]
      congr 1
      refine if_neg fun hh => e ?_
      have := s_inj ⟨i.toNat, by omega⟩ ⟨n, hn⟩ (by have := hh.1; show sO i.toNat = sO n; omega) hh.2
      have e2 : i.toNat = n := congrArg Fin.val this
      omega
  · rw [if_neg h, if_neg h, if_neg (by omega)]
theorem scal_off {I J : Nat → Int → Int} {p : Nat} (h : ∀ n : Fin 18, J (p + sO n) = I (p + sO n)) {i : Int} : scalC J p i = scalC I p i := by
  unfold scalC
  by_cases hi : 0 ≤ i ∧ i < 18
  · rw [if_pos hi, if_pos hi, h ⟨i.toNat, by omega⟩]
  · rw [if_neg hi, if_neg hi]
/-- an entry of a row of n -/
def ent (n : Int) (g : Int → Int) (i : Int) : Int := if 0 ≤ i ∧ i < n then g i else 0
def flag (z : Int) : Int := if 0 < z then 1 else 0
/-- a byte of a frame: i = 6 * frame + place; only within the frame's size -/
def entB (n : Int) (Sz : Int → Int) (g : Int → Int) (i : Int) : Int := if 0 ≤ i ∧ i / 6 < n ∧ i % 6 < Sz (i / 6) then g i else 0
def Vc (I : Nat → Int → Int) (p : Nat) : AV := fun k i => match k with
  | 0 => scalC I p i
  | 1 => ent (I (p + 3) 0) (I (p + 4)) i
  | 2 => ent (I (p + 3) 0) (I (p + 5)) i
  | 3 => ent (I (p + 3) 0) (I (p + 6)) i
  | 4 => ent (I p 7) (I (p + 1)) i
  | 5 => ent (I p 7) (I (p + 2)) i
  | 6 => ent (I (p + 7) 0) (I (p + 8)) i
  | 7 => ent (I (p + 7) 0) (I (p + 9)) i
  | 8 => ent (I (p + 7) 0) (I (p + 10)) i
  | 9 => ent (I (p + 7) 0) (fun f => flag (I (p + 11) f)) i
  | 10 => entB (I (p + 7) 0) (I (p + 8)) (I (p + 12)) i
  | 11 => entB (I (p + 7) 0) (fun f => flag (I (p + 11) f) * I (p + 8) f) (I (p + 13)) i
  | _ => 0
theorem vc1 {I : Nat → Int → Int} {p : Nat} : Vc I p 1 = ent (I (p + 3) 0) (I (p + 4)) := rfl
theorem vc2 {I : Nat → Int → Int} {p : Nat} : Vc I p 2 = ent (I (p + 3) 0) (I (p + 5)) := rfl
theorem vc3 {I : Nat → Int → Int} {p : Nat} : Vc I p 3 = ent (I (p + 3) 0) (I (p + 6)) := rfl
theorem vc4 {I : Nat → Int → Int} {p : Nat} : Vc I p 4 = ent (I p 7) (I (p + 1)) := rfl
theorem vc5 {I : Nat → Int → Int} {p : Nat} : Vc I p 5 = ent (I p 7) (I (p + 2)) := rfl
theorem vc6 {I : Nat → Int → Int} {p : Nat} : Vc I p 6 = ent (I (p + 7) 0) (I (p + 8)) := rfl
theorem vc7 {I : Nat → Int → Int} {p : Nat} : Vc I p 7 = ent (I (p + 7) 0) (I (p + 9)) := rfl
theorem vc8 {I : Nat → Int → Int} {p : Nat} : Vc I p 8 = ent (I (p + 7) 0) (I (p + 10)) := rfl
theorem vc9 {I : Nat → Int → Int} {p : Nat} : Vc I p 9 = ent (I (p + 7) 0) (fun f => flag (I (p + 11) f)) := rfl
theorem vc10 {I : Nat → Int → Int} {p : Nat} : Vc I p 10 = entB (I (p + 7) 0) (I (p + 8)) (I (p + 12)) := rfl
theorem vc11 {I : Nat → Int → Int} {p : Nat} : Vc I p 11 = entB (I (p + 7) 0) (fun f => flag (I (p + 11) f) * I (p + 8) f) (I (p + 13)) := rfl
theorem ent_in {n : Int} {g : Int → Int} {i : Int} (h0 : 0 ≤ i) (h1 : i < n) : ent n g i = g i := if_pos ⟨h0, h1⟩
theorem entB_pos {n : Int} {Sz g : Int → Int} {i : Int} (h0 : 0 ≤ i) (h1 : i / 6 < n) (h2 : i % 6 < Sz (i / 6)) : entB n Sz g i = g i := if_pos ⟨h0, h1, h2⟩
theorem entB_neg {n : Int} {Sz g : Int → Int} {i : Int} (h : ¬ (0 ≤ i ∧ i / 6 < n ∧ i % 6 < Sz (i / 6))) : entB n Sz g i = 0 := if_neg h
theorem flag_r (z : Int) : flag z = 0 ∨ flag z = 1 := by unfold flag; split; exact Or.inr rfl; exact Or.inl rfl
theorem ent_congr {n : Int} {g h : Int → Int} (e : ∀ i, 0 ≤ i → i < n → g i = h i) : ent n g = ent n h := by
  funext i
  unfold ent
  split
  · rename_i hh; exact e i hh.1 hh.2
  · rfl
theorem ent_up {n : Int} {g : Int → Int} {j z : Int} (h0 : 0 ≤ j) (h1 : j < n) (i : Int) : ent n (fun b => if b = j then z else g b) i = if i = j then z else ent n g i := by
  unfold ent
  by_cases e : i = j
  · rw [if_pos e, if_pos (by omega)]
    exact if_pos e
  · rw [if_neg e]
    split
    · exact if_neg e
    · rfl
theorem up2_at (I : Nat → Int → Int) (k : Nat) (j z : Int) : up2 I k j z k = fun b => if b = j then z else I k b := by
  funext b
  unfold up2
  by_cases h : b = j
  · rw [if_pos ⟨rfl, h⟩, if_pos h]
  · rw [if_neg (fun z => h z.2), if_neg h]
theorem up2_off' (I : Nat → Int → Int) {k a : Nat} (j z : Int) (h : a ≠ k) : up2 I k j z a = I a := funext fun b => up2_p h
/-- the view depends on the line's own places alone -/
theorem vc_congr {I J : Nat → Int → Int} {p : Nat} (h : ∀ a, p ≤ a → a ≤ p + 14 → J a = I a) : Vc J p = Vc I p := by
  have hs : ∀ i, scalC J p i = scalC I p i := fun i => scal_off fun n => h _ (by omega) (by have := sO_le n; omega)
  funext k i
  unfold Vc
  rw [hs, h p (by omega) (by omega), h (p + 1) (by omega) (by omega), h (p + 2) (by omega) (by omega), h (p + 3) (by omega) (by omega), h (p + 4) (by omega) (by omega), h (p + 5) (by omega) (by omega), h (p + 6) (by omega) (by omega), h (p + 7) (by omega) (by omega), h (p + 8) (by omega) (by omega), h (p + 9) (by omega) (by omega), h (p + 10) (by omega) (by omega), h (p + 11) (by omega) (by omega), h (p + 12) (by omega) (by omega), h (p + 13) (by omega) (by omega)]
theorem vc_off {I J : Nat → Int → Int} {p : Nat} (h : offC I J) (hp : 16 ≤ p) : Vc J p = Vc I p := vc_congr fun a h0 _ => h a (by omega) (by omega) (by omega)
theorem vc_out {I : Nat → Int → Int} {p k : Nat} {j z : Int} (hk : k < p ∨ p + 14 < k) : Vc (up2 I k j z) p = Vc I p := vc_congr fun a h0 h1 => up2_off' I j z (by omega)
theorem sO_out : ∀ n : Fin 18, sO n ≠ 1 ∧ sO n ≠ 2 ∧ sO n ≠ 4 ∧ sO n ≠ 5 ∧ sO n ≠ 6 ∧ sO n ≠ 8 ∧ sO n ≠ 9 ∧ sO n ≠ 10 ∧ sO n ≠ 11 ∧ sO n ≠ 12 ∧ sO n ≠ 13 := by decide +kernel
theorem s_cnt : ∀ n : Fin 18, n.val ≠ 4 → n.val ≠ 5 → n.val ≠ 6 → ¬ (sO n = 3 ∧ sJ n = 0) ∧ ¬ (sO n = 0 ∧ sJ n = 7) ∧ ¬ (sO n = 7 ∧ sJ n = 0) := by decide +kernel
theorem vc_w {I : Nat → Int → Int} {p : Nat} (n : Nat) {z : Int} (hn : n < 18) (h4 : n ≠ 4) (h5 : n ≠ 5) (h6 : n ≠ 6) : Vc (up2 I (p + sO n) (sJ n) z) p = up2 (Vc I p) 0 n (z + sC n) := by
  have ho := sO_out ⟨n, hn⟩
  have hc := s_cnt ⟨n, hn⟩ h4 h5 h6
  have h : ∀ o, sO n ≠ o → up2 I (p + sO n) (sJ n) z (p + o) = I (p + o) := fun o h => up2_off' I _ z (by omega)
  funext k i
  by_cases hk : k = 0
  · subst hk
    rw [up2_at]
    exact scal_up hn i
  · rw [up2_off' _ _ _ hk]
    have e3 : up2 I (p + sO n) (sJ n) z (p + 3) 0 = I (p + 3) 0 := if_neg fun q => hc.1 ⟨by have := q.1; show sO n = 3; omega, q.2.symm⟩
    have e0 : up2 I (p + sO n) (sJ n) z p 7 = I p 7 := if_neg fun q => hc.2.1 ⟨by have := q.1; show sO n = 0; omega, q.2.symm⟩
    have e7 : up2 I (p + sO n) (sJ n) z (p + 7) 0 = I (p + 7) 0 := if_neg fun q => hc.2.2 ⟨by have := q.1; show sO n = 7; omega, q.2.symm⟩
    unfold Vc
    rw [e3, e0, e7, h 1 ho.1, h 2 ho.2.1, h 4 ho.2.2.1, h 5 ho.2.2.2.1, h 6 ho.2.2.2.2.1, h 8 ho.2.2.2.2.2.1, h 9 ho.2.2.2.2.2.2.1, h 10 ho.2.2.2.2.2.2.2.1, h 11 ho.2.2.2.2.2.2.2.2.1, h 12 ho.2.2.2.2.2.2.2.2.2.1, h 13 ho.2.2.2.2.2.2.2.2.2.2]
    match k, hk with
    | 0, hk => exact absurd rfl hk
    | 1, _ | 2, _ | 3, _ | 4, _ | 5, _ | 6, _ | 7, _ | 8, _ | 9, _ | 10, _ | 11, _ => rfl
    | k + 12, _ => rfl
/-- the counter that the view doesn't show -/
theorem s_b : ∀ n : Fin 18, ¬ (sO n = 14 ∧ sJ n = 6) := by decide +kernel
theorem vc_b {I : Nat → Int → Int} {p : Nat} {z : Int} : Vc (up2 I (p + 14) 6 z) p = Vc I p := by
  have h : ∀ a, a ≠ p + 14 → up2 I (p + 14) 6 z a = I a := fun a ha => up2_off' I 6 z ha
  funext k i
  by_cases hk : k = 0
  · subst hk
    show scalC _ p i = scalC _ p i
    unfold scalC
    by_cases hi : 0 ≤ i ∧ i < 18
    · rw [if_pos hi, if_pos hi]
      congr 1
      exact if_neg fun q => s_b ⟨i.toNat, by omega⟩ ⟨by have := q.1; show sO i.toNat = 14; omega, q.2⟩
    · rw [if_neg hi, if_neg hi]
  · unfold Vc
    rw [h p (by omega), h (p + 1) (by omega), h (p + 2) (by omega), h (p + 3) (by omega), h (p + 4) (by omega), h (p + 5) (by omega), h (p + 6) (by omega), h (p + 7) (by omega), h (p + 8) (by omega), h (p + 9) (by omega), h (p + 10) (by omega), h (p + 11) (by omega), h (p + 12) (by omega), h (p + 13) (by omega)]
    match k, hk with
    | 0, hk => exact absurd rfl hk
    | 1, _ | 2, _ | 3, _ | 4, _ | 5, _ | 6, _ | 7, _ | 8, _ | 9, _ | 10, _ | 11, _ => rfl
    | k + 12, _ => rfl
theorem vw0 {I : Nat → Int → Int} {p : Nat} {z : Int} : Vc (up2 I (p) 0 z) p = up2 (Vc I p) 0 0 (z) := by
  have h := vc_w (I := I) (p := p) 0 (z := z) (by decide) (by decide) (by decide) (by decide)
  rw [show sC 0 = 0 from rfl, Int.add_zero] at h
  exact h
theorem vw1 {I : Nat → Int → Int} {p : Nat} {z : Int} : Vc (up2 I (p) 1 z) p = up2 (Vc I p) 0 1 (z) := by
  have h := vc_w (I := I) (p := p) 1 (z := z) (by decide) (by decide) (by decide) (by decide)
  rw [show sC 1 = 0 from rfl, Int.add_zero] at h
  exact h
theorem vw2 {I : Nat → Int → Int} {p : Nat} {z : Int} : Vc (up2 I (p) 2 z) p = up2 (Vc I p) 0 2 (z) := by
  have h := vc_w (I := I) (p := p) 2 (z := z) (by decide) (by decide) (by decide) (by decide)
  rw [show sC 2 = 0 from rfl, Int.add_zero] at h
  exact h
theorem vw3 {I : Nat → Int → Int} {p : Nat} {z : Int} : Vc (up2 I (p) 3 z) p = up2 (Vc I p) 0 3 (z) := by
  have h := vc_w (I := I) (p := p) 3 (z := z) (by decide) (by decide) (by decide) (by decide)
  rw [show sC 3 = 0 from rfl, Int.add_zero] at h
  exact h
theorem vw7 {I : Nat → Int → Int} {p : Nat} {z : Int} : Vc (up2 I (p) 4 z) p = up2 (Vc I p) 0 7 (z) := by
  have h := vc_w (I := I) (p := p) 7 (z := z) (by decide) (by decide) (by decide) (by decide)
  rw [show sC 7 = 0 from rfl, Int.add_zero] at h
  exact h
theorem vw8 {I : Nat → Int → Int} {p : Nat} {z : Int} : Vc (up2 I (p) 5 z) p = up2 (Vc I p) 0 8 (z) := by
  have h := vc_w (I := I) (p := p) 8 (z := z) (by decide) (by decide) (by decide) (by decide)
  rw [show sC 8 = 0 from rfl, Int.add_zero] at h
  exact h
theorem vw9 {I : Nat → Int → Int} {p : Nat} {z : Int} : Vc (up2 I (p) 6 z) p = up2 (Vc I p) 0 9 (z + 1) := by
  have h := vc_w (I := I) (p := p) 9 (z := z) (by decide) (by decide) (by decide) (by decide)
  exact h
theorem vw10 {I : Nat → Int → Int} {p : Nat} {z : Int} : Vc (up2 I (p + 14) 0 z) p = up2 (Vc I p) 0 10 (z) := by
  have h := vc_w (I := I) (p := p) 10 (z := z) (by decide) (by decide) (by decide) (by decide)
  rw [show sC 10 = 0 from rfl, Int.add_zero] at h
  exact h
theorem vw11 {I : Nat → Int → Int} {p : Nat} {z : Int} : Vc (up2 I (p + 14) 1 z) p = up2 (Vc I p) 0 11 (z) := by
  have h := vc_w (I := I) (p := p) 11 (z := z) (by decide) (by decide) (by decide) (by decide)
  rw [show sC 11 = 0 from rfl, Int.add_zero] at h
  exact h
theorem vw12 {I : Nat → Int → Int} {p : Nat} {z : Int} : Vc (up2 I (p + 14) 2 z) p = up2 (Vc I p) 0 12 (z) := by
  have h := vc_w (I := I) (p := p) 12 (z := z) (by decide) (by decide) (by decide) (by decide)
  rw [show sC 12 = 0 from rfl, Int.add_zero] at h
  exact h
theorem vw13 {I : Nat → Int → Int} {p : Nat} {z : Int} : Vc (up2 I (p + 14) 3 z) p = up2 (Vc I p) 0 13 (z) := by
  have h := vc_w (I := I) (p := p) 13 (z := z) (by decide) (by decide) (by decide) (by decide)
  rw [show sC 13 = 0 from rfl, Int.add_zero] at h
  exact h
theorem vw14 {I : Nat → Int → Int} {p : Nat} {z : Int} : Vc (up2 I (p + 14) 4 z) p = up2 (Vc I p) 0 14 (z) := by
  have h := vc_w (I := I) (p := p) 14 (z := z) (by decide) (by decide) (by decide) (by decide)
  rw [show sC 14 = 0 from rfl, Int.add_zero] at h
  exact h
theorem vw15 {I : Nat → Int → Int} {p : Nat} {z : Int} : Vc (up2 I (p + 14) 7 z) p = up2 (Vc I p) 0 15 (z) := by
  have h := vc_w (I := I) (p := p) 15 (z := z) (by decide) (by decide) (by decide) (by decide)
  rw [show sC 15 = 0 from rfl, Int.add_zero] at h
  exact h
theorem vw16 {I : Nat → Int → Int} {p : Nat} {z : Int} : Vc (up2 I (p + 14) 5 z) p = up2 (Vc I p) 0 16 (z) := by
  have h := vc_w (I := I) (p := p) 16 (z := z) (by decide) (by decide) (by decide) (by decide)
  rw [show sC 16 = 0 from rfl, Int.add_zero] at h
  exact h
theorem vw17 {I : Nat → Int → Int} {p : Nat} {z : Int} : Vc (up2 I (p + 14) 8 z) p = up2 (Vc I p) 0 17 (z) := by
  have h := vc_w (I := I) (p := p) 17 (z := z) (by decide) (by decide) (by decide) (by decide)
  rw [show sC 17 = 0 from rfl, Int.add_zero] at h
  exact h
theorem vr0 {I : Nat → Int → Int} {p : Nat} : Vc I p 0 0 = I (p) 0 := by
  show scalC I p 0 = _
  unfold scalC
  rw [if_pos (by decide)]
  exact Int.add_zero _
theorem vr1 {I : Nat → Int → Int} {p : Nat} : Vc I p 0 1 = I (p) 1 := by
  show scalC I p 1 = _
  unfold scalC
  rw [if_pos (by decide)]
  exact Int.add_zero _
theorem vr2 {I : Nat → Int → Int} {p : Nat} : Vc I p 0 2 = I (p) 2 := by
  show scalC I p 2 = _
  unfold scalC
  rw [if_pos (by decide)]
  exact Int.add_zero _
theorem vr3 {I : Nat → Int → Int} {p : Nat} : Vc I p 0 3 = I (p) 3 := by
  show scalC I p 3 = _
  unfold scalC
  rw [if_pos (by decide)]
  exact Int.add_zero _
theorem vr7 {I : Nat → Int → Int} {p : Nat} : Vc I p 0 7 = I (p) 4 := by
  show scalC I p 7 = _
  unfold scalC
  rw [if_pos (by decide)]
  exact Int.add_zero _
theorem vr8 {I : Nat → Int → Int} {p : Nat} : Vc I p 0 8 = I (p) 5 := by
  show scalC I p 8 = _
  unfold scalC
  rw [if_pos (by decide)]
  exact Int.add_zero _
theorem vr9 {I : Nat → Int → Int} {p : Nat} : Vc I p 0 9 = I (p) 6 + 1 := by
  show scalC I p 9 = _
  unfold scalC
  rw [if_pos (by decide)]
  rfl
theorem vr10 {I : Nat → Int → Int} {p : Nat} : Vc I p 0 10 = I (p + 14) 0 := by
  show scalC I p 10 = _
  unfold scalC
  rw [if_pos (by decide)]
  exact Int.add_zero _
theorem vr11 {I : Nat → Int → Int} {p : Nat} : Vc I p 0 11 = I (p + 14) 1 := by
  show scalC I p 11 = _
  unfold scalC
  rw [if_pos (by decide)]
  exact Int.add_zero _
theorem vr12 {I : Nat → Int → Int} {p : Nat} : Vc I p 0 12 = I (p + 14) 2 := by
  show scalC I p 12 = _
  unfold scalC
  rw [if_pos (by decide)]
  exact Int.add_zero _
theorem vr13 {I : Nat → Int → Int} {p : Nat} : Vc I p 0 13 = I (p + 14) 3 := by
  show scalC I p 13 = _
  unfold scalC
  rw [if_pos (by decide)]
  exact Int.add_zero _
theorem vr14 {I : Nat → Int → Int} {p : Nat} : Vc I p 0 14 = I (p + 14) 4 := by
  show scalC I p 14 = _
  unfold scalC
  rw [if_pos (by decide)]
  exact Int.add_zero _
theorem vr15 {I : Nat → Int → Int} {p : Nat} : Vc I p 0 15 = I (p + 14) 7 := by
  show scalC I p 15 = _
  unfold scalC
  rw [if_pos (by decide)]
  exact Int.add_zero _
theorem vr16 {I : Nat → Int → Int} {p : Nat} : Vc I p 0 16 = I (p + 14) 5 := by
  show scalC I p 16 = _
  unfold scalC
  rw [if_pos (by decide)]
  exact Int.add_zero _
theorem vr17 {I : Nat → Int → Int} {p : Nat} : Vc I p 0 17 = I (p + 14) 8 := by
  show scalC I p 17 = _
  unfold scalC
  rw [if_pos (by decide)]
  exact Int.add_zero _
theorem vr4 {I : Nat → Int → Int} {p : Nat} : Vc I p 0 4 = I (p + 3) 0 := by
  show scalC I p 4 = _
  unfold scalC
  rw [if_pos (by decide)]
  exact Int.add_zero _
theorem vr5 {I : Nat → Int → Int} {p : Nat} : Vc I p 0 5 = I (p) 7 := by
  show scalC I p 5 = _
  unfold scalC
  rw [if_pos (by decide)]
  exact Int.add_zero _
theorem vr6 {I : Nat → Int → Int} {p : Nat} : Vc I p 0 6 = I (p + 7) 0 := by
  show scalC I p 6 = _
  unfold scalC
  rw [if_pos (by decide)]
  exact Int.add_zero _
/-- states and tries -/
theorem vc_st {I : Nat → Int → Int} {p : Nat} {f z : Int} (h0 : 0 ≤ f) (h1 : f < I (p + 7) 0) : Vc (up2 I (p + 9) f z) p = up2 (Vc I p) 7 f z := by
  have h : ∀ a, a ≠ p + 9 → up2 I (p + 9) f z a = I a := fun a ha => up2_off' I f z ha
  have hs : ∀ i, scalC (up2 I (p + 9) f z) p i = scalC I p i := fun i => scal_off fun n => h _ (by have := sO_out n; omega)
  funext k i
  unfold Vc
  rw [hs, h p (by omega), h (p + 1) (by omega), h (p + 2) (by omega), h (p + 3) (by omega), h (p + 4) (by omega), h (p + 5) (by omega), h (p + 6) (by omega), h (p + 7) (by omega), h (p + 8) (by omega), h (p + 10) (by omega), h (p + 11) (by omega), h (p + 12) (by omega), h (p + 13) (by omega), up2_at]
  by_cases hk : k = 7
  · subst hk
    rw [up2_at]
    exact ent_up h0 h1 i
  · rw [up2_off' _ _ _ hk]
    match k, hk with
    | 0, _ | 1, _ | 2, _ | 3, _ | 4, _ | 5, _ | 6, _ => rfl
    | 7, hk => exact absurd rfl hk
    | 8, _ | 9, _ | 10, _ | 11, _ => rfl
    | k + 12, _ => rfl
theorem vc_tr {I : Nat → Int → Int} {p : Nat} {f z : Int} (h0 : 0 ≤ f) (h1 : f < I (p + 7) 0) : Vc (up2 I (p + 10) f z) p = up2 (Vc I p) 8 f z := by
  have h : ∀ a, a ≠ p + 10 → up2 I (p + 10) f z a = I a := fun a ha => up2_off' I f z ha
  have hs : ∀ i, scalC (up2 I (p + 10) f z) p i = scalC I p i := fun i => scal_off fun n => h _ (by have := sO_out n; omega)
  funext k i
  unfold Vc
  rw [hs, h p (by omega), h (p + 1) (by omega), h (p + 2) (by omega), h (p + 3) (by omega), h (p + 4) (by omega), h (p + 5) (by omega), h (p + 6) (by omega), h (p + 7) (by omega), h (p + 8) (by omega), h (p + 9) (by omega), h (p + 11) (by omega), h (p + 12) (by omega), h (p + 13) (by omega), up2_at]
  by_cases hk : k = 8
  · subst hk
    rw [up2_at]
    exact ent_up h0 h1 i
  · rw [up2_off' _ _ _ hk]
    match k, hk with
    | 0, _ | 1, _ | 2, _ | 3, _ | 4, _ | 5, _ | 6, _ | 7, _ => rfl
    | 8, hk => exact absurd rfl hk
    | 9, _ | 10, _ | 11, _ => rfl
    | k + 12, _ => rfl
/-- n bytes B of frame f that have arrived -/
def wrB (A : AV) (f n : Int) (B : Int → Int) : AV := fun k i => if k = 11 ∧ 6 * f ≤ i ∧ i < 6 * f + n then B (i - 6 * f) else A k i
theorem vc_ar {I : Nat → Int → Int} {p s : Nat} {f : Int} (hs : s < p) (h0 : 0 ≤ f) (h1 : f < I (p + 7) 0) (hz : 0 ≤ I (p + 8) f ∧ I (p + 8) f ≤ 6) (ha : 0 ≤ I (p + 11) f) : Vc (cp2 (up2 I (p + 11) f (I (p + 11) f + 1)) s 0 (p + 13) (f * 6) 6) p = wrB (up2 (Vc I p) 9 f 1) f (I (p + 8) f) (fun k => I s k) := by
  have hc : ∀ a, a ≠ p + 13 → cp2 (up2 I (p + 11) f (I (p + 11) f + 1)) s 0 (p + 13) (f * 6) 6 a = up2 I (p + 11) f (I (p + 11) f + 1) a := fun a ha => funext fun b => if_neg (fun z => ha z.1)
  have h : ∀ a, a ≠ p + 11 → a ≠ p + 13 → cp2 (up2 I (p + 11) f (I (p + 11) f + 1)) s 0 (p + 13) (f * 6) 6 a = I a := fun a ha hb => by rw [hc a hb]; exact up2_off' I f _ ha
  have e13 : cp2 (up2 I (p + 11) f (I (p + 11) f + 1)) s 0 (p + 13) (f * 6) 6 (p + 13) = fun b => if f * 6 ≤ b ∧ b < f * 6 + 6 then I s (b - f * 6) else I (p + 13) b := by
    funext b
    unfold cp2
    rw [up2_p (by omega), up2_p (by omega), Int.zero_add]
    by_cases hb : f * 6 ≤ b ∧ b < f * 6 + 6
    · rw [if_pos ⟨rfl, hb⟩, if_pos hb]
    · rw [if_neg (fun z => hb z.2), if_neg hb]
  funext k i
  unfold wrB
  by_cases hk : k = 9
  · subst hk
    rw [if_neg (fun z => by cases z.1), up2_at]
    rw [vc9, vc9, h (p + 7) (by omega) (by omega), hc (p + 11) (by omega), up2_at]
    show _ = if i = f then 1 else ent _ _ i
    rw [← ent_up (g := fun b => flag (I (p + 11) b)) (z := 1) h0 h1 i]
    congr 1
    funext b
    dsimp only
    by_cases e : b = f
    · rw [if_pos e, if_pos e]
      unfold flag
      rw [if_pos (by omega)]
    · rw [if_neg e, if_neg e]
  · by_cases hk2 : k = 11
    · subst hk2
      rw [up2_off' _ _ _ (by decide)]
      rw [vc11, vc11, h (p + 7) (by omega) (by omega), hc (p + 11) (by omega), h (p + 8) (by omega) (by omega), e13, up2_at]
      by_cases e : i / 6 = f
      · have e2 : i - f * 6 = i - 6 * f := by omega
        have e4 : flag (I (p + 11) f + 1) = 1 := if_pos (by omega)
        have e5 : flag (if i / 6 = f then I (p + 11) f + 1 else I (p + 11) (i / 6)) * I (p + 8) (i / 6) = I (p + 8) f := by rw [if_pos e, e4, e, Int.one_mul]
        by_cases e3 : i < 6 * f + I (p + 8) f
        · rw [if_pos (c := 11 = 11 ∧ _) ⟨rfl, by omega, e3⟩, entB_pos (by omega) (by omega) (by show _ < flag (if i / 6 = f then I (p + 11) f + 1 else I (p + 11) (i / 6)) * I (p + 8) (i / 6); rw [e5]; omega)]
          show (if f * 6 ≤ i ∧ i < f * 6 + 6 then I s (i - f * 6) else I (p + 13) i) = _
          rw [if_pos ⟨by omega, by omega⟩, e2]
        · rw [if_neg (c := 11 = 11 ∧ _) (fun z => e3 z.2.2), entB_neg (fun z => by
            have h9 : i % 6 < flag (if i / 6 = f then I (p + 11) f + 1 else I (p + 11) (i / 6)) * I (p + 8) (i / 6) := z.2.2
            rw [e5] at h9
            omega), entB_neg (fun z => by
            have h9 : i % 6 < flag (I (p + 11) (i / 6)) * I (p + 8) (i / 6) := z.2.2
            rw [e] at h9
            rcases flag_r (I (p + 11) f) with h8 | h8 <;> rw [h8] at h9 <;> omega)]
      · rw [if_neg (c := 11 = 11 ∧ _) (fun z => e (by omega))]
        have e5 : flag (if i / 6 = f then I (p + 11) f + 1 else I (p + 11) (i / 6)) * I (p + 8) (i / 6) = flag (I (p + 11) (i / 6)) * I (p + 8) (i / 6) := by rw [if_neg e]
        by_cases e6 : 0 ≤ i ∧ i / 6 < I (p + 7) 0 ∧ i % 6 < flag (I (p + 11) (i / 6)) * I (p + 8) (i / 6)
        · rw [entB_pos e6.1 e6.2.1 (by show _ < flag (if i / 6 = f then I (p + 11) f + 1 else I (p + 11) (i / 6)) * I (p + 8) (i / 6); rw [e5]; exact e6.2.2), entB_pos e6.1 e6.2.1 e6.2.2]
          exact if_neg (fun z => e (by omega))
        · rw [entB_neg (fun z => e6 ⟨z.1, z.2.1, by rw [← e5]; exact z.2.2⟩), entB_neg e6]
    · rw [if_neg (fun z => hk2 z.1), up2_off' _ _ _ hk]
      have hs9 : ∀ i, scalC (cp2 (up2 I (p + 11) f (I (p + 11) f + 1)) s 0 (p + 13) (f * 6) 6) p i = scalC I p i := fun i => scal_off fun n => h _ (by have := sO_out n; omega) (by have := sO_out n; omega)
      unfold Vc
      rw [hs9, h p (by omega) (by omega), h (p + 1) (by omega) (by omega), h (p + 2) (by omega) (by omega), h (p + 3) (by omega) (by omega), h (p + 4) (by omega) (by omega), h (p + 5) (by omega) (by omega), h (p + 6) (by omega) (by omega), h (p + 7) (by omega) (by omega), h (p + 8) (by omega) (by omega), h (p + 9) (by omega) (by omega), h (p + 10) (by omega) (by omega), h (p + 12) (by omega) (by omega)]
      match k, hk, hk2 with
      | 0, _, _ | 1, _, _ | 2, _, _ | 3, _, _ | 4, _, _ | 5, _, _ | 6, _, _ | 7, _, _ | 8, _, _ | 10, _, _ => rfl
      | 9, hk, _ => exact absurd rfl hk
      | 11, _, hk => exact absurd rfl hk
      | k + 12, _, _ => rfl
end
section
/-! ===== an attempt ===== -/
theorem d23_0 : decode (cdN 23) 0 = .ok (.iload_n 1, 1) := by decide +kernel
theorem d23_1 : decode (cdN 23) 1 = .ok (.ifCond .lt 16, 3) := by decide +kernel
theorem d23_4 : decode (cdN 23) 4 = .ok (.iload_n 1, 1) := by decide +kernel
theorem d23_5 : decode (cdN 23) 5 = .ok (.bipush 48, 2) := by decide +kernel
theorem d23_7 : decode (cdN 23) 7 = .ok (.if_icmp .ge 10, 3) := by decide +kernel
theorem d23_10 : decode (cdN 23) 10 = .ok (.aload_n 2, 1) := by decide +kernel
theorem d23_11 : decode (cdN 23) 11 = .ok (.arraylength, 1) := by decide +kernel
theorem d23_12 : decode (cdN 23) 12 = .ok (.bipush 6, 2) := by decide +kernel
theorem d23_14 : decode (cdN 23) 14 = .ok (.if_icmp .ge 4, 3) := by decide +kernel
theorem d23_17 : decode (cdN 23) 17 = .ok (.return_, 1) := by decide +kernel
theorem d23_18 : decode (cdN 23) 18 = .ok (.aload_n 0, 1) := by decide +kernel
theorem d23_19 : decode (cdN 23) 19 = .ok (.getfield 21, 3) := by decide +kernel
theorem f23_21 : ftN (owN 23) 21 = some (3, 4, 293) := by decide +kernel
theorem d23_22 : decode (cdN 23) 22 = .ok (.iload_n 1, 1) := by decide +kernel
theorem d23_23 : decode (cdN 23) 23 = .ok (.dup2, 1) := by decide +kernel
theorem d23_24 : decode (cdN 23) 24 = .ok (.iaload, 1) := by decide +kernel
theorem d23_25 : decode (cdN 23) 25 = .ok (.iconst 1, 1) := by decide +kernel
theorem d23_26 : decode (cdN 23) 26 = .ok (.iadd, 1) := by decide +kernel
theorem d23_27 : decode (cdN 23) 27 = .ok (.iastore, 1) := by decide +kernel
theorem d23_28 : decode (cdN 23) 28 = .ok (.aload_n 2, 1) := by decide +kernel
theorem d23_29 : decode (cdN 23) 29 = .ok (.iconst 0, 1) := by decide +kernel
theorem d23_30 : decode (cdN 23) 30 = .ok (.aload_n 0, 1) := by decide +kernel
theorem d23_31 : decode (cdN 23) 31 = .ok (.getfield 27, 3) := by decide +kernel
theorem f23_27 : ftN (owN 23) 27 = some (3, 6, 298) := by decide +kernel
theorem d23_34 : decode (cdN 23) 34 = .ok (.iload_n 1, 1) := by decide +kernel
theorem d23_35 : decode (cdN 23) 35 = .ok (.bipush 6, 2) := by decide +kernel
theorem d23_37 : decode (cdN 23) 37 = .ok (.imul, 1) := by decide +kernel
theorem d23_38 : decode (cdN 23) 38 = .ok (.bipush 6, 2) := by decide +kernel
theorem d23_40 : decode (cdN 23) 40 = .ok (.invokestatic 34, 3) := by decide +kernel
theorem c23_34 : ctN (owN 23) 34 = some (8, 0, [466, 468, 467, 103]) := by decide +kernel
theorem d23_43 : decode (cdN 23) 43 = .ok (.return_, 1) := by decide +kernel
theorem d51_0 : decode (cdN 51) 0 = .ok (.aload_n 0, 1) := by decide +kernel
theorem d51_1 : decode (cdN 51) 1 = .ok (.invokevirtual 198, 3) := by decide +kernel
theorem c51_198 : ctN (owN 51) 198 = some (0, 52, [591, 593, 1, 99]) := by decide +kernel
theorem d51_4 : decode (cdN 51) 4 = .ok (.aload_n 2, 1) := by decide +kernel
theorem d51_5 : decode (cdN 51) 5 = .ok (.aload_n 0, 1) := by decide +kernel
theorem d51_6 : decode (cdN 51) 6 = .ok (.iload_n 1, 1) := by decide +kernel
theorem d51_7 : decode (cdN 51) 7 = .ok (.aload_n 0, 1) := by decide +kernel
theorem d51_8 : decode (cdN 51) 8 = .ok (.getfield 52, 3) := by decide +kernel
theorem f51_52 : ftN (owN 51) 52 = some (5, 4, 375) := by decide +kernel
theorem d51_11 : decode (cdN 51) 11 = .ok (.aload_n 0, 1) := by decide +kernel
theorem d51_12 : decode (cdN 51) 12 = .ok (.getfield 39, 3) := by decide +kernel
theorem f51_39 : ftN (owN 51) 39 = some (5, 0, 367) := by decide +kernel
theorem d51_15 : decode (cdN 51) 15 = .ok (.invokevirtual 201, 3) := by decide +kernel
theorem c51_201 : ctN (owN 51) 201 = some (0, 61, [595, 596, 597, 97]) := by decide +kernel
theorem d51_18 : decode (cdN 51) 18 = .ok (.istore_n 3, 1) := by decide +kernel
theorem d51_19 : decode (cdN 51) 19 = .ok (.aload_n 0, 1) := by decide +kernel
theorem d51_20 : decode (cdN 51) 20 = .ok (.getfield 28, 3) := by decide +kernel
theorem f51_28 : ftN (owN 51) 28 = some (5, 11, 390) := by decide +kernel
theorem d51_23 : decode (cdN 51) 23 = .ok (.getfield 207, 3) := by decide +kernel
theorem f51_207 : ftN (owN 51) 207 = some (3, 3, 291) := by decide +kernel
theorem d51_26 : decode (cdN 51) 26 = .ok (.iload_n 1, 1) := by decide +kernel
theorem d51_27 : decode (cdN 51) 27 = .ok (.dup2, 1) := by decide +kernel
theorem d51_28 : decode (cdN 51) 28 = .ok (.iaload, 1) := by decide +kernel
theorem d51_29 : decode (cdN 51) 29 = .ok (.iconst 1, 1) := by decide +kernel
theorem d51_30 : decode (cdN 51) 30 = .ok (.iadd, 1) := by decide +kernel
theorem d51_31 : decode (cdN 51) 31 = .ok (.iastore, 1) := by decide +kernel
theorem d51_32 : decode (cdN 51) 32 = .ok (.aload_n 0, 1) := by decide +kernel
theorem d51_33 : decode (cdN 51) 33 = .ok (.getfield 35, 3) := by decide +kernel
theorem f51_35 : ftN (owN 51) 35 = some (5, 12, 393) := by decide +kernel
theorem d51_36 : decode (cdN 51) 36 = .ok (.dup, 1) := by decide +kernel
theorem d51_37 : decode (cdN 51) 37 = .ok (.getfield 210, 3) := by decide +kernel
theorem f51_210 : ftN (owN 51) 210 = some (1, 0, 322) := by decide +kernel
theorem d51_40 : decode (cdN 51) 40 = .ok (.iconst 1, 1) := by decide +kernel
theorem d51_41 : decode (cdN 51) 41 = .ok (.iadd, 1) := by decide +kernel
theorem d51_42 : decode (cdN 51) 42 = .ok (.putfield 210, 3) := by decide +kernel
theorem d51_45 : decode (cdN 51) 45 = .ok (.aload_n 0, 1) := by decide +kernel
theorem d51_46 : decode (cdN 51) 46 = .ok (.getfield 35, 3) := by decide +kernel
theorem d51_49 : decode (cdN 51) 49 = .ok (.dup, 1) := by decide +kernel
theorem d51_50 : decode (cdN 51) 50 = .ok (.getfield 213, 3) := by decide +kernel
theorem f51_213 : ftN (owN 51) 213 = some (1, 5, 337) := by decide +kernel
theorem d51_53 : decode (cdN 51) 53 = .ok (.aload_n 2, 1) := by decide +kernel
theorem d51_54 : decode (cdN 51) 54 = .ok (.getfield 216, 3) := by decide +kernel
theorem f51_216 : ftN (owN 51) 216 = some (6, 2, 224) := by decide +kernel
theorem d51_57 : decode (cdN 51) 57 = .ok (.iadd, 1) := by decide +kernel
theorem d51_58 : decode (cdN 51) 58 = .ok (.putfield 213, 3) := by decide +kernel
theorem d51_61 : decode (cdN 51) 61 = .ok (.aload_n 2, 1) := by decide +kernel
theorem d51_62 : decode (cdN 51) 62 = .ok (.getfield 216, 3) := by decide +kernel
theorem d51_65 : decode (cdN 51) 65 = .ok (.bipush 8, 2) := by decide +kernel
theorem d51_67 : decode (cdN 51) 67 = .ok (.iadd, 1) := by decide +kernel
theorem d51_68 : decode (cdN 51) 68 = .ok (.aload_n 0, 1) := by decide +kernel
theorem d51_69 : decode (cdN 51) 69 = .ok (.getfield 39, 3) := by decide +kernel
theorem d51_72 : decode (cdN 51) 72 = .ok (.imul, 1) := by decide +kernel
theorem d51_73 : decode (cdN 51) 73 = .ok (.istore 4, 2) := by decide +kernel
theorem d51_75 : decode (cdN 51) 75 = .ok (.aload_n 0, 1) := by decide +kernel
theorem d51_76 : decode (cdN 51) 76 = .ok (.getfield 35, 3) := by decide +kernel
theorem d51_79 : decode (cdN 51) 79 = .ok (.dup, 1) := by decide +kernel
theorem d51_80 : decode (cdN 51) 80 = .ok (.getfield 217, 3) := by decide +kernel
theorem f51_217 : ftN (owN 51) 217 = some (1, 6, 340) := by decide +kernel
theorem d51_83 : decode (cdN 51) 83 = .ok (.iload 4, 2) := by decide +kernel
theorem d51_85 : decode (cdN 51) 85 = .ok (.iadd, 1) := by decide +kernel
theorem d51_86 : decode (cdN 51) 86 = .ok (.putfield 217, 3) := by decide +kernel
theorem d51_89 : decode (cdN 51) 89 = .ok (.aload_n 0, 1) := by decide +kernel
theorem d51_90 : decode (cdN 51) 90 = .ok (.dup, 1) := by decide +kernel
theorem d51_91 : decode (cdN 51) 91 = .ok (.getfield 52, 3) := by decide +kernel
theorem d51_94 : decode (cdN 51) 94 = .ok (.iload 4, 2) := by decide +kernel
theorem d51_96 : decode (cdN 51) 96 = .ok (.iadd, 1) := by decide +kernel
theorem d51_97 : decode (cdN 51) 97 = .ok (.putfield 52, 3) := by decide +kernel
theorem d51_100 : decode (cdN 51) 100 = .ok (.aload_n 0, 1) := by decide +kernel
theorem d51_101 : decode (cdN 51) 101 = .ok (.iload_n 1, 1) := by decide +kernel
theorem d51_102 : decode (cdN 51) 102 = .ok (.iload_n 3, 1) := by decide +kernel
theorem d51_103 : decode (cdN 51) 103 = .ok (.aload_n 2, 1) := by decide +kernel
theorem d51_104 : decode (cdN 51) 104 = .ok (.getfield 220, 3) := by decide +kernel
theorem f51_220 : ftN (owN 51) 220 = some (6, 1, 222) := by decide +kernel
theorem d51_107 : decode (cdN 51) 107 = .ok (.invokevirtual 223, 3) := by decide +kernel
theorem c51_223 : ctN (owN 51) 223 = some (0, 53, [631, 633, 3, 99]) := by decide +kernel
theorem d51_110 : decode (cdN 51) 110 = .ok (.aload_n 0, 1) := by decide +kernel
theorem d51_111 : decode (cdN 51) 111 = .ok (.iload_n 1, 1) := by decide +kernel
theorem d51_112 : decode (cdN 51) 112 = .ok (.iload_n 3, 1) := by decide +kernel
theorem d51_113 : decode (cdN 51) 113 = .ok (.invokevirtual 227, 3) := by decide +kernel
theorem c51_227 : ctN (owN 51) 227 = some (0, 54, [639, 641, 4, 99]) := by decide +kernel
theorem d51_116 : decode (cdN 51) 116 = .ok (.return_, 1) := by decide +kernel
theorem d52_0 : decode (cdN 52) 0 = .ok (.aload_n 0, 1) := by decide +kernel
theorem d52_1 : decode (cdN 52) 1 = .ok (.getfield 52, 3) := by decide +kernel
theorem f52_52 : ftN (owN 52) 52 = some (5, 4, 375) := by decide +kernel
theorem d52_4 : decode (cdN 52) 4 = .ok (.aload_n 0, 1) := by decide +kernel
theorem d52_5 : decode (cdN 52) 5 = .ok (.getfield 55, 3) := by decide +kernel
theorem f52_55 : ftN (owN 52) 55 = some (5, 5, 377) := by decide +kernel
theorem d52_8 : decode (cdN 52) 8 = .ok (.if_icmp .ge 32, 3) := by decide +kernel
theorem d52_11 : decode (cdN 52) 11 = .ok (.aload_n 0, 1) := by decide +kernel
theorem d52_12 : decode (cdN 52) 12 = .ok (.getfield 35, 3) := by decide +kernel
theorem f52_35 : ftN (owN 52) 35 = some (5, 12, 393) := by decide +kernel
theorem d52_15 : decode (cdN 52) 15 = .ok (.dup, 1) := by decide +kernel
theorem d52_16 : decode (cdN 52) 16 = .ok (.getfield 231, 3) := by decide +kernel
theorem f52_231 : ftN (owN 52) 231 = some (1, 7, 343) := by decide +kernel
theorem d52_19 : decode (cdN 52) 19 = .ok (.aload_n 0, 1) := by decide +kernel
theorem d52_20 : decode (cdN 52) 20 = .ok (.getfield 55, 3) := by decide +kernel
theorem d52_23 : decode (cdN 52) 23 = .ok (.aload_n 0, 1) := by decide +kernel
theorem d52_24 : decode (cdN 52) 24 = .ok (.getfield 52, 3) := by decide +kernel
theorem d52_27 : decode (cdN 52) 27 = .ok (.isub, 1) := by decide +kernel
theorem d52_28 : decode (cdN 52) 28 = .ok (.iadd, 1) := by decide +kernel
theorem d52_29 : decode (cdN 52) 29 = .ok (.putfield 231, 3) := by decide +kernel
theorem d52_32 : decode (cdN 52) 32 = .ok (.aload_n 0, 1) := by decide +kernel
theorem d52_33 : decode (cdN 52) 33 = .ok (.aload_n 0, 1) := by decide +kernel
theorem d52_34 : decode (cdN 52) 34 = .ok (.getfield 55, 3) := by decide +kernel
theorem d52_37 : decode (cdN 52) 37 = .ok (.putfield 52, 3) := by decide +kernel
theorem d52_40 : decode (cdN 52) 40 = .ok (.return_, 1) := by decide +kernel
theorem d53_0 : decode (cdN 53) 0 = .ok (.iload_n 2, 1) := by decide +kernel
theorem d53_1 : decode (cdN 53) 1 = .ok (.iconst 1, 1) := by decide +kernel
theorem d53_2 : decode (cdN 53) 2 = .ok (.if_icmp .ne 17, 3) := by decide +kernel
theorem d53_5 : decode (cdN 53) 5 = .ok (.aload_n 0, 1) := by decide +kernel
theorem d53_6 : decode (cdN 53) 6 = .ok (.getfield 35, 3) := by decide +kernel
theorem f53_35 : ftN (owN 53) 35 = some (5, 12, 393) := by decide +kernel
theorem d53_9 : decode (cdN 53) 9 = .ok (.dup, 1) := by decide +kernel
theorem d53_10 : decode (cdN 53) 10 = .ok (.getfield 234, 3) := by decide +kernel
theorem f53_234 : ftN (owN 53) 234 = some (1, 1, 325) := by decide +kernel
theorem d53_13 : decode (cdN 53) 13 = .ok (.iconst 1, 1) := by decide +kernel
theorem d53_14 : decode (cdN 53) 14 = .ok (.iadd, 1) := by decide +kernel
theorem d53_15 : decode (cdN 53) 15 = .ok (.putfield 234, 3) := by decide +kernel
theorem d53_18 : decode (cdN 53) 18 = .ok (.return_, 1) := by decide +kernel
theorem d53_19 : decode (cdN 53) 19 = .ok (.aload_n 3, 1) := by decide +kernel
theorem d53_20 : decode (cdN 53) 20 = .ok (.iconst 0, 1) := by decide +kernel
theorem d53_21 : decode (cdN 53) 21 = .ok (.iaload, 1) := by decide +kernel
theorem d53_22 : decode (cdN 53) 22 = .ok (.bipush 16, 2) := by decide +kernel
theorem d53_24 : decode (cdN 53) 24 = .ok (.idiv, 1) := by decide +kernel
theorem d53_25 : decode (cdN 53) 25 = .ok (.istore 4, 2) := by decide +kernel
theorem d53_27 : decode (cdN 53) 27 = .ok (.iload 4, 2) := by decide +kernel
theorem d53_29 : decode (cdN 53) 29 = .ok (.aload_n 0, 1) := by decide +kernel
theorem d53_30 : decode (cdN 53) 30 = .ok (.getfield 58, 3) := by decide +kernel
theorem f53_58 : ftN (owN 53) 58 = some (5, 6, 379) := by decide +kernel
theorem d53_33 : decode (cdN 53) 33 = .ok (.if_icmp .ne 19, 3) := by decide +kernel
theorem d53_36 : decode (cdN 53) 36 = .ok (.aload_n 0, 1) := by decide +kernel
theorem d53_37 : decode (cdN 53) 37 = .ok (.getfield 35, 3) := by decide +kernel
theorem d53_40 : decode (cdN 53) 40 = .ok (.dup, 1) := by decide +kernel
theorem d53_41 : decode (cdN 53) 41 = .ok (.getfield 237, 3) := by decide +kernel
theorem f53_237 : ftN (owN 53) 237 = some (1, 2, 328) := by decide +kernel
theorem d53_44 : decode (cdN 53) 44 = .ok (.iconst 1, 1) := by decide +kernel
theorem d53_45 : decode (cdN 53) 45 = .ok (.iadd, 1) := by decide +kernel
theorem d53_46 : decode (cdN 53) 46 = .ok (.putfield 237, 3) := by decide +kernel
theorem d53_49 : decode (cdN 53) 49 = .ok (.goto 25, 3) := by decide +kernel
theorem d53_52 : decode (cdN 53) 52 = .ok (.aload_n 0, 1) := by decide +kernel
theorem d53_53 : decode (cdN 53) 53 = .ok (.getfield 35, 3) := by decide +kernel
theorem d53_56 : decode (cdN 53) 56 = .ok (.dup, 1) := by decide +kernel
theorem d53_57 : decode (cdN 53) 57 = .ok (.getfield 240, 3) := by decide +kernel
theorem f53_240 : ftN (owN 53) 240 = some (1, 3, 331) := by decide +kernel
theorem d53_60 : decode (cdN 53) 60 = .ok (.iconst 1, 1) := by decide +kernel
theorem d53_61 : decode (cdN 53) 61 = .ok (.iadd, 1) := by decide +kernel
theorem d53_62 : decode (cdN 53) 62 = .ok (.putfield 240, 3) := by decide +kernel
theorem d53_65 : decode (cdN 53) 65 = .ok (.aload_n 0, 1) := by decide +kernel
theorem d53_66 : decode (cdN 53) 66 = .ok (.getfield 28, 3) := by decide +kernel
theorem f53_28 : ftN (owN 53) 28 = some (5, 11, 390) := by decide +kernel
theorem d53_69 : decode (cdN 53) 69 = .ok (.iload_n 1, 1) := by decide +kernel
theorem d53_70 : decode (cdN 53) 70 = .ok (.aload_n 3, 1) := by decide +kernel
theorem d53_71 : decode (cdN 53) 71 = .ok (.invokevirtual 243, 3) := by decide +kernel
theorem c53_243 : ctN (owN 53) 243 = some (0, 23, [635, 636, 637, 101]) := by decide +kernel
theorem d53_74 : decode (cdN 53) 74 = .ok (.aload_n 0, 1) := by decide +kernel
theorem d53_75 : decode (cdN 53) 75 = .ok (.iload 4, 2) := by decide +kernel
theorem d53_77 : decode (cdN 53) 77 = .ok (.putfield 58, 3) := by decide +kernel
theorem d53_80 : decode (cdN 53) 80 = .ok (.iload_n 2, 1) := by decide +kernel
theorem d53_81 : decode (cdN 53) 81 = .ok (.iconst 2, 1) := by decide +kernel
theorem d53_82 : decode (cdN 53) 82 = .ok (.if_icmp .ne 16, 3) := by decide +kernel
theorem d53_85 : decode (cdN 53) 85 = .ok (.aload_n 0, 1) := by decide +kernel
theorem d53_86 : decode (cdN 53) 86 = .ok (.getfield 35, 3) := by decide +kernel
theorem d53_89 : decode (cdN 53) 89 = .ok (.dup, 1) := by decide +kernel
theorem d53_90 : decode (cdN 53) 90 = .ok (.getfield 247, 3) := by decide +kernel
theorem f53_247 : ftN (owN 53) 247 = some (1, 4, 334) := by decide +kernel
theorem d53_93 : decode (cdN 53) 93 = .ok (.iconst 1, 1) := by decide +kernel
theorem d53_94 : decode (cdN 53) 94 = .ok (.iadd, 1) := by decide +kernel
theorem d53_95 : decode (cdN 53) 95 = .ok (.putfield 247, 3) := by decide +kernel
theorem d53_98 : decode (cdN 53) 98 = .ok (.return_, 1) := by decide +kernel
theorem d54_0 : decode (cdN 54) 0 = .ok (.iload_n 2, 1) := by decide +kernel
theorem d54_1 : decode (cdN 54) 1 = .ok (.ifCond .ne 16, 3) := by decide +kernel
theorem d54_4 : decode (cdN 54) 4 = .ok (.aload_n 0, 1) := by decide +kernel
theorem d54_5 : decode (cdN 54) 5 = .ok (.getfield 28, 3) := by decide +kernel
theorem f54_28 : ftN (owN 54) 28 = some (5, 11, 390) := by decide +kernel
theorem d54_8 : decode (cdN 54) 8 = .ok (.getfield 165, 3) := by decide +kernel
theorem f54_165 : ftN (owN 54) 165 = some (3, 2, 288) := by decide +kernel
theorem d54_11 : decode (cdN 54) 11 = .ok (.iload_n 1, 1) := by decide +kernel
theorem d54_12 : decode (cdN 54) 12 = .ok (.iconst 1, 1) := by decide +kernel
theorem d54_13 : decode (cdN 54) 13 = .ok (.iastore, 1) := by decide +kernel
theorem d54_14 : decode (cdN 54) 14 = .ok (.goto 57, 3) := by decide +kernel
theorem d54_17 : decode (cdN 54) 17 = .ok (.aload_n 0, 1) := by decide +kernel
theorem d54_18 : decode (cdN 54) 18 = .ok (.getfield 28, 3) := by decide +kernel
theorem d54_21 : decode (cdN 54) 21 = .ok (.getfield 207, 3) := by decide +kernel
theorem f54_207 : ftN (owN 54) 207 = some (3, 3, 291) := by decide +kernel
theorem d54_24 : decode (cdN 54) 24 = .ok (.iload_n 1, 1) := by decide +kernel
theorem d54_25 : decode (cdN 54) 25 = .ok (.iaload, 1) := by decide +kernel
theorem d54_26 : decode (cdN 54) 26 = .ok (.aload_n 0, 1) := by decide +kernel
theorem d54_27 : decode (cdN 54) 27 = .ok (.getfield 49, 3) := by decide +kernel
theorem f54_49 : ftN (owN 54) 49 = some (5, 3, 374) := by decide +kernel
theorem d54_30 : decode (cdN 54) 30 = .ok (.if_icmp .lt 16, 3) := by decide +kernel
theorem d54_33 : decode (cdN 54) 33 = .ok (.aload_n 0, 1) := by decide +kernel
theorem d54_34 : decode (cdN 54) 34 = .ok (.getfield 28, 3) := by decide +kernel
theorem d54_37 : decode (cdN 54) 37 = .ok (.getfield 165, 3) := by decide +kernel
theorem d54_40 : decode (cdN 54) 40 = .ok (.iload_n 1, 1) := by decide +kernel
theorem d54_41 : decode (cdN 54) 41 = .ok (.iconst 2, 1) := by decide +kernel
theorem d54_42 : decode (cdN 54) 42 = .ok (.iastore, 1) := by decide +kernel
theorem d54_43 : decode (cdN 54) 43 = .ok (.goto 28, 3) := by decide +kernel
theorem d54_46 : decode (cdN 54) 46 = .ok (.aload_n 0, 1) := by decide +kernel
theorem d54_47 : decode (cdN 54) 47 = .ok (.aload_n 0, 1) := by decide +kernel
theorem d54_48 : decode (cdN 54) 48 = .ok (.getfield 52, 3) := by decide +kernel
theorem f54_52 : ftN (owN 54) 52 = some (5, 4, 375) := by decide +kernel
theorem d54_51 : decode (cdN 54) 51 = .ok (.aload_n 0, 1) := by decide +kernel
theorem d54_52 : decode (cdN 54) 52 = .ok (.getfield 46, 3) := by decide +kernel
theorem f54_46 : ftN (owN 54) 46 = some (5, 2, 373) := by decide +kernel
theorem d54_55 : decode (cdN 54) 55 = .ok (.aload_n 0, 1) := by decide +kernel
theorem d54_56 : decode (cdN 54) 56 = .ok (.getfield 28, 3) := by decide +kernel
theorem d54_59 : decode (cdN 54) 59 = .ok (.getfield 207, 3) := by decide +kernel
theorem d54_62 : decode (cdN 54) 62 = .ok (.iload_n 1, 1) := by decide +kernel
theorem d54_63 : decode (cdN 54) 63 = .ok (.iaload, 1) := by decide +kernel
theorem d54_64 : decode (cdN 54) 64 = .ok (.iconst 1, 1) := by decide +kernel
theorem d54_65 : decode (cdN 54) 65 = .ok (.isub, 1) := by decide +kernel
theorem d54_66 : decode (cdN 54) 66 = .ok (.ishl, 1) := by decide +kernel
theorem d54_67 : decode (cdN 54) 67 = .ok (.iadd, 1) := by decide +kernel
theorem d54_68 : decode (cdN 54) 68 = .ok (.putfield 55, 3) := by decide +kernel
theorem f54_55 : ftN (owN 54) 55 = some (5, 5, 377) := by decide +kernel
theorem d54_71 : decode (cdN 54) 71 = .ok (.return_, 1) := by decide +kernel
theorem d50_0 : decode (cdN 50) 0 = .ok (.iconst 0, 1) := by decide +kernel
theorem d50_1 : decode (cdN 50) 1 = .ok (.istore_n 3, 1) := by decide +kernel
theorem d50_2 : decode (cdN 50) 2 = .ok (.aload_n 0, 1) := by decide +kernel
theorem d50_3 : decode (cdN 50) 3 = .ok (.getfield 28, 3) := by decide +kernel
theorem f50_28 : ftN (owN 50) 28 = some (5, 11, 390) := by decide +kernel
theorem d50_6 : decode (cdN 50) 6 = .ok (.invokevirtual 190, 3) := by decide +kernel
theorem c50_190 : ctN (owN 50) 190 = some (0, 22, [586, 553, 554, 101]) := by decide +kernel
theorem d50_9 : decode (cdN 50) 9 = .ok (.istore 4, 2) := by decide +kernel
theorem d50_11 : decode (cdN 50) 11 = .ok (.iload_n 3, 1) := by decide +kernel
theorem d50_12 : decode (cdN 50) 12 = .ok (.iload_n 1, 1) := by decide +kernel
theorem d50_13 : decode (cdN 50) 13 = .ok (.if_icmp .ge 31, 3) := by decide +kernel
theorem d50_16 : decode (cdN 50) 16 = .ok (.iload 4, 2) := by decide +kernel
theorem d50_18 : decode (cdN 50) 18 = .ok (.iconst (-1), 1) := by decide +kernel
theorem d50_19 : decode (cdN 50) 19 = .ok (.if_icmp .eq 25, 3) := by decide +kernel
theorem d50_22 : decode (cdN 50) 22 = .ok (.aload_n 0, 1) := by decide +kernel
theorem d50_23 : decode (cdN 50) 23 = .ok (.iload 4, 2) := by decide +kernel
theorem d50_25 : decode (cdN 50) 25 = .ok (.aload_n 2, 1) := by decide +kernel
theorem d50_26 : decode (cdN 50) 26 = .ok (.invokevirtual 194, 3) := by decide +kernel
theorem c50_194 : ctN (owN 50) 194 = some (0, 51, [587, 589, 0, 99]) := by decide +kernel
theorem d50_29 : decode (cdN 50) 29 = .ok (.iinc 3 1, 3) := by decide +kernel
theorem d50_32 : decode (cdN 50) 32 = .ok (.aload_n 0, 1) := by decide +kernel
theorem d50_33 : decode (cdN 50) 33 = .ok (.getfield 28, 3) := by decide +kernel
theorem d50_36 : decode (cdN 50) 36 = .ok (.invokevirtual 190, 3) := by decide +kernel
theorem d50_39 : decode (cdN 50) 39 = .ok (.istore 4, 2) := by decide +kernel
theorem d50_41 : decode (cdN 50) 41 = .ok (.goto (-30), 3) := by decide +kernel
theorem d50_44 : decode (cdN 50) 44 = .ok (.iload_n 3, 1) := by decide +kernel
theorem d50_45 : decode (cdN 50) 45 = .ok (.ireturn, 1) := by decide +kernel
theorem d49_0 : decode (cdN 49) 0 = .ok (.aload_n 0, 1) := by decide +kernel
theorem d49_1 : decode (cdN 49) 1 = .ok (.getfield 52, 3) := by decide +kernel
theorem f49_52 : ftN (owN 49) 52 = some (5, 4, 375) := by decide +kernel
theorem d49_4 : decode (cdN 49) 4 = .ok (.ldc 183, 2) := by decide +kernel
theorem k49_183 : kiN (owN 49) 183 = some (900000, 995) := by decide +kernel
theorem d49_6 : decode (cdN 49) 6 = .ok (.if_icmp .gt 7, 3) := by decide +kernel
theorem d49_9 : decode (cdN 49) 9 = .ok (.iconst 1, 1) := by decide +kernel
theorem d49_10 : decode (cdN 49) 10 = .ok (.goto 4, 3) := by decide +kernel
theorem d49_13 : decode (cdN 49) 13 = .ok (.iconst 0, 1) := by decide +kernel
theorem d49_14 : decode (cdN 49) 14 = .ok (.ireturn, 1) := by decide +kernel
theorem d47_0 : decode (cdN 47) 0 = .ok (.aload_n 0, 1) := by decide +kernel
theorem d47_1 : decode (cdN 47) 1 = .ok (.getfield 52, 3) := by decide +kernel
theorem f47_52 : ftN (owN 47) 52 = some (5, 4, 375) := by decide +kernel
theorem d47_4 : decode (cdN 47) 4 = .ok (.ldc 183, 2) := by decide +kernel
theorem k47_183 : kiN (owN 47) 183 = some (900000, 995) := by decide +kernel
theorem d47_6 : decode (cdN 47) 6 = .ok (.iload_n 1, 1) := by decide +kernel
theorem d47_7 : decode (cdN 47) 7 = .ok (.isub, 1) := by decide +kernel
theorem d47_8 : decode (cdN 47) 8 = .ok (.if_icmp .gt 7, 3) := by decide +kernel
theorem d47_11 : decode (cdN 47) 11 = .ok (.iconst 1, 1) := by decide +kernel
theorem d47_12 : decode (cdN 47) 12 = .ok (.goto 4, 3) := by decide +kernel
theorem d47_15 : decode (cdN 47) 15 = .ok (.iconst 0, 1) := by decide +kernel
theorem d47_16 : decode (cdN 47) 16 = .ok (.ireturn, 1) := by decide +kernel
theorem d48_0 : decode (cdN 48) 0 = .ok (.aload_n 0, 1) := by decide +kernel
theorem d48_1 : decode (cdN 48) 1 = .ok (.iload_n 1, 1) := by decide +kernel
theorem d48_2 : decode (cdN 48) 2 = .ok (.invokevirtual 184, 3) := by decide +kernel
theorem c48_184 : ctN (owN 48) 184 = some (0, 47, [1030, 1031, 1032, 99]) := by decide +kernel
theorem d48_5 : decode (cdN 48) 5 = .ok (.ifCond .ne 5, 3) := by decide +kernel
theorem d48_8 : decode (cdN 48) 8 = .ok (.iconst 0, 1) := by decide +kernel
theorem d48_9 : decode (cdN 48) 9 = .ok (.ireturn, 1) := by decide +kernel
theorem d48_10 : decode (cdN 48) 10 = .ok (.aload_n 0, 1) := by decide +kernel
theorem d48_11 : decode (cdN 48) 11 = .ok (.dup, 1) := by decide +kernel
theorem d48_12 : decode (cdN 48) 12 = .ok (.getfield 52, 3) := by decide +kernel
theorem f48_52 : ftN (owN 48) 52 = some (5, 4, 375) := by decide +kernel
theorem d48_15 : decode (cdN 48) 15 = .ok (.iload_n 1, 1) := by decide +kernel
theorem d48_16 : decode (cdN 48) 16 = .ok (.iadd, 1) := by decide +kernel
theorem d48_17 : decode (cdN 48) 17 = .ok (.putfield 52, 3) := by decide +kernel
theorem d48_20 : decode (cdN 48) 20 = .ok (.aload_n 0, 1) := by decide +kernel
theorem d48_21 : decode (cdN 48) 21 = .ok (.getfield 35, 3) := by decide +kernel
theorem f48_35 : ftN (owN 48) 35 = some (5, 12, 393) := by decide +kernel
theorem d48_24 : decode (cdN 48) 24 = .ok (.dup, 1) := by decide +kernel
theorem d48_25 : decode (cdN 48) 25 = .ok (.getfield 187, 3) := by decide +kernel
theorem f48_187 : ftN (owN 48) 187 = some (1, 8, 346) := by decide +kernel
theorem d48_28 : decode (cdN 48) 28 = .ok (.iload_n 1, 1) := by decide +kernel
theorem d48_29 : decode (cdN 48) 29 = .ok (.iadd, 1) := by decide +kernel
theorem d48_30 : decode (cdN 48) 30 = .ok (.putfield 187, 3) := by decide +kernel
theorem d48_33 : decode (cdN 48) 33 = .ok (.iconst 1, 1) := by decide +kernel
theorem d48_34 : decode (cdN 48) 34 = .ok (.ireturn, 1) := by decide +kernel
def chewA (A : AV) (t : Int) : Bool := chewD (A 0 4) (A 1) (A 2) (A 3) t
def SfA (A : AV) (f : Int) : Int → Int := fun k => A 10 (6 * f + k)
def chA (A : AV) (t bt : Int) : Int → Bool := fun b => chewA A (t + b * bt)
def resA (A : AV) (f t bt : Int) : Int := resZ (SfA A f) (A 6 f).toNat (chA A t bt) (A 0 1)
/-- byte k that is taken of frame f at the tick t -/
def takA (A : AV) (f t bt : Int) (k : Int) : Int := byteZ (takZ (cabZ (SfA A f) (chA A t bt)) (A 6 f * 8) (A 0 1)) k
def napA (A : AV) : AV := if A 0 7 < A 0 8 then up2 (up2 A 0 15 (A 0 15 + (A 0 8 - A 0 7))) 0 7 (A 0 8) else A
def recA (A : AV) (f r : Int) (B : Int → Int) : AV :=
  if r = 1 then up2 A 0 11 (A 0 11 + 1) else
    let E := up2 (if B 0 / 16 + 1 = A 0 9 then up2 A 0 12 (A 0 12 + 1) else wrB (up2 (up2 A 0 13 (A 0 13 + 1)) 9 f 1) f (A 6 f) B) 0 9 (B 0 / 16 + 1)
    if r = 2 then up2 E 0 14 (E 0 14 + 1) else E
def setA (A : AV) (f r : Int) : AV :=
  if r = 0 then up2 A 7 f 1 else if A 0 3 ≤ A 8 f then up2 A 7 f 2 else up2 A 0 8 (A 0 7 + A 0 2 * 2 ^ (A 8 f - 1).toNat)
def cntA (A : AV) (f : Int) : AV :=
  up2 (up2 (up2 (up2 A 8 f (A 8 f + 1)) 0 10 (A 0 10 + 1)) 0 16 (A 0 16 + A 6 f * 8)) 0 7 (A 0 7 + (A 6 f * 8 + 8) * A 0 0)
def attA (A : AV) (f : Int) : AV :=
  setA (recA (cntA (napA A) f) f (resA (napA A) f (napA A 0 7) (napA A 0 0)) (takA (napA A) f (napA A 0 7) (napA A 0 0))) f (resA (napA A) f (napA A 0 7) (napA A 0 0))
/-! the class's own -/
def napC (I : Nat → Int → Int) (p : Nat) : Nat → Int → Int := if I p 4 < I p 5 then up2 (up2 I (p + 14) 7 (I (p + 14) 7 + (I p 5 - I p 4))) p 4 (I p 5) else I
def setC (I : Nat → Int → Int) (p : Nat) (f r : Int) : Nat → Int → Int :=
  if r = 0 then up2 I (p + 9) f 1 else if I p 3 ≤ I (p + 10) f then up2 I (p + 9) f 2 else up2 I p 5 (I p 4 + I p 2 * 2 ^ (I (p + 10) f - 1).toNat)
def recC0 (I : Nat → Int → Int) (p : Nat) (f : Int) : Nat → Int → Int :=
  up2 (if I 13 0 / 16 = I p 6 then up2 I (p + 14) 2 (I (p + 14) 2 + 1) else cp2 (up2 (up2 I (p + 14) 3 (I (p + 14) 3 + 1)) (p + 11) f (I (p + 11) f + 1)) 13 0 (p + 13) (f * 6) 6) p 6 (I 13 0 / 16)
def recC (I : Nat → Int → Int) (p : Nat) (f r : Int) : Nat → Int → Int :=
  if r = 1 then up2 I (p + 14) 1 (I (p + 14) 1 + 1) else if r = 2 then up2 (recC0 I p f) (p + 14) 4 (I (p + 14) 4 + 1) else recC0 I p f
theorem vc_nap {I : Nat → Int → Int} {p : Nat} : Vc (napC I p) p = napA (Vc I p) := by
  unfold napC napA
  rw [vr7, vr8, vr15]
  split
  · rw [vw7, vw15]
  · rfl
theorem vrow {I : Nat → Int → Int} {p : Nat} {f : Int} (h0 : 0 ≤ f) (h1 : f < I (p + 7) 0) : Vc I p 6 f = I (p + 8) f ∧ Vc I p 7 f = I (p + 9) f ∧ Vc I p 8 f = I (p + 10) f := ⟨ent_in h0 h1, ent_in h0 h1, ent_in h0 h1⟩
theorem vc_set {I : Nat → Int → Int} {p : Nat} {f r : Int} (h0 : 0 ≤ f) (h1 : f < I (p + 7) 0) : Vc (setC I p f r) p = setA (Vc I p) f r := by
  unfold setC setA
  rw [vr3, vr7, vr2, (vrow h0 h1).2.2]
  split
  · rw [vc_st h0 h1]
  · split
    · rw [vc_st h0 h1]
    · rw [vw8]
theorem vc_rec {I : Nat → Int → Int} {p : Nat} {f r : Int} (hp : 16 ≤ p) (h0 : 0 ≤ f) (h1 : f < I (p + 7) 0) (hz : 0 ≤ I (p + 8) f ∧ I (p + 8) f ≤ 6) (ha : 0 ≤ I (p + 11) f) : Vc (recC I p f r) p = recA (Vc I p) f r (fun k => I 13 k) := by
  have e0 : Vc (recC0 I p f) p = up2 (if I 13 0 / 16 + 1 = Vc I p 0 9 then up2 (Vc I p) 0 12 (Vc I p 0 12 + 1) else wrB (up2 (up2 (Vc I p) 0 13 (Vc I p 0 13 + 1)) 9 f 1) f (Vc I p 6 f) (fun k => I 13 k)) 0 9 (I 13 0 / 16 + 1) := by
    unfold recC0
    rw [vw9, vr9, vr12, vr13, (vrow h0 h1).1]
    congr 1
    by_cases e : I 13 0 / 16 = I p 6
    · rw [if_pos e, if_pos (by omega), vw12]
    · rw [if_neg e, if_neg (by omega)]
      have h2 := vc_ar (I := up2 I (p + 14) 3 (I (p + 14) 3 + 1)) (p := p) (s := 13) (f := f) (by omega) h0 (by rw [up2_p (by omega)]; exact h1) (by rw [up2_p (by omega)]; exact hz) (by rw [up2_p (by omega)]; exact ha)
      rw [up2_off' I _ _ (by omega : p + 11 ≠ p + 14), up2_off' I _ _ (by omega : p + 8 ≠ p + 14), up2_off' I _ _ (by omega : 13 ≠ p + 14), vw13] at h2
      exact h2
  unfold recC recA
  rw [vr11]
  split
  · rw [vw11]
  · dsimp only
    split
    · rw [vw14, e0]
      congr 1
      rw [up2_i (by decide)]
      rw [show ∀ (c : Prop) [Decidable c] (X Y : AV), (if c then X else Y) 0 14 = if c then X 0 14 else Y 0 14 from fun c _ X Y => by split <;> rfl]
      rw [up2_i (by decide)]
      have e14 : wrB (up2 (up2 (Vc I p) 0 13 (Vc I p 0 13 + 1)) 9 f 1) f (Vc I p 6 f) (fun k => I 13 k) 0 14 = Vc I p 0 14 := by
        show (if _ then _ else _) = _
        rw [if_neg (fun z => by cases z.1), up2_p (by decide), up2_i (by decide)]
      rw [e14, ite_self, vr14]
    · exact e0
end
section
/-! ===== what holds of the abstract state; of the class's line ===== -/
/-- .. but for frame e, whose attempts are just counted -/
def AI (A : AV) (c e : Int) : Prop :=
  (1 ≤ A 0 0 ∧ A 0 0 ≤ 9) ∧
  (-99 ≤ A 0 1 ∧ A 0 1 ≤ 99) ∧
  (1 ≤ A 0 2 ∧ A 0 2 ≤ 99) ∧
  (1 ≤ A 0 3 ∧ A 0 3 ≤ 9) ∧
  (0 ≤ A 0 4 ∧ A 0 4 ≤ 3) ∧
  (0 ≤ A 0 5 ∧ A 0 5 ≤ 12) ∧
  (0 ≤ A 0 6 ∧ A 0 6 ≤ 4 * A 0 5) ∧
  (0 ≤ A 0 7 ∧ A 0 7 ≤ c) ∧
  (0 ≤ A 0 8 ∧ A 0 8 ≤ A 0 7 + 25344) ∧
  (0 ≤ A 0 9 ∧ A 0 9 ≤ 16) ∧
  (∀ j : Int, 10 ≤ j → j ≤ 17 → 0 ≤ A 0 j ∧ A 0 j ≤ A 0 7) ∧
  (∀ i : Int, 0 ≤ i → i < A 0 4 → (2 ≤ A 1 i ∧ A 1 i ≤ 999) ∧ (1 ≤ A 2 i ∧ A 2 i < A 1 i) ∧ (0 ≤ A 3 i ∧ A 3 i ≤ 999)) ∧
  (∀ f : Int, 0 ≤ f → f < A 0 6 → (3 ≤ A 6 f ∧ A 6 f ≤ 6) ∧ (0 ≤ A 7 f ∧ A 7 f ≤ 2) ∧ (0 ≤ A 8 f ∧ A 8 f ≤ 9) ∧ (f ≠ e → A 7 f = 0 → A 8 f < A 0 3)) ∧
  (∀ m : Int, 0 ≤ m → m < A 0 5 → (1 ≤ A 4 m ∧ A 4 m ≤ 16) ∧ 0 ≤ A 5 m ∧ A 5 m + (A 4 m + 3) / 4 ≤ A 0 6 ∧ ∀ j : Int, 0 ≤ j → j < (A 4 m + 3) / 4 → A 6 (A 5 m + j) = min 4 (A 4 m - 4 * j) + 2) ∧
  (∀ i : Int, 0 ≤ A 10 i ∧ A 10 i ≤ 255)
theorem AI.b {A : AV} {c e : Int} (h : AI A c e) : 1 ≤ A 0 0 ∧ A 0 0 ≤ 9 := h.1
theorem AI.dr {A : AV} {c e : Int} (h : AI A c e) : -99 ≤ A 0 1 ∧ A 0 1 ≤ 99 := h.2.1
theorem AI.ba {A : AV} {c e : Int} (h : AI A c e) : 1 ≤ A 0 2 ∧ A 0 2 ≤ 99 := h.2.2.1
theorem AI.li {A : AV} {c e : Int} (h : AI A c e) : 1 ≤ A 0 3 ∧ A 0 3 ≤ 9 := h.2.2.2.1
theorem AI.dg {A : AV} {c e : Int} (h : AI A c e) : 0 ≤ A 0 4 ∧ A 0 4 ≤ 3 := h.2.2.2.2.1
theorem AI.ms {A : AV} {c e : Int} (h : AI A c e) : 0 ≤ A 0 5 ∧ A 0 5 ≤ 12 := h.2.2.2.2.2.1
theorem AI.fr {A : AV} {c e : Int} (h : AI A c e) : 0 ≤ A 0 6 ∧ A 0 6 ≤ 4 * A 0 5 := h.2.2.2.2.2.2.1
theorem AI.ck {A : AV} {c e : Int} (h : AI A c e) : 0 ≤ A 0 7 ∧ A 0 7 ≤ c := h.2.2.2.2.2.2.2.1
theorem AI.np {A : AV} {c e : Int} (h : AI A c e) : 0 ≤ A 0 8 ∧ A 0 8 ≤ A 0 7 + 25344 := h.2.2.2.2.2.2.2.2.1
theorem AI.la {A : AV} {c e : Int} (h : AI A c e) : 0 ≤ A 0 9 ∧ A 0 9 ≤ 16 := h.2.2.2.2.2.2.2.2.2.1
theorem AI.ct {A : AV} {c e : Int} (h : AI A c e) : ∀ j : Int, 10 ≤ j → j ≤ 17 → 0 ≤ A 0 j ∧ A 0 j ≤ A 0 7 := h.2.2.2.2.2.2.2.2.2.2.1
theorem AI.dog {A : AV} {c e : Int} (h : AI A c e) : ∀ i : Int, 0 ≤ i → i < A 0 4 → (2 ≤ A 1 i ∧ A 1 i ≤ 999) ∧ (1 ≤ A 2 i ∧ A 2 i < A 1 i) ∧ (0 ≤ A 3 i ∧ A 3 i ≤ 999) := h.2.2.2.2.2.2.2.2.2.2.2.1
theorem AI.frm {A : AV} {c e : Int} (h : AI A c e) : ∀ f : Int, 0 ≤ f → f < A 0 6 → (3 ≤ A 6 f ∧ A 6 f ≤ 6) ∧ (0 ≤ A 7 f ∧ A 7 f ≤ 2) ∧ (0 ≤ A 8 f ∧ A 8 f ≤ 9) ∧ (f ≠ e → A 7 f = 0 → A 8 f < A 0 3) := h.2.2.2.2.2.2.2.2.2.2.2.2.1
theorem AI.msg {A : AV} {c e : Int} (h : AI A c e) : ∀ m : Int, 0 ≤ m → m < A 0 5 → (1 ≤ A 4 m ∧ A 4 m ≤ 16) ∧ 0 ≤ A 5 m ∧ A 5 m + (A 4 m + 3) / 4 ≤ A 0 6 ∧ ∀ j : Int, 0 ≤ j → j < (A 4 m + 3) / 4 → A 6 (A 5 m + j) = min 4 (A 4 m - 4 * j) + 2 := h.2.2.2.2.2.2.2.2.2.2.2.2.2.1
theorem AI.byt {A : AV} {c e : Int} (h : AI A c e) : ∀ i : Int, 0 ≤ A 10 i ∧ A 10 i ≤ 255 := h.2.2.2.2.2.2.2.2.2.2.2.2.2.2
theorem AI.mk {A : AV} {c e : Int} (h_b : 1 ≤ A 0 0 ∧ A 0 0 ≤ 9) (h_dr : -99 ≤ A 0 1 ∧ A 0 1 ≤ 99) (h_ba : 1 ≤ A 0 2 ∧ A 0 2 ≤ 99) (h_li : 1 ≤ A 0 3 ∧ A 0 3 ≤ 9) (h_dg : 0 ≤ A 0 4 ∧ A 0 4 ≤ 3) (h_ms : 0 ≤ A 0 5 ∧ A 0 5 ≤ 12) (h_fr : 0 ≤ A 0 6 ∧ A 0 6 ≤ 4 * A 0 5) (h_ck : 0 ≤ A 0 7 ∧ A 0 7 ≤ c) (h_np : 0 ≤ A 0 8 ∧ A 0 8 ≤ A 0 7 + 25344) (h_la : 0 ≤ A 0 9 ∧ A 0 9 ≤ 16) (h_ct : ∀ j : Int, 10 ≤ j → j ≤ 17 → 0 ≤ A 0 j ∧ A 0 j ≤ A 0 7) (h_dog : ∀ i : Int, 0 ≤ i → i < A 0 4 → (2 ≤ A 1 i ∧ A 1 i ≤ 999) ∧ (1 ≤ A 2 i ∧ A 2 i < A 1 i) ∧ (0 ≤ A 3 i ∧ A 3 i ≤ 999)) (h_frm : ∀ f : Int, 0 ≤ f → f < A 0 6 → (3 ≤ A 6 f ∧ A 6 f ≤ 6) ∧ (0 ≤ A 7 f ∧ A 7 f ≤ 2) ∧ (0 ≤ A 8 f ∧ A 8 f ≤ 9) ∧ (f ≠ e → A 7 f = 0 → A 8 f < A 0 3)) (h_msg : ∀ m : Int, 0 ≤ m → m < A 0 5 → (1 ≤ A 4 m ∧ A 4 m ≤ 16) ∧ 0 ≤ A 5 m ∧ A 5 m + (A 4 m + 3) / 4 ≤ A 0 6 ∧ ∀ j : Int, 0 ≤ j → j < (A 4 m + 3) / 4 → A 6 (A 5 m + j) = min 4 (A 4 m - 4 * j) + 2) (h_byt : ∀ i : Int, 0 ≤ A 10 i ∧ A 10 i ≤ 255) : AI A c e := ⟨h_b, h_dr, h_ba, h_li, h_dg, h_ms, h_fr, h_ck, h_np, h_la, h_ct, h_dog, h_frm, h_msg, h_byt⟩
abbrev AINV (A : AV) (c : Int) : Prop := AI A c (-1)
/-- what the view doesn't show -/
def CX (I : Nat → Int → Int) (p : Nat) : Prop :=
  (∀ i : Int, 0 ≤ i → i < 288 → (0 ≤ I (p + 12) i ∧ I (p + 12) i ≤ 255) ∧ (0 ≤ I (p + 13) i ∧ I (p + 13) i ≤ 255)) ∧
  (∀ f : Int, 0 ≤ f → f < I (p + 7) 0 → 0 ≤ I (p + 11) f ∧ I (p + 11) f ≤ I (p + 10) f) ∧
  I (p + 14) 6 = (I (p + 14) 5 + 8 * I (p + 14) 0) * I p 0
def CINV (I : Nat → Int → Int) (p : Nat) (c : Int) : Prop := AINV (Vc I p) c ∧ CX I p
section CI
variable {I : Nat → Int → Int} {p : Nat} {c : Int}
theorem CINV.sc (h : CINV I p c) : (1 ≤ I p 0 ∧ I p 0 ≤ 9) ∧ (-99 ≤ I p 1 ∧ I p 1 ≤ 99) ∧ (1 ≤ I p 2 ∧ I p 2 ≤ 99) ∧ (1 ≤ I p 3 ∧ I p 3 ≤ 9) ∧ (0 ≤ I (p + 3) 0 ∧ I (p + 3) 0 ≤ 3) ∧ (0 ≤ I p 7 ∧ I p 7 ≤ 12) ∧ (0 ≤ I (p + 7) 0 ∧ I (p + 7) 0 ≤ 4 * I p 7) ∧ (0 ≤ I p 4 ∧ I p 4 ≤ c) ∧ (0 ≤ I p 5 ∧ I p 5 ≤ I p 4 + 25344) ∧ (-1 ≤ I p 6 ∧ I p 6 ≤ 15) := by
  have h0 := h.1.b; have h1 := h.1.dr; have h2 := h.1.ba; have h3 := h.1.li; have h4 := h.1.dg; have h5 := h.1.ms; have h6 := h.1.fr; have h7 := h.1.ck; have h8 := h.1.np; have h9 := h.1.la
  rw [vr0] at h0; rw [vr1] at h1; rw [vr2] at h2; rw [vr3] at h3; rw [vr4] at h4; rw [vr5] at h5; rw [vr6, vr5] at h6; rw [vr7] at h7; rw [vr8, vr7] at h8; rw [vr9] at h9
  exact ⟨h0, h1, h2, h3, h4, h5, h6, h7, h8, by omega, by omega⟩
theorem CINV.ct (h : CINV I p c) : (∀ j : Int, j = 0 ∨ j = 1 ∨ j = 2 ∨ j = 3 ∨ j = 4 ∨ j = 5 ∨ j = 7 ∨ j = 8 → 0 ≤ I (p + 14) j ∧ I (p + 14) j ≤ I p 4) := by
  have g := h.1.ct
  rw [vr7] at g
  intro j hj
  rcases hj with rfl | rfl | rfl | rfl | rfl | rfl | rfl | rfl
  · have := g 10 (by decide) (by decide); rw [vr10] at this; exact this
  · have := g 11 (by decide) (by decide); rw [vr11] at this; exact this
  · have := g 12 (by decide) (by decide); rw [vr12] at this; exact this
  · have := g 13 (by decide) (by decide); rw [vr13] at this; exact this
  · have := g 14 (by decide) (by decide); rw [vr14] at this; exact this
  · have := g 16 (by decide) (by decide); rw [vr16] at this; exact this
  · have := g 15 (by decide) (by decide); rw [vr15] at this; exact this
  · have := g 17 (by decide) (by decide); rw [vr17] at this; exact this
theorem CINV.dogs (h : CINV I p c) : DogsOK I p := by
  refine ⟨h.sc.2.2.2.2.1, fun i h0 h1 => ?_⟩
  have g := h.1.dog i h0 (by rw [vr4]; exact h1)
  rw [vc1, vc2, vc3, ent_in h0 h1, ent_in h0 h1, ent_in h0 h1] at g
  exact g
theorem CINV.fr (h : CINV I p c) {f : Int} (h0 : 0 ≤ f) (h1 : f < I (p + 7) 0) : (3 ≤ I (p + 8) f ∧ I (p + 8) f ≤ 6) ∧ (0 ≤ I (p + 9) f ∧ I (p + 9) f ≤ 2) ∧ (0 ≤ I (p + 10) f ∧ I (p + 10) f ≤ 9) ∧ (I (p + 9) f = 0 → I (p + 10) f < I p 3) := by
  have g := h.1.frm f h0 (by rw [vr6]; exact h1)
  rw [vc6, vc7, vc8, ent_in h0 h1, ent_in h0 h1, ent_in h0 h1, vr3] at g
  exact ⟨g.1, g.2.1, g.2.2.1, g.2.2.2 (by omega)⟩
theorem CINV.frames (h : CINV I p c) : FramesOK I p := by
  have hs := h.sc
  refine ⟨by omega, fun f h0 h1 => ?_, h.2.1⟩
  have g := h.fr h0 h1
  have g2 := h.2.2.1 f h0 h1
  exact ⟨g.1, g.2.1, g.2.2.1, by omega⟩
theorem CINV.ms (h : CINV I p c) {m : Int} (h0 : 0 ≤ m) (h1 : m < I p 7) : (1 ≤ I (p + 1) m ∧ I (p + 1) m ≤ 16) ∧ 0 ≤ I (p + 2) m ∧ I (p + 2) m + (I (p + 1) m + 3) / 4 ≤ I (p + 7) 0 ∧ ∀ j : Int, 0 ≤ j → j < (I (p + 1) m + 3) / 4 → I (p + 8) (I (p + 2) m + j) = min 4 (I (p + 1) m - 4 * j) + 2 := by
  have g := h.1.msg m h0 (by rw [vr5]; exact h1)
  rw [vc4, vc5, vc6, ent_in h0 h1, ent_in h0 h1, vr6] at g
  refine ⟨g.1, g.2.1, g.2.2.1, fun j hj hj2 => ?_⟩
  have := g.2.2.2 j hj hj2
  rw [ent_in (by omega) (by omega)] at this
  exact this
/-- the abstract result is the class's -/
theorem chew_vc (h : CINV I p c) (t : Int) : chewA (Vc I p) t = chew I p t := by
  unfold chewA chew
  rw [vr4]
  exact chewD_congr (fun i h0 h1 => ⟨ent_in h0 h1, ent_in h0 h1, ent_in h0 h1⟩) t
theorem bitZ_congr {S T : Int → Int} {n b : Int} (h : ∀ k, 0 ≤ k → k < n → S k = T k) (h0 : 0 ≤ b) (h1 : b < 8 * n) : bitZ S b = bitZ T b := by
  unfold bitZ
  rw [h (b / 8) (by omega) (by omega)]
theorem takZ_congr {cb cb2 : Int → Int} {n dr : Int} (h : ∀ b, 0 ≤ b → b < n → cb b = cb2 b) (h2 : -99 ≤ dr) (h3 : dr ≤ 99) {b : Int} (h0 : 0 ≤ b) (h1 : b ≤ 1000) : takZ cb n dr b = takZ cb2 n dr b := by
  have := tkI_r h0 h1 h2 h3
  unfold takZ
  split
  · exact h _ this.1 (by assumption)
  · rfl
theorem byteN_congr {t u : Int → Int} {k : Int} : ∀ n : Nat, (∀ i : Int, 0 ≤ i → i < n → t (8 * k + i) = u (8 * k + i)) → byteN t k n = byteN u k n
  | 0, _ => rfl
  | n + 1, h => by
    show 2 * byteN t k n + t (8 * k + n) = 2 * byteN u k n + u (8 * k + n)
    rw [byteN_congr n (fun i h0 h1 => h i h0 (by omega)), h n (by omega) (by omega)]
/-- bytes taken of equal frames -/
theorem got_congr {S T : Int → Int} {ch ch2 : Int → Bool} {n dr k : Int} (hS : ∀ k, 0 ≤ k → k < n → S k = T k) (hc : ∀ b, ch b = ch2 b) (hn : n ≤ 6) (h2 : -99 ≤ dr) (h3 : dr ≤ 99) (hk : 0 ≤ k) (hk2 : k ≤ 6) : byteZ (takZ (cabZ S ch) (8 * n) dr) k = byteZ (takZ (cabZ T ch2) (8 * n) dr) k := by
  unfold byteZ
  refine byteN_congr 8 fun i h0 h1 => takZ_congr (fun b hb hb2 => ?_) h2 h3 (by omega) (by omega)
  unfold cabZ
  rw [hc b, bitZ_congr hS hb hb2]
theorem res_congr {S T : Int → Int} {ch ch2 : Int → Bool} {n : Nat} {dr : Int} (hS : ∀ k : Int, 0 ≤ k → k < (n : Int) → S k = T k) (hc : ∀ b, ch b = ch2 b) (hn0 : 1 ≤ n) (hn : n ≤ 6) (h2 : -99 ≤ dr) (h3 : dr ≤ 99) : resZ S n ch dr = resZ T n ch2 dr := by
  unfold resZ
  rw [readZ_congr hn0 (fun i h0 h1 => got_congr (n := n) hS hc (by omega) h2 h3 h0 (by omega)), show ch = ch2 from funext hc]
theorem res_vc (h : CINV I p c) {f t bt : Int} (h0 : 0 ≤ f) (h1 : f < I (p + 7) 0) : resA (Vc I p) f t bt = resF I p f t bt (I p 1) ∧ ∀ k, 0 ≤ k → k < I (p + 8) f → takA (Vc I p) f t bt k = byteZ (takZ (cabF I p f t bt) (I (p + 8) f * 8) (I p 1)) k := by
  have hf := (h.fr h0 h1).1
  have hs := h.sc
  have hS : ∀ k, 0 ≤ k → k < I (p + 8) f → SfA (Vc I p) f k = Sf I p f k := fun k hk hk2 => by
    unfold SfA Sf
    rw [vc10, entB_pos (by omega) (by omega) (by rw [show (6 * f + k) / 6 = f from by omega]; omega)]
    congr 1
    omega
  have hc : ∀ b, chA (Vc I p) t bt b = chF I p t bt b := fun b => chew_vc h _
  unfold resA resF takA cabF
  rw [(vrow h0 h1).1, vr1]
  refine ⟨res_congr (fun k hk hk2 => hS k hk (by omega)) hc (by omega) (by omega) hs.2.1.1 hs.2.1.2, fun k hk hk2 => ?_⟩
  rw [show I (p + 8) f * 8 = 8 * I (p + 8) f from by omega]
  exact got_congr hS hc (by omega) hs.2.1.1 hs.2.1.2 hk (by omega)
end CI
/-! the parts of an attempt keep it -/
theorem AI.mono {A : AV} {c d e : Int} (h : AI A c e) (hd : A 0 7 ≤ d) : AI A d e := AI.mk h.b h.dr h.ba h.li h.dg h.ms h.fr ⟨h.ck.1, hd⟩ h.np h.la h.ct h.dog h.frm h.msg h.byt
theorem up2_00 {A : AV} {j z i : Int} : up2 A 0 j z 0 i = if i = j then z else A 0 i := by
  unfold up2
  by_cases h : i = j
  · rw [if_pos ⟨rfl, h⟩, if_pos h]
  · rw [if_neg (fun z => h z.2), if_neg h]
theorem up2_0k {A : AV} {j z i : Int} {k : Nat} (hk : k ≠ 0) : up2 A 0 j z k i = A k i := up2_p hk
theorem AI.nap {A : AV} {c e : Int} (h : AI A c e) : AI (napA A) (c + 25344) e := by
  have hc := h.ck; have hn := h.np
  unfold napA
  split
  · refine AI.mk ?_ ?_ ?_ ?_ ?_ ?_ ?_ ?_ ?_ ?_ ?_ ?_ ?_ ?_ ?_
    · exact h.b
    · exact h.dr
    · exact h.ba
    · exact h.li
    · exact h.dg
    · exact h.ms
    · exact h.fr
    · rw [up2_s]; omega
    · rw [up2_s, up2_i (by decide), up2_i (by decide)]; omega
    · exact h.la
    · intro j h0 h1
      have g := h.ct j h0 h1
      rw [up2_s, up2_i (by omega), up2_00]
      have g2 := h.ct 15 (by decide) (by decide)
      split <;> omega
    · exact h.dog
    · exact h.frm
    · exact h.msg
    · exact h.byt
  · exact h.mono (by omega)
theorem AI.cnt {A : AV} {c f : Int} (h : AINV A c) (h0 : 0 ≤ f) (h1 : f < A 0 6) (hq : A 7 f = 0) : AI (cntA A f) (c + 504) f := by
  have hc := h.ck; have hn := h.np; have hb := h.b
  have hf := h.frm f h0 h1
  have hlt := hf.2.2.2 (by omega) hq
  have hl := h.li
  have m1 : 8 ≤ (A 6 f * 8 + 8) * A 0 0 := by
    have : (A 6 f * 8 + 8) * 1 ≤ (A 6 f * 8 + 8) * A 0 0 := Int.mul_le_mul_of_nonneg_left hb.1 (by omega)
    omega
  have m3 : A 6 f * 8 + 8 ≤ (A 6 f * 8 + 8) * A 0 0 := by
    have : (A 6 f * 8 + 8) * 1 ≤ (A 6 f * 8 + 8) * A 0 0 := Int.mul_le_mul_of_nonneg_left hb.1 (by omega)
    omega
  have m2 : (A 6 f * 8 + 8) * A 0 0 ≤ 504 := by
    have : (A 6 f * 8 + 8) * A 0 0 ≤ 56 * 9 := Int.mul_le_mul (by omega) hb.2 (by omega) (by omega)
    omega
  unfold cntA
  refine AI.mk ?_ ?_ ?_ ?_ ?_ ?_ ?_ ?_ ?_ ?_ ?_ ?_ ?_ ?_ ?_
  · exact h.b
  · exact h.dr
  · exact h.ba
  · exact h.li
  · exact h.dg
  · exact h.ms
  · exact h.fr
  · rw [up2_s]; omega
  · rw [up2_s, up2_i (by decide), up2_i (by decide), up2_i (by decide), up2_p (by decide)]; omega
  · exact h.la
  · intro j g0 g1
    have g := h.ct j g0 g1
    rw [up2_s, up2_i (by omega), up2_00, up2_00, up2_p (by decide)]
    have g2 := h.ct 16 (by decide) (by decide)
    have g3 := h.ct 10 (by decide) (by decide)
    split
    · omega
    · split <;> omega
  · exact h.dog
  · intro g g0 g1
    have hg := h.frm g g0 g1
    rw [up2_0k (by decide), up2_0k (by decide), up2_0k (by decide), up2_p (by decide), up2_0k (by decide), up2_0k (by decide), up2_0k (by decide), up2_p (by decide), up2_0k (by decide), up2_0k (by decide), up2_0k (by decide)]
    refine ⟨hg.1, hg.2.1, ?_, fun e => ?_⟩
    · by_cases e : g = f
      · rw [up2_e rfl e]; omega
      · rw [up2_i e]; exact hg.2.2.1
    · rw [up2_i e]; exact hg.2.2.2 (by omega)
  · exact h.msg
  · exact h.byt
theorem wrB_r {A : AV} {f n : Int} {B : Int → Int} {k : Nat} {i : Int} (hk : k ≠ 11) : wrB A f n B k i = A k i := if_neg fun z => hk z.1
theorem AI.ct1 {A : AV} {c e : Int} (j z : Int) (h : AI A c e) (hj : 10 ≤ j ∧ j ≤ 17) (hz : 0 ≤ z) (hz2 : z ≤ A 0 7) : AI (up2 A 0 j z) c e := by
  have q : ∀ i, ¬ i = j → up2 A 0 j z 0 i = A 0 i := fun i hi => up2_i hi
  refine AI.mk ?_ ?_ ?_ ?_ ?_ ?_ ?_ ?_ ?_ ?_ ?_ ?_ ?_ ?_ ?_
  · rw [q 0 (by omega)]; exact h.b
  · rw [q 1 (by omega)]; exact h.dr
  · rw [q 2 (by omega)]; exact h.ba
  · rw [q 3 (by omega)]; exact h.li
  · rw [q 4 (by omega)]; exact h.dg
  · rw [q 5 (by omega)]; exact h.ms
  · rw [q 6 (by omega), q 5 (by omega)]; exact h.fr
  · rw [q 7 (by omega)]; exact h.ck
  · rw [q 8 (by omega), q 7 (by omega)]; exact h.np
  · rw [q 9 (by omega)]; exact h.la
  · intro i g0 g1
    have g := h.ct i g0 g1
    rw [q 7 (by omega), up2_00]
    split <;> omega
  · rw [q 4 (by omega)]; exact h.dog
  · rw [q 6 (by omega), q 3 (by omega)]; exact h.frm
  · rw [q 5 (by omega), q 6 (by omega)]; exact h.msg
  · exact h.byt
theorem AI.la1 {A : AV} {c e z : Int} (h : AI A c e) (hz : 0 ≤ z) (hz2 : z ≤ 16) : AI (up2 A 0 9 z) c e :=
  AI.mk h.b h.dr h.ba h.li h.dg h.ms h.fr h.ck h.np ⟨hz, hz2⟩ (fun j g0 g1 => by rw [up2_i (by omega), up2_i (by decide)]; exact h.ct j g0 g1) h.dog h.frm h.msg h.byt
theorem AI.wr {A : AV} {c e f n y z : Int} {B : Int → Int} (h : AI A c e) : AI (wrB (up2 A 9 y z) f n B) c e :=
  AI.mk h.b h.dr h.ba h.li h.dg h.ms h.fr h.ck h.np h.la (fun j g0 g1 => h.ct j g0 g1) h.dog h.frm h.msg h.byt
theorem AI.rec {A : AV} {c e f r : Int} {B : Int → Int} (h : AI A c e) (hj : ∀ j : Int, 11 ≤ j → j ≤ 14 → A 0 j < A 0 7) (hB : 0 ≤ B 0 ∧ B 0 ≤ 255) : AI (recA A f r B) c e := by
  unfold recA
  have q1 := hj 11 (by decide) (by decide); have q2 := hj 12 (by decide) (by decide); have q3 := hj 13 (by decide) (by decide); have q4 := hj 14 (by decide) (by decide)
  have p1 := h.ct 11 (by decide) (by decide); have p2 := h.ct 12 (by decide) (by decide); have p3 := h.ct 13 (by decide) (by decide); have p4 := h.ct 14 (by decide) (by decide)
  split
  · exact h.ct1 11 _ (by decide) (by omega) (by omega)
  · have hE : AI (up2 (if B 0 / 16 + 1 = A 0 9 then up2 A 0 12 (A 0 12 + 1) else wrB (up2 (up2 A 0 13 (A 0 13 + 1)) 9 f 1) f (A 6 f) B) 0 9 (B 0 / 16 + 1)) c e := by
      refine AI.la1 ?_ (by omega) (by omega)
      split
      · exact h.ct1 12 _ (by decide) (by omega) (by omega)
      · exact (h.ct1 13 _ (by decide) (by omega) (by omega)).wr
    dsimp only
    split
    · refine hE.ct1 14 _ (by decide) ?_ ?_
      · have := hE.ct 14 (by decide) (by decide); omega
      · rw [up2_i (by decide), up2_i (by decide)]
        split
        · rw [up2_i (by decide), up2_i (by decide)]; omega
        · have w : ∀ i : Int, wrB (up2 (up2 A 0 13 (A 0 13 + 1)) 9 f 1) f (A 6 f) B 0 i = up2 A 0 13 (A 0 13 + 1) 0 i := fun i => by rw [wrB_r (by decide), up2_p (by decide)]
          rw [w, w, up2_i (by decide), up2_i (by decide)]; omega
    · exact hE
theorem rec_0 {A : AV} {f r : Int} {B : Int → Int} {i : Int} (h1 : i < 9 ∨ 14 < i) : recA A f r B 0 i = A 0 i := by
  unfold recA
  split
  · exact up2_i (by omega)
  · dsimp only
    have hE : up2 (if B 0 / 16 + 1 = A 0 9 then up2 A 0 12 (A 0 12 + 1) else wrB (up2 (up2 A 0 13 (A 0 13 + 1)) 9 f 1) f (A 6 f) B) 0 9 (B 0 / 16 + 1) 0 i = A 0 i := by
      rw [up2_i (by omega)]
      split
      · exact up2_i (by omega)
      · rw [wrB_r (by decide), up2_p (by decide), up2_i (by omega)]
    split
    · rw [up2_i (by omega)]; exact hE
    · exact hE
theorem rec_k {A : AV} {f r : Int} {B : Int → Int} {k : Nat} {i : Int} (hk : k ≠ 0) (h9 : k ≠ 9) (h11 : k ≠ 11) : recA A f r B k i = A k i := by
  unfold recA
  split
  · exact up2_p hk
  · dsimp only
    have hE : up2 (if B 0 / 16 + 1 = A 0 9 then up2 A 0 12 (A 0 12 + 1) else wrB (up2 (up2 A 0 13 (A 0 13 + 1)) 9 f 1) f (A 6 f) B) 0 9 (B 0 / 16 + 1) k i = A k i := by
      rw [up2_p hk]
      split
      · exact up2_p hk
      · rw [wrB_r h11, up2_p h9, up2_p hk]
    split
    · rw [up2_p hk]; exact hE
    · exact hE
theorem rec_congr {A : AV} {f r : Int} {B C : Int → Int} (hs : 1 ≤ A 6 f) (h : r ≠ 1 → ∀ k : Int, 0 ≤ k → k < A 6 f → B k = C k) : recA A f r B = recA A f r C := by
  unfold recA
  split
  · rfl
  · rename_i hr
    have h := h hr
    have e : ∀ X : AV, wrB X f (A 6 f) B = wrB X f (A 6 f) C := fun X => by
      funext k i
      unfold wrB
      split
      · rename_i z; exact h _ (by omega) (by omega)
      · rfl
    rw [h 0 (by decide) (by omega), e]
theorem AI.set {A : AV} {c f r : Int} (h : AI A c f) (h0 : 0 ≤ f) (h1 : f < A 0 6) (ht : 1 ≤ A 8 f ∧ A 8 f ≤ A 0 3) : AINV (setA A f r) c := by
  have hl := h.li; have hb := h.ba; have hn := h.np; have hc := h.ck
  have st : ∀ z : Int, (z = 1 ∨ z = 2) → AINV (up2 A 7 f z) c := fun z hz =>
    AI.mk h.b h.dr h.ba h.li h.dg h.ms h.fr h.ck h.np h.la (fun j g0 g1 => h.ct j g0 g1) h.dog (fun g g0 g1 => by
      have hg := h.frm g g0 g1
      have r7 : ∀ (k : Nat) (i : Int), k ≠ 7 → up2 A 7 f z k i = A k i := fun k i hk => up2_p hk
      rw [r7 6 g (by decide), r7 8 g (by decide), r7 0 3 (by decide)]
      refine ⟨hg.1, ?_, hg.2.2.1, fun _ e => ?_⟩
      · by_cases e : g = f
        · rw [up2_e rfl e]; omega
        · rw [up2_i e]; exact hg.2.1
      · by_cases e2 : g = f
        · rw [up2_e rfl e2] at e; omega
        · rw [up2_i e2] at e; exact hg.2.2.2 e2 e) h.msg h.byt
  unfold setA
  split
  · exact st 1 (by decide)
  · split
    · exact st 2 (by decide)
    · have m : A 0 2 * 2 ^ (A 8 f - 1).toNat ≤ 99 * 256 := by
        have e : (2 : Int) ^ (A 8 f - 1).toNat ≤ 2 ^ 8 := by
          have : (2 : Nat) ^ (A 8 f - 1).toNat ≤ 2 ^ 8 := Nat.pow_le_pow_right (by decide) (by omega)
          have := Int.ofNat_le.mpr this
          rw [Int.natCast_pow, Int.natCast_pow] at this
          exact this
        rw [p28] at e
        exact Int.mul_le_mul hb.2 e (Int.le_of_lt (Int.pow_pos (by decide))) (by decide)
      have m0 : 0 ≤ A 0 2 * 2 ^ (A 8 f - 1).toNat := Int.mul_nonneg (by omega) (Int.le_of_lt (Int.pow_pos (by decide)))
      refine AI.mk h.b h.dr h.ba h.li h.dg h.ms h.fr h.ck ?_ h.la (fun j g0 g1 => ?_) h.dog (fun g g0 g1 => ?_) h.msg h.byt
      · rw [up2_s, up2_i (by decide)]; omega
      · rw [up2_i (by omega), up2_i (by decide)]; exact h.ct j g0 g1
      · have hg := h.frm g g0 g1
        rw [up2_p (by decide), up2_p (by decide), up2_p (by decide)]
        refine ⟨hg.1, hg.2.1, hg.2.2.1, fun _ e => ?_⟩
        rw [up2_i (by decide)]
        by_cases e2 : g = f
        · rw [e2]; omega
        · exact hg.2.2.2 e2 e
theorem res_r (S : Int → Int) (n : Nat) (ch : Int → Bool) (dr : Int) : 0 ≤ resZ S n ch dr ∧ resZ S n ch dr ≤ 2 := by
  unfold resZ
  split
  · split <;> decide
  · decide
theorem takA_b (A : AV) (f t bt k : Int) : 0 ≤ takA A f t bt k ∧ takA A f t bt k ≤ 255 := byteZ_b (takZ_r (cabZ_r _ _) _ _) k
/-- an attempt keeps it -/
theorem AI.att {A : AV} {c f : Int} (h : AINV A c) (h0 : 0 ≤ f) (h1 : f < A 0 6) (hq : A 7 f = 0) : AINV (attA A f) (c + 25848) := by
  have hn : AINV (napA A) (c + 25344) := h.nap
  have n6 : napA A 0 6 = A 0 6 := by unfold napA; split <;> rfl
  have n7 : napA A 7 f = A 7 f := by unfold napA; split <;> rfl
  have hf := hn.frm f h0 (by omega)
  have hk := hn.cnt h0 (by omega) (by omega)
  have hb := hn.b
  have m3 : A 6 f * 8 + 8 ≤ (A 6 f * 8 + 8) * 1 := by omega
  have c7 : napA A 0 7 + 8 ≤ cntA (napA A) f 0 7 := by
    unfold cntA
    rw [up2_s]
    have : (napA A 6 f * 8 + 8) * 1 ≤ (napA A 6 f * 8 + 8) * napA A 0 0 := Int.mul_le_mul_of_nonneg_left hb.1 (by omega)
    omega
  have c8 : cntA (napA A) f 8 f = napA A 8 f + 1 := by
    unfold cntA
    rw [up2_p (by decide), up2_p (by decide), up2_p (by decide), up2_s]
  have hlt := hf.2.2.2 (by omega) (by omega)
  have c6 : cntA (napA A) f 0 6 = A 0 6 := n6
  have c3 : cntA (napA A) f 0 3 = napA A 0 3 := rfl
  have hr := hk.rec (f := f) (r := resA (napA A) f (napA A 0 7) (napA A 0 0)) (B := takA (napA A) f (napA A 0 7) (napA A 0 0)) (fun j g0 g1 => by
    have g := hn.ct j (by omega) (by omega)
    have e : cntA (napA A) f 0 j = napA A 0 j := by
      unfold cntA
      rw [up2_i (by omega), up2_i (by omega), up2_i (by omega), up2_p (by decide)]
    omega) (takA_b _ _ _ _ _)
  have hs := hr.set (r := resA (napA A) f (napA A 0 7) (napA A 0 0)) h0 (by rw [rec_0 (by decide)]; omega) (by rw [rec_k (by decide) (by decide) (by decide), rec_0 (by decide)]; omega)
  unfold attA
  refine AI.mono hs ?_
  have := hs.ck.2
  omega
end
section
/-! ===== the class's attempt ===== -/
theorem cp2_p {I : Nat → Int → Int} {s d a : Nat} {sp dp w b : Int} (h : a ≠ d) : cp2 I s sp d dp w a b = I a b := if_neg (fun z => h z.1)
section Line
variable {l : LX} {q p : Nat} {I : Nat → Int → Int} {v : Int} {fr : Bool} {c : Int}
theorem dt_nap (hl : l.1.stackTraces = false) (hp : LineAt q p) (h : CINV I p c) (hc : c ≤ 20000000) : DT l 52 [.ref p] (mm q I v fr) 0 0 (.inl none, mm q (napC I p) v fr) := by
  have hpb := hp.b
  have hs := h.sc
  have hk := h.ct 7 (by decide)
  refine mkdt hl (by decide) (Nat.le_of_ble_eq_true rfl) (L := [some (.ref p)]) rfl ?_
  refine x_aload_n (pc := 0) rfl d52_0 ?_
  refine m_getI (pc := 1) (z := 4) f52_52 (by decide +kernel) rfl hp.o0 d52_1 ?_
  refine x_aload_n (pc := 4) rfl d52_4 ?_
  refine m_getI (pc := 5) (z := 5) f52_55 (by decide +kernel) rfl hp.o0 d52_5 ?_
  refine x_icmp_ge (pc := 8) (tgt := 40) ⟨by omega, by omega⟩ ⟨by omega, by omega⟩ d52_8 (by decide) (fun g8 => ?_) (fun g8 => ?_)
  · refine x_vret (pc := 40) rfl (fun _ => rfl) d52_40 ?_
    unfold napC; rw [if_neg (by omega)]
  · refine x_aload_n (pc := 11) rfl d52_11 ?_
    refine m_getR (pc := 12) f52_35 (by decide +kernel) hp.o0 hp.r0_12 d52_12 ?_
    refine x_dup (pc := 15) rfl d52_15 ?_
    refine m_getI (pc := 16) (z := 7) f52_231 (by decide +kernel) rfl hp.o14 d52_16 ?_
    refine x_aload_n (pc := 19) rfl d52_19 ?_
    refine m_getI (pc := 20) (z := 5) f52_55 (by decide +kernel) rfl hp.o0 d52_20 ?_
    refine x_aload_n (pc := 23) rfl d52_23 ?_
    refine m_getI (pc := 24) (z := 4) f52_52 (by decide +kernel) rfl hp.o0 d52_24 ?_
    refine x_isub (pc := 27) d52_27 ?_
    refine x_iadd (pc := 28) d52_28 ?_
    refine m_putI (pc := 29) (z := 7) f52_231 (by decide +kernel) (by decide +kernel) rfl hp.o14 d52_29 ?_
    refine x_aload_n (pc := 32) rfl d52_32 ?_
    refine x_aload_n (pc := 33) rfl d52_33 ?_
    refine m_getW (pc := 34) (z := 5) (w := (I p 5)) f52_55 (by decide +kernel) rfl hp.o0 (by rw [up2_p (by omega)]) d52_34 ?_
    refine m_putI (pc := 37) (z := 4) f52_52 (by decide +kernel) (by decide +kernel) rfl hp.o0 d52_37 ?_
    refine x_vret (pc := 40) rfl (fun _ => rfl) d52_40 ?_
    unfold napC; rw [if_pos (by omega)]
theorem dt_arrive (hl : l.1.stackTraces = false) (hq : 181 ≤ q) (hp : LineAt q p) {f z : Int} (h0 : 0 ≤ f) (h1 : f < 48) (hz : I (p + 11) f = z) : DT l 23 [.ref (p + 7), .int (iI f), .ref 13] (mm q I v fr) 0 0 (.inl none, mm q (cp2 (up2 I (p + 11) f (z + 1)) 13 0 (p + 13) (f * 6) 6) v fr) := by
  have hpb := hp.b
  subst hz
  refine mkdt hl (by decide) (Nat.le_of_ble_eq_true rfl) (L := [some (.ref (p + 7)), some (.int (iI f)), some (.ref 13)]) rfl ?_
  refine x_iload_n (pc := 0) rfl d23_0 ?_
  refine x_if_lt (pc := 1) (tgt := 17) ⟨by omega, by omega⟩ d23_1 (by decide) (fun g1 => ?_) (fun g1 => ?_)
  · refine x_vret (pc := 17) rfl (fun _ => rfl) d23_17 ?_
    first | rfl | (exfalso; omega)
  · refine x_iload_n (pc := 4) rfl d23_4 ?_
    refine x_bipush (pc := 5) (by decide) d23_5 ?_
    refine x_icmp_ge (pc := 7) (tgt := 17) ⟨by omega, by omega⟩ ⟨by omega, by omega⟩ d23_7 (by decide) (fun g7 => ?_) (fun g7 => ?_)
    · refine x_vret (pc := 17) rfl (fun _ => rfl) d23_17 ?_
      first | rfl | (exfalso; omega)
    · refine x_aload_n (pc := 10) rfl d23_10 ?_
      refine m_alen (pc := 11) (z := 6) (ka13 (by omega)) rfl d23_11 ?_
      refine x_bipush (pc := 12) (by decide) d23_12 ?_
      refine x_icmp_ge (pc := 14) (tgt := 18) ⟨by omega, by omega⟩ ⟨by omega, by omega⟩ d23_14 (by decide) (fun _ => ?_) (fun z => absurd z (by decide))
      refine x_aload_n (pc := 18) rfl d23_18 ?_
      refine m_getR (pc := 19) f23_21 (by decide +kernel) hp.o7 hp.r7_4 d23_19 ?_
      refine x_iload_n (pc := 22) rfl d23_22 ?_
      refine x_dup2 (pc := 23) rfl rfl d23_23 ?_
      refine m_iald (pc := 24) hp.a11 (by omega) (by omega) (by omega) d23_24 ?_
      refine x_iconst (pc := 25) d23_25 ?_
      refine x_iadd (pc := 26) d23_26 ?_
      refine m_iast (pc := 27) hp.a11 (by omega) (by omega) (by omega) d23_27 ?_
      refine x_aload_n (pc := 28) rfl d23_28 ?_
      refine x_iconst (pc := 29) d23_29 ?_
      refine x_aload_n (pc := 30) rfl d23_30 ?_
      refine m_getR (pc := 31) f23_27 (by decide +kernel) hp.o7 hp.r7_6 d23_31 ?_
      refine x_iload_n (pc := 34) rfl d23_34 ?_
      refine x_bipush (pc := 35) (by decide) d23_35 ?_
      refine x_imul (pc := 37) d23_37 ?_
      refine x_bipush (pc := 38) (by decide) d23_38 ?_
      refine m_copy (pc := 40) c23_34 (ka13 (by omega)) hp.a13 (by omega) (by omega) (by omega) (by omega) (by omega) (by decide) (by decide) (by decide +kernel) (Nat.le_of_ble_eq_true rfl) d23_40 ?_
      refine x_vret (pc := 43) rfl (fun _ => rfl) d23_43 ?_
      first | rfl | (exfalso; omega)
theorem dt_settle (hl : l.1.stackTraces = false) (hp : LineAt q p) {f r : Int} (h0 : 0 ≤ f) (h1 : f < 48) (hr : 0 ≤ r ∧ r ≤ 2) (hs : (1 ≤ I p 2 ∧ I p 2 ≤ 99) ∧ (1 ≤ I p 3 ∧ I p 3 ≤ 9) ∧ (0 ≤ I p 4 ∧ I p 4 ≤ 30000000) ∧ (1 ≤ I (p + 10) f ∧ I (p + 10) f ≤ 20)) : DT l 54 [.ref p, .int (iI f), .int (iI r)] (mm q I v fr) 0 0 (.inl none, mm q (setC I p f r) v fr) := by
  have hpb := hp.b
  refine mkdt hl (by decide) (Nat.le_of_ble_eq_true rfl) (L := [some (.ref p), some (.int (iI f)), some (.int (iI r))]) rfl ?_
  refine x_iload_n (pc := 0) rfl d54_0 ?_
  refine x_if_ne (pc := 1) (tgt := 17) ⟨by omega, by omega⟩ d54_1 (by decide) (fun g1 => ?_) (fun g1 => ?_)
  · refine x_aload_n (pc := 17) rfl d54_17 ?_
    refine m_getR (pc := 18) f54_28 (by decide +kernel) hp.o0 hp.r0_11 d54_18 ?_
    refine m_getR (pc := 21) f54_207 (by decide +kernel) hp.o7 hp.r7_3 d54_21 ?_
    refine x_iload_n (pc := 24) rfl d54_24 ?_
    refine m_iald (pc := 25) hp.a10 (by omega) (by omega) (by omega) d54_25 ?_
    refine x_aload_n (pc := 26) rfl d54_26 ?_
    refine m_getI (pc := 27) (z := 3) f54_49 (by decide +kernel) rfl hp.o0 d54_27 ?_
    refine x_icmp_lt (pc := 30) (tgt := 46) ⟨by omega, by omega⟩ ⟨by omega, by omega⟩ d54_30 (by decide) (fun g30 => ?_) (fun g30 => ?_)
    · refine x_aload_n (pc := 46) rfl d54_46 ?_
      refine x_aload_n (pc := 47) rfl d54_47 ?_
      refine m_getI (pc := 48) (z := 4) f54_52 (by decide +kernel) rfl hp.o0 d54_48 ?_
      refine x_aload_n (pc := 51) rfl d54_51 ?_
      refine m_getI (pc := 52) (z := 2) f54_46 (by decide +kernel) rfl hp.o0 d54_52 ?_
      refine x_aload_n (pc := 55) rfl d54_55 ?_
      refine m_getR (pc := 56) f54_28 (by decide +kernel) hp.o0 hp.r0_11 d54_56 ?_
      refine m_getR (pc := 59) f54_207 (by decide +kernel) hp.o7 hp.r7_3 d54_59 ?_
      refine x_iload_n (pc := 62) rfl d54_62 ?_
      refine m_iald (pc := 63) hp.a10 (by omega) (by omega) (by omega) d54_63 ?_
      refine x_iconst (pc := 64) d54_64 ?_
      refine x_isub (pc := 65) d54_65 ?_
      refine x_ishl (pc := 66) (iI_shl (by omega) (by omega)) d54_66 ?_
      refine x_iadd (pc := 67) d54_67 ?_
      refine m_putI (pc := 68) (z := 5) f54_55 (by decide +kernel) (by decide +kernel) rfl hp.o0 d54_68 ?_
      refine x_vret (pc := 71) rfl (fun _ => rfl) d54_71 ?_
      unfold setC; rw [if_neg (by omega), if_neg (by omega)]
    · refine x_aload_n (pc := 33) rfl d54_33 ?_
      refine m_getR (pc := 34) f54_28 (by decide +kernel) hp.o0 hp.r0_11 d54_34 ?_
      refine m_getR (pc := 37) f54_165 (by decide +kernel) hp.o7 hp.r7_2 d54_37 ?_
      refine x_iload_n (pc := 40) rfl d54_40 ?_
      refine x_iconst (pc := 41) d54_41 ?_
      refine m_iast (pc := 42) hp.a9 (by omega) (by omega) (by omega) d54_42 ?_
      refine x_goto (pc := 43) (tgt := 71) d54_43 (by decide) ?_
      refine x_vret (pc := 71) rfl (fun _ => rfl) d54_71 ?_
      unfold setC; rw [if_neg (by omega), if_pos (by omega)]
  · refine x_aload_n (pc := 4) rfl d54_4 ?_
    refine m_getR (pc := 5) f54_28 (by decide +kernel) hp.o0 hp.r0_11 d54_5 ?_
    refine m_getR (pc := 8) f54_165 (by decide +kernel) hp.o7 hp.r7_2 d54_8 ?_
    refine x_iload_n (pc := 11) rfl d54_11 ?_
    refine x_iconst (pc := 12) d54_12 ?_
    refine m_iast (pc := 13) hp.a9 (by omega) (by omega) (by omega) d54_13 ?_
    refine x_goto (pc := 14) (tgt := 71) d54_14 (by decide) ?_
    refine x_vret (pc := 71) rfl (fun _ => rfl) d54_71 ?_
    unfold setC; rw [if_pos (by omega)]
theorem dt_receive (hl : l.1.stackTraces = false) (hq : 181 ≤ q) (hp : LineAt q p) {f r : Int} (h0 : 0 ≤ f) (h1 : f < 48) (hr : 0 ≤ r ∧ r ≤ 2) (hs : (∀ k : Int, 0 ≤ k → k < 6 → 0 ≤ I 13 k ∧ I 13 k ≤ 255) ∧ (-1 ≤ I p 6 ∧ I p 6 ≤ 15)) : DT l 53 [.ref p, .int (iI f), .int (iI r), .ref 13] (mm q I v fr) 0 0 (.inl none, mm q (recC I p f r) v fr) := by
  have hpb := hp.b
  have hg := hs.1 0 (by decide) (by decide)
  refine mkdt hl (by decide) (Nat.le_of_ble_eq_true rfl) (L := [some (.ref p), some (.int (iI f)), some (.int (iI r)), some (.ref 13), none]) rfl ?_
  refine x_iload_n (pc := 0) rfl d53_0 ?_
  refine x_iconst (pc := 1) d53_1 ?_
  refine x_icmp_ne (pc := 2) (tgt := 19) ⟨by omega, by omega⟩ ⟨by omega, by omega⟩ d53_2 (by decide) (fun g2 => ?_) (fun g2 => ?_)
  · refine x_aload_n (pc := 19) rfl d53_19 ?_
    refine x_iconst (pc := 20) d53_20 ?_
    refine m_iald (pc := 21) (ka13 (by omega)) (by omega) (by omega) (by omega) d53_21 ?_
    refine x_bipush (pc := 22) (by decide) d53_22 ?_
    refine x_idiv (pc := 24) (by omega) (by omega) (by omega) (by omega) d53_24 ?_
    refine x_istore (pc := 25) (by decide +kernel) rfl d53_25 ?_
    dsimp only [List.set]
    refine x_iload (pc := 27) rfl d53_27 ?_
    refine x_aload_n (pc := 29) rfl d53_29 ?_
    refine m_getI (pc := 30) (z := 6) f53_58 (by decide +kernel) rfl hp.o0 d53_30 ?_
    refine x_icmp_ne (pc := 33) (tgt := 52) ⟨by omega, by omega⟩ ⟨by omega, by omega⟩ d53_33 (by decide) (fun g33 => ?_) (fun g33 => ?_)
    · refine x_aload_n (pc := 52) rfl d53_52 ?_
      refine m_getR (pc := 53) f53_35 (by decide +kernel) hp.o0 hp.r0_12 d53_53 ?_
      refine x_dup (pc := 56) rfl d53_56 ?_
      refine m_getI (pc := 57) (z := 3) f53_240 (by decide +kernel) rfl hp.o14 d53_57 ?_
      refine x_iconst (pc := 60) d53_60 ?_
      refine x_iadd (pc := 61) d53_61 ?_
      refine m_putI (pc := 62) (z := 3) f53_240 (by decide +kernel) (by decide +kernel) rfl hp.o14 d53_62 ?_
      refine x_aload_n (pc := 65) rfl d53_65 ?_
      refine m_getR (pc := 66) f53_28 (by decide +kernel) hp.o0 hp.r0_11 d53_66 ?_
      refine x_iload_n (pc := 69) rfl d53_69 ?_
      refine x_aload_n (pc := 70) rfl d53_70 ?_
      refine x_cVv (pc := 71) c53_243 (dt_arrive hl hq hp h0 h1 (z := I (p + 11) f) (up2_p (by omega))) hp.o7 rfl rfl (Nat.le_of_ble_eq_true rfl) (by decide +kernel) (by decide +kernel) rfl d53_71 ?_
      refine x_aload_n (pc := 74) rfl d53_74 ?_
      refine x_iload (pc := 75) rfl d53_75 ?_
      refine m_putI (pc := 77) (z := 6) f53_58 (by decide +kernel) (by decide +kernel) rfl hp.o0 d53_77 ?_
      refine x_iload_n (pc := 80) rfl d53_80 ?_
      refine x_iconst (pc := 81) d53_81 ?_
      refine x_icmp_ne (pc := 82) (tgt := 98) ⟨by omega, by omega⟩ ⟨by omega, by omega⟩ d53_82 (by decide) (fun g82 => ?_) (fun g82 => ?_)
      · refine x_vret (pc := 98) rfl (fun _ => rfl) d53_98 ?_
        unfold recC recC0; rw [if_neg (by omega : ¬ r = 1), if_neg (by omega : ¬ r = 2), if_neg (by omega : ¬ I 13 0 / 16 = I p 6)]
      · refine x_aload_n (pc := 85) rfl d53_85 ?_
        refine m_getR (pc := 86) f53_35 (by decide +kernel) hp.o0 hp.r0_12 d53_86 ?_
        refine x_dup (pc := 89) rfl d53_89 ?_
        refine m_getW (pc := 90) (z := 4) (w := ((cp2 (up2 (up2 I (p + 14) 3 ((I (p + 14) 3) + 1)) (p + 11) f (I (p + 11) f + 1)) 13 0 (p + 13) (f * 6) 6) (p + 14) 4)) f53_247 (by decide +kernel) rfl hp.o14 (by rw [up2_p (by omega)]) d53_90 ?_
        refine x_iconst (pc := 93) d53_93 ?_
        refine x_iadd (pc := 94) d53_94 ?_
        refine m_putI (pc := 95) (z := 4) f53_247 (by decide +kernel) (by decide +kernel) rfl hp.o14 d53_95 ?_
        refine x_vret (pc := 98) rfl (fun _ => rfl) d53_98 ?_
        unfold recC recC0; rw [if_neg (by omega : ¬ r = 1), if_pos (by omega : r = 2), if_neg (by omega : ¬ I 13 0 / 16 = I p 6), cp2_p (by omega), up2_p (by omega), up2_i (by decide)]
    · refine x_aload_n (pc := 36) rfl d53_36 ?_
      refine m_getR (pc := 37) f53_35 (by decide +kernel) hp.o0 hp.r0_12 d53_37 ?_
      refine x_dup (pc := 40) rfl d53_40 ?_
      refine m_getI (pc := 41) (z := 2) f53_237 (by decide +kernel) rfl hp.o14 d53_41 ?_
      refine x_iconst (pc := 44) d53_44 ?_
      refine x_iadd (pc := 45) d53_45 ?_
      refine m_putI (pc := 46) (z := 2) f53_237 (by decide +kernel) (by decide +kernel) rfl hp.o14 d53_46 ?_
      refine x_goto (pc := 49) (tgt := 74) d53_49 (by decide) ?_
      refine x_aload_n (pc := 74) rfl d53_74 ?_
      refine x_iload (pc := 75) rfl d53_75 ?_
      refine m_putI (pc := 77) (z := 6) f53_58 (by decide +kernel) (by decide +kernel) rfl hp.o0 d53_77 ?_
      refine x_iload_n (pc := 80) rfl d53_80 ?_
      refine x_iconst (pc := 81) d53_81 ?_
      refine x_icmp_ne (pc := 82) (tgt := 98) ⟨by omega, by omega⟩ ⟨by omega, by omega⟩ d53_82 (by decide) (fun g82 => ?_) (fun g82 => ?_)
      · refine x_vret (pc := 98) rfl (fun _ => rfl) d53_98 ?_
        unfold recC recC0; rw [if_neg (by omega : ¬ r = 1), if_neg (by omega : ¬ r = 2), if_pos (by omega : I 13 0 / 16 = I p 6)]
      · refine x_aload_n (pc := 85) rfl d53_85 ?_
        refine m_getR (pc := 86) f53_35 (by decide +kernel) hp.o0 hp.r0_12 d53_86 ?_
        refine x_dup (pc := 89) rfl d53_89 ?_
        refine m_getW (pc := 90) (z := 4) (w := (I (p + 14) 4)) f53_247 (by decide +kernel) rfl hp.o14 (by rw [up2_p (by omega), up2_i (by decide)]) d53_90 ?_
        refine x_iconst (pc := 93) d53_93 ?_
        refine x_iadd (pc := 94) d53_94 ?_
        refine m_putI (pc := 95) (z := 4) f53_247 (by decide +kernel) (by decide +kernel) rfl hp.o14 d53_95 ?_
        refine x_vret (pc := 98) rfl (fun _ => rfl) d53_98 ?_
        unfold recC recC0; rw [if_neg (by omega : ¬ r = 1), if_pos (by omega : r = 2), if_pos (by omega : I 13 0 / 16 = I p 6)]
  · refine x_aload_n (pc := 5) rfl d53_5 ?_
    refine m_getR (pc := 6) f53_35 (by decide +kernel) hp.o0 hp.r0_12 d53_6 ?_
    refine x_dup (pc := 9) rfl d53_9 ?_
    refine m_getI (pc := 10) (z := 1) f53_234 (by decide +kernel) rfl hp.o14 d53_10 ?_
    refine x_iconst (pc := 13) d53_13 ?_
    refine x_iadd (pc := 14) d53_14 ?_
    refine m_putI (pc := 15) (z := 1) f53_234 (by decide +kernel) (by decide +kernel) rfl hp.o14 d53_15 ?_
    refine x_vret (pc := 18) rfl (fun _ => rfl) d53_18 ?_
    unfold recC; rw [if_pos (by omega : r = 1)]
/-- all places but those of the line and of what is sent -/
def offL (p : Nat) (I J : Nat → Int → Int) : Prop := ∀ a, (a < p ∨ p + 14 < a) → a ≠ 11 → a ≠ 12 → a ≠ 13 → J a = I a
theorem x_mem {y k n pc : Nat} {L : LL} {st : List Value} {Q : OO → Prop} {I J : Nat → Int → Int} (h : J = I) (kk : Ex l y k n pc L st (mm q J v fr) Q) : Ex l y k n pc L st (mm q I v fr) Q := by rw [← h]; exact kk
theorem CX.cong {I J : Nat → Int → Int} (h : CX I p) (hh : ∀ a, p ≤ a → a ≤ p + 14 → J a = I a) : CX J p := by
  unfold CX
  rw [hh (p + 12) (by omega) (by omega), hh (p + 13) (by omega) (by omega), hh (p + 7) (by omega) (by omega), hh (p + 11) (by omega) (by omega), hh (p + 10) (by omega) (by omega), hh (p + 14) (by omega) (by omega), hh p (by omega) (by omega)]
  exact h
theorem CINV.off {I J : Nat → Int → Int} (h : CINV I p c) (hh : ∀ a, p ≤ a → a ≤ p + 14 → J a = I a) : CINV J p c := by
  refine ⟨?_, h.2.cong hh⟩
  rw [vc_congr hh]
  exact h.1
theorem CINV.nap (h : CINV I p c) : CINV (napC I p) p (c + 25344) := by
  refine ⟨?_, ?_⟩
  · rw [vc_nap]; exact h.1.nap
  · have g := h.2
    unfold napC
    split
    · unfold CX
      rw [up2_off' _ _ _ (by omega), up2_off' _ _ _ (by omega), up2_off' _ _ _ (by omega), up2_off' _ _ _ (by omega), up2_off' _ _ _ (by omega), up2_off' _ _ _ (by omega), up2_off' _ _ _ (by omega), up2_off' _ _ _ (by omega), up2_off' _ _ _ (by omega), up2_off' _ _ _ (by omega), up2_p (by omega), up2_i (by decide), up2_p (by omega), up2_i (by decide), up2_p (by omega), up2_i (by decide), up2_i (by decide), up2_p (by omega)]
      exact g
    · exact g
/-! the memory behind an attempt -/
def cntC (J : Nat → Int → Int) (p : Nat) (f : Int) : Nat → Int → Int := up2 (up2 (up2 (up2 (up2 J (p + 10) f ((J (p + 10) f) + 1)) (p + 14) 0 ((J (p + 14) 0) + 1)) (p + 14) 5 ((J (p + 14) 5) + (J (p + 8) f * 8))) (p + 14) 6 ((J (p + 14) 6) + (((J (p + 8) f * 8) + 8) * (J p 0)))) p 4 ((J p 4) + (((J (p + 8) f * 8) + 8) * (J p 0)))
theorem cntC_a {J : Nat → Int → Int} {f : Int} {a : Nat} (h : a ≠ p) (h2 : a ≠ p + 10) (h3 : a ≠ p + 14) : cntC J p f a = J a := by
  unfold cntC
  rw [up2_off' _ _ _ h, up2_off' _ _ _ h3, up2_off' _ _ _ h3, up2_off' _ _ _ h3, up2_off' _ _ _ h2]
theorem cntC_p {J : Nat → Int → Int} {f j : Int} (h : j ≠ 4) : cntC J p f p j = J p j := by
  unfold cntC
  rw [up2_i h, up2_p (by omega), up2_p (by omega), up2_p (by omega), up2_p (by omega)]
theorem vc_cnt {J : Nat → Int → Int} {f : Int} (h0 : 0 ≤ f) (h1 : f < J (p + 7) 0) : Vc (cntC J p f) p = cntA (Vc J p) f := by
  unfold cntC cntA
  rw [vw7, vc_b, vw16, vw10, vc_tr h0 h1, vr7, vr16, vr10, vr0, (vrow h0 h1).1, (vrow h0 h1).2.2]
theorem recC_p {Y : Nat → Int → Int} {f r j : Int} (h : j ≠ 6) : recC Y p f r p j = Y p j := by
  have e : recC0 Y p f p j = Y p j := by
    unfold recC0
    rw [up2_i h]
    split
    · exact up2_p (by omega)
    · rw [cp2_p (by omega), up2_p (by omega), up2_p (by omega)]
  unfold recC
  split
  · exact up2_p (by omega)
  · split
    · rw [up2_p (by omega)]; exact e
    · exact e
theorem recC_a {Y : Nat → Int → Int} {f r : Int} {a : Nat} (h : a ≠ p) (h2 : a ≠ p + 11) (h3 : a ≠ p + 13) (h4 : a ≠ p + 14) : recC Y p f r a = Y a := by
  have e : recC0 Y p f a = Y a := by
    unfold recC0
    rw [up2_off' _ _ _ h]
    split
    · exact up2_off' _ _ _ h4
    · funext b
      rw [cp2_p h3, up2_p h2, up2_p h4]
  unfold recC
  split
  · exact up2_off' _ _ _ h4
  · split
    · rw [up2_off' _ _ _ h4]; exact e
    · exact e
theorem recC_14 {Y : Nat → Int → Int} {f r j : Int} (h : j = 0 ∨ j = 5 ∨ j = 6) : recC Y p f r (p + 14) j = Y (p + 14) j := by
  have e : recC0 Y p f (p + 14) j = Y (p + 14) j := by
    unfold recC0
    rw [up2_p (by omega)]
    split
    · exact up2_i (by omega)
    · rw [cp2_p (by omega), up2_p (by omega), up2_i (by omega)]
  unfold recC
  split
  · exact up2_i (by omega)
  · split
    · rw [up2_i (by omega)]; exact e
    · exact e
theorem recC_11 {Y : Nat → Int → Int} {f r g : Int} : recC Y p f r (p + 11) g = Y (p + 11) g ∨ g = f ∧ recC Y p f r (p + 11) g = Y (p + 11) g + 1 := by
  have e : recC0 Y p f (p + 11) g = Y (p + 11) g ∨ g = f ∧ recC0 Y p f (p + 11) g = Y (p + 11) g + 1 := by
    unfold recC0
    rw [up2_p (by omega)]
    split
    · exact Or.inl (up2_p (by omega))
    · rw [cp2_p (by omega)]
      by_cases e : g = f
      · exact Or.inr ⟨e, by rw [e, up2_s]⟩
      · exact Or.inl (by rw [up2_i e, up2_p (by omega)])
  unfold recC
  split
  · exact Or.inl (up2_p (by omega))
  · split
    · rw [up2_p (by omega)]; exact e
    · exact e
theorem recC_13 {Y : Nat → Int → Int} {f r : Int} (hy : ∀ i : Int, 0 ≤ i → i < 288 → 0 ≤ Y (p + 13) i ∧ Y (p + 13) i ≤ 255) (hb : ∀ k : Int, 0 ≤ k → k < 6 → 0 ≤ Y 13 k ∧ Y 13 k ≤ 255) (hp : 16 ≤ p) : ∀ i : Int, 0 ≤ i → i < 288 → 0 ≤ recC Y p f r (p + 13) i ∧ recC Y p f r (p + 13) i ≤ 255 := by
  intro i h0 h1
  have e : 0 ≤ recC0 Y p f (p + 13) i ∧ recC0 Y p f (p + 13) i ≤ 255 := by
    unfold recC0
    rw [up2_p (by omega)]
    split
    · rw [up2_p (by omega)]; exact hy i h0 h1
    · unfold cp2
      split
      · rw [up2_p (by omega), up2_p (by omega)]
        exact hb _ (by omega) (by omega)
      · rw [up2_p (by omega), up2_p (by omega)]; exact hy i h0 h1
  unfold recC
  split
  · rw [up2_p (by omega)]; exact hy i h0 h1
  · split
    · rw [up2_p (by omega)]; exact e
    · exact e
theorem setC_a {R : Nat → Int → Int} {f r : Int} {a : Nat} (h : a ≠ p) (h2 : a ≠ p + 9) : setC R p f r a = R a := by
  unfold setC
  split
  · exact up2_off' _ _ _ h2
  · split
    · exact up2_off' _ _ _ h2
    · exact up2_off' _ _ _ h
theorem setC_p {R : Nat → Int → Int} {f r j : Int} (h : j ≠ 5) : setC R p f r p j = R p j := by
  unfold setC
  split
  · exact up2_p (by omega)
  · split
    · exact up2_p (by omega)
    · exact up2_i h
theorem CX.att {J : Nat → Int → Int} {f r : Int} (h : CX J p) (hb : ∀ k : Int, 0 ≤ k → k < 6 → 0 ≤ J 13 k ∧ J 13 k ≤ 255) (hp : 16 ≤ p) : CX (setC (recC (cntC J p f) p f r) p f r) p := by
  obtain ⟨g1, g2, g3⟩ := h
  have e13 : cntC J p f (p + 13) = J (p + 13) := cntC_a (by omega) (by omega) (by omega)
  have e013 : cntC J p f 13 = J 13 := cntC_a (by omega) (by omega) (by omega)
  refine ⟨fun i h0 h1 => ⟨?_, ?_⟩, fun g h0 h1 => ?_, ?_⟩
  · rw [setC_a (by omega) (by omega), recC_a (by omega) (by omega) (by omega) (by omega), cntC_a (by omega) (by omega) (by omega)]
    exact (g1 i h0 h1).1
  · rw [setC_a (by omega) (by omega)]
    exact recC_13 (by rw [e13]; exact fun i h0 h1 => (g1 i h0 h1).2) (by rw [e013]; exact hb) hp i h0 h1
  · rw [setC_a (by omega) (by omega), recC_a (by omega) (by omega) (by omega) (by omega), cntC_a (by omega) (by omega) (by omega)] at h1
    have g9 := g2 g h0 h1
    rw [setC_a (by omega) (by omega), setC_a (by omega) (by omega), recC_a (a := p + 10) (by omega) (by omega) (by omega) (by omega)]
    have e10 : cntC J p f (p + 10) g = if g = f then J (p + 10) f + 1 else J (p + 10) g := by
      unfold cntC
      rw [up2_p (by omega), up2_p (by omega), up2_p (by omega), up2_p (by omega), up2_at]
    have e11 : cntC J p f (p + 11) g = J (p + 11) g := congrFun (cntC_a (by omega) (by omega) (by omega)) g
    rcases recC_11 (Y := cntC J p f) (p := p) (f := f) (r := r) (g := g) with e | ⟨e0, e⟩
    · rw [e, e10, e11]
      split
      · rename_i z; rw [← z]; omega
      · exact g9
    · rw [e, e10, e11, if_pos e0, ← e0]; omega
  · rw [setC_a (by omega) (by omega), setC_p (by decide), recC_14 (by decide), recC_14 (by decide), recC_14 (by decide), recC_p (by decide), cntC_p (by decide)]
    have e0 : cntC J p f (p + 14) 0 = J (p + 14) 0 + 1 := by unfold cntC; rw [up2_p (by omega), up2_i (by decide), up2_i (by decide), up2_s]
    have e5 : cntC J p f (p + 14) 5 = J (p + 14) 5 + J (p + 8) f * 8 := by unfold cntC; rw [up2_p (by omega), up2_i (by decide), up2_s]
    have e6 : cntC J p f (p + 14) 6 = J (p + 14) 6 + (J (p + 8) f * 8 + 8) * J p 0 := by unfold cntC; rw [up2_p (by omega), up2_s]
    rw [e0, e5, e6, g3, ← Int.add_mul]
    congr 1
    omega
theorem att_off {J : Nat → Int → Int} {f r : Int} (hp : 16 ≤ p) : offL p J (setC (recC (cntC J p f) p f r) p f r) := fun a h0 _ _ h3 => by
  rw [setC_a (by omega) (by omega), recC_a (by omega) (by omega) (by omega) (by omega), cntC_a (by omega) (by omega) (by omega)]
theorem ct_attempt (hl : l.1.stackTraces = false) (hq : 181 ≤ q) (hp : LineAt q p) (h : CINV I p c) (hc : c ≤ 20000000) {f : Int} (h0 : 0 ≤ f) (h1 : f < I (p + 7) 0) (hz : I (p + 9) f = 0) : CT l 51 [.ref p, .int (iI f), .ref 11] (mm q I v fr) 0 0 (oE q v fr none (fun K => offL p I K ∧ Vc K p = attA (Vc I p) f ∧ CX K p)) := by
  have hpb := hp.b
  obtain ⟨N, hN⟩ : ∃ N, N = napC I p := ⟨_, rfl⟩
  have hnap : DT l 52 [.ref p] (mm q I v fr) 0 0 (.inl none, mm q N v fr) := by rw [hN]; exact dt_nap hl hp h hc
  have n1 : CINV N p (c + 25344) := by rw [hN]; exact h.nap
  have n2 : N (p + 7) = I (p + 7) := by rw [hN]; unfold napC; split; rw [up2_off' _ _ _ (by omega), up2_off' _ _ _ (by omega)]; rfl
  have ns := n1.sc
  obtain ⟨r, hr⟩ : ∃ r, r = resF N p f (N p 4) (N p 0) (N p 1) := ⟨_, rfl⟩
  have hsnd : CT l 61 [.ref 11, .ref p, .int (iI f), .int (iI (N p 4)), .int (iI (N p 0))] (mm q N v fr) 0 0 (oE q v fr (some (.int (iI r))) (fun K => SndI N K p f (N p 4) (N p 0) (N p 1))) := by
    rw [hr]
    exact ct_send hl hq hp n1.dogs n1.frames (fun _ _ _ _ => rfl) h0 (by rw [n2]; exact h1) (by omega) (by omega) (by omega) (by omega) (by omega) (by omega)
  have hrr : 0 ≤ r ∧ r ≤ 2 := by rw [hr]; exact res_r _ _ _ _
  refine mkct2 hl (by decide) (Nat.le_of_ble_eq_true rfl) (L := [some (.ref p), some (.int (iI f)), some (.ref 11), none, none]) rfl ?_
  refine x_aload_n (pc := 0) rfl d51_0 ?_
  refine x_cVv (pc := 1) c51_198 hnap hp.o0 rfl rfl (Nat.le_of_ble_eq_true rfl) (by decide +kernel) (by decide +kernel) rfl d51_1 ?_
  refine x_aload_n (pc := 4) rfl d51_4 ?_
  refine x_aload_n (pc := 5) rfl d51_5 ?_
  refine x_iload_n (pc := 6) rfl d51_6 ?_
  refine x_aload_n (pc := 7) rfl d51_7 ?_
  refine m_getI (pc := 8) (z := 4) f51_52 (by decide +kernel) rfl hp.o0 d51_8 ?_
  refine x_aload_n (pc := 11) rfl d51_11 ?_
  refine m_getI (pc := 12) (z := 0) f51_39 (by decide +kernel) rfl hp.o0 d51_12 ?_
  refine x_cVes (pc := 15) c51_201 hsnd (ko11 (by omega)) rfl rfl (Nat.le_of_ble_eq_true rfl) (by decide +kernel) (by decide +kernel) d51_15 (fun J1 hJ1 => ?_)
  obtain ⟨a0, a1, a2, a3⟩ := hJ1
  have j1 : CINV J1 p (c + 25344) := n1.off fun a g0 g1 => a0 a (by omega) (by omega) (by omega)
  have j2 : J1 (p + 7) = I (p + 7) := by rw [a0 (p + 7) (by omega) (by omega) (by omega), n2]
  have jf := j1.fr h0 (by rw [j2]; exact h1)
  have js := j1.sc
  have h48 : f < 48 := by rw [← j2] at h1; omega
  refine x_istore_n (pc := 18) (by decide +kernel) rfl d51_18 ?_
  dsimp only [List.set]
  refine x_aload_n (pc := 19) rfl d51_19 ?_
  refine m_getR (pc := 20) f51_28 (by decide +kernel) hp.o0 hp.r0_11 d51_20 ?_
  refine m_getR (pc := 23) f51_207 (by decide +kernel) hp.o7 hp.r7_3 d51_23 ?_
  refine x_iload_n (pc := 26) rfl d51_26 ?_
  refine x_dup2 (pc := 27) rfl rfl d51_27 ?_
  refine m_iald (pc := 28) hp.a10 (by omega) (by omega) (by omega) d51_28 ?_
  refine x_iconst (pc := 29) d51_29 ?_
  refine x_iadd (pc := 30) d51_30 ?_
  refine m_iast (pc := 31) hp.a10 (by omega) (by omega) (by omega) d51_31 ?_
  refine x_aload_n (pc := 32) rfl d51_32 ?_
  refine m_getR (pc := 33) f51_35 (by decide +kernel) hp.o0 hp.r0_12 d51_33 ?_
  refine x_dup (pc := 36) rfl d51_36 ?_
  refine m_getW (pc := 37) (z := 0) (w := (J1 (p + 14) 0)) f51_210 (by decide +kernel) rfl hp.o14 (by rw [up2_p (by omega)]) d51_37 ?_
  refine x_iconst (pc := 40) d51_40 ?_
  refine x_iadd (pc := 41) d51_41 ?_
  refine m_putI (pc := 42) (z := 0) f51_210 (by decide +kernel) (by decide +kernel) rfl hp.o14 d51_42 ?_
  refine x_aload_n (pc := 45) rfl d51_45 ?_
  refine m_getR (pc := 46) f51_35 (by decide +kernel) hp.o0 hp.r0_12 d51_46 ?_
  refine x_dup (pc := 49) rfl d51_49 ?_
  refine m_getW (pc := 50) (z := 5) (w := (J1 (p + 14) 5)) f51_213 (by decide +kernel) rfl hp.o14 (by rw [up2_i (by decide), up2_p (by omega)]) d51_50 ?_
  refine x_aload_n (pc := 53) rfl d51_53 ?_
  refine m_getW (pc := 54) (z := 2) (w := (J1 11 2)) f51_216 (by decide +kernel) rfl (ko11 (by omega)) (by rw [up2_p (by omega), up2_p (by omega)]) d51_54 ?_
  refine x_val (pc := 57) (w := (J1 (p + 8) f * 8)) (by rw [a1, a0 (p + 8) (by omega) (by omega) (by omega)]) ?_
  refine x_iadd (pc := 57) d51_57 ?_
  refine m_putI (pc := 58) (z := 5) f51_213 (by decide +kernel) (by decide +kernel) rfl hp.o14 d51_58 ?_
  refine x_aload_n (pc := 61) rfl d51_61 ?_
  refine m_getW (pc := 62) (z := 2) (w := (J1 11 2)) f51_216 (by decide +kernel) rfl (ko11 (by omega)) (by rw [up2_p (by omega), up2_p (by omega), up2_p (by omega)]) d51_62 ?_
  refine x_val (pc := 65) (w := (J1 (p + 8) f * 8)) (by rw [a1, a0 (p + 8) (by omega) (by omega) (by omega)]) ?_
  refine x_bipush (pc := 65) (by decide) d51_65 ?_
  refine x_iadd (pc := 67) d51_67 ?_
  refine x_aload_n (pc := 68) rfl d51_68 ?_
  refine m_getW (pc := 69) (z := 0) (w := (J1 p 0)) f51_39 (by decide +kernel) rfl hp.o0 (by rw [up2_p (by omega), up2_p (by omega), up2_p (by omega)]) d51_69 ?_
  refine x_imul (pc := 72) d51_72 ?_
  refine x_istore (pc := 73) (by decide +kernel) rfl d51_73 ?_
  dsimp only [List.set]
  refine x_aload_n (pc := 75) rfl d51_75 ?_
  refine m_getR (pc := 76) f51_35 (by decide +kernel) hp.o0 hp.r0_12 d51_76 ?_
  refine x_dup (pc := 79) rfl d51_79 ?_
  refine m_getW (pc := 80) (z := 6) (w := (J1 (p + 14) 6)) f51_217 (by decide +kernel) rfl hp.o14 (by rw [up2_i (by decide), up2_i (by decide), up2_p (by omega)]) d51_80 ?_
  refine x_iload (pc := 83) rfl d51_83 ?_
  refine x_iadd (pc := 85) d51_85 ?_
  refine m_putI (pc := 86) (z := 6) f51_217 (by decide +kernel) (by decide +kernel) rfl hp.o14 d51_86 ?_
  refine x_aload_n (pc := 89) rfl d51_89 ?_
  refine x_dup (pc := 90) rfl d51_90 ?_
  refine m_getW (pc := 91) (z := 4) (w := (J1 p 4)) f51_52 (by decide +kernel) rfl hp.o0 (by rw [up2_p (by omega), up2_p (by omega), up2_p (by omega), up2_p (by omega)]) d51_91 ?_
  refine x_iload (pc := 94) rfl d51_94 ?_
  refine x_iadd (pc := 96) d51_96 ?_
  refine m_putI (pc := 97) (z := 4) f51_52 (by decide +kernel) (by decide +kernel) rfl hp.o0 d51_97 ?_
  refine x_aload_n (pc := 100) rfl d51_100 ?_
  refine x_iload_n (pc := 101) rfl d51_101 ?_
  refine x_iload_n (pc := 102) rfl d51_102 ?_
  refine x_aload_n (pc := 103) rfl d51_103 ?_
  refine m_getR (pc := 104) f51_220 (by decide +kernel) (ko11 (by omega)) rr11_1 d51_104 ?_
  obtain ⟨Y, hY⟩ : ∃ Z : Nat → Int → Int, Z = (up2 (up2 (up2 (up2 (up2 J1 (p + 10) f ((J1 (p + 10) f) + 1)) (p + 14) 0 ((J1 (p + 14) 0) + 1)) (p + 14) 5 ((J1 (p + 14) 5) + (J1 (p + 8) f * 8))) (p + 14) 6 ((J1 (p + 14) 6) + (((J1 (p + 8) f * 8) + 8) * (J1 p 0)))) p 4 ((J1 p 4) + (((J1 (p + 8) f * 8) + 8) * (J1 p 0)))) := ⟨_, rfl⟩
  refine x_mem (J := Y) (pc := 107) hY ?_
  have hY2 : Y = cntC J1 p f := hY
  have m1 : 0 ≤ (J1 (p + 8) f * 8 + 8) * J1 p 0 := Int.mul_nonneg (by omega) (by omega)
  have m2 : (J1 (p + 8) f * 8 + 8) * J1 p 0 ≤ 56 * 9 := Int.mul_le_mul (by omega) (by omega) (by omega) (by omega)
  have y13 : Y 13 = J1 13 := by rw [hY2]; exact cntC_a (by omega) (by omega) (by omega)
  have hY53 : (∀ k : Int, 0 ≤ k → k < 6 → 0 ≤ Y 13 k ∧ Y 13 k ≤ 255) ∧ (-1 ≤ Y p 6 ∧ Y p 6 ≤ 15) := ⟨by rw [y13]; exact a3, by rw [hY2, cntC_p (by decide)]; omega⟩
  refine x_cVv (pc := 107) c51_223 (dt_receive hl hq hp h0 h48 hrr hY53) hp.o0 rfl rfl (Nat.le_of_ble_eq_true rfl) (by decide +kernel) (by decide +kernel) rfl d51_107 ?_
  refine x_aload_n (pc := 110) rfl d51_110 ?_
  refine x_iload_n (pc := 111) rfl d51_111 ?_
  refine x_iload_n (pc := 112) rfl d51_112 ?_
  obtain ⟨R, hR⟩ : ∃ Z : Nat → Int → Int, Z = (recC Y p f r) := ⟨_, rfl⟩
  refine x_mem (J := R) (pc := 113) hR ?_
  have hR54 : (1 ≤ R p 2 ∧ R p 2 ≤ 99) ∧ (1 ≤ R p 3 ∧ R p 3 ≤ 9) ∧ (0 ≤ R p 4 ∧ R p 4 ≤ 30000000) ∧ (1 ≤ R (p + 10) f ∧ R (p + 10) f ≤ 20) := by rw [hR, recC_p (by decide), recC_p (by decide), recC_p (by decide), recC_a (by omega) (by omega) (by omega) (by omega), hY2, cntC_p (by decide), cntC_p (by decide), show cntC J1 p f p 4 = J1 p 4 + (J1 (p + 8) f * 8 + 8) * J1 p 0 from up2_s, show cntC J1 p f (p + 10) f = J1 (p + 10) f + 1 from by unfold cntC; rw [up2_p (by omega), up2_p (by omega), up2_p (by omega), up2_p (by omega), up2_s]]; omega
  refine x_cVv (pc := 113) c51_227 (dt_settle hl hp h0 h48 hrr hR54) hp.o0 rfl rfl (Nat.le_of_ble_eq_true rfl) (by decide +kernel) (by decide +kernel) rfl d51_113 ?_
  refine x_vret (pc := 116) rfl (fun _ => rfl) d51_116 ?_
  refine ⟨setC R p f r, rfl, ?_, ?_, ?_⟩
  · rw [hR, hY2]
    intro a g0 g1 g2 g3
    rw [att_off (by omega) a g0 g1 g2 g3, a0 a g1 g2 g3, hN]
    unfold napC
    split
    · rw [up2_off' _ _ _ (by omega), up2_off' _ _ _ (by omega)]
    · rfl
  · have hv : Vc J1 p = napA (Vc I p) := by rw [← vc_nap, ← hN]; exact vc_off a0 (by omega)
    have hv2 : Vc N p = napA (Vc I p) := by rw [← vc_nap, ← hN]
    have hf1 : f < J1 (p + 7) 0 := by rw [j2]; exact h1
    have hf2 : f < N (p + 7) 0 := by rw [n2]; exact h1
    have hfN := (n1.fr h0 hf2).1
    have e8 : Y (p + 8) = J1 (p + 8) := by rw [hY2]; exact cntC_a (by omega) (by omega) (by omega)
    have e7 : Y (p + 7) = J1 (p + 7) := by rw [hY2]; exact cntC_a (by omega) (by omega) (by omega)
    have e11 : Y (p + 11) = J1 (p + 11) := by rw [hY2]; exact cntC_a (by omega) (by omega) (by omega)
    have ja := j1.2.2.1 f h0 hf1
    have hR7 : f < R (p + 7) 0 := by rw [hR, recC_a (by omega) (by omega) (by omega) (by omega), e7]; exact hf1
    have hw := res_vc n1 (t := N p 4) (bt := N p 0) h0 hf2
    rw [vc_set h0 hR7, hR, vc_rec (by omega) h0 (by rw [e7]; exact hf1) (by rw [e8]; omega) (by rw [e11]; exact ja.1), hY2, vc_cnt h0 hf1, hv]
    unfold attA
    rw [show napA (Vc I p) 0 7 = N p 4 from by rw [← hv2, vr7], show napA (Vc I p) 0 0 = N p 0 from by rw [← hv2, vr0], ← hv2, hw.1, ← hr]
    have e9 : cntA (Vc N p) f 6 f = N (p + 8) f := (vrow h0 hf2).1
    rw [rec_congr (C := takA (Vc N p) f (N p 4) (N p 0)) (by rw [e9]; omega) (fun _ k k0 k1 => by
      rw [e9] at k1
      rw [hw.2 k k0 k1, ← hY2, y13]
      exact a2 k k0 k1)]
  · rw [hR, hY2]
    exact j1.2.att a3 (by omega)
end Line
end
