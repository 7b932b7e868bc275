-- ===== PART A: goes FIRST, ahead of the names: the tables' words, and 'selects' of the private methods out of them =====
/-- a private method of a class that the tables say can be made, by its rows of tables_1 -/
def lw_okq (q : MethodName × Nat) : Prop := (q.1.cls ≠ "java/lang/invoke/MethodHandle" ∧ q.1.cls ≠ "java/lang/invoke/VarHandle") ∧ Cond.instantiable q.1.cls q.2 ∈ tables_1 ∧ Cond.privateMethod q.1 ∈ tables_1 ∧ Cond.instanceMethod q.1 ∈ tables_1
theorem lw_p0 : lw_okq (⟨"RankedRing", "fail", "(I)I"⟩, 9) := ⟨⟨by decide +kernel, by decide +kernel⟩, List.mem_of_getElem? (i := 22) (by decide +kernel), List.mem_of_getElem? (i := 421) (by decide +kernel), List.mem_of_getElem? (i := 422) (by decide +kernel)⟩
theorem lw_p1 : lw_okq (⟨"RankedRing", "give", "(I)I"⟩, 9) := ⟨⟨by decide +kernel, by decide +kernel⟩, List.mem_of_getElem? (i := 22) (by decide +kernel), List.mem_of_getElem? (i := 679) (by decide +kernel), List.mem_of_getElem? (i := 680) (by decide +kernel)⟩
theorem lw_p2 : lw_okq (⟨"RankedRing", "refuse", "(I)Z"⟩, 9) := ⟨⟨by decide +kernel, by decide +kernel⟩, List.mem_of_getElem? (i := 22) (by decide +kernel), List.mem_of_getElem? (i := 893) (by decide +kernel), List.mem_of_getElem? (i := 894) (by decide +kernel)⟩
theorem lw_p3 : lw_okq (⟨"RankedRing", "succeed", "()Z"⟩, 9) := ⟨⟨by decide +kernel, by decide +kernel⟩, List.mem_of_getElem? (i := 22) (by decide +kernel), List.mem_of_getElem? (i := 906) (by decide +kernel), List.mem_of_getElem? (i := 907) (by decide +kernel)⟩
theorem lw_p4 : lw_okq (⟨"RankedRing", "giveReached", "(I)I"⟩, 9) := ⟨⟨by decide +kernel, by decide +kernel⟩, List.mem_of_getElem? (i := 22) (by decide +kernel), List.mem_of_getElem? (i := 1152) (by decide +kernel), List.mem_of_getElem? (i := 1153) (by decide +kernel)⟩
theorem lw_p5 : lw_okq (⟨"RankedRingModel", "begins", "()V"⟩, 23) := ⟨⟨by decide +kernel, by decide +kernel⟩, List.mem_of_getElem? (i := 1212) (by decide +kernel), List.mem_of_getElem? (i := 1218) (by decide +kernel), List.mem_of_getElem? (i := 1219) (by decide +kernel)⟩
theorem lw_p6 : lw_okq (⟨"RankedRingModel", "puts", "(II)V"⟩, 23) := ⟨⟨by decide +kernel, by decide +kernel⟩, List.mem_of_getElem? (i := 1212) (by decide +kernel), List.mem_of_getElem? (i := 1222) (by decide +kernel), List.mem_of_getElem? (i := 1223) (by decide +kernel)⟩
theorem lw_p7 : lw_okq (⟨"RankedRingModel", "four", "(I)V"⟩, 23) := ⟨⟨by decide +kernel, by decide +kernel⟩, List.mem_of_getElem? (i := 1212) (by decide +kernel), List.mem_of_getElem? (i := 1305) (by decide +kernel), List.mem_of_getElem? (i := 1306) (by decide +kernel)⟩
theorem lw_p8 : lw_okq (⟨"RankedRingModel", "refuse", "(I)I"⟩, 23) := ⟨⟨by decide +kernel, by decide +kernel⟩, List.mem_of_getElem? (i := 1212) (by decide +kernel), List.mem_of_getElem? (i := 1316) (by decide +kernel), List.mem_of_getElem? (i := 1317) (by decide +kernel)⟩
theorem lw_p9 : lw_okq (⟨"RankedRingModel", "copies", "(II)V"⟩, 23) := ⟨⟨by decide +kernel, by decide +kernel⟩, List.mem_of_getElem? (i := 1212) (by decide +kernel), List.mem_of_getElem? (i := 1320) (by decide +kernel), List.mem_of_getElem? (i := 1321) (by decide +kernel)⟩
theorem lw_p10 : lw_okq (⟨"RankedRingModel", "ahead", "()V"⟩, 23) := ⟨⟨by decide +kernel, by decide +kernel⟩, List.mem_of_getElem? (i := 1212) (by decide +kernel), List.mem_of_getElem? (i := 1324) (by decide +kernel), List.mem_of_getElem? (i := 1325) (by decide +kernel)⟩
theorem lw_p11 : lw_okq (⟨"RankedRingModel", "byteAt", "(I)I"⟩, 23) := ⟨⟨by decide +kernel, by decide +kernel⟩, List.mem_of_getElem? (i := 1212) (by decide +kernel), List.mem_of_getElem? (i := 1328) (by decide +kernel), List.mem_of_getElem? (i := 1329) (by decide +kernel)⟩
theorem lw_p12 : lw_okq (⟨"RankedRingModel", "aLine", "()Z"⟩, 23) := ⟨⟨by decide +kernel, by decide +kernel⟩, List.mem_of_getElem? (i := 1212) (by decide +kernel), List.mem_of_getElem? (i := 1342) (by decide +kernel), List.mem_of_getElem? (i := 1343) (by decide +kernel)⟩
theorem lw_p13 : lw_okq (⟨"RankedRingModel", "key", "()I"⟩, 23) := ⟨⟨by decide +kernel, by decide +kernel⟩, List.mem_of_getElem? (i := 1212) (by decide +kernel), List.mem_of_getElem? (i := 1346) (by decide +kernel), List.mem_of_getElem? (i := 1347) (by decide +kernel)⟩
theorem lw_p14 : lw_okq (⟨"RankedRingModel", "aStation", "()Z"⟩, 23) := ⟨⟨by decide +kernel, by decide +kernel⟩, List.mem_of_getElem? (i := 1212) (by decide +kernel), List.mem_of_getElem? (i := 1353) (by decide +kernel), List.mem_of_getElem? (i := 1354) (by decide +kernel)⟩
theorem lw_p15 : lw_okq (⟨"RankedRingModel", "of", "(I)I"⟩, 23) := ⟨⟨by decide +kernel, by decide +kernel⟩, List.mem_of_getElem? (i := 1212) (by decide +kernel), List.mem_of_getElem? (i := 1357) (by decide +kernel), List.mem_of_getElem? (i := 1358) (by decide +kernel)⟩
def lw_privs_1 : List (MethodName × Nat) := [(⟨"RankedRing", "fail", "(I)I"⟩, 9), (⟨"RankedRing", "give", "(I)I"⟩, 9), (⟨"RankedRing", "refuse", "(I)Z"⟩, 9), (⟨"RankedRing", "succeed", "()Z"⟩, 9), (⟨"RankedRing", "giveReached", "(I)I"⟩, 9), (⟨"RankedRingModel", "begins", "()V"⟩, 23), (⟨"RankedRingModel", "puts", "(II)V"⟩, 23), (⟨"RankedRingModel", "four", "(I)V"⟩, 23), (⟨"RankedRingModel", "refuse", "(I)I"⟩, 23), (⟨"RankedRingModel", "copies", "(II)V"⟩, 23), (⟨"RankedRingModel", "ahead", "()V"⟩, 23), (⟨"RankedRingModel", "byteAt", "(I)I"⟩, 23), (⟨"RankedRingModel", "aLine", "()Z"⟩, 23), (⟨"RankedRingModel", "key", "()I"⟩, 23), (⟨"RankedRingModel", "aStation", "()Z"⟩, 23), (⟨"RankedRingModel", "of", "(I)I"⟩, 23)]
theorem lw_r1 : ∀ q ∈ lw_privs_1, lw_okq q := List.forall_mem_cons.mpr ⟨lw_p0, List.forall_mem_cons.mpr ⟨lw_p1, List.forall_mem_cons.mpr ⟨lw_p2, List.forall_mem_cons.mpr ⟨lw_p3, List.forall_mem_cons.mpr ⟨lw_p4, List.forall_mem_cons.mpr ⟨lw_p5, List.forall_mem_cons.mpr ⟨lw_p6, List.forall_mem_cons.mpr ⟨lw_p7, List.forall_mem_cons.mpr ⟨lw_p8, List.forall_mem_cons.mpr ⟨lw_p9, List.forall_mem_cons.mpr ⟨lw_p10, List.forall_mem_cons.mpr ⟨lw_p11, List.forall_mem_cons.mpr ⟨lw_p12, List.forall_mem_cons.mpr ⟨lw_p13, List.forall_mem_cons.mpr ⟨lw_p14, List.forall_mem_cons.mpr ⟨lw_p15, fun _ h => absurd h List.not_mem_nil⟩⟩⟩⟩⟩⟩⟩⟩⟩⟩⟩⟩⟩⟩⟩⟩
theorem lw_p16 : lw_okq (⟨"RankedRingModel", "fails", "(I)Z"⟩, 23) := ⟨⟨by decide +kernel, by decide +kernel⟩, List.mem_of_getElem? (i := 1212) (by decide +kernel), List.mem_of_getElem? (i := 1361) (by decide +kernel), List.mem_of_getElem? (i := 1362) (by decide +kernel)⟩
theorem lw_p17 : lw_okq (⟨"RankedRingModel", "isName", "()Z"⟩, 23) := ⟨⟨by decide +kernel, by decide +kernel⟩, List.mem_of_getElem? (i := 1212) (by decide +kernel), List.mem_of_getElem? (i := 1365) (by decide +kernel), List.mem_of_getElem? (i := 1366) (by decide +kernel)⟩
theorem lw_p18 : lw_okq (⟨"RankedRingModel", "namedHere", "()I"⟩, 23) := ⟨⟨by decide +kernel, by decide +kernel⟩, List.mem_of_getElem? (i := 1212) (by decide +kernel), List.mem_of_getElem? (i := 1369) (by decide +kernel), List.mem_of_getElem? (i := 1370) (by decide +kernel)⟩
theorem lw_p19 : lw_okq (⟨"RankedRingModel", "isNumber", "(II)Z"⟩, 23) := ⟨⟨by decide +kernel, by decide +kernel⟩, List.mem_of_getElem? (i := 1212) (by decide +kernel), List.mem_of_getElem? (i := 1373) (by decide +kernel), List.mem_of_getElem? (i := 1374) (by decide +kernel)⟩
theorem lw_p20 : lw_okq (⟨"RankedRingModel", "isTaken", "(I)Z"⟩, 23) := ⟨⟨by decide +kernel, by decide +kernel⟩, List.mem_of_getElem? (i := 1212) (by decide +kernel), List.mem_of_getElem? (i := 1377) (by decide +kernel), List.mem_of_getElem? (i := 1378) (by decide +kernel)⟩
theorem lw_p21 : lw_okq (⟨"RankedRingModel", "comes", "(I)I"⟩, 23) := ⟨⟨by decide +kernel, by decide +kernel⟩, List.mem_of_getElem? (i := 1212) (by decide +kernel), List.mem_of_getElem? (i := 1381) (by decide +kernel), List.mem_of_getElem? (i := 1382) (by decide +kernel)⟩
theorem lw_p22 : lw_okq (⟨"RankedRingModel", "adds", "(II)V"⟩, 23) := ⟨⟨by decide +kernel, by decide +kernel⟩, List.mem_of_getElem? (i := 1212) (by decide +kernel), List.mem_of_getElem? (i := 1385) (by decide +kernel), List.mem_of_getElem? (i := 1386) (by decide +kernel)⟩
theorem lw_p23 : lw_okq (⟨"RankedRingModel", "closes", "()Z"⟩, 23) := ⟨⟨by decide +kernel, by decide +kernel⟩, List.mem_of_getElem? (i := 1212) (by decide +kernel), List.mem_of_getElem? (i := 1389) (by decide +kernel), List.mem_of_getElem? (i := 1390) (by decide +kernel)⟩
theorem lw_p24 : lw_okq (⟨"RankedRingModel", "aState", "(Z)Z"⟩, 23) := ⟨⟨by decide +kernel, by decide +kernel⟩, List.mem_of_getElem? (i := 1212) (by decide +kernel), List.mem_of_getElem? (i := 1393) (by decide +kernel), List.mem_of_getElem? (i := 1394) (by decide +kernel)⟩
theorem lw_p25 : lw_okq (⟨"RankedRingModel", "stationHere", "()I"⟩, 23) := ⟨⟨by decide +kernel, by decide +kernel⟩, List.mem_of_getElem? (i := 1212) (by decide +kernel), List.mem_of_getElem? (i := 1397) (by decide +kernel), List.mem_of_getElem? (i := 1398) (by decide +kernel)⟩
theorem lw_p26 : lw_okq (⟨"RankedRingModel", "isOn", "(I)Z"⟩, 23) := ⟨⟨by decide +kernel, by decide +kernel⟩, List.mem_of_getElem? (i := 1212) (by decide +kernel), List.mem_of_getElem? (i := 1401) (by decide +kernel), List.mem_of_getElem? (i := 1402) (by decide +kernel)⟩
theorem lw_p27 : lw_okq (⟨"RankedRingModel", "isStation", "(I)Z"⟩, 23) := ⟨⟨by decide +kernel, by decide +kernel⟩, List.mem_of_getElem? (i := 1212) (by decide +kernel), List.mem_of_getElem? (i := 1405) (by decide +kernel), List.mem_of_getElem? (i := 1406) (by decide +kernel)⟩
theorem lw_p28 : lw_okq (⟨"RankedRingModel", "aSend", "()Z"⟩, 23) := ⟨⟨by decide +kernel, by decide +kernel⟩, List.mem_of_getElem? (i := 1212) (by decide +kernel), List.mem_of_getElem? (i := 1409) (by decide +kernel), List.mem_of_getElem? (i := 1410) (by decide +kernel)⟩
theorem lw_p29 : lw_okq (⟨"RankedRingModel", "sends", "(III)I"⟩, 23) := ⟨⟨by decide +kernel, by decide +kernel⟩, List.mem_of_getElem? (i := 1212) (by decide +kernel), List.mem_of_getElem? (i := 1413) (by decide +kernel), List.mem_of_getElem? (i := 1414) (by decide +kernel)⟩
theorem lw_p30 : lw_okq (⟨"RankedRingModel", "aBreak", "()Z"⟩, 23) := ⟨⟨by decide +kernel, by decide +kernel⟩, List.mem_of_getElem? (i := 1212) (by decide +kernel), List.mem_of_getElem? (i := 1420) (by decide +kernel), List.mem_of_getElem? (i := 1421) (by decide +kernel)⟩
theorem lw_p31 : lw_okq (⟨"RankedRingModel", "gives", "(I)I"⟩, 23) := ⟨⟨by decide +kernel, by decide +kernel⟩, List.mem_of_getElem? (i := 1212) (by decide +kernel), List.mem_of_getElem? (i := 1424) (by decide +kernel), List.mem_of_getElem? (i := 1425) (by decide +kernel)⟩
def lw_privs_2 : List (MethodName × Nat) := [(⟨"RankedRingModel", "fails", "(I)Z"⟩, 23), (⟨"RankedRingModel", "isName", "()Z"⟩, 23), (⟨"RankedRingModel", "namedHere", "()I"⟩, 23), (⟨"RankedRingModel", "isNumber", "(II)Z"⟩, 23), (⟨"RankedRingModel", "isTaken", "(I)Z"⟩, 23), (⟨"RankedRingModel", "comes", "(I)I"⟩, 23), (⟨"RankedRingModel", "adds", "(II)V"⟩, 23), (⟨"RankedRingModel", "closes", "()Z"⟩, 23), (⟨"RankedRingModel", "aState", "(Z)Z"⟩, 23), (⟨"RankedRingModel", "stationHere", "()I"⟩, 23), (⟨"RankedRingModel", "isOn", "(I)Z"⟩, 23), (⟨"RankedRingModel", "isStation", "(I)Z"⟩, 23), (⟨"RankedRingModel", "aSend", "()Z"⟩, 23), (⟨"RankedRingModel", "sends", "(III)I"⟩, 23), (⟨"RankedRingModel", "aBreak", "()Z"⟩, 23), (⟨"RankedRingModel", "gives", "(I)I"⟩, 23)]
theorem lw_r2 : ∀ q ∈ lw_privs_2, lw_okq q := List.forall_mem_cons.mpr ⟨lw_p16, List.forall_mem_cons.mpr ⟨lw_p17, List.forall_mem_cons.mpr ⟨lw_p18, List.forall_mem_cons.mpr ⟨lw_p19, List.forall_mem_cons.mpr ⟨lw_p20, List.forall_mem_cons.mpr ⟨lw_p21, List.forall_mem_cons.mpr ⟨lw_p22, List.forall_mem_cons.mpr ⟨lw_p23, List.forall_mem_cons.mpr ⟨lw_p24, List.forall_mem_cons.mpr ⟨lw_p25, List.forall_mem_cons.mpr ⟨lw_p26, List.forall_mem_cons.mpr ⟨lw_p27, List.forall_mem_cons.mpr ⟨lw_p28, List.forall_mem_cons.mpr ⟨lw_p29, List.forall_mem_cons.mpr ⟨lw_p30, List.forall_mem_cons.mpr ⟨lw_p31, fun _ h => absurd h List.not_mem_nil⟩⟩⟩⟩⟩⟩⟩⟩⟩⟩⟩⟩⟩⟩⟩⟩
theorem lw_p32 : lw_okq (⟨"RankedRingModel", "onBits", "()I"⟩, 23) := ⟨⟨by decide +kernel, by decide +kernel⟩, List.mem_of_getElem? (i := 1212) (by decide +kernel), List.mem_of_getElem? (i := 1436) (by decide +kernel), List.mem_of_getElem? (i := 1437) (by decide +kernel)⟩
theorem lw_p33 : lw_okq (⟨"RankedRingModel", "waitAll", "()I"⟩, 23) := ⟨⟨by decide +kernel, by decide +kernel⟩, List.mem_of_getElem? (i := 1212) (by decide +kernel), List.mem_of_getElem? (i := 1440) (by decide +kernel), List.mem_of_getElem? (i := 1441) (by decide +kernel)⟩
theorem lw_p34 : lw_okq (⟨"RankedRingModel", "doesCount", "()Z"⟩, 23) := ⟨⟨by decide +kernel, by decide +kernel⟩, List.mem_of_getElem? (i := 1212) (by decide +kernel), List.mem_of_getElem? (i := 1444) (by decide +kernel), List.mem_of_getElem? (i := 1445) (by decide +kernel)⟩
theorem lw_p35 : lw_okq (⟨"RankedRingModel", "wrongStation", "(I)I"⟩, 23) := ⟨⟨by decide +kernel, by decide +kernel⟩, List.mem_of_getElem? (i := 1212) (by decide +kernel), List.mem_of_getElem? (i := 1452) (by decide +kernel), List.mem_of_getElem? (i := 1453) (by decide +kernel)⟩
theorem lw_p36 : lw_okq (⟨"RankedRingModel", "firstOf", "(I)I"⟩, 23) := ⟨⟨by decide +kernel, by decide +kernel⟩, List.mem_of_getElem? (i := 1212) (by decide +kernel), List.mem_of_getElem? (i := 1456) (by decide +kernel), List.mem_of_getElem? (i := 1457) (by decide +kernel)⟩
theorem lw_p37 : lw_okq (⟨"RankedRingModel", "isBroken", "(II)Z"⟩, 23) := ⟨⟨by decide +kernel, by decide +kernel⟩, List.mem_of_getElem? (i := 1212) (by decide +kernel), List.mem_of_getElem? (i := 1499) (by decide +kernel), List.mem_of_getElem? (i := 1500) (by decide +kernel)⟩
theorem lw_p38 : lw_okq (⟨"RankedRingModel", "heirNow", "()I"⟩, 23) := ⟨⟨by decide +kernel, by decide +kernel⟩, List.mem_of_getElem? (i := 1212) (by decide +kernel), List.mem_of_getElem? (i := 1507) (by decide +kernel), List.mem_of_getElem? (i := 1508) (by decide +kernel)⟩
theorem lw_p39 : lw_okq (⟨"RankedRingModel", "isAnew", "()V"⟩, 23) := ⟨⟨by decide +kernel, by decide +kernel⟩, List.mem_of_getElem? (i := 1212) (by decide +kernel), List.mem_of_getElem? (i := 1515) (by decide +kernel), List.mem_of_getElem? (i := 1516) (by decide +kernel)⟩
theorem lw_p40 : lw_okq (⟨"RankedRingModel", "isSilent", "()V"⟩, 23) := ⟨⟨by decide +kernel, by decide +kernel⟩, List.mem_of_getElem? (i := 1212) (by decide +kernel), List.mem_of_getElem? (i := 1519) (by decide +kernel), List.mem_of_getElem? (i := 1520) (by decide +kernel)⟩
theorem lw_p41 : lw_okq (⟨"RankedRingModel", "takes", "(II)V"⟩, 23) := ⟨⟨by decide +kernel, by decide +kernel⟩, List.mem_of_getElem? (i := 1212) (by decide +kernel), List.mem_of_getElem? (i := 1531) (by decide +kernel), List.mem_of_getElem? (i := 1532) (by decide +kernel)⟩
theorem lw_p42 : lw_okq (⟨"RankedRingModel", "isSo", "(I)Z"⟩, 23) := ⟨⟨by decide +kernel, by decide +kernel⟩, List.mem_of_getElem? (i := 1212) (by decide +kernel), List.mem_of_getElem? (i := 1543) (by decide +kernel), List.mem_of_getElem? (i := 1544) (by decide +kernel)⟩
theorem lw_p43 : lw_okq (⟨"RankedRingModel", "turnsOff", "(I)V"⟩, 23) := ⟨⟨by decide +kernel, by decide +kernel⟩, List.mem_of_getElem? (i := 1212) (by decide +kernel), List.mem_of_getElem? (i := 1547) (by decide +kernel), List.mem_of_getElem? (i := 1548) (by decide +kernel)⟩
theorem lw_p44 : lw_okq (⟨"RankedRingModel", "dropsRaises", "(I)V"⟩, 23) := ⟨⟨by decide +kernel, by decide +kernel⟩, List.mem_of_getElem? (i := 1212) (by decide +kernel), List.mem_of_getElem? (i := 1551) (by decide +kernel), List.mem_of_getElem? (i := 1552) (by decide +kernel)⟩
theorem lw_p45 : lw_okq (⟨"RankedRingModel", "isLost", "()V"⟩, 23) := ⟨⟨by decide +kernel, by decide +kernel⟩, List.mem_of_getElem? (i := 1212) (by decide +kernel), List.mem_of_getElem? (i := 1567) (by decide +kernel), List.mem_of_getElem? (i := 1568) (by decide +kernel)⟩
theorem lw_p46 : lw_okq (⟨"RankedRingModel", "happens", "(II)V"⟩, 23) := ⟨⟨by decide +kernel, by decide +kernel⟩, List.mem_of_getElem? (i := 1212) (by decide +kernel), List.mem_of_getElem? (i := 1571) (by decide +kernel), List.mem_of_getElem? (i := 1572) (by decide +kernel)⟩
theorem lw_p47 : lw_okq (⟨"RankedRingModel", "ticks", "()V"⟩, 23) := ⟨⟨by decide +kernel, by decide +kernel⟩, List.mem_of_getElem? (i := 1212) (by decide +kernel), List.mem_of_getElem? (i := 1587) (by decide +kernel), List.mem_of_getElem? (i := 1588) (by decide +kernel)⟩
def lw_privs_3 : List (MethodName × Nat) := [(⟨"RankedRingModel", "onBits", "()I"⟩, 23), (⟨"RankedRingModel", "waitAll", "()I"⟩, 23), (⟨"RankedRingModel", "doesCount", "()Z"⟩, 23), (⟨"RankedRingModel", "wrongStation", "(I)I"⟩, 23), (⟨"RankedRingModel", "firstOf", "(I)I"⟩, 23), (⟨"RankedRingModel", "isBroken", "(II)Z"⟩, 23), (⟨"RankedRingModel", "heirNow", "()I"⟩, 23), (⟨"RankedRingModel", "isAnew", "()V"⟩, 23), (⟨"RankedRingModel", "isSilent", "()V"⟩, 23), (⟨"RankedRingModel", "takes", "(II)V"⟩, 23), (⟨"RankedRingModel", "isSo", "(I)Z"⟩, 23), (⟨"RankedRingModel", "turnsOff", "(I)V"⟩, 23), (⟨"RankedRingModel", "dropsRaises", "(I)V"⟩, 23), (⟨"RankedRingModel", "isLost", "()V"⟩, 23), (⟨"RankedRingModel", "happens", "(II)V"⟩, 23), (⟨"RankedRingModel", "ticks", "()V"⟩, 23)]
theorem lw_r3 : ∀ q ∈ lw_privs_3, lw_okq q := List.forall_mem_cons.mpr ⟨lw_p32, List.forall_mem_cons.mpr ⟨lw_p33, List.forall_mem_cons.mpr ⟨lw_p34, List.forall_mem_cons.mpr ⟨lw_p35, List.forall_mem_cons.mpr ⟨lw_p36, List.forall_mem_cons.mpr ⟨lw_p37, List.forall_mem_cons.mpr ⟨lw_p38, List.forall_mem_cons.mpr ⟨lw_p39, List.forall_mem_cons.mpr ⟨lw_p40, List.forall_mem_cons.mpr ⟨lw_p41, List.forall_mem_cons.mpr ⟨lw_p42, List.forall_mem_cons.mpr ⟨lw_p43, List.forall_mem_cons.mpr ⟨lw_p44, List.forall_mem_cons.mpr ⟨lw_p45, List.forall_mem_cons.mpr ⟨lw_p46, List.forall_mem_cons.mpr ⟨lw_p47, fun _ h => absurd h List.not_mem_nil⟩⟩⟩⟩⟩⟩⟩⟩⟩⟩⟩⟩⟩⟩⟩⟩
theorem lw_p48 : lw_okq (⟨"RankedRingModel", "isStill", "()V"⟩, 23) := ⟨⟨by decide +kernel, by decide +kernel⟩, List.mem_of_getElem? (i := 1212) (by decide +kernel), List.mem_of_getElem? (i := 1591) (by decide +kernel), List.mem_of_getElem? (i := 1592) (by decide +kernel)⟩
theorem lw_p49 : lw_okq (⟨"RankedRingModel", "onMany", "()I"⟩, 23) := ⟨⟨by decide +kernel, by decide +kernel⟩, List.mem_of_getElem? (i := 1212) (by decide +kernel), List.mem_of_getElem? (i := 1595) (by decide +kernel), List.mem_of_getElem? (i := 1596) (by decide +kernel)⟩
theorem lw_p50 : lw_okq (⟨"RankedRingModel", "beacons", "()V"⟩, 23) := ⟨⟨by decide +kernel, by decide +kernel⟩, List.mem_of_getElem? (i := 1212) (by decide +kernel), List.mem_of_getElem? (i := 1599) (by decide +kernel), List.mem_of_getElem? (i := 1600) (by decide +kernel)⟩
theorem lw_p51 : lw_okq (⟨"RankedRingModel", "nextOn", "(II)I"⟩, 23) := ⟨⟨by decide +kernel, by decide +kernel⟩, List.mem_of_getElem? (i := 1212) (by decide +kernel), List.mem_of_getElem? (i := 1603) (by decide +kernel), List.mem_of_getElem? (i := 1604) (by decide +kernel)⟩
theorem lw_p52 : lw_okq (⟨"RankedRingModel", "purges", "()V"⟩, 23) := ⟨⟨by decide +kernel, by decide +kernel⟩, List.mem_of_getElem? (i := 1212) (by decide +kernel), List.mem_of_getElem? (i := 1607) (by decide +kernel), List.mem_of_getElem? (i := 1608) (by decide +kernel)⟩
theorem lw_p53 : lw_okq (⟨"RankedRingModel", "claims", "()V"⟩, 23) := ⟨⟨by decide +kernel, by decide +kernel⟩, List.mem_of_getElem? (i := 1212) (by decide +kernel), List.mem_of_getElem? (i := 1611) (by decide +kernel), List.mem_of_getElem? (i := 1612) (by decide +kernel)⟩
theorem lw_p54 : lw_okq (⟨"RankedRingModel", "isBlamed", "(I)V"⟩, 23) := ⟨⟨by decide +kernel, by decide +kernel⟩, List.mem_of_getElem? (i := 1212) (by decide +kernel), List.mem_of_getElem? (i := 1615) (by decide +kernel), List.mem_of_getElem? (i := 1616) (by decide +kernel)⟩
theorem lw_p55 : lw_okq (⟨"RankedRingModel", "goesOn", "()V"⟩, 23) := ⟨⟨by decide +kernel, by decide +kernel⟩, List.mem_of_getElem? (i := 1212) (by decide +kernel), List.mem_of_getElem? (i := 1619) (by decide +kernel), List.mem_of_getElem? (i := 1620) (by decide +kernel)⟩
theorem lw_p56 : lw_okq (⟨"RankedRingModel", "tokenAt", "(I)V"⟩, 23) := ⟨⟨by decide +kernel, by decide +kernel⟩, List.mem_of_getElem? (i := 1212) (by decide +kernel), List.mem_of_getElem? (i := 1623) (by decide +kernel), List.mem_of_getElem? (i := 1624) (by decide +kernel)⟩
theorem lw_p57 : lw_okq (⟨"RankedRingModel", "topRaise", "(I)I"⟩, 23) := ⟨⟨by decide +kernel, by decide +kernel⟩, List.mem_of_getElem? (i := 1212) (by decide +kernel), List.mem_of_getElem? (i := 1627) (by decide +kernel), List.mem_of_getElem? (i := 1628) (by decide +kernel)⟩
theorem lw_p58 : lw_okq (⟨"RankedRingModel", "isLevel", "(I)V"⟩, 23) := ⟨⟨by decide +kernel, by decide +kernel⟩, List.mem_of_getElem? (i := 1212) (by decide +kernel), List.mem_of_getElem? (i := 1631) (by decide +kernel), List.mem_of_getElem? (i := 1632) (by decide +kernel)⟩
theorem lw_p59 : lw_okq (⟨"RankedRingModel", "firstRank", "(I)I"⟩, 23) := ⟨⟨by decide +kernel, by decide +kernel⟩, List.mem_of_getElem? (i := 1212) (by decide +kernel), List.mem_of_getElem? (i := 1636) (by decide +kernel), List.mem_of_getElem? (i := 1637) (by decide +kernel)⟩
theorem lw_p60 : lw_okq (⟨"RankedRingModel", "wishes", "(I)V"⟩, 23) := ⟨⟨by decide +kernel, by decide +kernel⟩, List.mem_of_getElem? (i := 1212) (by decide +kernel), List.mem_of_getElem? (i := 1640) (by decide +kernel), List.mem_of_getElem? (i := 1641) (by decide +kernel)⟩
theorem lw_p61 : lw_okq (⟨"RankedRingModel", "frameAt", "(I)V"⟩, 23) := ⟨⟨by decide +kernel, by decide +kernel⟩, List.mem_of_getElem? (i := 1212) (by decide +kernel), List.mem_of_getElem? (i := 1644) (by decide +kernel), List.mem_of_getElem? (i := 1645) (by decide +kernel)⟩
theorem lw_p62 : lw_okq (⟨"RankedRingModel", "comesHome", "(I)V"⟩, 23) := ⟨⟨by decide +kernel, by decide +kernel⟩, List.mem_of_getElem? (i := 1212) (by decide +kernel), List.mem_of_getElem? (i := 1648) (by decide +kernel), List.mem_of_getElem? (i := 1649) (by decide +kernel)⟩
theorem lw_p63 : lw_okq (⟨"RankedRingModel", "isGot", "(I)V"⟩, 23) := ⟨⟨by decide +kernel, by decide +kernel⟩, List.mem_of_getElem? (i := 1212) (by decide +kernel), List.mem_of_getElem? (i := 1652) (by decide +kernel), List.mem_of_getElem? (i := 1653) (by decide +kernel)⟩
def lw_privs_4 : List (MethodName × Nat) := [(⟨"RankedRingModel", "isStill", "()V"⟩, 23), (⟨"RankedRingModel", "onMany", "()I"⟩, 23), (⟨"RankedRingModel", "beacons", "()V"⟩, 23), (⟨"RankedRingModel", "nextOn", "(II)I"⟩, 23), (⟨"RankedRingModel", "purges", "()V"⟩, 23), (⟨"RankedRingModel", "claims", "()V"⟩, 23), (⟨"RankedRingModel", "isBlamed", "(I)V"⟩, 23), (⟨"RankedRingModel", "goesOn", "()V"⟩, 23), (⟨"RankedRingModel", "tokenAt", "(I)V"⟩, 23), (⟨"RankedRingModel", "topRaise", "(I)I"⟩, 23), (⟨"RankedRingModel", "isLevel", "(I)V"⟩, 23), (⟨"RankedRingModel", "firstRank", "(I)I"⟩, 23), (⟨"RankedRingModel", "wishes", "(I)V"⟩, 23), (⟨"RankedRingModel", "frameAt", "(I)V"⟩, 23), (⟨"RankedRingModel", "comesHome", "(I)V"⟩, 23), (⟨"RankedRingModel", "isGot", "(I)V"⟩, 23)]
theorem lw_r4 : ∀ q ∈ lw_privs_4, lw_okq q := List.forall_mem_cons.mpr ⟨lw_p48, List.forall_mem_cons.mpr ⟨lw_p49, List.forall_mem_cons.mpr ⟨lw_p50, List.forall_mem_cons.mpr ⟨lw_p51, List.forall_mem_cons.mpr ⟨lw_p52, List.forall_mem_cons.mpr ⟨lw_p53, List.forall_mem_cons.mpr ⟨lw_p54, List.forall_mem_cons.mpr ⟨lw_p55, List.forall_mem_cons.mpr ⟨lw_p56, List.forall_mem_cons.mpr ⟨lw_p57, List.forall_mem_cons.mpr ⟨lw_p58, List.forall_mem_cons.mpr ⟨lw_p59, List.forall_mem_cons.mpr ⟨lw_p60, List.forall_mem_cons.mpr ⟨lw_p61, List.forall_mem_cons.mpr ⟨lw_p62, List.forall_mem_cons.mpr ⟨lw_p63, fun _ h => absurd h List.not_mem_nil⟩⟩⟩⟩⟩⟩⟩⟩⟩⟩⟩⟩⟩⟩⟩⟩
theorem lw_p64 : lw_okq (⟨"RankedRingModel", "draws", "(I)V"⟩, 23) := ⟨⟨by decide +kernel, by decide +kernel⟩, List.mem_of_getElem? (i := 1212) (by decide +kernel), List.mem_of_getElem? (i := 1660) (by decide +kernel), List.mem_of_getElem? (i := 1661) (by decide +kernel)⟩
theorem lw_p65 : lw_okq (⟨"RankedRingModel", "drawBy", "(I)I"⟩, 23) := ⟨⟨by decide +kernel, by decide +kernel⟩, List.mem_of_getElem? (i := 1212) (by decide +kernel), List.mem_of_getElem? (i := 1664) (by decide +kernel), List.mem_of_getElem? (i := 1665) (by decide +kernel)⟩
theorem lw_p66 : lw_okq (⟨"RankedRingModel", "reaches", "(IZ)I"⟩, 23) := ⟨⟨by decide +kernel, by decide +kernel⟩, List.mem_of_getElem? (i := 1212) (by decide +kernel), List.mem_of_getElem? (i := 1689) (by decide +kernel), List.mem_of_getElem? (i := 1690) (by decide +kernel)⟩
theorem lw_p67 : lw_okq (⟨"RankedRingModel", "onPaper", "(Z)V"⟩, 23) := ⟨⟨by decide +kernel, by decide +kernel⟩, List.mem_of_getElem? (i := 1212) (by decide +kernel), List.mem_of_getElem? (i := 1693) (by decide +kernel), List.mem_of_getElem? (i := 1694) (by decide +kernel)⟩
theorem lw_p68 : lw_okq (⟨"RankedRingModel", "peaks", "()V"⟩, 23) := ⟨⟨by decide +kernel, by decide +kernel⟩, List.mem_of_getElem? (i := 1212) (by decide +kernel), List.mem_of_getElem? (i := 1697) (by decide +kernel), List.mem_of_getElem? (i := 1698) (by decide +kernel)⟩
theorem lw_p69 : lw_okq (⟨"RankedRingModel", "isReached", "(I)Z"⟩, 23) := ⟨⟨by decide +kernel, by decide +kernel⟩, List.mem_of_getElem? (i := 1212) (by decide +kernel), List.mem_of_getElem? (i := 1701) (by decide +kernel), List.mem_of_getElem? (i := 1702) (by decide +kernel)⟩
theorem lw_p70 : lw_okq (⟨"RankedRingModel", "isQuiet", "()Z"⟩, 23) := ⟨⟨by decide +kernel, by decide +kernel⟩, List.mem_of_getElem? (i := 1212) (by decide +kernel), List.mem_of_getElem? (i := 1705) (by decide +kernel), List.mem_of_getElem? (i := 1706) (by decide +kernel)⟩
theorem lw_p71 : lw_okq (⟨"RankedRingModel", "isLowered", "()Z"⟩, 23) := ⟨⟨by decide +kernel, by decide +kernel⟩, List.mem_of_getElem? (i := 1212) (by decide +kernel), List.mem_of_getElem? (i := 1709) (by decide +kernel), List.mem_of_getElem? (i := 1710) (by decide +kernel)⟩
theorem lw_p72 : lw_okq (⟨"RankedRingModel", "offPaper", "()V"⟩, 23) := ⟨⟨by decide +kernel, by decide +kernel⟩, List.mem_of_getElem? (i := 1212) (by decide +kernel), List.mem_of_getElem? (i := 1713) (by decide +kernel), List.mem_of_getElem? (i := 1714) (by decide +kernel)⟩
theorem lw_p73 : lw_okq (⟨"RankedRingModel", "givesOr", "(I)I"⟩, 23) := ⟨⟨by decide +kernel, by decide +kernel⟩, List.mem_of_getElem? (i := 1212) (by decide +kernel), List.mem_of_getElem? (i := 1717) (by decide +kernel), List.mem_of_getElem? (i := 1718) (by decide +kernel)⟩
theorem lw_p74 : lw_okq (⟨"RankedRingModel", "waiting", "()I"⟩, 23) := ⟨⟨by decide +kernel, by decide +kernel⟩, List.mem_of_getElem? (i := 1212) (by decide +kernel), List.mem_of_getElem? (i := 1725) (by decide +kernel), List.mem_of_getElem? (i := 1726) (by decide +kernel)⟩
theorem lw_p75 : lw_okq (⟨"RankedRingModel", "lives", "(IZI)V"⟩, 23) := ⟨⟨by decide +kernel, by decide +kernel⟩, List.mem_of_getElem? (i := 1212) (by decide +kernel), List.mem_of_getElem? (i := 1729) (by decide +kernel), List.mem_of_getElem? (i := 1730) (by decide +kernel)⟩
def lw_privs_5 : List (MethodName × Nat) := [(⟨"RankedRingModel", "draws", "(I)V"⟩, 23), (⟨"RankedRingModel", "drawBy", "(I)I"⟩, 23), (⟨"RankedRingModel", "reaches", "(IZ)I"⟩, 23), (⟨"RankedRingModel", "onPaper", "(Z)V"⟩, 23), (⟨"RankedRingModel", "peaks", "()V"⟩, 23), (⟨"RankedRingModel", "isReached", "(I)Z"⟩, 23), (⟨"RankedRingModel", "isQuiet", "()Z"⟩, 23), (⟨"RankedRingModel", "isLowered", "()Z"⟩, 23), (⟨"RankedRingModel", "offPaper", "()V"⟩, 23), (⟨"RankedRingModel", "givesOr", "(I)I"⟩, 23), (⟨"RankedRingModel", "waiting", "()I"⟩, 23), (⟨"RankedRingModel", "lives", "(IZI)V"⟩, 23)]
theorem lw_r5 : ∀ q ∈ lw_privs_5, lw_okq q := List.forall_mem_cons.mpr ⟨lw_p64, List.forall_mem_cons.mpr ⟨lw_p65, List.forall_mem_cons.mpr ⟨lw_p66, List.forall_mem_cons.mpr ⟨lw_p67, List.forall_mem_cons.mpr ⟨lw_p68, List.forall_mem_cons.mpr ⟨lw_p69, List.forall_mem_cons.mpr ⟨lw_p70, List.forall_mem_cons.mpr ⟨lw_p71, List.forall_mem_cons.mpr ⟨lw_p72, List.forall_mem_cons.mpr ⟨lw_p73, List.forall_mem_cons.mpr ⟨lw_p74, List.forall_mem_cons.mpr ⟨lw_p75, fun _ h => absurd h List.not_mem_nil⟩⟩⟩⟩⟩⟩⟩⟩⟩⟩⟩⟩
def lw_privs : List (MethodName × Nat) := lw_privs_1 ++ (lw_privs_2 ++ (lw_privs_3 ++ (lw_privs_4 ++ (lw_privs_5))))
def lw_tbl : List Cond := k2_sels lw_privs ++ tables_1
theorem lw_privs_ok : ∀ q ∈ lw_privs, lw_okq q := by
  show ∀ q ∈ lw_privs_1 ++ (lw_privs_2 ++ (lw_privs_3 ++ (lw_privs_4 ++ (lw_privs_5)))), lw_okq q
  exact List.forall_mem_append.mpr ⟨lw_r1, List.forall_mem_append.mpr ⟨lw_r2, List.forall_mem_append.mpr ⟨lw_r3, List.forall_mem_append.mpr ⟨lw_r4, lw_r5⟩⟩⟩⟩
-- ===== end of PART A; then your names; then what follows =====
/-! ===== BEGIN words of one list among another's, by their places ===== -/
theorem goodIn_r {big : List Cond} (ws : List Cond) (ps : List Nat) (hp : ws = ps.filterMap (fun i => big[i]?)) (h : ws.all goodWord = true) : GoodIn big ws := by
  intro w hw
  have h1 := List.all_eq_true.mp h w hw
  rw [hp] at hw
  obtain ⟨i, -, hi⟩ := List.mem_filterMap.mp hw
  have hm : w ∈ big := by first | exact List.mem_of_getElem? hi | exact List.getElem?_mem hi
  exact ⟨hm, good_of_word h1⟩
theorem goodIn_app {big a b : List Cond} (ha : GoodIn big a) (hb : GoodIn big b) : GoodIn big (a ++ b) := fun w h => (List.mem_append.mp h).elim (ha w) (hb w)
theorem goodIn_ca {big a b : List Cond} {c : Cond} (ha : GoodIn big (c :: a)) (hb : GoodIn big b) : GoodIn big (c :: (a ++ b)) := fun w h => (List.mem_cons.mp h).elim (fun e => ha w (List.mem_cons.mpr (Or.inl e))) (fun h => (List.mem_append.mp h).elim (fun h => ha w (List.mem_cons.mpr (Or.inr h))) (hb w))
theorem goodIn_sub {big ws : List Cond} (hm : ∀ w ∈ ws, w ∈ big) (h : ws.all goodWord = true) : GoodIn big ws := fun w hw => ⟨hm w hw, good_of_word (List.all_eq_true.mp h w hw)⟩
/-! ===== END ===== -/

/-! ===== BEGIN printed: names, fields, word lists, decode rows ===== -/
def RX0 : String := "RankedRing$Book"
def TX0 : u_T := fun k => match k with
  | 0 => ("RankedRing$Book", "counts", "[I", true)
  | 1 => ("RankedRing$Book", "rankGot", "[I", true)
  | 2 => ("RankedRing$Book", "rankAges", "[I", true)
  | 3 => ("RankedRing$Book", "gots", "[I", true)
  | 4 => ("RankedRing$Book", "events", "[I", true)
  | _ => ("RankedRing$Book", "eventCount", "I", false)
def tyX0 : Nat → FieldType := fun k => match k with
  | 0 => .array .int
  | 1 => .array .int
  | 2 => .array .int
  | 3 => .array .int
  | 4 => .array .int
  | _ => .int
abbrev wsX00 : List Cond := u_ws RX0 TX0 6
theorem nmX0 : ∀ a, a < 6 → ∀ b, b < 6 → a ≠ b → (TX0 a).2.1 ≠ (TX0 b).2.1 := by decide +kernel
theorem tyX0_ok : ∀ k, k < 6 → parseFieldDescriptor (TX0 k).2.2.1 = some (tyX0 k) := by decide +kernel
abbrev cX0_init : ByteArray := prog_2_method_1_code
def yX0_init : MethodName := ⟨RX0, "<init>", "()V"⟩
abbrev cX0_clear : ByteArray := prog_2_method_2_code
def yX0_clear : MethodName := ⟨RX0, "clear", "()V"⟩
abbrev cX0_copyFrom : ByteArray := prog_2_method_3_code
def yX0_copyFrom : MethodName := ⟨RX0, "copyFrom", "(LRankedRing$Book;)V"⟩
abbrev cX0_counted : ByteArray := prog_2_method_4_code
def yX0_counted : MethodName := ⟨RX0, "counted", "(I)I"⟩
abbrev cX0_gotOf : ByteArray := prog_2_method_5_code
def yX0_gotOf : MethodName := ⟨RX0, "gotOf", "(I)I"⟩
abbrev cX0_agesOf : ByteArray := prog_2_method_6_code
def yX0_agesOf : MethodName := ⟨RX0, "agesOf", "(I)I"⟩
abbrev cX0_countRefused : ByteArray := prog_2_method_7_code
def yX0_countRefused : MethodName := ⟨RX0, "countRefused", "()V"⟩
abbrev cX0_countLevel : ByteArray := prog_2_method_8_code
def yX0_countLevel : MethodName := ⟨RX0, "countLevel", "(I)V"⟩
abbrev cX0_enter : ByteArray := prog_2_method_9_code
def yX0_enter : MethodName := ⟨RX0, "enter", "(III)V"⟩
abbrev cX0_keepGot : ByteArray := prog_2_method_10_code
def yX0_keepGot : MethodName := ⟨RX0, "keepGot", "(LRankedRing$Way;I)V"⟩
abbrev cX0_eventAt : ByteArray := prog_2_method_11_code
def yX0_eventAt : MethodName := ⟨RX0, "eventAt", "(II)I"⟩
abbrev cX0_gotAt : ByteArray := prog_2_method_12_code
def yX0_gotAt : MethodName := ⟨RX0, "gotAt", "(II)I"⟩
def RX1 : String := "RankedRing$Paper"
def TX1 : u_T := fun k => match k with
  | 0 => ("RankedRing$Paper", "ring", "LRankedRing$Ring;", true)
  | 1 => ("RankedRing$Paper", "copy", "LRankedRing$Ring;", true)
  | 2 => ("RankedRing$Paper", "gotAt", "[I", true)
  | _ => ("RankedRing$Paper", "gotPlainAt", "[I", true)
def tyX1 : Nat → FieldType := fun k => match k with
  | 0 => .object "RankedRing$Ring"
  | 1 => .object "RankedRing$Ring"
  | 2 => .array .int
  | _ => .array .int
abbrev wsX10 : List Cond := u_ws RX1 TX1 4
theorem nmX1 : ∀ a, a < 4 → ∀ b, b < 4 → a ≠ b → (TX1 a).2.1 ≠ (TX1 b).2.1 := by decide +kernel
theorem tyX1_ok : ∀ k, k < 4 → parseFieldDescriptor (TX1 k).2.2.1 = some (tyX1 k) := by decide +kernel
abbrev cX1_init : ByteArray := prog_3_method_1_code
def yX1_init : MethodName := ⟨RX1, "<init>", "(LRankedRing$Ring;LRankedRing$Ring;)V"⟩
abbrev cX1_ticksTill : ByteArray := prog_3_method_2_code
def yX1_ticksTill : MethodName := ⟨RX1, "ticksTill", "(IIZ)I"⟩
abbrev cX1_hasCome : ByteArray := prog_3_method_3_code
def yX1_hasCome : MethodName := ⟨RX1, "hasCome", "(II)Z"⟩
abbrev cX1_numberGot : ByteArray := prog_3_method_4_code
def yX1_numberGot : MethodName := ⟨RX1, "numberGot", "(IZ)I"⟩
abbrev cX1_greatestLevel : ByteArray := prog_3_method_5_code
def yX1_greatestLevel : MethodName := ⟨RX1, "greatestLevel", "()I"⟩
abbrev cX1_ticksGained : ByteArray := prog_3_method_6_code
def yX1_ticksGained : MethodName := ⟨RX1, "ticksGained", "()I"⟩
abbrev cX1_noteGot : ByteArray := prog_3_method_7_code
def yX1_noteGot : MethodName := ⟨RX1, "noteGot", "(Z)V"⟩
def RX2 : String := "RankedRing$Queues"
def TX2 : u_T := fun k => match k with
  | 0 => ("RankedRing$Queues", "numbers", "[I", true)
  | 1 => ("RankedRing$Queues", "goals", "[I", true)
  | 2 => ("RankedRing$Queues", "rankings", "[I", true)
  | 3 => ("RankedRing$Queues", "births", "[I", true)
  | _ => ("RankedRing$Queues", "sizes", "[I", true)
def tyX2 : Nat → FieldType := fun k => match k with
  | 0 => .array .int
  | 1 => .array .int
  | 2 => .array .int
  | 3 => .array .int
  | _ => .array .int
abbrev wsX20 : List Cond := u_ws RX2 TX2 5
theorem nmX2 : ∀ a, a < 5 → ∀ b, b < 5 → a ≠ b → (TX2 a).2.1 ≠ (TX2 b).2.1 := by decide +kernel
theorem tyX2_ok : ∀ k, k < 5 → parseFieldDescriptor (TX2 k).2.2.1 = some (tyX2 k) := by decide +kernel
abbrev cX2_init : ByteArray := prog_4_method_1_code
def yX2_init : MethodName := ⟨RX2, "<init>", "()V"⟩
abbrev cX2_clear : ByteArray := prog_4_method_2_code
def yX2_clear : MethodName := ⟨RX2, "clear", "()V"⟩
abbrev cX2_copyFrom : ByteArray := prog_4_method_3_code
def yX2_copyFrom : MethodName := ⟨RX2, "copyFrom", "(LRankedRing$Queues;)V"⟩
abbrev cX2_sizeOf : ByteArray := prog_4_method_4_code
def yX2_sizeOf : MethodName := ⟨RX2, "sizeOf", "(I)I"⟩
abbrev cX2_isFull : ByteArray := prog_4_method_5_code
def yX2_isFull : MethodName := ⟨RX2, "isFull", "(I)Z"⟩
abbrev cX2_slotAt : ByteArray := prog_4_method_6_code
def yX2_slotAt : MethodName := ⟨RX2, "slotAt", "(II)I"⟩
abbrev cX2_numberIn : ByteArray := prog_4_method_7_code
def yX2_numberIn : MethodName := ⟨RX2, "numberIn", "(I)I"⟩
abbrev cX2_toIn : ByteArray := prog_4_method_8_code
def yX2_toIn : MethodName := ⟨RX2, "toIn", "(I)I"⟩
abbrev cX2_rankIn : ByteArray := prog_4_method_9_code
def yX2_rankIn : MethodName := ⟨RX2, "rankIn", "(I)I"⟩
abbrev cX2_birthIn : ByteArray := prog_4_method_10_code
def yX2_birthIn : MethodName := ⟨RX2, "birthIn", "(I)I"⟩
abbrev cX2_append : ByteArray := prog_4_method_11_code
def yX2_append : MethodName := ⟨RX2, "append", "(IIIII)V"⟩
abbrev cX2_firstSlot : ByteArray := prog_4_method_12_code
def yX2_firstSlot : MethodName := ⟨RX2, "firstSlot", "(I)I"⟩
abbrev cX2_firstRank : ByteArray := prog_4_method_13_code
def yX2_firstRank : MethodName := ⟨RX2, "firstRank", "(I)I"⟩
abbrev cX2_slotOf : ByteArray := prog_4_method_14_code
def yX2_slotOf : MethodName := ⟨RX2, "slotOf", "(I)I"⟩
abbrev cX2_moveSlot : ByteArray := prog_4_method_15_code
def yX2_moveSlot : MethodName := ⟨RX2, "moveSlot", "(II)V"⟩
abbrev cX2_removeSlot : ByteArray := prog_4_method_16_code
def yX2_removeSlot : MethodName := ⟨RX2, "removeSlot", "(I)V"⟩
abbrev cX2_removeBelow : ByteArray := prog_4_method_17_code
def yX2_removeBelow : MethodName := ⟨RX2, "removeBelow", "(II)I"⟩
abbrev cX2_total : ByteArray := prog_4_method_18_code
def yX2_total : MethodName := ⟨RX2, "total", "()I"⟩
abbrev cX2_totalOf : ByteArray := prog_4_method_19_code
def yX2_totalOf : MethodName := ⟨RX2, "totalOf", "(I)I"⟩
def RX3 : String := "RankedRing$Raises"
def TX3 : u_T := fun k => match k with
  | 0 => ("RankedRing$Raises", "olds", "[I", true)
  | 1 => ("RankedRing$Raises", "news", "[I", true)
  | _ => ("RankedRing$Raises", "depths", "[I", true)
def tyX3 : Nat → FieldType := fun k => match k with
  | 0 => .array .int
  | 1 => .array .int
  | _ => .array .int
abbrev wsX30 : List Cond := u_ws RX3 TX3 3
theorem nmX3 : ∀ a, a < 3 → ∀ b, b < 3 → a ≠ b → (TX3 a).2.1 ≠ (TX3 b).2.1 := by decide +kernel
theorem tyX3_ok : ∀ k, k < 3 → parseFieldDescriptor (TX3 k).2.2.1 = some (tyX3 k) := by decide +kernel
abbrev cX3_init : ByteArray := prog_5_method_1_code
def yX3_init : MethodName := ⟨RX3, "<init>", "()V"⟩
abbrev cX3_clear : ByteArray := prog_5_method_2_code
def yX3_clear : MethodName := ⟨RX3, "clear", "()V"⟩
abbrev cX3_copyFrom : ByteArray := prog_5_method_3_code
def yX3_copyFrom : MethodName := ⟨RX3, "copyFrom", "(LRankedRing$Raises;)V"⟩
abbrev cX3_depthOf : ByteArray := prog_5_method_4_code
def yX3_depthOf : MethodName := ⟨RX3, "depthOf", "(I)I"⟩
abbrev cX3_placeOf : ByteArray := prog_5_method_5_code
def yX3_placeOf : MethodName := ⟨RX3, "placeOf", "(II)I"⟩
abbrev cX3_oldAt : ByteArray := prog_5_method_6_code
def yX3_oldAt : MethodName := ⟨RX3, "oldAt", "(II)I"⟩
abbrev cX3_newAt : ByteArray := prog_5_method_7_code
def yX3_newAt : MethodName := ⟨RX3, "newAt", "(II)I"⟩
abbrev cX3_setTopNew : ByteArray := prog_5_method_8_code
def yX3_setTopNew : MethodName := ⟨RX3, "setTopNew", "(II)V"⟩
abbrev cX3_drop : ByteArray := prog_5_method_9_code
def yX3_drop : MethodName := ⟨RX3, "drop", "(I)V"⟩
abbrev cX3_push : ByteArray := prog_5_method_10_code
def yX3_push : MethodName := ⟨RX3, "push", "(III)V"⟩
abbrev cX3_clearOf : ByteArray := prog_5_method_11_code
def yX3_clearOf : MethodName := ⟨RX3, "clearOf", "(I)V"⟩
abbrev cX3_isEmpty : ByteArray := prog_5_method_12_code
def yX3_isEmpty : MethodName := ⟨RX3, "isEmpty", "()Z"⟩
def RX4 : String := "RankedRing$Reader"
def TX4 : u_T := fun k => match k with
  | 0 => ("RankedRing$Reader", "tape", "LRankedRing$Tape;", true)
  | 1 => ("RankedRing$Reader", "ring", "LRankedRing$Ring;", true)
  | 2 => ("RankedRing$Reader", "nameStarts", "[I", true)
  | 3 => ("RankedRing$Reader", "nameSizes", "[I", true)
  | 4 => ("RankedRing$Reader", "length", "I", false)
  | 5 => ("RankedRing$Reader", "place", "I", false)
  | 6 => ("RankedRing$Reader", "kind", "I", false)
  | 7 => ("RankedRing$Reader", "start", "I", false)
  | 8 => ("RankedRing$Reader", "size", "I", false)
  | 9 => ("RankedRing$Reader", "value", "I", false)
  | 10 => ("RankedRing$Reader", "named", "I", false)
  | 11 => ("RankedRing$Reader", "faultKind", "I", false)
  | _ => ("RankedRing$Reader", "faultPlace", "I", false)
def tyX4 : Nat → FieldType := fun k => match k with
  | 0 => .object "RankedRing$Tape"
  | 1 => .object "RankedRing$Ring"
  | 2 => .array .int
  | 3 => .array .int
  | 4 => .int
  | 5 => .int
  | 6 => .int
  | 7 => .int
  | 8 => .int
  | 9 => .int
  | 10 => .int
  | 11 => .int
  | _ => .int
abbrev wsX40 : List Cond := u_ws RX4 TX4 13
theorem nmX4 : ∀ a, a < 13 → ∀ b, b < 13 → a ≠ b → (TX4 a).2.1 ≠ (TX4 b).2.1 := by decide +kernel
theorem tyX4_ok : ∀ k, k < 13 → parseFieldDescriptor (TX4 k).2.2.1 = some (tyX4 k) := by decide +kernel
abbrev cX4_init : ByteArray := prog_6_method_1_code
def yX4_init : MethodName := ⟨RX4, "<init>", "(LRankedRing$Tape;LRankedRing$Ring;)V"⟩
abbrev cX4_readText : ByteArray := prog_6_method_2_code
def yX4_readText : MethodName := ⟨RX4, "readText", "(I)Z"⟩
abbrev cX4_fail : ByteArray := prog_6_method_3_code
def yX4_fail : MethodName := ⟨RX4, "fail", "(I)Z"⟩
abbrev cX4_readLine : ByteArray := prog_6_method_4_code
def yX4_readLine : MethodName := ⟨RX4, "readLine", "()Z"⟩
abbrev cX4_readStation : ByteArray := prog_6_method_5_code
def yX4_readStation : MethodName := ⟨RX4, "readStation", "()Z"⟩
abbrev cX4_readOff : ByteArray := prog_6_method_6_code
def yX4_readOff : MethodName := ⟨RX4, "readOff", "()Z"⟩
abbrev cX4_readMonitor : ByteArray := prog_6_method_7_code
def yX4_readMonitor : MethodName := ⟨RX4, "readMonitor", "()Z"⟩
abbrev cX4_readSend : ByteArray := prog_6_method_8_code
def yX4_readSend : MethodName := ⟨RX4, "readSend", "()Z"⟩
abbrev cX4_readBreak : ByteArray := prog_6_method_9_code
def yX4_readBreak : MethodName := ⟨RX4, "readBreak", "()Z"⟩
abbrev cX4_readName : ByteArray := prog_6_method_10_code
def yX4_readName : MethodName := ⟨RX4, "readName", "(Z)Z"⟩
abbrev cX4_readNumber : ByteArray := prog_6_method_11_code
def yX4_readNumber : MethodName := ⟨RX4, "readNumber", "(I)Z"⟩
abbrev cX4_readSign : ByteArray := prog_6_method_12_code
def yX4_readSign : MethodName := ⟨RX4, "readSign", "()Z"⟩
abbrev cX4_readToken : ByteArray := prog_6_method_13_code
def yX4_readToken : MethodName := ⟨RX4, "readToken", "()Z"⟩
abbrev cX4_skipBlanks : ByteArray := prog_6_method_14_code
def yX4_skipBlanks : MethodName := ⟨RX4, "skipBlanks", "()V"⟩
abbrev cX4_takeLetters : ByteArray := prog_6_method_15_code
def yX4_takeLetters : MethodName := ⟨RX4, "takeLetters", "()V"⟩
abbrev cX4_takeDigits : ByteArray := prog_6_method_16_code
def yX4_takeDigits : MethodName := ⟨RX4, "takeDigits", "()V"⟩
abbrev cX4_isLetter : ByteArray := prog_6_method_17_code
def yX4_isLetter : MethodName := ⟨RX4, "isLetter", "(I)Z"⟩
abbrev cX4_isDigit : ByteArray := prog_6_method_18_code
def yX4_isDigit : MethodName := ⟨RX4, "isDigit", "(I)Z"⟩
abbrev cX4_isLineWord : ByteArray := prog_6_method_19_code
def yX4_isLineWord : MethodName := ⟨RX4, "isLineWord", "()Z"⟩
abbrev cX4_isWord : ByteArray := prog_6_method_20_code
def yX4_isWord : MethodName := ⟨RX4, "isWord", "(Ljava/lang/String;)Z"⟩
abbrev cX4_isNameOf : ByteArray := prog_6_method_21_code
def yX4_isNameOf : MethodName := ⟨RX4, "isNameOf", "(I)Z"⟩
def RX5 : String := "RankedRing$Ring"
def TX5 : u_T := fun k => match k with
  | 0 => ("RankedRing$Ring", "stations", "LRankedRing$Stations;", true)
  | 1 => ("RankedRing$Ring", "queues", "LRankedRing$Queues;", true)
  | 2 => ("RankedRing$Ring", "raises", "LRankedRing$Raises;", true)
  | 3 => ("RankedRing$Ring", "way", "LRankedRing$Way;", true)
  | 4 => ("RankedRing$Ring", "silence", "LRankedRing$Silence;", true)
  | 5 => ("RankedRing$Ring", "book", "LRankedRing$Book;", true)
  | 6 => ("RankedRing$Ring", "ticks", "I", false)
  | 7 => ("RankedRing$Ring", "framesEver", "I", false)
  | 8 => ("RankedRing$Ring", "gotNow", "I", false)
  | 9 => ("RankedRing$Ring", "fellNow", "I", false)
  | _ => ("RankedRing$Ring", "purgedNow", "Z", false)
def tyX5 : Nat → FieldType := fun k => match k with
  | 0 => .object "RankedRing$Stations"
  | 1 => .object "RankedRing$Queues"
  | 2 => .object "RankedRing$Raises"
  | 3 => .object "RankedRing$Way"
  | 4 => .object "RankedRing$Silence"
  | 5 => .object "RankedRing$Book"
  | 6 => .int
  | 7 => .int
  | 8 => .int
  | 9 => .int
  | _ => .boolean
abbrev wsX50 : List Cond := u_ws RX5 TX5 11
theorem nmX5 : ∀ a, a < 11 → ∀ b, b < 11 → a ≠ b → (TX5 a).2.1 ≠ (TX5 b).2.1 := by decide +kernel
theorem tyX5_ok : ∀ k, k < 11 → parseFieldDescriptor (TX5 k).2.2.1 = some (tyX5 k) := by decide +kernel
abbrev cX5_init : ByteArray := prog_7_method_1_code
def yX5_init : MethodName := ⟨RX5, "<init>", "()V"⟩
abbrev cX5_clear : ByteArray := prog_7_method_2_code
def yX5_clear : MethodName := ⟨RX5, "clear", "()V"⟩
abbrev cX5_copyFrom : ByteArray := prog_7_method_3_code
def yX5_copyFrom : MethodName := ⟨RX5, "copyFrom", "(LRankedRing$Ring;)V"⟩
abbrev cX5_forgetLatestTick : ByteArray := prog_7_method_4_code
def yX5_forgetLatestTick : MethodName := ⟨RX5, "forgetLatestTick", "()V"⟩
abbrev cX5_tellOf : ByteArray := prog_7_method_5_code
def yX5_tellOf : MethodName := ⟨RX5, "tellOf", "(II)I"⟩
abbrev cX5_hasFrame : ByteArray := prog_7_method_6_code
def yX5_hasFrame : MethodName := ⟨RX5, "hasFrame", "(I)Z"⟩
abbrev cX5_isQuiet : ByteArray := prog_7_method_7_code
def yX5_isQuiet : MethodName := ⟨RX5, "isQuiet", "()Z"⟩
abbrev cX5_newFrame : ByteArray := prog_7_method_8_code
def yX5_newFrame : MethodName := ⟨RX5, "newFrame", "(III)I"⟩
abbrev cX5_switchOff : ByteArray := prog_7_method_9_code
def yX5_switchOff : MethodName := ⟨RX5, "switchOff", "(I)V"⟩
abbrev cX5_startSilence : ByteArray := prog_7_method_10_code
def yX5_startSilence : MethodName := ⟨RX5, "startSilence", "()V"⟩
abbrev cX5_drawn : ByteArray := prog_7_method_11_code
def yX5_drawn : MethodName := ⟨RX5, "drawn", "(II)I"⟩
abbrev cX5_nextDraw : ByteArray := prog_7_method_12_code
def yX5_nextDraw : MethodName := ⟨RX5, "nextDraw", "(I)I"⟩
abbrev cX5_drawFrame : ByteArray := prog_7_method_13_code
def yX5_drawFrame : MethodName := ⟨RX5, "drawFrame", "(II)I"⟩
abbrev cX5_dropIt : ByteArray := prog_7_method_14_code
def yX5_dropIt : MethodName := ⟨RX5, "dropIt", "()V"⟩
abbrev cX5_purge : ByteArray := prog_7_method_15_code
def yX5_purge : MethodName := ⟨RX5, "purge", "()V"⟩
abbrev cX5_passTick : ByteArray := prog_7_method_16_code
def yX5_passTick : MethodName := ⟨RX5, "passTick", "(Z)V"⟩
abbrev cX5_moveOn : ByteArray := prog_7_method_17_code
def yX5_moveOn : MethodName := ⟨RX5, "moveOn", "(Z)V"⟩
abbrev cX5_tokenComes : ByteArray := prog_7_method_18_code
def yX5_tokenComes : MethodName := ⟨RX5, "tokenComes", "(IZ)V"⟩
abbrev cX5_lowerToken : ByteArray := prog_7_method_19_code
def yX5_lowerToken : MethodName := ⟨RX5, "lowerToken", "(I)V"⟩
abbrev cX5_frameComes : ByteArray := prog_7_method_20_code
def yX5_frameComes : MethodName := ⟨RX5, "frameComes", "(IZ)V"⟩
abbrev cX5_endFrame : ByteArray := prog_7_method_21_code
def yX5_endFrame : MethodName := ⟨RX5, "endFrame", "(IZ)V"⟩
abbrev cX5_passSilentTick : ByteArray := prog_7_method_22_code
def yX5_passSilentTick : MethodName := ⟨RX5, "passSilentTick", "()V"⟩
abbrev cX5_answerSilence : ByteArray := prog_7_method_23_code
def yX5_answerSilence : MethodName := ⟨RX5, "answerSilence", "()V"⟩
abbrev cX5_crownGreatest : ByteArray := prog_7_method_24_code
def yX5_crownGreatest : MethodName := ⟨RX5, "crownGreatest", "()V"⟩
abbrev cX5_blame : ByteArray := prog_7_method_25_code
def yX5_blame : MethodName := ⟨RX5, "blame", "(I)V"⟩
def RX6 : String := "RankedRing$Silence"
def TX6 : u_T := fun k => match k with
  | 0 => ("RankedRing$Silence", "ticks", "I", false)
  | 1 => ("RankedRing$Silence", "sign", "I", false)
  | 2 => ("RankedRing$Silence", "tail", "I", false)
  | _ => ("RankedRing$Silence", "head", "I", false)
def tyX6 : Nat → FieldType := fun k => match k with
  | 0 => .int
  | 1 => .int
  | 2 => .int
  | _ => .int
abbrev wsX60 : List Cond := u_ws RX6 TX6 4
theorem nmX6 : ∀ a, a < 4 → ∀ b, b < 4 → a ≠ b → (TX6 a).2.1 ≠ (TX6 b).2.1 := by decide +kernel
theorem tyX6_ok : ∀ k, k < 4 → parseFieldDescriptor (TX6 k).2.2.1 = some (tyX6 k) := by decide +kernel
abbrev cX6_init : ByteArray := prog_8_method_1_code
def yX6_init : MethodName := ⟨RX6, "<init>", "()V"⟩
abbrev cX6_restart : ByteArray := prog_8_method_2_code
def yX6_restart : MethodName := ⟨RX6, "restart", "()V"⟩
abbrev cX6_copyFrom : ByteArray := prog_8_method_3_code
def yX6_copyFrom : MethodName := ⟨RX6, "copyFrom", "(LRankedRing$Silence;)V"⟩
def RX7 : String := "RankedRing$Stations"
def TX7 : u_T := fun k => match k with
  | 0 => ("RankedRing$Stations", "addresses", "[I", true)
  | 1 => ("RankedRing$Stations", "alive", "[Z", true)
  | 2 => ("RankedRing$Stations", "known", "[I", true)
  | 3 => ("RankedRing$Stations", "gotFrom", "[I", true)
  | 4 => ("RankedRing$Stations", "gotTo", "[I", true)
  | 5 => ("RankedRing$Stations", "count", "I", false)
  | 6 => ("RankedRing$Stations", "chief", "I", false)
  | 7 => ("RankedRing$Stations", "breakBehind", "I", false)
  | _ => ("RankedRing$Stations", "breakCause", "I", false)
def tyX7 : Nat → FieldType := fun k => match k with
  | 0 => .array .int
  | 1 => .array .boolean
  | 2 => .array .int
  | 3 => .array .int
  | 4 => .array .int
  | 5 => .int
  | 6 => .int
  | 7 => .int
  | _ => .int
abbrev wsX70 : List Cond := u_ws RX7 TX7 9
theorem nmX7 : ∀ a, a < 9 → ∀ b, b < 9 → a ≠ b → (TX7 a).2.1 ≠ (TX7 b).2.1 := by decide +kernel
theorem tyX7_ok : ∀ k, k < 9 → parseFieldDescriptor (TX7 k).2.2.1 = some (tyX7 k) := by decide +kernel
abbrev cX7_init : ByteArray := prog_9_method_1_code
def yX7_init : MethodName := ⟨RX7, "<init>", "()V"⟩
abbrev cX7_clear : ByteArray := prog_9_method_2_code
def yX7_clear : MethodName := ⟨RX7, "clear", "()V"⟩
abbrev cX7_copyFrom : ByteArray := prog_9_method_3_code
def yX7_copyFrom : MethodName := ⟨RX7, "copyFrom", "(LRankedRing$Stations;)V"⟩
abbrev cX7_append : ByteArray := prog_9_method_4_code
def yX7_append : MethodName := ⟨RX7, "append", "(I)V"⟩
abbrev cX7_exists : ByteArray := prog_9_method_5_code
def yX7_exists : MethodName := ⟨RX7, "exists", "(I)Z"⟩
abbrev cX7_isOn : ByteArray := prog_9_method_6_code
def yX7_isOn : MethodName := ⟨RX7, "isOn", "(I)Z"⟩
abbrev cX7_switchOn : ByteArray := prog_9_method_7_code
def yX7_switchOn : MethodName := ⟨RX7, "switchOn", "(I)V"⟩
abbrev cX7_switchOff : ByteArray := prog_9_method_8_code
def yX7_switchOff : MethodName := ⟨RX7, "switchOff", "(I)V"⟩
abbrev cX7_hasAddress : ByteArray := prog_9_method_9_code
def yX7_hasAddress : MethodName := ⟨RX7, "hasAddress", "(I)Z"⟩
abbrev cX7_onCount : ByteArray := prog_9_method_10_code
def yX7_onCount : MethodName := ⟨RX7, "onCount", "()I"⟩
abbrev cX7_onBits : ByteArray := prog_9_method_11_code
def yX7_onBits : MethodName := ⟨RX7, "onBits", "()I"⟩
abbrev cX7_greatestOn : ByteArray := prog_9_method_12_code
def yX7_greatestOn : MethodName := ⟨RX7, "greatestOn", "()I"⟩
abbrev cX7_chiefIsOn : ByteArray := prog_9_method_13_code
def yX7_chiefIsOn : MethodName := ⟨RX7, "chiefIsOn", "()Z"⟩
abbrev cX7_following : ByteArray := prog_9_method_14_code
def yX7_following : MethodName := ⟨RX7, "following", "(I)I"⟩
abbrev cX7_preceding : ByteArray := prog_9_method_15_code
def yX7_preceding : MethodName := ⟨RX7, "preceding", "(I)I"⟩
abbrev cX7_nextOn : ByteArray := prog_9_method_16_code
def yX7_nextOn : MethodName := ⟨RX7, "nextOn", "(I)I"⟩
abbrev cX7_previousOn : ByteArray := prog_9_method_17_code
def yX7_previousOn : MethodName := ⟨RX7, "previousOn", "(I)I"⟩
abbrev cX7_stepsBetween : ByteArray := prog_9_method_18_code
def yX7_stepsBetween : MethodName := ⟨RX7, "stepsBetween", "(II)I"⟩
abbrev cX7_setBreak : ByteArray := prog_9_method_19_code
def yX7_setBreak : MethodName := ⟨RX7, "setBreak", "(II)V"⟩
abbrev cX7_breakCounts : ByteArray := prog_9_method_20_code
def yX7_breakCounts : MethodName := ⟨RX7, "breakCounts", "()Z"⟩
abbrev cX7_breakCountsWithout : ByteArray := prog_9_method_21_code
def yX7_breakCountsWithout : MethodName := ⟨RX7, "breakCountsWithout", "(I)Z"⟩
abbrev cX7_breakBetween : ByteArray := prog_9_method_22_code
def yX7_breakBetween : MethodName := ⟨RX7, "breakBetween", "(II)Z"⟩
abbrev cX7_staleBits : ByteArray := prog_9_method_23_code
def yX7_staleBits : MethodName := ⟨RX7, "staleBits", "()I"⟩
abbrev cX7_tellNeighbours : ByteArray := prog_9_method_24_code
def yX7_tellNeighbours : MethodName := ⟨RX7, "tellNeighbours", "()I"⟩
abbrev cX7_countGot : ByteArray := prog_9_method_25_code
def yX7_countGot : MethodName := ⟨RX7, "countGot", "(II)V"⟩
def RX8 : String := "RankedRing$Tape"
def TX8 : u_T := fun k => match k with
  | 0 => ("RankedRing$Tape", "bytes", "[B", true)
  | 1 => ("RankedRing$Tape", "length", "I", false)
  | 2 => ("RankedRing$Tape", "faultKind", "I", false)
  | _ => ("RankedRing$Tape", "faultPlace", "I", false)
def tyX8 : Nat → FieldType := fun k => match k with
  | 0 => .array .byte
  | 1 => .int
  | 2 => .int
  | _ => .int
abbrev wsX80 : List Cond := u_ws RX8 TX8 4
theorem nmX8 : ∀ a, a < 4 → ∀ b, b < 4 → a ≠ b → (TX8 a).2.1 ≠ (TX8 b).2.1 := by decide +kernel
theorem tyX8_ok : ∀ k, k < 4 → parseFieldDescriptor (TX8 k).2.2.1 = some (tyX8 k) := by decide +kernel
abbrev cX8_init : ByteArray := prog_10_method_1_code
def yX8_init : MethodName := ⟨RX8, "<init>", "()V"⟩
abbrev cX8_copyFrom : ByteArray := prog_10_method_2_code
def yX8_copyFrom : MethodName := ⟨RX8, "copyFrom", "(LRankedRing$Tape;)V"⟩
abbrev cX8_append : ByteArray := prog_10_method_3_code
def yX8_append : MethodName := ⟨RX8, "append", "(I)V"⟩
abbrev cX8_byteAt : ByteArray := prog_10_method_4_code
def yX8_byteAt : MethodName := ⟨RX8, "byteAt", "(I)I"⟩
def RX9 : String := "RankedRing$Way"
def TX9 : u_T := fun k => match k with
  | 0 => ("RankedRing$Way", "kind", "I", false)
  | 1 => ("RankedRing$Way", "at", "I", false)
  | 2 => ("RankedRing$Way", "level", "I", false)
  | 3 => ("RankedRing$Way", "wish", "I", false)
  | 4 => ("RankedRing$Way", "marked", "Z", false)
  | 5 => ("RankedRing$Way", "from", "I", false)
  | 6 => ("RankedRing$Way", "to", "I", false)
  | 7 => ("RankedRing$Way", "rank", "I", false)
  | 8 => ("RankedRing$Way", "copied", "Z", false)
  | 9 => ("RankedRing$Way", "number", "I", false)
  | _ => ("RankedRing$Way", "birth", "I", false)
def tyX9 : Nat → FieldType := fun k => match k with
  | 0 => .int
  | 1 => .int
  | 2 => .int
  | 3 => .int
  | 4 => .boolean
  | 5 => .int
  | 6 => .int
  | 7 => .int
  | 8 => .boolean
  | 9 => .int
  | _ => .int
abbrev wsX90 : List Cond := u_ws RX9 TX9 11
theorem nmX9 : ∀ a, a < 11 → ∀ b, b < 11 → a ≠ b → (TX9 a).2.1 ≠ (TX9 b).2.1 := by decide +kernel
theorem tyX9_ok : ∀ k, k < 11 → parseFieldDescriptor (TX9 k).2.2.1 = some (tyX9 k) := by decide +kernel
abbrev cX9_init : ByteArray := prog_11_method_1_code
def yX9_init : MethodName := ⟨RX9, "<init>", "()V"⟩
abbrev cX9_clear : ByteArray := prog_11_method_2_code
def yX9_clear : MethodName := ⟨RX9, "clear", "()V"⟩
abbrev cX9_copyFrom : ByteArray := prog_11_method_3_code
def yX9_copyFrom : MethodName := ⟨RX9, "copyFrom", "(LRankedRing$Way;)V"⟩
abbrev cX9_becomeToken : ByteArray := prog_11_method_4_code
def yX9_becomeToken : MethodName := ⟨RX9, "becomeToken", "(III)V"⟩
abbrev cX9_becomeFrame : ByteArray := prog_11_method_5_code
def yX9_becomeFrame : MethodName := ⟨RX9, "becomeFrame", "(ILRankedRing$Queues;I)V"⟩
abbrev cX9_tell : ByteArray := prog_11_method_6_code
def yX9_tell : MethodName := ⟨RX9, "tell", "(I)I"⟩
def RX10 : String := "RankedRing"
def TX10 : u_T := fun k => match k with
  | 0 => ("RankedRing", "tape", "LRankedRing$Tape;", true)
  | 1 => ("RankedRing", "ring", "LRankedRing$Ring;", true)
  | 2 => ("RankedRing", "scratch", "LRankedRing$Ring;", true)
  | 3 => ("RankedRing", "paper", "LRankedRing$Paper;", true)
  | 4 => ("RankedRing", "reader", "LRankedRing$Reader;", true)
  | 5 => ("RankedRing", "markedRings", "[LRankedRing$Ring;", true)
  | 6 => ("RankedRing", "markedTapes", "[LRankedRing$Tape;", true)
  | 7 => ("RankedRing", "markCount", "I", false)
  | _ => ("RankedRing", "status", "I", false)
def tyX10 : Nat → FieldType := fun k => match k with
  | 0 => .object "RankedRing$Tape"
  | 1 => .object "RankedRing$Ring"
  | 2 => .object "RankedRing$Ring"
  | 3 => .object "RankedRing$Paper"
  | 4 => .object "RankedRing$Reader"
  | 5 => .array (.object "RankedRing$Ring")
  | 6 => .array (.object "RankedRing$Tape")
  | 7 => .int
  | _ => .int
abbrev wsX100 : List Cond := u_ws RX10 TX10 9
theorem nmX10 : ∀ a, a < 9 → ∀ b, b < 9 → a ≠ b → (TX10 a).2.1 ≠ (TX10 b).2.1 := by decide +kernel
theorem tyX10_ok : ∀ k, k < 9 → parseFieldDescriptor (TX10 k).2.2.1 = some (tyX10 k) := by decide +kernel
abbrev cX10_init : ByteArray := prog_1_method_1_code
def yX10_init : MethodName := ⟨RX10, "<init>", "()V"⟩
abbrev cX10_status : ByteArray := prog_1_method_2_code
def yX10_status : MethodName := ⟨RX10, "status", "()I"⟩
abbrev cX10_feed : ByteArray := prog_1_method_3_code
def yX10_feed : MethodName := ⟨RX10, "feed", "(IIIII)I"⟩
abbrev cX10_load : ByteArray := prog_1_method_4_code
def yX10_load : MethodName := ⟨RX10, "load", "(I)I"⟩
abbrev cX10_fault : ByteArray := prog_1_method_5_code
def yX10_fault : MethodName := ⟨RX10, "fault", "(I)I"⟩
abbrev cX10_many : ByteArray := prog_1_method_6_code
def yX10_many : MethodName := ⟨RX10, "many", "(I)I"⟩
abbrev cX10_station : ByteArray := prog_1_method_7_code
def yX10_station : MethodName := ⟨RX10, "station", "(II)I"⟩
abbrev cX10_waits : ByteArray := prog_1_method_8_code
def yX10_waits : MethodName := ⟨RX10, "waits", "(III)I"⟩
abbrev cX10_way : ByteArray := prog_1_method_9_code
def yX10_way : MethodName := ⟨RX10, "way", "(I)I"⟩
abbrev cX10_beacon : ByteArray := prog_1_method_10_code
def yX10_beacon : MethodName := ⟨RX10, "beacon", "(I)I"⟩
abbrev cX10_been : ByteArray := prog_1_method_11_code
def yX10_been : MethodName := ⟨RX10, "been", "(I)I"⟩
abbrev cX10_got : ByteArray := prog_1_method_12_code
def yX10_got : MethodName := ⟨RX10, "got", "(II)I"⟩
abbrev cX10_raise : ByteArray := prog_1_method_13_code
def yX10_raise : MethodName := ⟨RX10, "raise", "(III)I"⟩
abbrev cX10_event : ByteArray := prog_1_method_14_code
def yX10_event : MethodName := ⟨RX10, "event", "(II)I"⟩
abbrev cX10_ranks : ByteArray := prog_1_method_15_code
def yX10_ranks : MethodName := ⟨RX10, "ranks", "(II)I"⟩
abbrev cX10_hops : ByteArray := prog_1_method_16_code
def yX10_hops : MethodName := ⟨RX10, "hops", "(II)I"⟩
abbrev cX10_heir : ByteArray := prog_1_method_17_code
def yX10_heir : MethodName := ⟨RX10, "heir", "()I"⟩
abbrev cX10_add : ByteArray := prog_1_method_18_code
def yX10_add : MethodName := ⟨RX10, "add", "(I)I"⟩
abbrev cX10_send : ByteArray := prog_1_method_19_code
def yX10_send : MethodName := ⟨RX10, "send", "(III)I"⟩
abbrev cX10_take : ByteArray := prog_1_method_20_code
def yX10_take : MethodName := ⟨RX10, "take", "(I)I"⟩
abbrev cX10_shed : ByteArray := prog_1_method_21_code
def yX10_shed : MethodName := ⟨RX10, "shed", "(II)I"⟩
abbrev cX10_off : ByteArray := prog_1_method_22_code
def yX10_off : MethodName := ⟨RX10, "off", "(I)Z"⟩
abbrev cX10_on : ByteArray := prog_1_method_23_code
def yX10_on : MethodName := ⟨RX10, "on", "(I)Z"⟩
abbrev cX10_monitor : ByteArray := prog_1_method_24_code
def yX10_monitor : MethodName := ⟨RX10, "monitor", "(I)Z"⟩
abbrev cX10_lose : ByteArray := prog_1_method_25_code
def yX10_lose : MethodName := ⟨RX10, "lose", "()Z"⟩
abbrev cX10_snap : ByteArray := prog_1_method_26_code
def yX10_snap : MethodName := ⟨RX10, "snap", "(II)Z"⟩
abbrev cX10_mend : ByteArray := prog_1_method_27_code
def yX10_mend : MethodName := ⟨RX10, "mend", "()Z"⟩
abbrev cX10_tick : ByteArray := prog_1_method_28_code
def yX10_tick : MethodName := ⟨RX10, "tick", "(I)I"⟩
abbrev cX10_run : ByteArray := prog_1_method_29_code
def yX10_run : MethodName := ⟨RX10, "run", "(III)I"⟩
abbrev cX10_notice : ByteArray := prog_1_method_30_code
def yX10_notice : MethodName := ⟨RX10, "notice", "()I"⟩
abbrev cX10_stale : ByteArray := prog_1_method_31_code
def yX10_stale : MethodName := ⟨RX10, "stale", "()I"⟩
abbrev cX10_mark : ByteArray := prog_1_method_32_code
def yX10_mark : MethodName := ⟨RX10, "mark", "()I"⟩
abbrev cX10_back : ByteArray := prog_1_method_33_code
def yX10_back : MethodName := ⟨RX10, "back", "()I"⟩
abbrev cX10_quiet : ByteArray := prog_1_method_34_code
def yX10_quiet : MethodName := ⟨RX10, "quiet", "(Z)I"⟩
abbrev cX10_when : ByteArray := prog_1_method_35_code
def yX10_when : MethodName := ⟨RX10, "when", "(IZ)I"⟩
abbrev cX10_next : ByteArray := prog_1_method_36_code
def yX10_next : MethodName := ⟨RX10, "next", "(IZ)I"⟩
abbrev cX10_peak : ByteArray := prog_1_method_37_code
def yX10_peak : MethodName := ⟨RX10, "peak", "()I"⟩
abbrev cX10_lowered : ByteArray := prog_1_method_38_code
def yX10_lowered : MethodName := ⟨RX10, "lowered", "()I"⟩
abbrev cX10_healed : ByteArray := prog_1_method_39_code
def yX10_healed : MethodName := ⟨RX10, "healed", "()I"⟩
abbrev cX10_purged : ByteArray := prog_1_method_40_code
def yX10_purged : MethodName := ⟨RX10, "purged", "()I"⟩
abbrev cX10_blamed : ByteArray := prog_1_method_41_code
def yX10_blamed : MethodName := ⟨RX10, "blamed", "()I"⟩
abbrev cX10_gain : ByteArray := prog_1_method_42_code
def yX10_gain : MethodName := ⟨RX10, "gain", "()I"⟩
abbrev cX10_give : ByteArray := prog_1_method_43_code
def yX10_give : MethodName := ⟨RX10, "give", "(I)I"⟩
abbrev cX10_giveReached : ByteArray := prog_1_method_44_code
def yX10_giveReached : MethodName := ⟨RX10, "giveReached", "(I)I"⟩
abbrev cX10_fail : ByteArray := prog_1_method_45_code
def yX10_fail : MethodName := ⟨RX10, "fail", "(I)I"⟩
abbrev cX10_refuse : ByteArray := prog_1_method_46_code
def yX10_refuse : MethodName := ⟨RX10, "refuse", "(I)Z"⟩
abbrev cX10_succeed : ByteArray := prog_1_method_47_code
def yX10_succeed : MethodName := ⟨RX10, "succeed", "()Z"⟩
def RX11 : String := "RankedRingModel"
def TX11 : u_T := fun k => match k with
  | 0 => ("RankedRingModel", "all", "[I", true)
  | 1 => ("RankedRingModel", "status", "I", false)
  | 2 => ("RankedRingModel", "marks", "I", false)
  | 3 => ("RankedRingModel", "gotNow", "I", false)
  | 4 => ("RankedRingModel", "offNow", "I", false)
  | 5 => ("RankedRingModel", "purgedNow", "Z", false)
  | 6 => ("RankedRingModel", "plain", "Z", false)
  | 7 => ("RankedRingModel", "tape", "[B", true)
  | 8 => ("RankedRingModel", "text", "[B", true)
  | 9 => ("RankedRingModel", "names", "[J", true)
  | 10 => ("RankedRingModel", "taped", "I", false)
  | 11 => ("RankedRingModel", "size", "I", false)
  | 12 => ("RankedRingModel", "token", "I", false)
  | 13 => ("RankedRingModel", "from", "I", false)
  | 14 => ("RankedRingModel", "end", "I", false)
  | 15 => ("RankedRingModel", "value", "I", false)
  | 16 => ("RankedRingModel", "faults", "I", false)
  | 17 => ("RankedRingModel", "faultPlace", "I", false)
  | 18 => ("RankedRingModel", "faultKind", "I", false)
  | 19 => ("RankedRingModel", "drawn", "I", false)
  | 20 => ("RankedRingModel", "peakLevel", "I", false)
  | 21 => ("RankedRingModel", "asked", "[I", true)
  | _ => ("RankedRingModel", "askedAt", "[I", true)
def tyX11 : Nat → FieldType := fun k => match k with
  | 0 => .array .int
  | 1 => .int
  | 2 => .int
  | 3 => .int
  | 4 => .int
  | 5 => .boolean
  | 6 => .boolean
  | 7 => .array .byte
  | 8 => .array .byte
  | 9 => .array .long
  | 10 => .int
  | 11 => .int
  | 12 => .int
  | 13 => .int
  | 14 => .int
  | 15 => .int
  | 16 => .int
  | 17 => .int
  | 18 => .int
  | 19 => .int
  | 20 => .int
  | 21 => .array .int
  | _ => .array .int
abbrev wsX110 : List Cond := u_ws RX11 TX11 23
theorem nmX11 : ∀ a, a < 23 → ∀ b, b < 23 → a ≠ b → (TX11 a).2.1 ≠ (TX11 b).2.1 := by decide +kernel
theorem tyX11_ok : ∀ k, k < 23 → parseFieldDescriptor (TX11 k).2.2.1 = some (tyX11 k) := by decide +kernel
abbrev cX11_init : ByteArray := prog_13_method_1_code
def yX11_init : MethodName := ⟨RX11, "<init>", "()V"⟩
abbrev cX11_status : ByteArray := prog_13_method_2_code
def yX11_status : MethodName := ⟨RX11, "status", "()I"⟩
abbrev cX11_refuse : ByteArray := prog_13_method_3_code
def yX11_refuse : MethodName := ⟨RX11, "refuse", "(I)I"⟩
abbrev cX11_isSo : ByteArray := prog_13_method_4_code
def yX11_isSo : MethodName := ⟨RX11, "isSo", "(I)Z"⟩
abbrev cX11_gives : ByteArray := prog_13_method_5_code
def yX11_gives : MethodName := ⟨RX11, "gives", "(I)I"⟩
abbrev cX11_isFrom : ByteArray := prog_13_method_6_code
def yX11_isFrom : MethodName := ⟨RX11, "isFrom", "(III)Z"⟩
abbrev cX11_of : ByteArray := prog_13_method_7_code
def yX11_of : MethodName := ⟨RX11, "of", "(I)I"⟩
abbrev cX11_puts : ByteArray := prog_13_method_8_code
def yX11_puts : MethodName := ⟨RX11, "puts", "(II)V"⟩
abbrev cX11_adds : ByteArray := prog_13_method_9_code
def yX11_adds : MethodName := ⟨RX11, "adds", "(II)V"⟩
abbrev cX11_copies : ByteArray := prog_13_method_10_code
def yX11_copies : MethodName := ⟨RX11, "copies", "(II)V"⟩
abbrev cX11_begins : ByteArray := prog_13_method_11_code
def yX11_begins : MethodName := ⟨RX11, "begins", "()V"⟩
abbrev cX11_isStation : ByteArray := prog_13_method_12_code
def yX11_isStation : MethodName := ⟨RX11, "isStation", "(I)Z"⟩
abbrev cX11_isOn : ByteArray := prog_13_method_13_code
def yX11_isOn : MethodName := ⟨RX11, "isOn", "(I)Z"⟩
abbrev cX11_onMany : ByteArray := prog_13_method_14_code
def yX11_onMany : MethodName := ⟨RX11, "onMany", "()I"⟩
abbrev cX11_nextOn : ByteArray := prog_13_method_15_code
def yX11_nextOn : MethodName := ⟨RX11, "nextOn", "(II)I"⟩
abbrev cX11_doesCount : ByteArray := prog_13_method_16_code
def yX11_doesCount : MethodName := ⟨RX11, "doesCount", "()Z"⟩
abbrev cX11_isBroken : ByteArray := prog_13_method_17_code
def yX11_isBroken : MethodName := ⟨RX11, "isBroken", "(II)Z"⟩
abbrev cX11_heirNow : ByteArray := prog_13_method_18_code
def yX11_heirNow : MethodName := ⟨RX11, "heirNow", "()I"⟩
abbrev cX11_waitAt : ByteArray := prog_13_method_19_code
def yX11_waitAt : MethodName := ⟨RX11, "waitAt", "(II)I"⟩
abbrev cX11_firstOf : ByteArray := prog_13_method_20_code
def yX11_firstOf : MethodName := ⟨RX11, "firstOf", "(I)I"⟩
abbrev cX11_firstRank : ByteArray := prog_13_method_21_code
def yX11_firstRank : MethodName := ⟨RX11, "firstRank", "(I)I"⟩
abbrev cX11_sends : ByteArray := prog_13_method_22_code
def yX11_sends : MethodName := ⟨RX11, "sends", "(III)I"⟩
abbrev cX11_takes : ByteArray := prog_13_method_23_code
def yX11_takes : MethodName := ⟨RX11, "takes", "(II)V"⟩
abbrev cX11_happens : ByteArray := prog_13_method_24_code
def yX11_happens : MethodName := ⟨RX11, "happens", "(II)V"⟩
abbrev cX11_isSilent : ByteArray := prog_13_method_25_code
def yX11_isSilent : MethodName := ⟨RX11, "isSilent", "()V"⟩
abbrev cX11_isLost : ByteArray := prog_13_method_26_code
def yX11_isLost : MethodName := ⟨RX11, "isLost", "()V"⟩
abbrev cX11_dropsRaises : ByteArray := prog_13_method_27_code
def yX11_dropsRaises : MethodName := ⟨RX11, "dropsRaises", "(I)V"⟩
abbrev cX11_purges : ByteArray := prog_13_method_28_code
def yX11_purges : MethodName := ⟨RX11, "purges", "()V"⟩
abbrev cX11_isLevel : ByteArray := prog_13_method_29_code
def yX11_isLevel : MethodName := ⟨RX11, "isLevel", "(I)V"⟩
abbrev cX11_raiseAt : ByteArray := prog_13_method_30_code
def yX11_raiseAt : MethodName := ⟨RX11, "raiseAt", "(II)I"⟩
abbrev cX11_topRaise : ByteArray := prog_13_method_31_code
def yX11_topRaise : MethodName := ⟨RX11, "topRaise", "(I)I"⟩
abbrev cX11_wishes : ByteArray := prog_13_method_32_code
def yX11_wishes : MethodName := ⟨RX11, "wishes", "(I)V"⟩
abbrev cX11_tokenAt : ByteArray := prog_13_method_33_code
def yX11_tokenAt : MethodName := ⟨RX11, "tokenAt", "(I)V"⟩
abbrev cX11_isGot : ByteArray := prog_13_method_34_code
def yX11_isGot : MethodName := ⟨RX11, "isGot", "(I)V"⟩
abbrev cX11_comesHome : ByteArray := prog_13_method_35_code
def yX11_comesHome : MethodName := ⟨RX11, "comesHome", "(I)V"⟩
abbrev cX11_frameAt : ByteArray := prog_13_method_36_code
def yX11_frameAt : MethodName := ⟨RX11, "frameAt", "(I)V"⟩
abbrev cX11_goesOn : ByteArray := prog_13_method_37_code
def yX11_goesOn : MethodName := ⟨RX11, "goesOn", "()V"⟩
abbrev cX11_turnsOff : ByteArray := prog_13_method_38_code
def yX11_turnsOff : MethodName := ⟨RX11, "turnsOff", "(I)V"⟩
abbrev cX11_isBlamed : ByteArray := prog_13_method_39_code
def yX11_isBlamed : MethodName := ⟨RX11, "isBlamed", "(I)V"⟩
abbrev cX11_beacons : ByteArray := prog_13_method_40_code
def yX11_beacons : MethodName := ⟨RX11, "beacons", "()V"⟩
abbrev cX11_claims : ByteArray := prog_13_method_41_code
def yX11_claims : MethodName := ⟨RX11, "claims", "()V"⟩
abbrev cX11_isStill : ByteArray := prog_13_method_42_code
def yX11_isStill : MethodName := ⟨RX11, "isStill", "()V"⟩
abbrev cX11_ticks : ByteArray := prog_13_method_43_code
def yX11_ticks : MethodName := ⟨RX11, "ticks", "()V"⟩
abbrev cX11_feed : ByteArray := prog_13_method_44_code
def yX11_feed : MethodName := ⟨RX11, "feed", "(IIIII)I"⟩
abbrev cX11_four : ByteArray := prog_13_method_45_code
def yX11_four : MethodName := ⟨RX11, "four", "(I)V"⟩
abbrev cX11_byteAt : ByteArray := prog_13_method_46_code
def yX11_byteAt : MethodName := ⟨RX11, "byteAt", "(I)I"⟩
abbrev cX11_isSmall : ByteArray := prog_13_method_47_code
def yX11_isSmall : MethodName := ⟨RX11, "isSmall", "(I)Z"⟩
abbrev cX11_isDigit : ByteArray := prog_13_method_48_code
def yX11_isDigit : MethodName := ⟨RX11, "isDigit", "(I)Z"⟩
abbrev cX11_ahead : ByteArray := prog_13_method_49_code
def yX11_ahead : MethodName := ⟨RX11, "ahead", "()V"⟩
abbrev cX11_key : ByteArray := prog_13_method_50_code
def yX11_key : MethodName := ⟨RX11, "key", "()I"⟩
abbrev cX11_fails : ByteArray := prog_13_method_51_code
def yX11_fails : MethodName := ⟨RX11, "fails", "(I)Z"⟩
abbrev cX11_isName : ByteArray := prog_13_method_52_code
def yX11_isName : MethodName := ⟨RX11, "isName", "()Z"⟩
abbrev cX11_namedHere : ByteArray := prog_13_method_53_code
def yX11_namedHere : MethodName := ⟨RX11, "namedHere", "()I"⟩
abbrev cX11_stationHere : ByteArray := prog_13_method_54_code
def yX11_stationHere : MethodName := ⟨RX11, "stationHere", "()I"⟩
abbrev cX11_isNumber : ByteArray := prog_13_method_55_code
def yX11_isNumber : MethodName := ⟨RX11, "isNumber", "(II)Z"⟩
abbrev cX11_closes : ByteArray := prog_13_method_56_code
def yX11_closes : MethodName := ⟨RX11, "closes", "()Z"⟩
abbrev cX11_isTaken : ByteArray := prog_13_method_57_code
def yX11_isTaken : MethodName := ⟨RX11, "isTaken", "(I)Z"⟩
abbrev cX11_comes : ByteArray := prog_13_method_58_code
def yX11_comes : MethodName := ⟨RX11, "comes", "(I)I"⟩
abbrev cX11_aStation : ByteArray := prog_13_method_59_code
def yX11_aStation : MethodName := ⟨RX11, "aStation", "()Z"⟩
abbrev cX11_aSend : ByteArray := prog_13_method_60_code
def yX11_aSend : MethodName := ⟨RX11, "aSend", "()Z"⟩
abbrev cX11_aBreak : ByteArray := prog_13_method_61_code
def yX11_aBreak : MethodName := ⟨RX11, "aBreak", "()Z"⟩
abbrev cX11_aState : ByteArray := prog_13_method_62_code
def yX11_aState : MethodName := ⟨RX11, "aState", "(Z)Z"⟩
abbrev cX11_aLine : ByteArray := prog_13_method_63_code
def yX11_aLine : MethodName := ⟨RX11, "aLine", "()Z"⟩
abbrev cX11_load : ByteArray := prog_13_method_64_code
def yX11_load : MethodName := ⟨RX11, "load", "(I)I"⟩
abbrev cX11_fault : ByteArray := prog_13_method_65_code
def yX11_fault : MethodName := ⟨RX11, "fault", "(I)I"⟩
abbrev cX11_waitAll : ByteArray := prog_13_method_66_code
def yX11_waitAll : MethodName := ⟨RX11, "waitAll", "()I"⟩
abbrev cX11_onBits : ByteArray := prog_13_method_67_code
def yX11_onBits : MethodName := ⟨RX11, "onBits", "()I"⟩
abbrev cX11_many : ByteArray := prog_13_method_68_code
def yX11_many : MethodName := ⟨RX11, "many", "(I)I"⟩
abbrev cX11_wrongStation : ByteArray := prog_13_method_69_code
def yX11_wrongStation : MethodName := ⟨RX11, "wrongStation", "(I)I"⟩
abbrev cX11_station : ByteArray := prog_13_method_70_code
def yX11_station : MethodName := ⟨RX11, "station", "(II)I"⟩
abbrev cX11_waits : ByteArray := prog_13_method_71_code
def yX11_waits : MethodName := ⟨RX11, "waits", "(III)I"⟩
abbrev cX11_way : ByteArray := prog_13_method_72_code
def yX11_way : MethodName := ⟨RX11, "way", "(I)I"⟩
abbrev cX11_beacon : ByteArray := prog_13_method_73_code
def yX11_beacon : MethodName := ⟨RX11, "beacon", "(I)I"⟩
abbrev cX11_been : ByteArray := prog_13_method_74_code
def yX11_been : MethodName := ⟨RX11, "been", "(I)I"⟩
abbrev cX11_got : ByteArray := prog_13_method_75_code
def yX11_got : MethodName := ⟨RX11, "got", "(II)I"⟩
abbrev cX11_raise : ByteArray := prog_13_method_76_code
def yX11_raise : MethodName := ⟨RX11, "raise", "(III)I"⟩
abbrev cX11_event : ByteArray := prog_13_method_77_code
def yX11_event : MethodName := ⟨RX11, "event", "(II)I"⟩
abbrev cX11_ranks : ByteArray := prog_13_method_78_code
def yX11_ranks : MethodName := ⟨RX11, "ranks", "(II)I"⟩
abbrev cX11_hops : ByteArray := prog_13_method_79_code
def yX11_hops : MethodName := ⟨RX11, "hops", "(II)I"⟩
abbrev cX11_heir : ByteArray := prog_13_method_80_code
def yX11_heir : MethodName := ⟨RX11, "heir", "()I"⟩
abbrev cX11_isAnew : ByteArray := prog_13_method_81_code
def yX11_isAnew : MethodName := ⟨RX11, "isAnew", "()V"⟩
abbrev cX11_add : ByteArray := prog_13_method_82_code
def yX11_add : MethodName := ⟨RX11, "add", "(I)I"⟩
abbrev cX11_send : ByteArray := prog_13_method_83_code
def yX11_send : MethodName := ⟨RX11, "send", "(III)I"⟩
abbrev cX11_take : ByteArray := prog_13_method_84_code
def yX11_take : MethodName := ⟨RX11, "take", "(I)I"⟩
abbrev cX11_shed : ByteArray := prog_13_method_85_code
def yX11_shed : MethodName := ⟨RX11, "shed", "(II)I"⟩
abbrev cX11_off : ByteArray := prog_13_method_86_code
def yX11_off : MethodName := ⟨RX11, "off", "(I)Z"⟩
abbrev cX11_on : ByteArray := prog_13_method_87_code
def yX11_on : MethodName := ⟨RX11, "on", "(I)Z"⟩
abbrev cX11_monitor : ByteArray := prog_13_method_88_code
def yX11_monitor : MethodName := ⟨RX11, "monitor", "(I)Z"⟩
abbrev cX11_lose : ByteArray := prog_13_method_89_code
def yX11_lose : MethodName := ⟨RX11, "lose", "()Z"⟩
abbrev cX11_snap : ByteArray := prog_13_method_90_code
def yX11_snap : MethodName := ⟨RX11, "snap", "(II)Z"⟩
abbrev cX11_mend : ByteArray := prog_13_method_91_code
def yX11_mend : MethodName := ⟨RX11, "mend", "()Z"⟩
abbrev cX11_tick : ByteArray := prog_13_method_92_code
def yX11_tick : MethodName := ⟨RX11, "tick", "(I)I"⟩
abbrev cX11_drawBy : ByteArray := prog_13_method_93_code
def yX11_drawBy : MethodName := ⟨RX11, "drawBy", "(I)I"⟩
abbrev cX11_draws : ByteArray := prog_13_method_94_code
def yX11_draws : MethodName := ⟨RX11, "draws", "(I)V"⟩
abbrev cX11_run : ByteArray := prog_13_method_95_code
def yX11_run : MethodName := ⟨RX11, "run", "(III)I"⟩
abbrev cX11_notice : ByteArray := prog_13_method_96_code
def yX11_notice : MethodName := ⟨RX11, "notice", "()I"⟩
abbrev cX11_stale : ByteArray := prog_13_method_97_code
def yX11_stale : MethodName := ⟨RX11, "stale", "()I"⟩
abbrev cX11_mark : ByteArray := prog_13_method_98_code
def yX11_mark : MethodName := ⟨RX11, "mark", "()I"⟩
abbrev cX11_back : ByteArray := prog_13_method_99_code
def yX11_back : MethodName := ⟨RX11, "back", "()I"⟩
abbrev cX11_isQuiet : ByteArray := prog_13_method_100_code
def yX11_isQuiet : MethodName := ⟨RX11, "isQuiet", "()Z"⟩
abbrev cX11_isLowered : ByteArray := prog_13_method_101_code
def yX11_isLowered : MethodName := ⟨RX11, "isLowered", "()Z"⟩
abbrev cX11_isReached : ByteArray := prog_13_method_102_code
def yX11_isReached : MethodName := ⟨RX11, "isReached", "(I)Z"⟩
abbrev cX11_peaks : ByteArray := prog_13_method_103_code
def yX11_peaks : MethodName := ⟨RX11, "peaks", "()V"⟩
abbrev cX11_onPaper : ByteArray := prog_13_method_104_code
def yX11_onPaper : MethodName := ⟨RX11, "onPaper", "(Z)V"⟩
abbrev cX11_offPaper : ByteArray := prog_13_method_105_code
def yX11_offPaper : MethodName := ⟨RX11, "offPaper", "()V"⟩
abbrev cX11_reaches : ByteArray := prog_13_method_106_code
def yX11_reaches : MethodName := ⟨RX11, "reaches", "(IZ)I"⟩
abbrev cX11_givesOr : ByteArray := prog_13_method_107_code
def yX11_givesOr : MethodName := ⟨RX11, "givesOr", "(I)I"⟩
abbrev cX11_quiet : ByteArray := prog_13_method_108_code
def yX11_quiet : MethodName := ⟨RX11, "quiet", "(Z)I"⟩
abbrev cX11_lives : ByteArray := prog_13_method_109_code
def yX11_lives : MethodName := ⟨RX11, "lives", "(IZI)V"⟩
abbrev cX11_waiting : ByteArray := prog_13_method_110_code
def yX11_waiting : MethodName := ⟨RX11, "waiting", "()I"⟩
abbrev cX11_when : ByteArray := prog_13_method_111_code
def yX11_when : MethodName := ⟨RX11, "when", "(IZ)I"⟩
abbrev cX11_next : ByteArray := prog_13_method_112_code
def yX11_next : MethodName := ⟨RX11, "next", "(IZ)I"⟩
abbrev cX11_peak : ByteArray := prog_13_method_113_code
def yX11_peak : MethodName := ⟨RX11, "peak", "()I"⟩
abbrev cX11_lowered : ByteArray := prog_13_method_114_code
def yX11_lowered : MethodName := ⟨RX11, "lowered", "()I"⟩
abbrev cX11_healed : ByteArray := prog_13_method_115_code
def yX11_healed : MethodName := ⟨RX11, "healed", "()I"⟩
abbrev cX11_purged : ByteArray := prog_13_method_116_code
def yX11_purged : MethodName := ⟨RX11, "purged", "()I"⟩
abbrev cX11_blamed : ByteArray := prog_13_method_117_code
def yX11_blamed : MethodName := ⟨RX11, "blamed", "()I"⟩
abbrev cX11_gain : ByteArray := prog_13_method_118_code
def yX11_gain : MethodName := ⟨RX11, "gain", "()I"⟩
def RJx145de : String := "java/io/Serializable"
def TJx145de : u_T := fun k => match k with
  | _ => ("", "", "", false)
def tyJx145de : Nat → FieldType := fun k => match k with
  | _ => .int
abbrev wsJx145de0 : List Cond := u_ws RJx145de TJx145de 0
theorem nmJx145de : ∀ a, a < 0 → ∀ b, b < 0 → a ≠ b → (TJx145de a).2.1 ≠ (TJx145de b).2.1 := by decide +kernel
theorem tyJx145de_ok : ∀ k, k < 0 → parseFieldDescriptor (TJx145de k).2.2.1 = some (tyJx145de k) := by decide +kernel
def RJx9f9b0 : String := "java/lang/CharSequence"
def TJx9f9b0 : u_T := fun k => match k with
  | _ => ("", "", "", false)
def tyJx9f9b0 : Nat → FieldType := fun k => match k with
  | _ => .int
abbrev wsJx9f9b00 : List Cond := u_ws RJx9f9b0 TJx9f9b0 0
theorem nmJx9f9b0 : ∀ a, a < 0 → ∀ b, b < 0 → a ≠ b → (TJx9f9b0 a).2.1 ≠ (TJx9f9b0 b).2.1 := by decide +kernel
theorem tyJx9f9b0_ok : ∀ k, k < 0 → parseFieldDescriptor (TJx9f9b0 k).2.2.1 = some (tyJx9f9b0 k) := by decide +kernel
def RJxb160c : String := "java/lang/Comparable"
def TJxb160c : u_T := fun k => match k with
  | _ => ("", "", "", false)
def tyJxb160c : Nat → FieldType := fun k => match k with
  | _ => .int
abbrev wsJxb160c0 : List Cond := u_ws RJxb160c TJxb160c 0
theorem nmJxb160c : ∀ a, a < 0 → ∀ b, b < 0 → a ≠ b → (TJxb160c a).2.1 ≠ (TJxb160c b).2.1 := by decide +kernel
theorem tyJxb160c_ok : ∀ k, k < 0 → parseFieldDescriptor (TJxb160c k).2.2.1 = some (tyJxb160c k) := by decide +kernel
def RJ6 : String := "java/lang/Integer"
def TJ6 : u_T := fun k => match k with
  | _ => ("", "", "", false)
def tyJ6 : Nat → FieldType := fun k => match k with
  | _ => .int
abbrev wsJ60 : List Cond := u_ws RJ6 TJ6 0
theorem nmJ6 : ∀ a, a < 0 → ∀ b, b < 0 → a ≠ b → (TJ6 a).2.1 ≠ (TJ6 b).2.1 := by decide +kernel
theorem tyJ6_ok : ∀ k, k < 0 → parseFieldDescriptor (TJ6 k).2.2.1 = some (tyJ6 k) := by decide +kernel
abbrev cJ6_bitCount_0f7a4 : ByteArray := prog_14_method_49_code
def yJ6_bitCount_0f7a4 : MethodName := ⟨RJ6, "bitCount", "(I)I"⟩
def RJ9 : String := "java/lang/Math"
def TJ9 : u_T := fun k => match k with
  | _ => ("", "", "", false)
def tyJ9 : Nat → FieldType := fun k => match k with
  | _ => .int
abbrev wsJ90 : List Cond := u_ws RJ9 TJ9 0
theorem nmJ9 : ∀ a, a < 0 → ∀ b, b < 0 → a ≠ b → (TJ9 a).2.1 ≠ (TJ9 b).2.1 := by decide +kernel
theorem tyJ9_ok : ∀ k, k < 0 → parseFieldDescriptor (TJ9 k).2.2.1 = some (tyJ9 k) := by decide +kernel
abbrev cJ9_floorMod_7cf53 : ByteArray := prog_15_method_50_code
def yJ9_floorMod_7cf53 : MethodName := ⟨RJ9, "floorMod", "(II)I"⟩
abbrev cJ9_max_7cf53 : ByteArray := prog_15_method_65_code
def yJ9_max_7cf53 : MethodName := ⟨RJ9, "max", "(II)I"⟩
abbrev cJ9_min_7cf53 : ByteArray := prog_15_method_69_code
def yJ9_min_7cf53 : MethodName := ⟨RJ9, "min", "(II)I"⟩
def RJ0 : String := "java/lang/String"
def TJ0 : u_T := fun k => match k with
  | _ => ("", "", "", false)
def tyJ0 : Nat → FieldType := fun k => match k with
  | _ => .int
abbrev wsJ00 : List Cond := u_ws RJ0 TJ0 0
theorem nmJ0 : ∀ a, a < 0 → ∀ b, b < 0 → a ≠ b → (TJ0 a).2.1 ≠ (TJ0 b).2.1 := by decide +kernel
theorem tyJ0_ok : ∀ k, k < 0 → parseFieldDescriptor (TJ0 k).2.2.1 = some (tyJ0 k) := by decide +kernel
abbrev cJ0_length_8abf5 : ByteArray := prog_16_method_54_code
def yJ0_length_8abf5 : MethodName := ⟨RJ0, "length", "()I"⟩
abbrev cJ0_charAt_5068e : ByteArray := prog_16_method_56_code
def yJ0_charAt_5068e : MethodName := ⟨RJ0, "charAt", "(I)C"⟩
abbrev cJ0_coder_7d493 : ByteArray := prog_16_method_152_code
def yJ0_coder_7d493 : MethodName := ⟨RJ0, "coder", "()B"⟩
abbrev cJ0_isLatin1_aae02 : ByteArray := prog_16_method_154_code
def yJ0_isLatin1_aae02 : MethodName := ⟨RJ0, "isLatin1", "()Z"⟩
abbrev cJ0_checkIndex_df160 : ByteArray := prog_16_method_155_code
def yJ0_checkIndex_df160 : MethodName := ⟨RJ0, "checkIndex", "(II)V"⟩
def RJ1 : String := "java/lang/StringLatin1"
def TJ1 : u_T := fun k => match k with
  | _ => ("", "", "", false)
def tyJ1 : Nat → FieldType := fun k => match k with
  | _ => .int
abbrev wsJ10 : List Cond := u_ws RJ1 TJ1 0
theorem nmJ1 : ∀ a, a < 0 → ∀ b, b < 0 → a ≠ b → (TJ1 a).2.1 ≠ (TJ1 b).2.1 := by decide +kernel
theorem tyJ1_ok : ∀ k, k < 0 → parseFieldDescriptor (TJ1 k).2.2.1 = some (tyJ1 k) := by decide +kernel
abbrev cJ1_charAt_3b067 : ByteArray := prog_17_method_2_code
def yJ1_charAt_3b067 : MethodName := ⟨RJ1, "charAt", "([BI)C"⟩
def RJ2 : String := "java/lang/StringUTF16"
def TJ2 : u_T := fun k => match k with
  | _ => ("", "", "", false)
def tyJ2 : Nat → FieldType := fun k => match k with
  | _ => .int
abbrev wsJ20 : List Cond := u_ws RJ2 TJ2 0
theorem nmJ2 : ∀ a, a < 0 → ∀ b, b < 0 → a ≠ b → (TJ2 a).2.1 ≠ (TJ2 b).2.1 := by decide +kernel
theorem tyJ2_ok : ∀ k, k < 0 → parseFieldDescriptor (TJ2 k).2.2.1 = some (tyJ2 k) := by decide +kernel
abbrev cJ2_getChar_3b067 : ByteArray := prog_18_method_5_code
def yJ2_getChar_3b067 : MethodName := ⟨RJ2, "getChar", "([BI)C"⟩
abbrev cJ2_length_9d52b : ByteArray := prog_18_method_6_code
def yJ2_length_9d52b : MethodName := ⟨RJ2, "length", "([B)I"⟩
abbrev cJ2_charAt_3b067 : ByteArray := prog_18_method_83_code
def yJ2_charAt_3b067 : MethodName := ⟨RJ2, "charAt", "([BI)C"⟩
abbrev cJ2_checkIndex_2214a : ByteArray := prog_18_method_91_code
def yJ2_checkIndex_2214a : MethodName := ⟨RJ2, "checkIndex", "(I[B)V"⟩
def RJ10 : String := "java/lang/System"
def TJ10 : u_T := fun k => match k with
  | _ => ("", "", "", false)
def tyJ10 : Nat → FieldType := fun k => match k with
  | _ => .int
abbrev wsJ100 : List Cond := u_ws RJ10 TJ10 0
theorem nmJ10 : ∀ a, a < 0 → ∀ b, b < 0 → a ≠ b → (TJ10 a).2.1 ≠ (TJ10 b).2.1 := by decide +kernel
theorem tyJ10_ok : ∀ k, k < 0 → parseFieldDescriptor (TJ10 k).2.2.1 = some (tyJ10 k) := by decide +kernel
def RJxfd54e : String := "java/lang/constant/Constable"
def TJxfd54e : u_T := fun k => match k with
  | _ => ("", "", "", false)
def tyJxfd54e : Nat → FieldType := fun k => match k with
  | _ => .int
abbrev wsJxfd54e0 : List Cond := u_ws RJxfd54e TJxfd54e 0
theorem nmJxfd54e : ∀ a, a < 0 → ∀ b, b < 0 → a ≠ b → (TJxfd54e a).2.1 ≠ (TJxfd54e b).2.1 := by decide +kernel
theorem tyJxfd54e_ok : ∀ k, k < 0 → parseFieldDescriptor (TJxfd54e k).2.2.1 = some (tyJxfd54e k) := by decide +kernel
def RJx3cf43 : String := "java/lang/constant/ConstantDesc"
def TJx3cf43 : u_T := fun k => match k with
  | _ => ("", "", "", false)
def tyJx3cf43 : Nat → FieldType := fun k => match k with
  | _ => .int
abbrev wsJx3cf430 : List Cond := u_ws RJx3cf43 TJx3cf43 0
theorem nmJx3cf43 : ∀ a, a < 0 → ∀ b, b < 0 → a ≠ b → (TJx3cf43 a).2.1 ≠ (TJx3cf43 b).2.1 := by decide +kernel
theorem tyJx3cf43_ok : ∀ k, k < 0 → parseFieldDescriptor (TJx3cf43 k).2.2.1 = some (tyJx3cf43 k) := by decide +kernel
def RJ7 : String := "java/util/Arrays"
def TJ7 : u_T := fun k => match k with
  | _ => ("", "", "", false)
def tyJ7 : Nat → FieldType := fun k => match k with
  | _ => .int
abbrev wsJ70 : List Cond := u_ws RJ7 TJ7 0
theorem nmJ7 : ∀ a, a < 0 → ∀ b, b < 0 → a ≠ b → (TJ7 a).2.1 ≠ (TJ7 b).2.1 := by decide +kernel
theorem tyJ7_ok : ∀ k, k < 0 → parseFieldDescriptor (TJ7 k).2.2.1 = some (tyJ7 k) := by decide +kernel
abbrev cJ7_fill_53178 : ByteArray := prog_20_method_103_code
def yJ7_fill_53178 : MethodName := ⟨RJ7, "fill", "([II)V"⟩
def RJ3 : String := "jdk/internal/util/Preconditions"
def TJ3 : u_T := fun k => match k with
  | _ => ("", "", "", false)
def tyJ3 : Nat → FieldType := fun k => match k with
  | _ => .int
abbrev wsJ30 : List Cond := u_ws RJ3 TJ3 0
theorem nmJ3 : ∀ a, a < 0 → ∀ b, b < 0 → a ≠ b → (TJ3 a).2.1 ≠ (TJ3 b).2.1 := by decide +kernel
theorem tyJ3_ok : ∀ k, k < 0 → parseFieldDescriptor (TJ3 k).2.2.1 = some (tyJ3 k) := by decide +kernel
abbrev cJ3_checkIndex_8e157 : ByteArray := prog_21_method_11_code
def yJ3_checkIndex_8e157 : MethodName := ⟨RJ3, "checkIndex", "(IILjava/util/function/BiFunction;)I"⟩
def RL : String := "RankedRingLaw"
abbrev cL_law : ByteArray := code
def yL_law : MethodName := ⟨RL, "law", "([I)Z"⟩
abbrev vwCl : List vw_C := [(RX0, TX0, 6), (RX1, TX1, 4), (RX2, TX2, 5), (RX3, TX3, 3), (RX4, TX4, 13), (RX5, TX5, 11), (RX6, TX6, 4), (RX7, TX7, 9), (RX8, TX8, 4), (RX9, TX9, 11), (RX10, TX10, 9), (RX11, TX11, 23)]
/-- the words that hold in every state -/
def wsL_law : List Cond := lw_tbl.filter goodWord
