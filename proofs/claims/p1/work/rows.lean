section
-- ===== PART A: goes FIRST, ahead of the names: the tables' words, and 'selects' of the private methods out of them =====
/-- a private method of a class that the tables say can be made, by its rows of tables_1 -/
def lw_okq (q : MethodName × Nat) : Prop := (q.1.cls ≠ "java/lang/invoke/MethodHandle" ∧ q.1.cls ≠ "java/lang/invoke/VarHandle") ∧ Cond.instantiable q.1.cls q.2 ∈ tables_1 ∧ Cond.privateMethod q.1 ∈ tables_1 ∧ Cond.instanceMethod q.1 ∈ tables_1
theorem lw_p0 : lw_okq (⟨"RankedRing", "fail", "(I)I"⟩, 9) := ⟨⟨by decide +kernel, by decide +kernel⟩, List.mem_of_getElem? (i := 22) (by decide +kernel), List.mem_of_getElem? (i := 421) (by decide +kernel), List.mem_of_getElem? (i := 422) (by decide +kernel)⟩
theorem lw_p1 : lw_okq (⟨"RankedRing", "give", "(I)I"⟩, 9) := ⟨⟨by decide +kernel, by decide +kernel⟩, List.mem_of_getElem? (i := 22) (by decide +kernel), List.mem_of_getElem? (i := 679) (by decide +kernel), List.mem_of_getElem? (i := 680) (by decide +kernel)⟩
theorem lw_p2 : lw_okq (⟨"RankedRing", "refuse", "(I)Z"⟩, 9) := ⟨⟨by decide +kernel, by decide +kernel⟩, List.mem_of_getElem? (i := 22) (by decide +kernel), List.mem_of_getElem? (i := 893) (by decide +kernel), List.mem_of_getElem? (i := 894) (by decide +kernel)⟩
theorem lw_p3 : lw_okq (⟨"RankedRing", "succeed", "()Z"⟩, 9) := ⟨⟨by decide +kernel, by decide +kernel⟩, List.mem_of_getElem? (i := 22) (by decide +kernel), List.mem_of_getElem? (i := 906) (by decide +kernel), List.mem_of_getElem? (i := 907) (by decide +kernel)⟩
theorem lw_p4 : lw_okq (⟨"RankedRing", "giveReached", "(I)I"⟩, 9) := ⟨⟨by decide +kernel, by decide +kernel⟩, List.mem_of_getElem? (i := 22) (by decide +kernel), List.mem_of_getElem? (i := 1152) (by decide +kernel), List.mem_of_getElem? (i := 1153) (by decide +kernel)⟩
theorem lw_p5 : lw_okq (⟨"RankedRingModel", "begins", "()V"⟩, 23) := ⟨⟨by decide +kernel, by decide +kernel⟩, List.mem_of_getElem? (i := 1212) (by decide +kernel), List.mem_of_getElem? (i := 1218) (by decide +kernel), List.mem_of_getElem? (i := 1219) (by decide +kernel)⟩
theorem lw_p6 : lw_okq (⟨"RankedRingModel", "puts", "(II)V"⟩, 23) := ⟨⟨by decide +kernel, by decide +kernel⟩, List.mem_of_getElem? (i := 1212) (by decide +kernel), List.mem_of_getElem? (i := 1222) (by decide +kernel), List.mem_of_getElem? (i := 1223) (by decide +kernel)⟩
theorem lw_p7 : lw_okq (⟨"RankedRingModel", "four", "(I)V"⟩, 23) := ⟨⟨by decide +kernel, by decide +kernel⟩, List.mem_of_getElem? (i := 1212) (by decide +kernel), List.mem_of_getElem? (i := 1305) (by decide +kernel), List.mem_of_getElem? (i := 1306) (by decide +kernel)⟩
theorem lw_p8 : lw_okq (⟨"RankedRingModel", "refuse", "(I)I"⟩, 23) := ⟨⟨by decide +kernel, by decide +kernel⟩, List.mem_of_getElem? (i := 1212) (by decide +kernel), List.mem_of_getElem? (i := 1316) (by decide +kernel), List.mem_of_getElem? (i := 1317) (by decide +kernel)⟩
theorem lw_p9 : lw_okq (⟨"RankedRingModel", "copies", "(II)V"⟩, 23) := ⟨⟨by decide +kernel, by decide +kernel⟩, List.mem_of_getElem? (i := 1212) (by decide +kernel), List.mem_of_getElem? (i := 1320) (by decide +kernel), List.mem_of_getElem? (i := 1321) (by decide +kernel)⟩
theorem lw_p10 : lw_okq (⟨"RankedRingModel", "ahead", "()V"⟩, 23) := ⟨⟨by decide +kernel, by decide +kernel⟩, List.mem_of_getElem? (i := 1212) (by decide +kernel), List.mem_of_getElem? (i := 1324) (by decide +kernel), List.mem_of_getElem? (i := 1325) (by decide +kernel)⟩
theorem lw_p11 : lw_okq (⟨"RankedRingModel", "byteAt", "(I)I"⟩, 23) := ⟨⟨by decide +kernel, by decide +kernel⟩, List.mem_of_getElem? (i := 1212) (by decide +kernel), List.mem_of_getElem? (i := 1328) (by decide +kernel), List.mem_of_getElem? (i := 1329) (by decide +kernel)⟩
theorem lw_p12 : lw_okq (⟨"RankedRingModel", "aLine", "()Z"⟩, 23) := ⟨⟨by decide +kernel, by decide +kernel⟩, List.mem_of_getElem? (i := 1212) (by decide +kernel), List.mem_of_getElem? (i := 1342) (by decide +kernel), List.mem_of_getElem? (i := 1343) (by decide +kernel)⟩
theorem lw_p13 : lw_okq (⟨"RankedRingModel", "key", "()I"⟩, 23) := ⟨⟨by decide +kernel, by decide +kernel⟩, List.mem_of_getElem? (i := 1212) (by decide +kernel), List.mem_of_getElem? (i := 1346) (by decide +kernel), List.mem_of_getElem? (i := 1347) (by decide +kernel)⟩
theorem lw_p14 : lw_okq (⟨"RankedRingModel", "aStation", "()Z"⟩, 23) := ⟨⟨by decide +kernel, by decide +kernel⟩, List.mem_of_getElem? (i := 1212) (by decide +kernel), List.mem_of_getElem? (i := 1353) (by decide +kernel), List.mem_of_getElem? (i := 1354) (by decide +kernel)⟩
theorem lw_p15 : lw_okq (⟨"RankedRingModel", "of", "(I)I"⟩, 23) := ⟨⟨by decide +kernel, by decide +kernel⟩, List.mem_of_getElem? (i := 1212) (by decide +kernel), List.mem_of_getElem? (i := 1357) (by decide +kernel), List.mem_of_getElem? (i := 1358) (by decide +kernel)⟩
def lw_privs_1 : List (MethodName × Nat) := [(⟨"RankedRing", "fail", "(I)I"⟩, 9), (⟨"RankedRing", "give", "(I)I"⟩, 9), (⟨"RankedRing", "refuse", "(I)Z"⟩, 9), (⟨"RankedRing", "succeed", "()Z"⟩, 9), (⟨"RankedRing", "giveReached", "(I)I"⟩, 9), (⟨"RankedRingModel", "begins", "()V"⟩, 23), (⟨"RankedRingModel", "puts", "(II)V"⟩, 23), (⟨"RankedRingModel", "four", "(I)V"⟩, 23), (⟨"RankedRingModel", "refuse", "(I)I"⟩, 23), (⟨"RankedRingModel", "copies", "(II)V"⟩, 23), (⟨"RankedRingModel", "ahead", "()V"⟩, 23), (⟨"RankedRingModel", "byteAt", "(I)I"⟩, 23), (⟨"RankedRingModel", "aLine", "()Z"⟩, 23), (⟨"RankedRingModel", "key", "()I"⟩, 23), (⟨"RankedRingModel", "aStation", "()Z"⟩, 23), (⟨"RankedRingModel", "of", "(I)I"⟩, 23)]
theorem lw_r1 : ∀ q ∈ lw_privs_1, lw_okq q := List.forall_mem_cons.mpr ⟨lw_p0, List.forall_mem_cons.mpr ⟨lw_p1, List.forall_mem_cons.mpr ⟨lw_p2, List.forall_mem_cons.mpr ⟨lw_p3, List.forall_mem_cons.mpr ⟨lw_p4, List.forall_mem_cons.mpr ⟨lw_p5, List.forall_mem_cons.mpr ⟨lw_p6, List.forall_mem_cons.mpr ⟨lw_p7, List.forall_mem_cons.mpr ⟨lw_p8, List.forall_mem_cons.mpr ⟨lw_p9, List.forall_mem_cons.mpr ⟨lw_p10, List.forall_mem_cons.mpr ⟨lw_p11, List.forall_mem_cons.mpr ⟨lw_p12, List.forall_mem_cons.mpr ⟨lw_p13, List.forall_mem_cons.mpr ⟨lw_p14, List.forall_mem_cons.mpr ⟨lw_p15, fun _ h => absurd h List.not_mem_nil⟩⟩⟩⟩⟩⟩⟩⟩⟩⟩⟩⟩⟩⟩⟩⟩
theorem lw_p16 : lw_okq (⟨"RankedRingModel", "fails", "(I)Z"⟩, 23) := ⟨⟨by decide +kernel, by decide +kernel⟩, List.mem_of_getElem? (i := 1212) (by decide +kernel), List.mem_of_getElem? (i := 1361) (by decide +kernel), List.mem_of_getElem? (i := 1362) (by decide +kernel)⟩
theorem lw_p17 : lw_okq (⟨"RankedRingModel", "isName", "()Z"⟩, 23) := ⟨⟨by decide +kernel, by decide +kernel⟩, List.mem_of_getElem? (i := 1212) (by decide +kernel), List.mem_of_getElem? (i := 1365) (by decide +kernel), List.mem_of_getElem? (i := 1366) (by decide +kernel)⟩
theorem lw_p18 : lw_okq (⟨"RankedRingModel", "namedHere", "()I"⟩, 23) := ⟨⟨by decide +kernel, by decide +kernel⟩, List.mem_of_getElem? (i := 1212) (by decide +kernel), List.mem_of_getElem? (i := 1369) (by decide +kernel), List.mem_of_getElem? (i := 1370) (by decide +kernel)⟩
theorem lw_p19 : lw_okq (⟨"RankedRingModel", "isNumber", "(II)Z"⟩, 23) := ⟨⟨by decide +kernel, by decide +kernel⟩, List.mem_of_getElem? (i := 1212) (by decide +kernel), List.mem_of_getElem? (i := 1373) (by decide +kernel), List.mem_of_getElem? (i := 1374) (by decide +kernel)⟩
theorem lw_p20 : lw_okq (⟨"RankedRingModel", "isTaken", "(I)Z"⟩, 23) := ⟨⟨by decide +kernel, by decide +kernel⟩, List.mem_of_getElem? (i := 1212) (by decide +kernel), List.mem_of_getElem? (i := 1377) (by decide +kernel), List.mem_of_getElem? (i := 1378) (by decide +kernel)⟩
theorem lw_p21 : lw_okq (⟨"RankedRingModel", "comes", "(I)I"⟩, 23) := ⟨⟨by decide +kernel, by decide +kernel⟩, List.mem_of_getElem? (i := 1212) (by decide +kernel), List.mem_of_getElem? (i := 1381) (by decide +kernel), List.mem_of_getElem? (i := 1382) (by decide +kernel)⟩
theorem lw_p22 : lw_okq (⟨"RankedRingModel", "adds", "(II)V"⟩, 23) := ⟨⟨by decide +kernel, by decide +kernel⟩, List.mem_of_getElem? (i := 1212) (by decide +kernel), List.mem_of_getElem? (i := 1385) (by decide +kernel), List.mem_of_getElem? (i := 1386) (by decide +kernel)⟩
theorem lw_p23 : lw_okq (⟨"RankedRingModel", "closes", "()Z"⟩, 23) := ⟨⟨by decide +kernel, by decide +kernel⟩, List.mem_of_getElem? (i := 1212) (by decide +kernel), List.mem_of_getElem? (i := 1389) (by decide +kernel), List.mem_of_getElem? (i := 1390) (by decide +kernel)⟩
theorem lw_p24 : lw_okq (⟨"RankedRingModel", "aState", "(Z)Z"⟩, 23) := ⟨⟨by decide +kernel, by decide +kernel⟩, List.mem_of_getElem? (i := 1212) (by decide +kernel), List.mem_of_getElem? (i := 1393) (by decide +kernel), List.mem_of_getElem? (i := 1394) (by decide +kernel)⟩
theorem lw_p25 : lw_okq (⟨"RankedRingModel", "stationHere", "()I"⟩, 23) := ⟨⟨by decide +kernel, by decide +kernel⟩, List.mem_of_getElem? (i := 1212) (by decide +kernel), List.mem_of_getElem? (i := 1397) (by decide +kernel), List.mem_of_getElem? (i := 1398) (by decide +kernel)⟩
theorem lw_p26 : lw_okq (⟨"RankedRingModel", "isOn", "(I)Z"⟩, 23) := ⟨⟨by decide +kernel, by decide +kernel⟩, List.mem_of_getElem? (i := 1212) (by decide +kernel), List.mem_of_getElem? (i := 1401) (by decide +kernel), List.mem_of_getElem? (i := 1402) (by decide +kernel)⟩
theorem lw_p27 : lw_okq (⟨"RankedRingModel", "isStation", "(I)Z"⟩, 23) := ⟨⟨by decide +kernel, by decide +kernel⟩, List.mem_of_getElem? (i := 1212) (by decide +kernel), List.mem_of_getElem? (i := 1405) (by decide +kernel), List.mem_of_getElem? (i := 1406) (by decide +kernel)⟩
theorem lw_p28 : lw_okq (⟨"RankedRingModel", "aSend", "()Z"⟩, 23) := ⟨⟨by decide +kernel, by decide +kernel⟩, List.mem_of_getElem? (i := 1212) (by decide +kernel), List.mem_of_getElem? (i := 1409) (by decide +kernel), List.mem_of_getElem? (i := 1410) (by decide +kernel)⟩
theorem lw_p29 : lw_okq (⟨"RankedRingModel", "sends", "(III)I"⟩, 23) := ⟨⟨by decide +kernel, by decide +kernel⟩, List.mem_of_getElem? (i := 1212) (by decide +kernel), List.mem_of_getElem? (i := 1413) (by decide +kernel), List.mem_of_getElem? (i := 1414) (by decide +kernel)⟩
theorem lw_p30 : lw_okq (⟨"RankedRingModel", "aBreak", "()Z"⟩, 23) := ⟨⟨by decide +kernel, by decide +kernel⟩, List.mem_of_getElem? (i := 1212) (by decide +kernel), List.mem_of_getElem? (i := 1420) (by decide +kernel), List.mem_of_getElem? (i := 1421) (by decide +kernel)⟩
theorem lw_p31 : lw_okq (⟨"RankedRingModel", "gives", "(I)I"⟩, 23) := ⟨⟨by decide +kernel, by decide +kernel⟩, List.mem_of_getElem? (i := 1212) (by decide +kernel), List.mem_of_getElem? (i := 1424) (by decide +kernel), List.mem_of_getElem? (i := 1425) (by decide +kernel)⟩
def lw_privs_2 : List (MethodName × Nat) := [(⟨"RankedRingModel", "fails", "(I)Z"⟩, 23), (⟨"RankedRingModel", "isName", "()Z"⟩, 23), (⟨"RankedRingModel", "namedHere", "()I"⟩, 23), (⟨"RankedRingModel", "isNumber", "(II)Z"⟩, 23), (⟨"RankedRingModel", "isTaken", "(I)Z"⟩, 23), (⟨"RankedRingModel", "comes", "(I)I"⟩, 23), (⟨"RankedRingModel", "adds", "(II)V"⟩, 23), (⟨"RankedRingModel", "closes", "()Z"⟩, 23), (⟨"RankedRingModel", "aState", "(Z)Z"⟩, 23), (⟨"RankedRingModel", "stationHere", "()I"⟩, 23), (⟨"RankedRingModel", "isOn", "(I)Z"⟩, 23), (⟨"RankedRingModel", "isStation", "(I)Z"⟩, 23), (⟨"RankedRingModel", "aSend", "()Z"⟩, 23), (⟨"RankedRingModel", "sends", "(III)I"⟩, 23), (⟨"RankedRingModel", "aBreak", "()Z"⟩, 23), (⟨"RankedRingModel", "gives", "(I)I"⟩, 23)]
theorem lw_r2 : ∀ q ∈ lw_privs_2, lw_okq q := List.forall_mem_cons.mpr ⟨lw_p16, List.forall_mem_cons.mpr ⟨lw_p17, List.forall_mem_cons.mpr ⟨lw_p18, List.forall_mem_cons.mpr ⟨lw_p19, List.forall_mem_cons.mpr ⟨lw_p20, List.forall_mem_cons.mpr ⟨lw_p21, List.forall_mem_cons.mpr ⟨lw_p22, List.forall_mem_cons.mpr ⟨lw_p23, List.forall_mem_cons.mpr ⟨lw_p24, List.forall_mem_cons.mpr ⟨lw_p25, List.forall_mem_cons.mpr ⟨lw_p26, List.forall_mem_cons.mpr ⟨lw_p27, List.forall_mem_cons.mpr ⟨lw_p28, List.forall_mem_cons.mpr ⟨lw_p29, List.forall_mem_cons.mpr ⟨lw_p30, List.forall_mem_cons.mpr ⟨lw_p31, fun _ h => absurd h List.not_mem_nil⟩⟩⟩⟩⟩⟩⟩⟩⟩⟩⟩⟩⟩⟩⟩⟩
theorem lw_p32 : lw_okq (⟨"RankedRingModel", "onBits", "()I"⟩, 23) := ⟨⟨by decide +kernel, by decide +kernel⟩, List.mem_of_getElem? (i := 1212) (by decide +kernel), List.mem_of_getElem? (i := 1436) (by decide +kernel), List.mem_of_getElem? (i := 1437) (by decide +kernel)⟩
theorem lw_p33 : lw_okq (⟨"RankedRingModel", "waitAll", "()I"⟩, 23) := ⟨⟨by decide +kernel, by decide +kernel⟩, List.mem_of_getElem? (i := 1212) (by decide +kernel), List.mem_of_getElem? (i := 1440) (by decide +kernel), List.mem_of_getElem? (i := 1441) (by decide +kernel)⟩
theorem lw_p34 : lw_okq (⟨"RankedRingModel", "doesCount", "()Z"⟩, 23) := ⟨⟨by decide +kernel, by decide +kernel⟩, List.mem_of_getElem? (i := 1212) (by decide +kernel), List.mem_of_getElem? (i := 1444) (by decide +kernel), List.mem_of_getElem? (i := 1445) (by decide +kernel)⟩
theorem lw_p35 : lw_okq (⟨"RankedRingModel", "wrongStation", "(I)I"⟩, 23) := ⟨⟨by decide +kernel, by decide +kernel⟩, List.mem_of_getElem? (i := 1212) (by decide +kernel), List.mem_of_getElem? (i := 1452) (by decide +kernel), List.mem_of_getElem? (i := 1453) (by decide +kernel)⟩
theorem lw_p36 : lw_okq (⟨"RankedRingModel", "firstOf", "(I)I"⟩, 23) := ⟨⟨by decide +kernel, by decide +kernel⟩, List.mem_of_getElem? (i := 1212) (by decide +kernel), List.mem_of_getElem? (i := 1456) (by decide +kernel), List.mem_of_getElem? (i := 1457) (by decide +kernel)⟩
theorem lw_p37 : lw_okq (⟨"RankedRingModel", "isBroken", "(II)Z"⟩, 23) := ⟨⟨by decide +kernel, by decide +kernel⟩, List.mem_of_getElem? (i := 1212) (by decide +kernel), List.mem_of_getElem? (i := 1499) (by decide +kernel), List.mem_of_getElem? (i := 1500) (by decide +kernel)⟩
theorem lw_p38 : lw_okq (⟨"RankedRingModel", "heirNow", "()I"⟩, 23) := ⟨⟨by decide +kernel, by decide +kernel⟩, List.mem_of_getElem? (i := 1212) (by decide +kernel), List.mem_of_getElem? (i := 1507) (by decide +kernel), List.mem_of_getElem? (i := 1508) (by decide +kernel)⟩
theorem lw_p39 : lw_okq (⟨"RankedRingModel", "isAnew", "()V"⟩, 23) := ⟨⟨by decide +kernel, by decide +kernel⟩, List.mem_of_getElem? (i := 1212) (by decide +kernel), List.mem_of_getElem? (i := 1515) (by decide +kernel), List.mem_of_getElem? (i := 1516) (by decide +kernel)⟩
theorem lw_p40 : lw_okq (⟨"RankedRingModel", "isSilent", "()V"⟩, 23) := ⟨⟨by decide +kernel, by decide +kernel⟩, List.mem_of_getElem? (i := 1212) (by decide +kernel), List.mem_of_getElem? (i := 1519) (by decide +kernel), List.mem_of_getElem? (i := 1520) (by decide +kernel)⟩
theorem lw_p41 : lw_okq (⟨"RankedRingModel", "takes", "(II)V"⟩, 23) := ⟨⟨by decide +kernel, by decide +kernel⟩, List.mem_of_getElem? (i := 1212) (by decide +kernel), List.mem_of_getElem? (i := 1531) (by decide +kernel), List.mem_of_getElem? (i := 1532) (by decide +kernel)⟩
theorem lw_p42 : lw_okq (⟨"RankedRingModel", "isSo", "(I)Z"⟩, 23) := ⟨⟨by decide +kernel, by decide +kernel⟩, List.mem_of_getElem? (i := 1212) (by decide +kernel), List.mem_of_getElem? (i := 1543) (by decide +kernel), List.mem_of_getElem? (i := 1544) (by decide +kernel)⟩
theorem lw_p43 : lw_okq (⟨"RankedRingModel", "turnsOff", "(I)V"⟩, 23) := ⟨⟨by decide +kernel, by decide +kernel⟩, List.mem_of_getElem? (i := 1212) (by decide +kernel), List.mem_of_getElem? (i := 1547) (by decide +kernel), List.mem_of_getElem? (i := 1548) (by decide +kernel)⟩
theorem lw_p44 : lw_okq (⟨"RankedRingModel", "dropsRaises", "(I)V"⟩, 23) := ⟨⟨by decide +kernel, by decide +kernel⟩, List.mem_of_getElem? (i := 1212) (by decide +kernel), List.mem_of_getElem? (i := 1551) (by decide +kernel), List.mem_of_getElem? (i := 1552) (by decide +kernel)⟩
theorem lw_p45 : lw_okq (⟨"RankedRingModel", "isLost", "()V"⟩, 23) := ⟨⟨by decide +kernel, by decide +kernel⟩, List.mem_of_getElem? (i := 1212) (by decide +kernel), List.mem_of_getElem? (i := 1567) (by decide +kernel), List.mem_of_getElem? (i := 1568) (by decide +kernel)⟩
theorem lw_p46 : lw_okq (⟨"RankedRingModel", "happens", "(II)V"⟩, 23) := ⟨⟨by decide +kernel, by decide +kernel⟩, List.mem_of_getElem? (i := 1212) (by decide +kernel), List.mem_of_getElem? (i := 1571) (by decide +kernel), List.mem_of_getElem? (i := 1572) (by decide +kernel)⟩
theorem lw_p47 : lw_okq (⟨"RankedRingModel", "ticks", "()V"⟩, 23) := ⟨⟨by decide +kernel, by decide +kernel⟩, List.mem_of_getElem? (i := 1212) (by decide +kernel), List.mem_of_getElem? (i := 1587) (by decide +kernel), List.mem_of_getElem? (i := 1588) (by decide +kernel)⟩
def lw_privs_3 : List (MethodName × Nat) := [(⟨"RankedRingModel", "onBits", "()I"⟩, 23), (⟨"RankedRingModel", "waitAll", "()I"⟩, 23), (⟨"RankedRingModel", "doesCount", "()Z"⟩, 23), (⟨"RankedRingModel", "wrongStation", "(I)I"⟩, 23), (⟨"RankedRingModel", "firstOf", "(I)I"⟩, 23), (⟨"RankedRingModel", "isBroken", "(II)Z"⟩, 23), (⟨"RankedRingModel", "heirNow", "()I"⟩, 23), (⟨"RankedRingModel", "isAnew", "()V"⟩, 23), (⟨"RankedRingModel", "isSilent", "()V"⟩, 23), (⟨"RankedRingModel", "takes", "(II)V"⟩, 23), (⟨"RankedRingModel", "isSo", "(I)Z"⟩, 23), (⟨"RankedRingModel", "turnsOff", "(I)V"⟩, 23), (⟨"RankedRingModel", "dropsRaises", "(I)V"⟩, 23), (⟨"RankedRingModel", "isLost", "()V"⟩, 23), (⟨"RankedRingModel", "happens", "(II)V"⟩, 23), (⟨"RankedRingModel", "ticks", "()V"⟩, 23)]
theorem lw_r3 : ∀ q ∈ lw_privs_3, lw_okq q := List.forall_mem_cons.mpr ⟨lw_p32, List.forall_mem_cons.mpr ⟨lw_p33, List.forall_mem_cons.mpr ⟨lw_p34, List.forall_mem_cons.mpr ⟨lw_p35, List.forall_mem_cons.mpr ⟨lw_p36, List.forall_mem_cons.mpr ⟨lw_p37, List.forall_mem_cons.mpr ⟨lw_p38, List.forall_mem_cons.mpr ⟨lw_p39, List.forall_mem_cons.mpr ⟨lw_p40, List.forall_mem_cons.mpr ⟨lw_p41, List.forall_mem_cons.mpr ⟨lw_p42, List.forall_mem_cons.mpr ⟨lw_p43, List.forall_mem_cons.mpr ⟨lw_p44, List.forall_mem_cons.mpr ⟨lw_p45, List.forall_mem_cons.mpr ⟨lw_p46, List.forall_mem_cons.mpr ⟨lw_p47, fun _ h => absurd h List.not_mem_nil⟩⟩⟩⟩⟩⟩⟩⟩⟩⟩⟩⟩⟩⟩⟩⟩
theorem lw_p48 : lw_okq (⟨"RankedRingModel", "isStill", "()V"⟩, 23) := ⟨⟨by decide +kernel, by decide +kernel⟩, List.mem_of_getElem? (i := 1212) (by decide +kernel), List.mem_of_getElem? (i := 1591) (by decide +kernel), List.mem_of_getElem? (i := 1592) (by decide +kernel)⟩
theorem lw_p49 : lw_okq (⟨"RankedRingModel", "onMany", "()I"⟩, 23) := ⟨⟨by decide +kernel, by decide +kernel⟩, List.mem_of_getElem? (i := 1212) (by decide +kernel), List.mem_of_getElem? (i := 1595) (by decide +kernel), List.mem_of_getElem? (i := 1596) (by decide +kernel)⟩
theorem lw_p50 : lw_okq (⟨"RankedRingModel", "beacons", "()V"⟩, 23) := ⟨⟨by decide +kernel, by decide +kernel⟩, List.mem_of_getElem? (i := 1212) (by decide +kernel), List.mem_of_getElem? (i := 1599) (by decide +kernel), List.mem_of_getElem? (i := 1600) (by decide +kernel)⟩
theorem lw_p51 : lw_okq (⟨"RankedRingModel", "nextOn", "(II)I"⟩, 23) := ⟨⟨by decide +kernel, by decide +kernel⟩, List.mem_of_getElem? (i := 1212) (by decide +kernel), List.mem_of_getElem? (i := 1603) (by decide +kernel), List.mem_of_getElem? (i := 1604) (by decide +kernel)⟩
theorem lw_p52 : lw_okq (⟨"RankedRingModel", "purges", "()V"⟩, 23) := ⟨⟨by decide +kernel, by decide +kernel⟩, List.mem_of_getElem? (i := 1212) (by decide +kernel), List.mem_of_getElem? (i := 1607) (by decide +kernel), List.mem_of_getElem? (i := 1608) (by decide +kernel)⟩
theorem lw_p53 : lw_okq (⟨"RankedRingModel", "claims", "()V"⟩, 23) := ⟨⟨by decide +kernel, by decide +kernel⟩, List.mem_of_getElem? (i := 1212) (by decide +kernel), List.mem_of_getElem? (i := 1611) (by decide +kernel), List.mem_of_getElem? (i := 1612) (by decide +kernel)⟩
theorem lw_p54 : lw_okq (⟨"RankedRingModel", "isBlamed", "(I)V"⟩, 23) := ⟨⟨by decide +kernel, by decide +kernel⟩, List.mem_of_getElem? (i := 1212) (by decide +kernel), List.mem_of_getElem? (i := 1615) (by decide +kernel), List.mem_of_getElem? (i := 1616) (by decide +kernel)⟩
theorem lw_p55 : lw_okq (⟨"RankedRingModel", "goesOn", "()V"⟩, 23) := ⟨⟨by decide +kernel, by decide +kernel⟩, List.mem_of_getElem? (i := 1212) (by decide +kernel), List.mem_of_getElem? (i := 1619) (by decide +kernel), List.mem_of_getElem? (i := 1620) (by decide +kernel)⟩
theorem lw_p56 : lw_okq (⟨"RankedRingModel", "tokenAt", "(I)V"⟩, 23) := ⟨⟨by decide +kernel, by decide +kernel⟩, List.mem_of_getElem? (i := 1212) (by decide +kernel), List.mem_of_getElem? (i := 1623) (by decide +kernel), List.mem_of_getElem? (i := 1624) (by decide +kernel)⟩
theorem lw_p57 : lw_okq (⟨"RankedRingModel", "topRaise", "(I)I"⟩, 23) := ⟨⟨by decide +kernel, by decide +kernel⟩, List.mem_of_getElem? (i := 1212) (by decide +kernel), List.mem_of_getElem? (i := 1627) (by decide +kernel), List.mem_of_getElem? (i := 1628) (by decide +kernel)⟩
theorem lw_p58 : lw_okq (⟨"RankedRingModel", "isLevel", "(I)V"⟩, 23) := ⟨⟨by decide +kernel, by decide +kernel⟩, List.mem_of_getElem? (i := 1212) (by decide +kernel), List.mem_of_getElem? (i := 1631) (by decide +kernel), List.mem_of_getElem? (i := 1632) (by decide +kernel)⟩
theorem lw_p59 : lw_okq (⟨"RankedRingModel", "firstRank", "(I)I"⟩, 23) := ⟨⟨by decide +kernel, by decide +kernel⟩, List.mem_of_getElem? (i := 1212) (by decide +kernel), List.mem_of_getElem? (i := 1636) (by decide +kernel), List.mem_of_getElem? (i := 1637) (by decide +kernel)⟩
theorem lw_p60 : lw_okq (⟨"RankedRingModel", "wishes", "(I)V"⟩, 23) := ⟨⟨by decide +kernel, by decide +kernel⟩, List.mem_of_getElem? (i := 1212) (by decide +kernel), List.mem_of_getElem? (i := 1640) (by decide +kernel), List.mem_of_getElem? (i := 1641) (by decide +kernel)⟩
theorem lw_p61 : lw_okq (⟨"RankedRingModel", "frameAt", "(I)V"⟩, 23) := ⟨⟨by decide +kernel, by decide +kernel⟩, List.mem_of_getElem? (i := 1212) (by decide +kernel), List.mem_of_getElem? (i := 1644) (by decide +kernel), List.mem_of_getElem? (i := 1645) (by decide +kernel)⟩
theorem lw_p62 : lw_okq (⟨"RankedRingModel", "comesHome", "(I)V"⟩, 23) := ⟨⟨by decide +kernel, by decide +kernel⟩, List.mem_of_getElem? (i := 1212) (by decide +kernel), List.mem_of_getElem? (i := 1648) (by decide +kernel), List.mem_of_getElem? (i := 1649) (by decide +kernel)⟩
theorem lw_p63 : lw_okq (⟨"RankedRingModel", "isGot", "(I)V"⟩, 23) := ⟨⟨by decide +kernel, by decide +kernel⟩, List.mem_of_getElem? (i := 1212) (by decide +kernel), List.mem_of_getElem? (i := 1652) (by decide +kernel), List.mem_of_getElem? (i := 1653) (by decide +kernel)⟩
def lw_privs_4 : List (MethodName × Nat) := [(⟨"RankedRingModel", "isStill", "()V"⟩, 23), (⟨"RankedRingModel", "onMany", "()I"⟩, 23), (⟨"RankedRingModel", "beacons", "()V"⟩, 23), (⟨"RankedRingModel", "nextOn", "(II)I"⟩, 23), (⟨"RankedRingModel", "purges", "()V"⟩, 23), (⟨"RankedRingModel", "claims", "()V"⟩, 23), (⟨"RankedRingModel", "isBlamed", "(I)V"⟩, 23), (⟨"RankedRingModel", "goesOn", "()V"⟩, 23), (⟨"RankedRingModel", "tokenAt", "(I)V"⟩, 23), (⟨"RankedRingModel", "topRaise", "(I)I"⟩, 23), (⟨"RankedRingModel", "isLevel", "(I)V"⟩, 23), (⟨"RankedRingModel", "firstRank", "(I)I"⟩, 23), (⟨"RankedRingModel", "wishes", "(I)V"⟩, 23), (⟨"RankedRingModel", "frameAt", "(I)V"⟩, 23), (⟨"RankedRingModel", "comesHome", "(I)V"⟩, 23), (⟨"RankedRingModel", "isGot", "(I)V"⟩, 23)]
theorem lw_r4 : ∀ q ∈ lw_privs_4, lw_okq q := List.forall_mem_cons.mpr ⟨lw_p48, List.forall_mem_cons.mpr ⟨lw_p49, List.forall_mem_cons.mpr ⟨lw_p50, List.forall_mem_cons.mpr ⟨lw_p51, List.forall_mem_cons.mpr ⟨lw_p52, List.forall_mem_cons.mpr ⟨lw_p53, List.forall_mem_cons.mpr ⟨lw_p54, List.forall_mem_cons.mpr ⟨lw_p55, List.forall_mem_cons.mpr ⟨lw_p56, List.forall_mem_cons.mpr ⟨lw_p57, List.forall_mem_cons.mpr ⟨lw_p58, List.forall_mem_cons.mpr ⟨lw_p59, List.forall_mem_cons.mpr ⟨lw_p60, List.forall_mem_cons.mpr ⟨lw_p61, List.forall_mem_cons.mpr ⟨lw_p62, List.forall_mem_cons.mpr ⟨lw_p63, fun _ h => absurd h List.not_mem_nil⟩⟩⟩⟩⟩⟩⟩⟩⟩⟩⟩⟩⟩⟩⟩⟩
theorem lw_p64 : lw_okq (⟨"RankedRingModel", "draws", "(I)V"⟩, 23) := ⟨⟨by decide +kernel, by decide +kernel⟩, List.mem_of_getElem? (i := 1212) (by decide +kernel), List.mem_of_getElem? (i := 1660) (by decide +kernel), List.mem_of_getElem? (i := 1661) (by decide +kernel)⟩
theorem lw_p65 : lw_okq (⟨"RankedRingModel", "drawBy", "(I)I"⟩, 23) := ⟨⟨by decide +kernel, by decide +kernel⟩, List.mem_of_getElem? (i := 1212) (by decide +kernel), List.mem_of_getElem? (i := 1664) (by decide +kernel), List.mem_of_getElem? (i := 1665) (by decide +kernel)⟩
theorem lw_p66 : lw_okq (⟨"RankedRingModel", "reaches", "(IZ)I"⟩, 23) := ⟨⟨by decide +kernel, by decide +kernel⟩, List.mem_of_getElem? (i := 1212) (by decide +kernel), List.mem_of_getElem? (i := 1689) (by decide +kernel), List.mem_of_getElem? (i := 1690) (by decide +kernel)⟩
theorem lw_p67 : lw_okq (⟨"RankedRingModel", "onPaper", "(Z)V"⟩, 23) := ⟨⟨by decide +kernel, by decide +kernel⟩, List.mem_of_getElem? (i := 1212) (by decide +kernel), List.mem_of_getElem? (i := 1693) (by decide +kernel), List.mem_of_getElem? (i := 1694) (by decide +kernel)⟩
theorem lw_p68 : lw_okq (⟨"RankedRingModel", "peaks", "()V"⟩, 23) := ⟨⟨by decide +kernel, by decide +kernel⟩, List.mem_of_getElem? (i := 1212) (by decide +kernel), List.mem_of_getElem? (i := 1697) (by decide +kernel), List.mem_of_getElem? (i := 1698) (by decide +kernel)⟩
theorem lw_p69 : lw_okq (⟨"RankedRingModel", "isReached", "(I)Z"⟩, 23) := ⟨⟨by decide +kernel, by decide +kernel⟩, List.mem_of_getElem? (i := 1212) (by decide +kernel), List.mem_of_getElem? (i := 1701) (by decide +kernel), List.mem_of_getElem? (i := 1702) (by decide +kernel)⟩
theorem lw_p70 : lw_okq (⟨"RankedRingModel", "isQuiet", "()Z"⟩, 23) := ⟨⟨by decide +kernel, by decide +kernel⟩, List.mem_of_getElem? (i := 1212) (by decide +kernel), List.mem_of_getElem? (i := 1705) (by decide +kernel), List.mem_of_getElem? (i := 1706) (by decide +kernel)⟩
theorem lw_p71 : lw_okq (⟨"RankedRingModel", "isLowered", "()Z"⟩, 23) := ⟨⟨by decide +kernel, by decide +kernel⟩, List.mem_of_getElem? (i := 1212) (by decide +kernel), List.mem_of_getElem? (i := 1709) (by decide +kernel), List.mem_of_getElem? (i := 1710) (by decide +kernel)⟩
theorem lw_p72 : lw_okq (⟨"RankedRingModel", "offPaper", "()V"⟩, 23) := ⟨⟨by decide +kernel, by decide +kernel⟩, List.mem_of_getElem? (i := 1212) (by decide +kernel), List.mem_of_getElem? (i := 1713) (by decide +kernel), List.mem_of_getElem? (i := 1714) (by decide +kernel)⟩
theorem lw_p73 : lw_okq (⟨"RankedRingModel", "givesOr", "(I)I"⟩, 23) := ⟨⟨by decide +kernel, by decide +kernel⟩, List.mem_of_getElem? (i := 1212) (by decide +kernel), List.mem_of_getElem? (i := 1717) (by decide +kernel), List.mem_of_getElem? (i := 1718) (by decide +kernel)⟩
theorem lw_p74 : lw_okq (⟨"RankedRingModel", "waiting", "()I"⟩, 23) := ⟨⟨by decide +kernel, by decide +kernel⟩, List.mem_of_getElem? (i := 1212) (by decide +kernel), List.mem_of_getElem? (i := 1725) (by decide +kernel), List.mem_of_getElem? (i := 1726) (by decide +kernel)⟩
theorem lw_p75 : lw_okq (⟨"RankedRingModel", "lives", "(IZI)V"⟩, 23) := ⟨⟨by decide +kernel, by decide +kernel⟩, List.mem_of_getElem? (i := 1212) (by decide +kernel), List.mem_of_getElem? (i := 1729) (by decide +kernel), List.mem_of_getElem? (i := 1730) (by decide +kernel)⟩
def lw_privs_5 : List (MethodName × Nat) := [(⟨"RankedRingModel", "draws", "(I)V"⟩, 23), (⟨"RankedRingModel", "drawBy", "(I)I"⟩, 23), (⟨"RankedRingModel", "reaches", "(IZ)I"⟩, 23), (⟨"RankedRingModel", "onPaper", "(Z)V"⟩, 23), (⟨"RankedRingModel", "peaks", "()V"⟩, 23), (⟨"RankedRingModel", "isReached", "(I)Z"⟩, 23), (⟨"RankedRingModel", "isQuiet", "()Z"⟩, 23), (⟨"RankedRingModel", "isLowered", "()Z"⟩, 23), (⟨"RankedRingModel", "offPaper", "()V"⟩, 23), (⟨"RankedRingModel", "givesOr", "(I)I"⟩, 23), (⟨"RankedRingModel", "waiting", "()I"⟩, 23), (⟨"RankedRingModel", "lives", "(IZI)V"⟩, 23)]
theorem lw_r5 : ∀ q ∈ lw_privs_5, lw_okq q := List.forall_mem_cons.mpr ⟨lw_p64, List.forall_mem_cons.mpr ⟨lw_p65, List.forall_mem_cons.mpr ⟨lw_p66, List.forall_mem_cons.mpr ⟨lw_p67, List.forall_mem_cons.mpr ⟨lw_p68, List.forall_mem_cons.mpr ⟨lw_p69, List.forall_mem_cons.mpr ⟨lw_p70, List.forall_mem_cons.mpr ⟨lw_p71, List.forall_mem_cons.mpr ⟨lw_p72, List.forall_mem_cons.mpr ⟨lw_p73, List.forall_mem_cons.mpr ⟨lw_p74, List.forall_mem_cons.mpr ⟨lw_p75, fun _ h => absurd h List.not_mem_nil⟩⟩⟩⟩⟩⟩⟩⟩⟩⟩⟩⟩
def lw_privs : List (MethodName × Nat) := lw_privs_1 ++ (lw_privs_2 ++ (lw_privs_3 ++ (lw_privs_4 ++ (lw_privs_5))))
def lw_tbl : List Cond := k2_sels lw_privs ++ tables_1
theorem lw_privs_ok : ∀ q ∈ lw_privs, lw_okq q := by
  show ∀ q ∈ lw_privs_1 ++ (lw_privs_2 ++ (lw_privs_3 ++ (lw_privs_4 ++ (lw_privs_5)))), lw_okq q
  exact List.forall_mem_append.mpr ⟨lw_r1, List.forall_mem_append.mpr ⟨lw_r2, List.forall_mem_append.mpr ⟨lw_r3, List.forall_mem_append.mpr ⟨lw_r4, lw_r5⟩⟩⟩⟩
-- ===== end of PART A; then your names; then what follows =====
/-! ===== BEGIN words of one list among another's, by their places ===== -/
theorem goodIn_r {big : List Cond} (ws : List Cond) (ps : List Nat) (hp : ws = ps.filterMap (fun i => big[i]?)) (h : ws.all goodWord = true) : GoodIn big ws := by
  intro w hw
  have h1 := List.all_eq_true.mp h w hw
  rw [hp] at hw
  obtain ⟨i, -, hi⟩ := List.mem_filterMap.mp hw
  have hm : w ∈ big := by first | exact List.mem_of_getElem? hi | exact List.getElem?_mem hi
  exact ⟨hm, good_of_word h1⟩
theorem goodIn_app {big a b : List Cond} (ha : GoodIn big a) (hb : GoodIn big b) : GoodIn big (a ++ b) := fun w h => (List.mem_append.mp h).elim (ha w) (hb w)
theorem goodIn_ca {big a b : List Cond} {c : Cond} (ha : GoodIn big (c :: a)) (hb : GoodIn big b) : GoodIn big (c :: (a ++ b)) := fun w h => (List.mem_cons.mp h).elim (fun e => ha w (List.mem_cons.mpr (Or.inl e))) (fun h => (List.mem_append.mp h).elim (fun h => ha w (List.mem_cons.mpr (Or.inr h))) (hb w))
theorem goodIn_sub {big ws : List Cond} (hm : ∀ w ∈ ws, w ∈ big) (h : ws.all goodWord = true) : GoodIn big ws := fun w hw => ⟨hm w hw, good_of_word (List.all_eq_true.mp h w hw)⟩
/-! ===== END ===== -/

/-! ===== BEGIN printed: names, fields, word lists, decode rows ===== -/
def RX0 : String := "RankedRing$Book"
def TX0 : u_T := fun k => match k with
  | 0 => ("RankedRing$Book", "counts", "[I", true)
  | 1 => ("RankedRing$Book", "rankGot", "[I", true)
  | 2 => ("RankedRing$Book", "rankAges", "[I", true)
  | 3 => ("RankedRing$Book", "gots", "[I", true)
  | 4 => ("RankedRing$Book", "events", "[I", true)
  | _ => ("RankedRing$Book", "eventCount", "I", false)
def tyX0 : Nat → FieldType := fun k => match k with
  | 0 => .array .int
  | 1 => .array .int
  | 2 => .array .int
  | 3 => .array .int
  | 4 => .array .int
  | _ => .int
abbrev wsX00 : List Cond := u_ws RX0 TX0 6
theorem nmX0 : ∀ a, a < 6 → ∀ b, b < 6 → a ≠ b → (TX0 a).2.1 ≠ (TX0 b).2.1 := by decide +kernel
theorem tyX0_ok : ∀ k, k < 6 → parseFieldDescriptor (TX0 k).2.2.1 = some (tyX0 k) := by decide +kernel
abbrev cX0_init : ByteArray := prog_2_method_1_code
def yX0_init : MethodName := ⟨RX0, "<init>", "()V"⟩
abbrev cX0_clear : ByteArray := prog_2_method_2_code
def yX0_clear : MethodName := ⟨RX0, "clear", "()V"⟩
abbrev cX0_copyFrom : ByteArray := prog_2_method_3_code
def yX0_copyFrom : MethodName := ⟨RX0, "copyFrom", "(LRankedRing$Book;)V"⟩
abbrev cX0_counted : ByteArray := prog_2_method_4_code
def yX0_counted : MethodName := ⟨RX0, "counted", "(I)I"⟩
abbrev cX0_gotOf : ByteArray := prog_2_method_5_code
def yX0_gotOf : MethodName := ⟨RX0, "gotOf", "(I)I"⟩
abbrev cX0_agesOf : ByteArray := prog_2_method_6_code
def yX0_agesOf : MethodName := ⟨RX0, "agesOf", "(I)I"⟩
abbrev cX0_countRefused : ByteArray := prog_2_method_7_code
def yX0_countRefused : MethodName := ⟨RX0, "countRefused", "()V"⟩
abbrev cX0_countLevel : ByteArray := prog_2_method_8_code
def yX0_countLevel : MethodName := ⟨RX0, "countLevel", "(I)V"⟩
abbrev cX0_enter : ByteArray := prog_2_method_9_code
def yX0_enter : MethodName := ⟨RX0, "enter", "(III)V"⟩
abbrev cX0_keepGot : ByteArray := prog_2_method_10_code
def yX0_keepGot : MethodName := ⟨RX0, "keepGot", "(LRankedRing$Way;I)V"⟩
abbrev cX0_eventAt : ByteArray := prog_2_method_11_code
def yX0_eventAt : MethodName := ⟨RX0, "eventAt", "(II)I"⟩
abbrev cX0_gotAt : ByteArray := prog_2_method_12_code
def yX0_gotAt : MethodName := ⟨RX0, "gotAt", "(II)I"⟩
def RX1 : String := "RankedRing$Paper"
def TX1 : u_T := fun k => match k with
  | 0 => ("RankedRing$Paper", "ring", "LRankedRing$Ring;", true)
  | 1 => ("RankedRing$Paper", "copy", "LRankedRing$Ring;", true)
  | 2 => ("RankedRing$Paper", "gotAt", "[I", true)
  | _ => ("RankedRing$Paper", "gotPlainAt", "[I", true)
def tyX1 : Nat → FieldType := fun k => match k with
  | 0 => .object "RankedRing$Ring"
  | 1 => .object "RankedRing$Ring"
  | 2 => .array .int
  | _ => .array .int
abbrev wsX10 : List Cond := u_ws RX1 TX1 4
theorem nmX1 : ∀ a, a < 4 → ∀ b, b < 4 → a ≠ b → (TX1 a).2.1 ≠ (TX1 b).2.1 := by decide +kernel
theorem tyX1_ok : ∀ k, k < 4 → parseFieldDescriptor (TX1 k).2.2.1 = some (tyX1 k) := by decide +kernel
abbrev cX1_init : ByteArray := prog_3_method_1_code
def yX1_init : MethodName := ⟨RX1, "<init>", "(LRankedRing$Ring;LRankedRing$Ring;)V"⟩
abbrev cX1_ticksTill : ByteArray := prog_3_method_2_code
def yX1_ticksTill : MethodName := ⟨RX1, "ticksTill", "(IIZ)I"⟩
abbrev cX1_hasCome : ByteArray := prog_3_method_3_code
def yX1_hasCome : MethodName := ⟨RX1, "hasCome", "(II)Z"⟩
abbrev cX1_numberGot : ByteArray := prog_3_method_4_code
def yX1_numberGot : MethodName := ⟨RX1, "numberGot", "(IZ)I"⟩
abbrev cX1_greatestLevel : ByteArray := prog_3_method_5_code
def yX1_greatestLevel : MethodName := ⟨RX1, "greatestLevel", "()I"⟩
abbrev cX1_ticksGained : ByteArray := prog_3_method_6_code
def yX1_ticksGained : MethodName := ⟨RX1, "ticksGained", "()I"⟩
abbrev cX1_noteGot : ByteArray := prog_3_method_7_code
def yX1_noteGot : MethodName := ⟨RX1, "noteGot", "(Z)V"⟩
def RX2 : String := "RankedRing$Queues"
def TX2 : u_T := fun k => match k with
  | 0 => ("RankedRing$Queues", "numbers", "[I", true)
  | 1 => ("RankedRing$Queues", "goals", "[I", true)
  | 2 => ("RankedRing$Queues", "rankings", "[I", true)
  | 3 => ("RankedRing$Queues", "births", "[I", true)
  | _ => ("RankedRing$Queues", "sizes", "[I", true)
def tyX2 : Nat → FieldType := fun k => match k with
  | 0 => .array .int
  | 1 => .array .int
  | 2 => .array .int
  | 3 => .array .int
  | _ => .array .int
abbrev wsX20 : List Cond := u_ws RX2 TX2 5
theorem nmX2 : ∀ a, a < 5 → ∀ b, b < 5 → a ≠ b → (TX2 a).2.1 ≠ (TX2 b).2.1 := by decide +kernel
theorem tyX2_ok : ∀ k, k < 5 → parseFieldDescriptor (TX2 k).2.2.1 = some (tyX2 k) := by decide +kernel
abbrev cX2_init : ByteArray := prog_4_method_1_code
def yX2_init : MethodName := ⟨RX2, "<init>", "()V"⟩
abbrev cX2_clear : ByteArray := prog_4_method_2_code
def yX2_clear : MethodName := ⟨RX2, "clear", "()V"⟩
abbrev cX2_copyFrom : ByteArray := prog_4_method_3_code
def yX2_copyFrom : MethodName := ⟨RX2, "copyFrom", "(LRankedRing$Queues;)V"⟩
abbrev cX2_sizeOf : ByteArray := prog_4_method_4_code
def yX2_sizeOf : MethodName := ⟨RX2, "sizeOf", "(I)I"⟩
abbrev cX2_isFull : ByteArray := prog_4_method_5_code
def yX2_isFull : MethodName := ⟨RX2, "isFull", "(I)Z"⟩
abbrev cX2_slotAt : ByteArray := prog_4_method_6_code
def yX2_slotAt : MethodName := ⟨RX2, "slotAt", "(II)I"⟩
abbrev cX2_numberIn : ByteArray := prog_4_method_7_code
def yX2_numberIn : MethodName := ⟨RX2, "numberIn", "(I)I"⟩
abbrev cX2_toIn : ByteArray := prog_4_method_8_code
def yX2_toIn : MethodName := ⟨RX2, "toIn", "(I)I"⟩
abbrev cX2_rankIn : ByteArray := prog_4_method_9_code
def yX2_rankIn : MethodName := ⟨RX2, "rankIn", "(I)I"⟩
abbrev cX2_birthIn : ByteArray := prog_4_method_10_code
def yX2_birthIn : MethodName := ⟨RX2, "birthIn", "(I)I"⟩
abbrev cX2_append : ByteArray := prog_4_method_11_code
def yX2_append : MethodName := ⟨RX2, "append", "(IIIII)V"⟩
abbrev cX2_firstSlot : ByteArray := prog_4_method_12_code
def yX2_firstSlot : MethodName := ⟨RX2, "firstSlot", "(I)I"⟩
abbrev cX2_firstRank : ByteArray := prog_4_method_13_code
def yX2_firstRank : MethodName := ⟨RX2, "firstRank", "(I)I"⟩
abbrev cX2_slotOf : ByteArray := prog_4_method_14_code
def yX2_slotOf : MethodName := ⟨RX2, "slotOf", "(I)I"⟩
abbrev cX2_moveSlot : ByteArray := prog_4_method_15_code
def yX2_moveSlot : MethodName := ⟨RX2, "moveSlot", "(II)V"⟩
abbrev cX2_removeSlot : ByteArray := prog_4_method_16_code
def yX2_removeSlot : MethodName := ⟨RX2, "removeSlot", "(I)V"⟩
abbrev cX2_removeBelow : ByteArray := prog_4_method_17_code
def yX2_removeBelow : MethodName := ⟨RX2, "removeBelow", "(II)I"⟩
abbrev cX2_total : ByteArray := prog_4_method_18_code
def yX2_total : MethodName := ⟨RX2, "total", "()I"⟩
abbrev cX2_totalOf : ByteArray := prog_4_method_19_code
def yX2_totalOf : MethodName := ⟨RX2, "totalOf", "(I)I"⟩
def RX3 : String := "RankedRing$Raises"
def TX3 : u_T := fun k => match k with
  | 0 => ("RankedRing$Raises", "olds", "[I", true)
  | 1 => ("RankedRing$Raises", "news", "[I", true)
  | _ => ("RankedRing$Raises", "depths", "[I", true)
def tyX3 : Nat → FieldType := fun k => match k with
  | 0 => .array .int
  | 1 => .array .int
  | _ => .array .int
abbrev wsX30 : List Cond := u_ws RX3 TX3 3
theorem nmX3 : ∀ a, a < 3 → ∀ b, b < 3 → a ≠ b → (TX3 a).2.1 ≠ (TX3 b).2.1 := by decide +kernel
theorem tyX3_ok : ∀ k, k < 3 → parseFieldDescriptor (TX3 k).2.2.1 = some (tyX3 k) := by decide +kernel
abbrev cX3_init : ByteArray := prog_5_method_1_code
def yX3_init : MethodName := ⟨RX3, "<init>", "()V"⟩
abbrev cX3_clear : ByteArray := prog_5_method_2_code
def yX3_clear : MethodName := ⟨RX3, "clear", "()V"⟩
abbrev cX3_copyFrom : ByteArray := prog_5_method_3_code
def yX3_copyFrom : MethodName := ⟨RX3, "copyFrom", "(LRankedRing$Raises;)V"⟩
abbrev cX3_depthOf : ByteArray := prog_5_method_4_code
def yX3_depthOf : MethodName := ⟨RX3, "depthOf", "(I)I"⟩
abbrev cX3_placeOf : ByteArray := prog_5_method_5_code
def yX3_placeOf : MethodName := ⟨RX3, "placeOf", "(II)I"⟩
abbrev cX3_oldAt : ByteArray := prog_5_method_6_code
def yX3_oldAt : MethodName := ⟨RX3, "oldAt", "(II)I"⟩
abbrev cX3_newAt : ByteArray := prog_5_method_7_code
def yX3_newAt : MethodName := ⟨RX3, "newAt", "(II)I"⟩
abbrev cX3_setTopNew : ByteArray := prog_5_method_8_code
def yX3_setTopNew : MethodName := ⟨RX3, "setTopNew", "(II)V"⟩
abbrev cX3_drop : ByteArray := prog_5_method_9_code
def yX3_drop : MethodName := ⟨RX3, "drop", "(I)V"⟩
abbrev cX3_push : ByteArray := prog_5_method_10_code
def yX3_push : MethodName := ⟨RX3, "push", "(III)V"⟩
abbrev cX3_clearOf : ByteArray := prog_5_method_11_code
def yX3_clearOf : MethodName := ⟨RX3, "clearOf", "(I)V"⟩
abbrev cX3_isEmpty : ByteArray := prog_5_method_12_code
def yX3_isEmpty : MethodName := ⟨RX3, "isEmpty", "()Z"⟩
def RX4 : String := "RankedRing$Reader"
def TX4 : u_T := fun k => match k with
  | 0 => ("RankedRing$Reader", "tape", "LRankedRing$Tape;", true)
  | 1 => ("RankedRing$Reader", "ring", "LRankedRing$Ring;", true)
  | 2 => ("RankedRing$Reader", "nameStarts", "[I", true)
  | 3 => ("RankedRing$Reader", "nameSizes", "[I", true)
  | 4 => ("RankedRing$Reader", "length", "I", false)
  | 5 => ("RankedRing$Reader", "place", "I", false)
  | 6 => ("RankedRing$Reader", "kind", "I", false)
  | 7 => ("RankedRing$Reader", "start", "I", false)
  | 8 => ("RankedRing$Reader", "size", "I", false)
  | 9 => ("RankedRing$Reader", "value", "I", false)
  | 10 => ("RankedRing$Reader", "named", "I", false)
  | 11 => ("RankedRing$Reader", "faultKind", "I", false)
  | _ => ("RankedRing$Reader", "faultPlace", "I", false)
def tyX4 : Nat → FieldType := fun k => match k with
  | 0 => .object "RankedRing$Tape"
  | 1 => .object "RankedRing$Ring"
  | 2 => .array .int
  | 3 => .array .int
  | 4 => .int
  | 5 => .int
  | 6 => .int
  | 7 => .int
  | 8 => .int
  | 9 => .int
  | 10 => .int
  | 11 => .int
  | _ => .int
abbrev wsX40 : List Cond := u_ws RX4 TX4 13
theorem nmX4 : ∀ a, a < 13 → ∀ b, b < 13 → a ≠ b → (TX4 a).2.1 ≠ (TX4 b).2.1 := by decide +kernel
theorem tyX4_ok : ∀ k, k < 13 → parseFieldDescriptor (TX4 k).2.2.1 = some (tyX4 k) := by decide +kernel
abbrev cX4_init : ByteArray := prog_6_method_1_code
def yX4_init : MethodName := ⟨RX4, "<init>", "(LRankedRing$Tape;LRankedRing$Ring;)V"⟩
abbrev cX4_readText : ByteArray := prog_6_method_2_code
def yX4_readText : MethodName := ⟨RX4, "readText", "(I)Z"⟩
abbrev cX4_fail : ByteArray := prog_6_method_3_code
def yX4_fail : MethodName := ⟨RX4, "fail", "(I)Z"⟩
abbrev cX4_readLine : ByteArray := prog_6_method_4_code
def yX4_readLine : MethodName := ⟨RX4, "readLine", "()Z"⟩
abbrev cX4_readStation : ByteArray := prog_6_method_5_code
def yX4_readStation : MethodName := ⟨RX4, "readStation", "()Z"⟩
abbrev cX4_readOff : ByteArray := prog_6_method_6_code
def yX4_readOff : MethodName := ⟨RX4, "readOff", "()Z"⟩
abbrev cX4_readMonitor : ByteArray := prog_6_method_7_code
def yX4_readMonitor : MethodName := ⟨RX4, "readMonitor", "()Z"⟩
abbrev cX4_readSend : ByteArray := prog_6_method_8_code
def yX4_readSend : MethodName := ⟨RX4, "readSend", "()Z"⟩
abbrev cX4_readBreak : ByteArray := prog_6_method_9_code
def yX4_readBreak : MethodName := ⟨RX4, "readBreak", "()Z"⟩
abbrev cX4_readName : ByteArray := prog_6_method_10_code
def yX4_readName : MethodName := ⟨RX4, "readName", "(Z)Z"⟩
abbrev cX4_readNumber : ByteArray := prog_6_method_11_code
def yX4_readNumber : MethodName := ⟨RX4, "readNumber", "(I)Z"⟩
abbrev cX4_readSign : ByteArray := prog_6_method_12_code
def yX4_readSign : MethodName := ⟨RX4, "readSign", "()Z"⟩
abbrev cX4_readToken : ByteArray := prog_6_method_13_code
def yX4_readToken : MethodName := ⟨RX4, "readToken", "()Z"⟩
abbrev cX4_skipBlanks : ByteArray := prog_6_method_14_code
def yX4_skipBlanks : MethodName := ⟨RX4, "skipBlanks", "()V"⟩
abbrev cX4_takeLetters : ByteArray := prog_6_method_15_code
def yX4_takeLetters : MethodName := ⟨RX4, "takeLetters", "()V"⟩
abbrev cX4_takeDigits : ByteArray := prog_6_method_16_code
def yX4_takeDigits : MethodName := ⟨RX4, "takeDigits", "()V"⟩
abbrev cX4_isLetter : ByteArray := prog_6_method_17_code
def yX4_isLetter : MethodName := ⟨RX4, "isLetter", "(I)Z"⟩
abbrev cX4_isDigit : ByteArray := prog_6_method_18_code
def yX4_isDigit : MethodName := ⟨RX4, "isDigit", "(I)Z"⟩
abbrev cX4_isLineWord : ByteArray := prog_6_method_19_code
def yX4_isLineWord : MethodName := ⟨RX4, "isLineWord", "()Z"⟩
abbrev cX4_isWord : ByteArray := prog_6_method_20_code
def yX4_isWord : MethodName := ⟨RX4, "isWord", "(Ljava/lang/String;)Z"⟩
abbrev cX4_isNameOf : ByteArray := prog_6_method_21_code
def yX4_isNameOf : MethodName := ⟨RX4, "isNameOf", "(I)Z"⟩
def RX5 : String := "RankedRing$Ring"
def TX5 : u_T := fun k => match k with
  | 0 => ("RankedRing$Ring", "stations", "LRankedRing$Stations;", true)
  | 1 => ("RankedRing$Ring", "queues", "LRankedRing$Queues;", true)
  | 2 => ("RankedRing$Ring", "raises", "LRankedRing$Raises;", true)
  | 3 => ("RankedRing$Ring", "way", "LRankedRing$Way;", true)
  | 4 => ("RankedRing$Ring", "silence", "LRankedRing$Silence;", true)
  | 5 => ("RankedRing$Ring", "book", "LRankedRing$Book;", true)
  | 6 => ("RankedRing$Ring", "ticks", "I", false)
  | 7 => ("RankedRing$Ring", "framesEver", "I", false)
  | 8 => ("RankedRing$Ring", "gotNow", "I", false)
  | 9 => ("RankedRing$Ring", "fellNow", "I", false)
  | _ => ("RankedRing$Ring", "purgedNow", "Z", false)
def tyX5 : Nat → FieldType := fun k => match k with
  | 0 => .object "RankedRing$Stations"
  | 1 => .object "RankedRing$Queues"
  | 2 => .object "RankedRing$Raises"
  | 3 => .object "RankedRing$Way"
  | 4 => .object "RankedRing$Silence"
  | 5 => .object "RankedRing$Book"
  | 6 => .int
  | 7 => .int
  | 8 => .int
  | 9 => .int
  | _ => .boolean
abbrev wsX50 : List Cond := u_ws RX5 TX5 11
theorem nmX5 : ∀ a, a < 11 → ∀ b, b < 11 → a ≠ b → (TX5 a).2.1 ≠ (TX5 b).2.1 := by decide +kernel
theorem tyX5_ok : ∀ k, k < 11 → parseFieldDescriptor (TX5 k).2.2.1 = some (tyX5 k) := by decide +kernel
abbrev cX5_init : ByteArray := prog_7_method_1_code
def yX5_init : MethodName := ⟨RX5, "<init>", "()V"⟩
abbrev cX5_clear : ByteArray := prog_7_method_2_code
def yX5_clear : MethodName := ⟨RX5, "clear", "()V"⟩
abbrev cX5_copyFrom : ByteArray := prog_7_method_3_code
def yX5_copyFrom : MethodName := ⟨RX5, "copyFrom", "(LRankedRing$Ring;)V"⟩
abbrev cX5_forgetLatestTick : ByteArray := prog_7_method_4_code
def yX5_forgetLatestTick : MethodName := ⟨RX5, "forgetLatestTick", "()V"⟩
abbrev cX5_tellOf : ByteArray := prog_7_method_5_code
def yX5_tellOf : MethodName := ⟨RX5, "tellOf", "(II)I"⟩
abbrev cX5_hasFrame : ByteArray := prog_7_method_6_code
def yX5_hasFrame : MethodName := ⟨RX5, "hasFrame", "(I)Z"⟩
abbrev cX5_isQuiet : ByteArray := prog_7_method_7_code
def yX5_isQuiet : MethodName := ⟨RX5, "isQuiet", "()Z"⟩
abbrev cX5_newFrame : ByteArray := prog_7_method_8_code
def yX5_newFrame : MethodName := ⟨RX5, "newFrame", "(III)I"⟩
abbrev cX5_switchOff : ByteArray := prog_7_method_9_code
def yX5_switchOff : MethodName := ⟨RX5, "switchOff", "(I)V"⟩
abbrev cX5_startSilence : ByteArray := prog_7_method_10_code
def yX5_startSilence : MethodName := ⟨RX5, "startSilence", "()V"⟩
abbrev cX5_drawn : ByteArray := prog_7_method_11_code
def yX5_drawn : MethodName := ⟨RX5, "drawn", "(II)I"⟩
abbrev cX5_nextDraw : ByteArray := prog_7_method_12_code
def yX5_nextDraw : MethodName := ⟨RX5, "nextDraw", "(I)I"⟩
abbrev cX5_drawFrame : ByteArray := prog_7_method_13_code
def yX5_drawFrame : MethodName := ⟨RX5, "drawFrame", "(II)I"⟩
abbrev cX5_dropIt : ByteArray := prog_7_method_14_code
def yX5_dropIt : MethodName := ⟨RX5, "dropIt", "()V"⟩
abbrev cX5_purge : ByteArray := prog_7_method_15_code
def yX5_purge : MethodName := ⟨RX5, "purge", "()V"⟩
abbrev cX5_passTick : ByteArray := prog_7_method_16_code
def yX5_passTick : MethodName := ⟨RX5, "passTick", "(Z)V"⟩
abbrev cX5_moveOn : ByteArray := prog_7_method_17_code
def yX5_moveOn : MethodName := ⟨RX5, "moveOn", "(Z)V"⟩
abbrev cX5_tokenComes : ByteArray := prog_7_method_18_code
def yX5_tokenComes : MethodName := ⟨RX5, "tokenComes", "(IZ)V"⟩
abbrev cX5_lowerToken : ByteArray := prog_7_method_19_code
def yX5_lowerToken : MethodName := ⟨RX5, "lowerToken", "(I)V"⟩
abbrev cX5_frameComes : ByteArray := prog_7_method_20_code
def yX5_frameComes : MethodName := ⟨RX5, "frameComes", "(IZ)V"⟩
abbrev cX5_endFrame : ByteArray := prog_7_method_21_code
def yX5_endFrame : MethodName := ⟨RX5, "endFrame", "(IZ)V"⟩
abbrev cX5_passSilentTick : ByteArray := prog_7_method_22_code
def yX5_passSilentTick : MethodName := ⟨RX5, "passSilentTick", "()V"⟩
abbrev cX5_answerSilence : ByteArray := prog_7_method_23_code
def yX5_answerSilence : MethodName := ⟨RX5, "answerSilence", "()V"⟩
abbrev cX5_crownGreatest : ByteArray := prog_7_method_24_code
def yX5_crownGreatest : MethodName := ⟨RX5, "crownGreatest", "()V"⟩
abbrev cX5_blame : ByteArray := prog_7_method_25_code
def yX5_blame : MethodName := ⟨RX5, "blame", "(I)V"⟩
def RX6 : String := "RankedRing$Silence"
def TX6 : u_T := fun k => match k with
  | 0 => ("RankedRing$Silence", "ticks", "I", false)
  | 1 => ("RankedRing$Silence", "sign", "I", false)
  | 2 => ("RankedRing$Silence", "tail", "I", false)
  | _ => ("RankedRing$Silence", "head", "I", false)
def tyX6 : Nat → FieldType := fun k => match k with
  | 0 => .int
  | 1 => .int
  | 2 => .int
  | _ => .int
abbrev wsX60 : List Cond := u_ws RX6 TX6 4
theorem nmX6 : ∀ a, a < 4 → ∀ b, b < 4 → a ≠ b → (TX6 a).2.1 ≠ (TX6 b).2.1 := by decide +kernel
theorem tyX6_ok : ∀ k, k < 4 → parseFieldDescriptor (TX6 k).2.2.1 = some (tyX6 k) := by decide +kernel
abbrev cX6_init : ByteArray := prog_8_method_1_code
def yX6_init : MethodName := ⟨RX6, "<init>", "()V"⟩
abbrev cX6_restart : ByteArray := prog_8_method_2_code
def yX6_restart : MethodName := ⟨RX6, "restart", "()V"⟩
abbrev cX6_copyFrom : ByteArray := prog_8_method_3_code
def yX6_copyFrom : MethodName := ⟨RX6, "copyFrom", "(LRankedRing$Silence;)V"⟩
def RX7 : String := "RankedRing$Stations"
def TX7 : u_T := fun k => match k with
  | 0 => ("RankedRing$Stations", "addresses", "[I", true)
  | 1 => ("RankedRing$Stations", "alive", "[Z", true)
  | 2 => ("RankedRing$Stations", "known", "[I", true)
  | 3 => ("RankedRing$Stations", "gotFrom", "[I", true)
  | 4 => ("RankedRing$Stations", "gotTo", "[I", true)
  | 5 => ("RankedRing$Stations", "count", "I", false)
  | 6 => ("RankedRing$Stations", "chief", "I", false)
  | 7 => ("RankedRing$Stations", "breakBehind", "I", false)
  | _ => ("RankedRing$Stations", "breakCause", "I", false)
def tyX7 : Nat → FieldType := fun k => match k with
  | 0 => .array .int
  | 1 => .array .boolean
  | 2 => .array .int
  | 3 => .array .int
  | 4 => .array .int
  | 5 => .int
  | 6 => .int
  | 7 => .int
  | _ => .int
abbrev wsX70 : List Cond := u_ws RX7 TX7 9
theorem nmX7 : ∀ a, a < 9 → ∀ b, b < 9 → a ≠ b → (TX7 a).2.1 ≠ (TX7 b).2.1 := by decide +kernel
theorem tyX7_ok : ∀ k, k < 9 → parseFieldDescriptor (TX7 k).2.2.1 = some (tyX7 k) := by decide +kernel
abbrev cX7_init : ByteArray := prog_9_method_1_code
def yX7_init : MethodName := ⟨RX7, "<init>", "()V"⟩
abbrev cX7_clear : ByteArray := prog_9_method_2_code
def yX7_clear : MethodName := ⟨RX7, "clear", "()V"⟩
abbrev cX7_copyFrom : ByteArray := prog_9_method_3_code
def yX7_copyFrom : MethodName := ⟨RX7, "copyFrom", "(LRankedRing$Stations;)V"⟩
abbrev cX7_append : ByteArray := prog_9_method_4_code
def yX7_append : MethodName := ⟨RX7, "append", "(I)V"⟩
abbrev cX7_exists : ByteArray := prog_9_method_5_code
def yX7_exists : MethodName := ⟨RX7, "exists", "(I)Z"⟩
abbrev cX7_isOn : ByteArray := prog_9_method_6_code
def yX7_isOn : MethodName := ⟨RX7, "isOn", "(I)Z"⟩
abbrev cX7_switchOn : ByteArray := prog_9_method_7_code
def yX7_switchOn : MethodName := ⟨RX7, "switchOn", "(I)V"⟩
abbrev cX7_switchOff : ByteArray := prog_9_method_8_code
def yX7_switchOff : MethodName := ⟨RX7, "switchOff", "(I)V"⟩
abbrev cX7_hasAddress : ByteArray := prog_9_method_9_code
def yX7_hasAddress : MethodName := ⟨RX7, "hasAddress", "(I)Z"⟩
abbrev cX7_onCount : ByteArray := prog_9_method_10_code
def yX7_onCount : MethodName := ⟨RX7, "onCount", "()I"⟩
abbrev cX7_onBits : ByteArray := prog_9_method_11_code
def yX7_onBits : MethodName := ⟨RX7, "onBits", "()I"⟩
abbrev cX7_greatestOn : ByteArray := prog_9_method_12_code
def yX7_greatestOn : MethodName := ⟨RX7, "greatestOn", "()I"⟩
abbrev cX7_chiefIsOn : ByteArray := prog_9_method_13_code
def yX7_chiefIsOn : MethodName := ⟨RX7, "chiefIsOn", "()Z"⟩
abbrev cX7_following : ByteArray := prog_9_method_14_code
def yX7_following : MethodName := ⟨RX7, "following", "(I)I"⟩
abbrev cX7_preceding : ByteArray := prog_9_method_15_code
def yX7_preceding : MethodName := ⟨RX7, "preceding", "(I)I"⟩
abbrev cX7_nextOn : ByteArray := prog_9_method_16_code
def yX7_nextOn : MethodName := ⟨RX7, "nextOn", "(I)I"⟩
abbrev cX7_previousOn : ByteArray := prog_9_method_17_code
def yX7_previousOn : MethodName := ⟨RX7, "previousOn", "(I)I"⟩
abbrev cX7_stepsBetween : ByteArray := prog_9_method_18_code
def yX7_stepsBetween : MethodName := ⟨RX7, "stepsBetween", "(II)I"⟩
abbrev cX7_setBreak : ByteArray := prog_9_method_19_code
def yX7_setBreak : MethodName := ⟨RX7, "setBreak", "(II)V"⟩
abbrev cX7_breakCounts : ByteArray := prog_9_method_20_code
def yX7_breakCounts : MethodName := ⟨RX7, "breakCounts", "()Z"⟩
abbrev cX7_breakCountsWithout : ByteArray := prog_9_method_21_code
def yX7_breakCountsWithout : MethodName := ⟨RX7, "breakCountsWithout", "(I)Z"⟩
abbrev cX7_breakBetween : ByteArray := prog_9_method_22_code
def yX7_breakBetween : MethodName := ⟨RX7, "breakBetween", "(II)Z"⟩
abbrev cX7_staleBits : ByteArray := prog_9_method_23_code
def yX7_staleBits : MethodName := ⟨RX7, "staleBits", "()I"⟩
abbrev cX7_tellNeighbours : ByteArray := prog_9_method_24_code
def yX7_tellNeighbours : MethodName := ⟨RX7, "tellNeighbours", "()I"⟩
abbrev cX7_countGot : ByteArray := prog_9_method_25_code
def yX7_countGot : MethodName := ⟨RX7, "countGot", "(II)V"⟩
def RX8 : String := "RankedRing$Tape"
def TX8 : u_T := fun k => match k with
  | 0 => ("RankedRing$Tape", "bytes", "[B", true)
  | 1 => ("RankedRing$Tape", "length", "I", false)
  | 2 => ("RankedRing$Tape", "faultKind", "I", false)
  | _ => ("RankedRing$Tape", "faultPlace", "I", false)
def tyX8 : Nat → FieldType := fun k => match k with
  | 0 => .array .byte
  | 1 => .int
  | 2 => .int
  | _ => .int
abbrev wsX80 : List Cond := u_ws RX8 TX8 4
theorem nmX8 : ∀ a, a < 4 → ∀ b, b < 4 → a ≠ b → (TX8 a).2.1 ≠ (TX8 b).2.1 := by decide +kernel
theorem tyX8_ok : ∀ k, k < 4 → parseFieldDescriptor (TX8 k).2.2.1 = some (tyX8 k) := by decide +kernel
abbrev cX8_init : ByteArray := prog_10_method_1_code
def yX8_init : MethodName := ⟨RX8, "<init>", "()V"⟩
abbrev cX8_copyFrom : ByteArray := prog_10_method_2_code
def yX8_copyFrom : MethodName := ⟨RX8, "copyFrom", "(LRankedRing$Tape;)V"⟩
abbrev cX8_append : ByteArray := prog_10_method_3_code
def yX8_append : MethodName := ⟨RX8, "append", "(I)V"⟩
abbrev cX8_byteAt : ByteArray := prog_10_method_4_code
def yX8_byteAt : MethodName := ⟨RX8, "byteAt", "(I)I"⟩
def RX9 : String := "RankedRing$Way"
def TX9 : u_T := fun k => match k with
  | 0 => ("RankedRing$Way", "kind", "I", false)
  | 1 => ("RankedRing$Way", "at", "I", false)
  | 2 => ("RankedRing$Way", "level", "I", false)
  | 3 => ("RankedRing$Way", "wish", "I", false)
  | 4 => ("RankedRing$Way", "marked", "Z", false)
  | 5 => ("RankedRing$Way", "from", "I", false)
  | 6 => ("RankedRing$Way", "to", "I", false)
  | 7 => ("RankedRing$Way", "rank", "I", false)
  | 8 => ("RankedRing$Way", "copied", "Z", false)
  | 9 => ("RankedRing$Way", "number", "I", false)
  | _ => ("RankedRing$Way", "birth", "I", false)
def tyX9 : Nat → FieldType := fun k => match k with
  | 0 => .int
  | 1 => .int
  | 2 => .int
  | 3 => .int
  | 4 => .boolean
  | 5 => .int
  | 6 => .int
  | 7 => .int
  | 8 => .boolean
  | 9 => .int
  | _ => .int
abbrev wsX90 : List Cond := u_ws RX9 TX9 11
theorem nmX9 : ∀ a, a < 11 → ∀ b, b < 11 → a ≠ b → (TX9 a).2.1 ≠ (TX9 b).2.1 := by decide +kernel
theorem tyX9_ok : ∀ k, k < 11 → parseFieldDescriptor (TX9 k).2.2.1 = some (tyX9 k) := by decide +kernel
abbrev cX9_init : ByteArray := prog_11_method_1_code
def yX9_init : MethodName := ⟨RX9, "<init>", "()V"⟩
abbrev cX9_clear : ByteArray := prog_11_method_2_code
def yX9_clear : MethodName := ⟨RX9, "clear", "()V"⟩
abbrev cX9_copyFrom : ByteArray := prog_11_method_3_code
def yX9_copyFrom : MethodName := ⟨RX9, "copyFrom", "(LRankedRing$Way;)V"⟩
abbrev cX9_becomeToken : ByteArray := prog_11_method_4_code
def yX9_becomeToken : MethodName := ⟨RX9, "becomeToken", "(III)V"⟩
abbrev cX9_becomeFrame : ByteArray := prog_11_method_5_code
def yX9_becomeFrame : MethodName := ⟨RX9, "becomeFrame", "(ILRankedRing$Queues;I)V"⟩
abbrev cX9_tell : ByteArray := prog_11_method_6_code
def yX9_tell : MethodName := ⟨RX9, "tell", "(I)I"⟩
def RX10 : String := "RankedRing"
def TX10 : u_T := fun k => match k with
  | 0 => ("RankedRing", "tape", "LRankedRing$Tape;", true)
  | 1 => ("RankedRing", "ring", "LRankedRing$Ring;", true)
  | 2 => ("RankedRing", "scratch", "LRankedRing$Ring;", true)
  | 3 => ("RankedRing", "paper", "LRankedRing$Paper;", true)
  | 4 => ("RankedRing", "reader", "LRankedRing$Reader;", true)
  | 5 => ("RankedRing", "markedRings", "[LRankedRing$Ring;", true)
  | 6 => ("RankedRing", "markedTapes", "[LRankedRing$Tape;", true)
  | 7 => ("RankedRing", "markCount", "I", false)
  | _ => ("RankedRing", "status", "I", false)
def tyX10 : Nat → FieldType := fun k => match k with
  | 0 => .object "RankedRing$Tape"
  | 1 => .object "RankedRing$Ring"
  | 2 => .object "RankedRing$Ring"
  | 3 => .object "RankedRing$Paper"
  | 4 => .object "RankedRing$Reader"
  | 5 => .array (.object "RankedRing$Ring")
  | 6 => .array (.object "RankedRing$Tape")
  | 7 => .int
  | _ => .int
abbrev wsX100 : List Cond := u_ws RX10 TX10 9
theorem nmX10 : ∀ a, a < 9 → ∀ b, b < 9 → a ≠ b → (TX10 a).2.1 ≠ (TX10 b).2.1 := by decide +kernel
theorem tyX10_ok : ∀ k, k < 9 → parseFieldDescriptor (TX10 k).2.2.1 = some (tyX10 k) := by decide +kernel
abbrev cX10_init : ByteArray := prog_1_method_1_code
def yX10_init : MethodName := ⟨RX10, "<init>", "()V"⟩
abbrev cX10_status : ByteArray := prog_1_method_2_code
def yX10_status : MethodName := ⟨RX10, "status", "()I"⟩
abbrev cX10_feed : ByteArray := prog_1_method_3_code
def yX10_feed : MethodName := ⟨RX10, "feed", "(IIIII)I"⟩
abbrev cX10_load : ByteArray := prog_1_method_4_code
def yX10_load : MethodName := ⟨RX10, "load", "(I)I"⟩
abbrev cX10_fault : ByteArray := prog_1_method_5_code
def yX10_fault : MethodName := ⟨RX10, "fault", "(I)I"⟩
abbrev cX10_many : ByteArray := prog_1_method_6_code
def yX10_many : MethodName := ⟨RX10, "many", "(I)I"⟩
abbrev cX10_station : ByteArray := prog_1_method_7_code
def yX10_station : MethodName := ⟨RX10, "station", "(II)I"⟩
abbrev cX10_waits : ByteArray := prog_1_method_8_code
def yX10_waits : MethodName := ⟨RX10, "waits", "(III)I"⟩
abbrev cX10_way : ByteArray := prog_1_method_9_code
def yX10_way : MethodName := ⟨RX10, "way", "(I)I"⟩
abbrev cX10_beacon : ByteArray := prog_1_method_10_code
def yX10_beacon : MethodName := ⟨RX10, "beacon", "(I)I"⟩
abbrev cX10_been : ByteArray := prog_1_method_11_code
def yX10_been : MethodName := ⟨RX10, "been", "(I)I"⟩
abbrev cX10_got : ByteArray := prog_1_method_12_code
def yX10_got : MethodName := ⟨RX10, "got", "(II)I"⟩
abbrev cX10_raise : ByteArray := prog_1_method_13_code
def yX10_raise : MethodName := ⟨RX10, "raise", "(III)I"⟩
abbrev cX10_event : ByteArray := prog_1_method_14_code
def yX10_event : MethodName := ⟨RX10, "event", "(II)I"⟩
abbrev cX10_ranks : ByteArray := prog_1_method_15_code
def yX10_ranks : MethodName := ⟨RX10, "ranks", "(II)I"⟩
abbrev cX10_hops : ByteArray := prog_1_method_16_code
def yX10_hops : MethodName := ⟨RX10, "hops", "(II)I"⟩
abbrev cX10_heir : ByteArray := prog_1_method_17_code
def yX10_heir : MethodName := ⟨RX10, "heir", "()I"⟩
abbrev cX10_add : ByteArray := prog_1_method_18_code
def yX10_add : MethodName := ⟨RX10, "add", "(I)I"⟩
abbrev cX10_send : ByteArray := prog_1_method_19_code
def yX10_send : MethodName := ⟨RX10, "send", "(III)I"⟩
abbrev cX10_take : ByteArray := prog_1_method_20_code
def yX10_take : MethodName := ⟨RX10, "take", "(I)I"⟩
abbrev cX10_shed : ByteArray := prog_1_method_21_code
def yX10_shed : MethodName := ⟨RX10, "shed", "(II)I"⟩
abbrev cX10_off : ByteArray := prog_1_method_22_code
def yX10_off : MethodName := ⟨RX10, "off", "(I)Z"⟩
abbrev cX10_on : ByteArray := prog_1_method_23_code
def yX10_on : MethodName := ⟨RX10, "on", "(I)Z"⟩
abbrev cX10_monitor : ByteArray := prog_1_method_24_code
def yX10_monitor : MethodName := ⟨RX10, "monitor", "(I)Z"⟩
abbrev cX10_lose : ByteArray := prog_1_method_25_code
def yX10_lose : MethodName := ⟨RX10, "lose", "()Z"⟩
abbrev cX10_snap : ByteArray := prog_1_method_26_code
def yX10_snap : MethodName := ⟨RX10, "snap", "(II)Z"⟩
abbrev cX10_mend : ByteArray := prog_1_method_27_code
def yX10_mend : MethodName := ⟨RX10, "mend", "()Z"⟩
abbrev cX10_tick : ByteArray := prog_1_method_28_code
def yX10_tick : MethodName := ⟨RX10, "tick", "(I)I"⟩
abbrev cX10_run : ByteArray := prog_1_method_29_code
def yX10_run : MethodName := ⟨RX10, "run", "(III)I"⟩
abbrev cX10_notice : ByteArray := prog_1_method_30_code
def yX10_notice : MethodName := ⟨RX10, "notice", "()I"⟩
abbrev cX10_stale : ByteArray := prog_1_method_31_code
def yX10_stale : MethodName := ⟨RX10, "stale", "()I"⟩
abbrev cX10_mark : ByteArray := prog_1_method_32_code
def yX10_mark : MethodName := ⟨RX10, "mark", "()I"⟩
abbrev cX10_back : ByteArray := prog_1_method_33_code
def yX10_back : MethodName := ⟨RX10, "back", "()I"⟩
abbrev cX10_quiet : ByteArray := prog_1_method_34_code
def yX10_quiet : MethodName := ⟨RX10, "quiet", "(Z)I"⟩
abbrev cX10_when : ByteArray := prog_1_method_35_code
def yX10_when : MethodName := ⟨RX10, "when", "(IZ)I"⟩
abbrev cX10_next : ByteArray := prog_1_method_36_code
def yX10_next : MethodName := ⟨RX10, "next", "(IZ)I"⟩
abbrev cX10_peak : ByteArray := prog_1_method_37_code
def yX10_peak : MethodName := ⟨RX10, "peak", "()I"⟩
abbrev cX10_lowered : ByteArray := prog_1_method_38_code
def yX10_lowered : MethodName := ⟨RX10, "lowered", "()I"⟩
abbrev cX10_healed : ByteArray := prog_1_method_39_code
def yX10_healed : MethodName := ⟨RX10, "healed", "()I"⟩
abbrev cX10_purged : ByteArray := prog_1_method_40_code
def yX10_purged : MethodName := ⟨RX10, "purged", "()I"⟩
abbrev cX10_blamed : ByteArray := prog_1_method_41_code
def yX10_blamed : MethodName := ⟨RX10, "blamed", "()I"⟩
abbrev cX10_gain : ByteArray := prog_1_method_42_code
def yX10_gain : MethodName := ⟨RX10, "gain", "()I"⟩
abbrev cX10_give : ByteArray := prog_1_method_43_code
def yX10_give : MethodName := ⟨RX10, "give", "(I)I"⟩
abbrev cX10_giveReached : ByteArray := prog_1_method_44_code
def yX10_giveReached : MethodName := ⟨RX10, "giveReached", "(I)I"⟩
abbrev cX10_fail : ByteArray := prog_1_method_45_code
def yX10_fail : MethodName := ⟨RX10, "fail", "(I)I"⟩
abbrev cX10_refuse : ByteArray := prog_1_method_46_code
def yX10_refuse : MethodName := ⟨RX10, "refuse", "(I)Z"⟩
abbrev cX10_succeed : ByteArray := prog_1_method_47_code
def yX10_succeed : MethodName := ⟨RX10, "succeed", "()Z"⟩
def RX11 : String := "RankedRingModel"
def TX11 : u_T := fun k => match k with
  | 0 => ("RankedRingModel", "all", "[I", true)
  | 1 => ("RankedRingModel", "status", "I", false)
  | 2 => ("RankedRingModel", "marks", "I", false)
  | 3 => ("RankedRingModel", "gotNow", "I", false)
  | 4 => ("RankedRingModel", "offNow", "I", false)
  | 5 => ("RankedRingModel", "purgedNow", "Z", false)
  | 6 => ("RankedRingModel", "plain", "Z", false)
  | 7 => ("RankedRingModel", "tape", "[B", true)
  | 8 => ("RankedRingModel", "text", "[B", true)
  | 9 => ("RankedRingModel", "names", "[J", true)
  | 10 => ("RankedRingModel", "taped", "I", false)
  | 11 => ("RankedRingModel", "size", "I", false)
  | 12 => ("RankedRingModel", "token", "I", false)
  | 13 => ("RankedRingModel", "from", "I", false)
  | 14 => ("RankedRingModel", "end", "I", false)
  | 15 => ("RankedRingModel", "value", "I", false)
  | 16 => ("RankedRingModel", "faults", "I", false)
  | 17 => ("RankedRingModel", "faultPlace", "I", false)
  | 18 => ("RankedRingModel", "faultKind", "I", false)
  | 19 => ("RankedRingModel", "drawn", "I", false)
  | 20 => ("RankedRingModel", "peakLevel", "I", false)
  | 21 => ("RankedRingModel", "asked", "[I", true)
  | _ => ("RankedRingModel", "askedAt", "[I", true)
def tyX11 : Nat → FieldType := fun k => match k with
  | 0 => .array .int
  | 1 => .int
  | 2 => .int
  | 3 => .int
  | 4 => .int
  | 5 => .boolean
  | 6 => .boolean
  | 7 => .array .byte
  | 8 => .array .byte
  | 9 => .array .long
  | 10 => .int
  | 11 => .int
  | 12 => .int
  | 13 => .int
  | 14 => .int
  | 15 => .int
  | 16 => .int
  | 17 => .int
  | 18 => .int
  | 19 => .int
  | 20 => .int
  | 21 => .array .int
  | _ => .array .int
abbrev wsX110 : List Cond := u_ws RX11 TX11 23
theorem nmX11 : ∀ a, a < 23 → ∀ b, b < 23 → a ≠ b → (TX11 a).2.1 ≠ (TX11 b).2.1 := by decide +kernel
theorem tyX11_ok : ∀ k, k < 23 → parseFieldDescriptor (TX11 k).2.2.1 = some (tyX11 k) := by decide +kernel
abbrev cX11_init : ByteArray := prog_13_method_1_code
def yX11_init : MethodName := ⟨RX11, "<init>", "()V"⟩
abbrev cX11_status : ByteArray := prog_13_method_2_code
def yX11_status : MethodName := ⟨RX11, "status", "()I"⟩
abbrev cX11_refuse : ByteArray := prog_13_method_3_code
def yX11_refuse : MethodName := ⟨RX11, "refuse", "(I)I"⟩
abbrev cX11_isSo : ByteArray := prog_13_method_4_code
def yX11_isSo : MethodName := ⟨RX11, "isSo", "(I)Z"⟩
abbrev cX11_gives : ByteArray := prog_13_method_5_code
def yX11_gives : MethodName := ⟨RX11, "gives", "(I)I"⟩
abbrev cX11_isFrom : ByteArray := prog_13_method_6_code
def yX11_isFrom : MethodName := ⟨RX11, "isFrom", "(III)Z"⟩
abbrev cX11_of : ByteArray := prog_13_method_7_code
def yX11_of : MethodName := ⟨RX11, "of", "(I)I"⟩
abbrev cX11_puts : ByteArray := prog_13_method_8_code
def yX11_puts : MethodName := ⟨RX11, "puts", "(II)V"⟩
abbrev cX11_adds : ByteArray := prog_13_method_9_code
def yX11_adds : MethodName := ⟨RX11, "adds", "(II)V"⟩
abbrev cX11_copies : ByteArray := prog_13_method_10_code
def yX11_copies : MethodName := ⟨RX11, "copies", "(II)V"⟩
abbrev cX11_begins : ByteArray := prog_13_method_11_code
def yX11_begins : MethodName := ⟨RX11, "begins", "()V"⟩
abbrev cX11_isStation : ByteArray := prog_13_method_12_code
def yX11_isStation : MethodName := ⟨RX11, "isStation", "(I)Z"⟩
abbrev cX11_isOn : ByteArray := prog_13_method_13_code
def yX11_isOn : MethodName := ⟨RX11, "isOn", "(I)Z"⟩
abbrev cX11_onMany : ByteArray := prog_13_method_14_code
def yX11_onMany : MethodName := ⟨RX11, "onMany", "()I"⟩
abbrev cX11_nextOn : ByteArray := prog_13_method_15_code
def yX11_nextOn : MethodName := ⟨RX11, "nextOn", "(II)I"⟩
abbrev cX11_doesCount : ByteArray := prog_13_method_16_code
def yX11_doesCount : MethodName := ⟨RX11, "doesCount", "()Z"⟩
abbrev cX11_isBroken : ByteArray := prog_13_method_17_code
def yX11_isBroken : MethodName := ⟨RX11, "isBroken", "(II)Z"⟩
abbrev cX11_heirNow : ByteArray := prog_13_method_18_code
def yX11_heirNow : MethodName := ⟨RX11, "heirNow", "()I"⟩
abbrev cX11_waitAt : ByteArray := prog_13_method_19_code
def yX11_waitAt : MethodName := ⟨RX11, "waitAt", "(II)I"⟩
abbrev cX11_firstOf : ByteArray := prog_13_method_20_code
def yX11_firstOf : MethodName := ⟨RX11, "firstOf", "(I)I"⟩
abbrev cX11_firstRank : ByteArray := prog_13_method_21_code
def yX11_firstRank : MethodName := ⟨RX11, "firstRank", "(I)I"⟩
abbrev cX11_sends : ByteArray := prog_13_method_22_code
def yX11_sends : MethodName := ⟨RX11, "sends", "(III)I"⟩
abbrev cX11_takes : ByteArray := prog_13_method_23_code
def yX11_takes : MethodName := ⟨RX11, "takes", "(II)V"⟩
abbrev cX11_happens : ByteArray := prog_13_method_24_code
def yX11_happens : MethodName := ⟨RX11, "happens", "(II)V"⟩
abbrev cX11_isSilent : ByteArray := prog_13_method_25_code
def yX11_isSilent : MethodName := ⟨RX11, "isSilent", "()V"⟩
abbrev cX11_isLost : ByteArray := prog_13_method_26_code
def yX11_isLost : MethodName := ⟨RX11, "isLost", "()V"⟩
abbrev cX11_dropsRaises : ByteArray := prog_13_method_27_code
def yX11_dropsRaises : MethodName := ⟨RX11, "dropsRaises", "(I)V"⟩
abbrev cX11_purges : ByteArray := prog_13_method_28_code
def yX11_purges : MethodName := ⟨RX11, "purges", "()V"⟩
abbrev cX11_isLevel : ByteArray := prog_13_method_29_code
def yX11_isLevel : MethodName := ⟨RX11, "isLevel", "(I)V"⟩
abbrev cX11_raiseAt : ByteArray := prog_13_method_30_code
def yX11_raiseAt : MethodName := ⟨RX11, "raiseAt", "(II)I"⟩
abbrev cX11_topRaise : ByteArray := prog_13_method_31_code
def yX11_topRaise : MethodName := ⟨RX11, "topRaise", "(I)I"⟩
abbrev cX11_wishes : ByteArray := prog_13_method_32_code
def yX11_wishes : MethodName := ⟨RX11, "wishes", "(I)V"⟩
abbrev cX11_tokenAt : ByteArray := prog_13_method_33_code
def yX11_tokenAt : MethodName := ⟨RX11, "tokenAt", "(I)V"⟩
abbrev cX11_isGot : ByteArray := prog_13_method_34_code
def yX11_isGot : MethodName := ⟨RX11, "isGot", "(I)V"⟩
abbrev cX11_comesHome : ByteArray := prog_13_method_35_code
def yX11_comesHome : MethodName := ⟨RX11, "comesHome", "(I)V"⟩
abbrev cX11_frameAt : ByteArray := prog_13_method_36_code
def yX11_frameAt : MethodName := ⟨RX11, "frameAt", "(I)V"⟩
abbrev cX11_goesOn : ByteArray := prog_13_method_37_code
def yX11_goesOn : MethodName := ⟨RX11, "goesOn", "()V"⟩
abbrev cX11_turnsOff : ByteArray := prog_13_method_38_code
def yX11_turnsOff : MethodName := ⟨RX11, "turnsOff", "(I)V"⟩
abbrev cX11_isBlamed : ByteArray := prog_13_method_39_code
def yX11_isBlamed : MethodName := ⟨RX11, "isBlamed", "(I)V"⟩
abbrev cX11_beacons : ByteArray := prog_13_method_40_code
def yX11_beacons : MethodName := ⟨RX11, "beacons", "()V"⟩
abbrev cX11_claims : ByteArray := prog_13_method_41_code
def yX11_claims : MethodName := ⟨RX11, "claims", "()V"⟩
abbrev cX11_isStill : ByteArray := prog_13_method_42_code
def yX11_isStill : MethodName := ⟨RX11, "isStill", "()V"⟩
abbrev cX11_ticks : ByteArray := prog_13_method_43_code
def yX11_ticks : MethodName := ⟨RX11, "ticks", "()V"⟩
abbrev cX11_feed : ByteArray := prog_13_method_44_code
def yX11_feed : MethodName := ⟨RX11, "feed", "(IIIII)I"⟩
abbrev cX11_four : ByteArray := prog_13_method_45_code
def yX11_four : MethodName := ⟨RX11, "four", "(I)V"⟩
abbrev cX11_byteAt : ByteArray := prog_13_method_46_code
def yX11_byteAt : MethodName := ⟨RX11, "byteAt", "(I)I"⟩
abbrev cX11_isSmall : ByteArray := prog_13_method_47_code
def yX11_isSmall : MethodName := ⟨RX11, "isSmall", "(I)Z"⟩
abbrev cX11_isDigit : ByteArray := prog_13_method_48_code
def yX11_isDigit : MethodName := ⟨RX11, "isDigit", "(I)Z"⟩
abbrev cX11_ahead : ByteArray := prog_13_method_49_code
def yX11_ahead : MethodName := ⟨RX11, "ahead", "()V"⟩
abbrev cX11_key : ByteArray := prog_13_method_50_code
def yX11_key : MethodName := ⟨RX11, "key", "()I"⟩
abbrev cX11_fails : ByteArray := prog_13_method_51_code
def yX11_fails : MethodName := ⟨RX11, "fails", "(I)Z"⟩
abbrev cX11_isName : ByteArray := prog_13_method_52_code
def yX11_isName : MethodName := ⟨RX11, "isName", "()Z"⟩
abbrev cX11_namedHere : ByteArray := prog_13_method_53_code
def yX11_namedHere : MethodName := ⟨RX11, "namedHere", "()I"⟩
abbrev cX11_stationHere : ByteArray := prog_13_method_54_code
def yX11_stationHere : MethodName := ⟨RX11, "stationHere", "()I"⟩
abbrev cX11_isNumber : ByteArray := prog_13_method_55_code
def yX11_isNumber : MethodName := ⟨RX11, "isNumber", "(II)Z"⟩
abbrev cX11_closes : ByteArray := prog_13_method_56_code
def yX11_closes : MethodName := ⟨RX11, "closes", "()Z"⟩
abbrev cX11_isTaken : ByteArray := prog_13_method_57_code
def yX11_isTaken : MethodName := ⟨RX11, "isTaken", "(I)Z"⟩
abbrev cX11_comes : ByteArray := prog_13_method_58_code
def yX11_comes : MethodName := ⟨RX11, "comes", "(I)I"⟩
abbrev cX11_aStation : ByteArray := prog_13_method_59_code
def yX11_aStation : MethodName := ⟨RX11, "aStation", "()Z"⟩
abbrev cX11_aSend : ByteArray := prog_13_method_60_code
def yX11_aSend : MethodName := ⟨RX11, "aSend", "()Z"⟩
abbrev cX11_aBreak : ByteArray := prog_13_method_61_code
def yX11_aBreak : MethodName := ⟨RX11, "aBreak", "()Z"⟩
abbrev cX11_aState : ByteArray := prog_13_method_62_code
def yX11_aState : MethodName := ⟨RX11, "aState", "(Z)Z"⟩
abbrev cX11_aLine : ByteArray := prog_13_method_63_code
def yX11_aLine : MethodName := ⟨RX11, "aLine", "()Z"⟩
abbrev cX11_load : ByteArray := prog_13_method_64_code
def yX11_load : MethodName := ⟨RX11, "load", "(I)I"⟩
abbrev cX11_fault : ByteArray := prog_13_method_65_code
def yX11_fault : MethodName := ⟨RX11, "fault", "(I)I"⟩
abbrev cX11_waitAll : ByteArray := prog_13_method_66_code
def yX11_waitAll : MethodName := ⟨RX11, "waitAll", "()I"⟩
abbrev cX11_onBits : ByteArray := prog_13_method_67_code
def yX11_onBits : MethodName := ⟨RX11, "onBits", "()I"⟩
abbrev cX11_many : ByteArray := prog_13_method_68_code
def yX11_many : MethodName := ⟨RX11, "many", "(I)I"⟩
abbrev cX11_wrongStation : ByteArray := prog_13_method_69_code
def yX11_wrongStation : MethodName := ⟨RX11, "wrongStation", "(I)I"⟩
abbrev cX11_station : ByteArray := prog_13_method_70_code
def yX11_station : MethodName := ⟨RX11, "station", "(II)I"⟩
abbrev cX11_waits : ByteArray := prog_13_method_71_code
def yX11_waits : MethodName := ⟨RX11, "waits", "(III)I"⟩
abbrev cX11_way : ByteArray := prog_13_method_72_code
def yX11_way : MethodName := ⟨RX11, "way", "(I)I"⟩
abbrev cX11_beacon : ByteArray := prog_13_method_73_code
def yX11_beacon : MethodName := ⟨RX11, "beacon", "(I)I"⟩
abbrev cX11_been : ByteArray := prog_13_method_74_code
def yX11_been : MethodName := ⟨RX11, "been", "(I)I"⟩
abbrev cX11_got : ByteArray := prog_13_method_75_code
def yX11_got : MethodName := ⟨RX11, "got", "(II)I"⟩
abbrev cX11_raise : ByteArray := prog_13_method_76_code
def yX11_raise : MethodName := ⟨RX11, "raise", "(III)I"⟩
abbrev cX11_event : ByteArray := prog_13_method_77_code
def yX11_event : MethodName := ⟨RX11, "event", "(II)I"⟩
abbrev cX11_ranks : ByteArray := prog_13_method_78_code
def yX11_ranks : MethodName := ⟨RX11, "ranks", "(II)I"⟩
abbrev cX11_hops : ByteArray := prog_13_method_79_code
def yX11_hops : MethodName := ⟨RX11, "hops", "(II)I"⟩
abbrev cX11_heir : ByteArray := prog_13_method_80_code
def yX11_heir : MethodName := ⟨RX11, "heir", "()I"⟩
abbrev cX11_isAnew : ByteArray := prog_13_method_81_code
def yX11_isAnew : MethodName := ⟨RX11, "isAnew", "()V"⟩
abbrev cX11_add : ByteArray := prog_13_method_82_code
def yX11_add : MethodName := ⟨RX11, "add", "(I)I"⟩
abbrev cX11_send : ByteArray := prog_13_method_83_code
def yX11_send : MethodName := ⟨RX11, "send", "(III)I"⟩
abbrev cX11_take : ByteArray := prog_13_method_84_code
def yX11_take : MethodName := ⟨RX11, "take", "(I)I"⟩
abbrev cX11_shed : ByteArray := prog_13_method_85_code
def yX11_shed : MethodName := ⟨RX11, "shed", "(II)I"⟩
abbrev cX11_off : ByteArray := prog_13_method_86_code
def yX11_off : MethodName := ⟨RX11, "off", "(I)Z"⟩
abbrev cX11_on : ByteArray := prog_13_method_87_code
def yX11_on : MethodName := ⟨RX11, "on", "(I)Z"⟩
abbrev cX11_monitor : ByteArray := prog_13_method_88_code
def yX11_monitor : MethodName := ⟨RX11, "monitor", "(I)Z"⟩
abbrev cX11_lose : ByteArray := prog_13_method_89_code
def yX11_lose : MethodName := ⟨RX11, "lose", "()Z"⟩
abbrev cX11_snap : ByteArray := prog_13_method_90_code
def yX11_snap : MethodName := ⟨RX11, "snap", "(II)Z"⟩
abbrev cX11_mend : ByteArray := prog_13_method_91_code
def yX11_mend : MethodName := ⟨RX11, "mend", "()Z"⟩
abbrev cX11_tick : ByteArray := prog_13_method_92_code
def yX11_tick : MethodName := ⟨RX11, "tick", "(I)I"⟩
abbrev cX11_drawBy : ByteArray := prog_13_method_93_code
def yX11_drawBy : MethodName := ⟨RX11, "drawBy", "(I)I"⟩
abbrev cX11_draws : ByteArray := prog_13_method_94_code
def yX11_draws : MethodName := ⟨RX11, "draws", "(I)V"⟩
abbrev cX11_run : ByteArray := prog_13_method_95_code
def yX11_run : MethodName := ⟨RX11, "run", "(III)I"⟩
abbrev cX11_notice : ByteArray := prog_13_method_96_code
def yX11_notice : MethodName := ⟨RX11, "notice", "()I"⟩
abbrev cX11_stale : ByteArray := prog_13_method_97_code
def yX11_stale : MethodName := ⟨RX11, "stale", "()I"⟩
abbrev cX11_mark : ByteArray := prog_13_method_98_code
def yX11_mark : MethodName := ⟨RX11, "mark", "()I"⟩
abbrev cX11_back : ByteArray := prog_13_method_99_code
def yX11_back : MethodName := ⟨RX11, "back", "()I"⟩
abbrev cX11_isQuiet : ByteArray := prog_13_method_100_code
def yX11_isQuiet : MethodName := ⟨RX11, "isQuiet", "()Z"⟩
abbrev cX11_isLowered : ByteArray := prog_13_method_101_code
def yX11_isLowered : MethodName := ⟨RX11, "isLowered", "()Z"⟩
abbrev cX11_isReached : ByteArray := prog_13_method_102_code
def yX11_isReached : MethodName := ⟨RX11, "isReached", "(I)Z"⟩
abbrev cX11_peaks : ByteArray := prog_13_method_103_code
def yX11_peaks : MethodName := ⟨RX11, "peaks", "()V"⟩
abbrev cX11_onPaper : ByteArray := prog_13_method_104_code
def yX11_onPaper : MethodName := ⟨RX11, "onPaper", "(Z)V"⟩
abbrev cX11_offPaper : ByteArray := prog_13_method_105_code
def yX11_offPaper : MethodName := ⟨RX11, "offPaper", "()V"⟩
abbrev cX11_reaches : ByteArray := prog_13_method_106_code
def yX11_reaches : MethodName := ⟨RX11, "reaches", "(IZ)I"⟩
abbrev cX11_givesOr : ByteArray := prog_13_method_107_code
def yX11_givesOr : MethodName := ⟨RX11, "givesOr", "(I)I"⟩
abbrev cX11_quiet : ByteArray := prog_13_method_108_code
def yX11_quiet : MethodName := ⟨RX11, "quiet", "(Z)I"⟩
abbrev cX11_lives : ByteArray := prog_13_method_109_code
def yX11_lives : MethodName := ⟨RX11, "lives", "(IZI)V"⟩
abbrev cX11_waiting : ByteArray := prog_13_method_110_code
def yX11_waiting : MethodName := ⟨RX11, "waiting", "()I"⟩
abbrev cX11_when : ByteArray := prog_13_method_111_code
def yX11_when : MethodName := ⟨RX11, "when", "(IZ)I"⟩
abbrev cX11_next : ByteArray := prog_13_method_112_code
def yX11_next : MethodName := ⟨RX11, "next", "(IZ)I"⟩
abbrev cX11_peak : ByteArray := prog_13_method_113_code
def yX11_peak : MethodName := ⟨RX11, "peak", "()I"⟩
abbrev cX11_lowered : ByteArray := prog_13_method_114_code
def yX11_lowered : MethodName := ⟨RX11, "lowered", "()I"⟩
abbrev cX11_healed : ByteArray := prog_13_method_115_code
def yX11_healed : MethodName := ⟨RX11, "healed", "()I"⟩
abbrev cX11_purged : ByteArray := prog_13_method_116_code
def yX11_purged : MethodName := ⟨RX11, "purged", "()I"⟩
abbrev cX11_blamed : ByteArray := prog_13_method_117_code
def yX11_blamed : MethodName := ⟨RX11, "blamed", "()I"⟩
abbrev cX11_gain : ByteArray := prog_13_method_118_code
def yX11_gain : MethodName := ⟨RX11, "gain", "()I"⟩
def RJx145de : String := "java/io/Serializable"
def TJx145de : u_T := fun k => match k with
  | _ => ("", "", "", false)
def tyJx145de : Nat → FieldType := fun k => match k with
  | _ => .int
abbrev wsJx145de0 : List Cond := u_ws RJx145de TJx145de 0
theorem nmJx145de : ∀ a, a < 0 → ∀ b, b < 0 → a ≠ b → (TJx145de a).2.1 ≠ (TJx145de b).2.1 := by decide +kernel
theorem tyJx145de_ok : ∀ k, k < 0 → parseFieldDescriptor (TJx145de k).2.2.1 = some (tyJx145de k) := by decide +kernel
def RJx9f9b0 : String := "java/lang/CharSequence"
def TJx9f9b0 : u_T := fun k => match k with
  | _ => ("", "", "", false)
def tyJx9f9b0 : Nat → FieldType := fun k => match k with
  | _ => .int
abbrev wsJx9f9b00 : List Cond := u_ws RJx9f9b0 TJx9f9b0 0
theorem nmJx9f9b0 : ∀ a, a < 0 → ∀ b, b < 0 → a ≠ b → (TJx9f9b0 a).2.1 ≠ (TJx9f9b0 b).2.1 := by decide +kernel
theorem tyJx9f9b0_ok : ∀ k, k < 0 → parseFieldDescriptor (TJx9f9b0 k).2.2.1 = some (tyJx9f9b0 k) := by decide +kernel
def RJxb160c : String := "java/lang/Comparable"
def TJxb160c : u_T := fun k => match k with
  | _ => ("", "", "", false)
def tyJxb160c : Nat → FieldType := fun k => match k with
  | _ => .int
abbrev wsJxb160c0 : List Cond := u_ws RJxb160c TJxb160c 0
theorem nmJxb160c : ∀ a, a < 0 → ∀ b, b < 0 → a ≠ b → (TJxb160c a).2.1 ≠ (TJxb160c b).2.1 := by decide +kernel
theorem tyJxb160c_ok : ∀ k, k < 0 → parseFieldDescriptor (TJxb160c k).2.2.1 = some (tyJxb160c k) := by decide +kernel
def RJ6 : String := "java/lang/Integer"
def TJ6 : u_T := fun k => match k with
  | _ => ("", "", "", false)
def tyJ6 : Nat → FieldType := fun k => match k with
  | _ => .int
abbrev wsJ60 : List Cond := u_ws RJ6 TJ6 0
theorem nmJ6 : ∀ a, a < 0 → ∀ b, b < 0 → a ≠ b → (TJ6 a).2.1 ≠ (TJ6 b).2.1 := by decide +kernel
theorem tyJ6_ok : ∀ k, k < 0 → parseFieldDescriptor (TJ6 k).2.2.1 = some (tyJ6 k) := by decide +kernel
abbrev cJ6_bitCount_0f7a4 : ByteArray := prog_14_method_49_code
def yJ6_bitCount_0f7a4 : MethodName := ⟨RJ6, "bitCount", "(I)I"⟩
def RJ9 : String := "java/lang/Math"
def TJ9 : u_T := fun k => match k with
  | _ => ("", "", "", false)
def tyJ9 : Nat → FieldType := fun k => match k with
  | _ => .int
abbrev wsJ90 : List Cond := u_ws RJ9 TJ9 0
theorem nmJ9 : ∀ a, a < 0 → ∀ b, b < 0 → a ≠ b → (TJ9 a).2.1 ≠ (TJ9 b).2.1 := by decide +kernel
theorem tyJ9_ok : ∀ k, k < 0 → parseFieldDescriptor (TJ9 k).2.2.1 = some (tyJ9 k) := by decide +kernel
abbrev cJ9_floorMod_7cf53 : ByteArray := prog_15_method_50_code
def yJ9_floorMod_7cf53 : MethodName := ⟨RJ9, "floorMod", "(II)I"⟩
abbrev cJ9_max_7cf53 : ByteArray := prog_15_method_65_code
def yJ9_max_7cf53 : MethodName := ⟨RJ9, "max", "(II)I"⟩
abbrev cJ9_min_7cf53 : ByteArray := prog_15_method_69_code
def yJ9_min_7cf53 : MethodName := ⟨RJ9, "min", "(II)I"⟩
def RJ0 : String := "java/lang/String"
def TJ0 : u_T := fun k => match k with
  | _ => ("", "", "", false)
def tyJ0 : Nat → FieldType := fun k => match k with
  | _ => .int
abbrev wsJ00 : List Cond := u_ws RJ0 TJ0 0
theorem nmJ0 : ∀ a, a < 0 → ∀ b, b < 0 → a ≠ b → (TJ0 a).2.1 ≠ (TJ0 b).2.1 := by decide +kernel
theorem tyJ0_ok : ∀ k, k < 0 → parseFieldDescriptor (TJ0 k).2.2.1 = some (tyJ0 k) := by decide +kernel
abbrev cJ0_length_8abf5 : ByteArray := prog_16_method_54_code
def yJ0_length_8abf5 : MethodName := ⟨RJ0, "length", "()I"⟩
abbrev cJ0_charAt_5068e : ByteArray := prog_16_method_56_code
def yJ0_charAt_5068e : MethodName := ⟨RJ0, "charAt", "(I)C"⟩
abbrev cJ0_coder_7d493 : ByteArray := prog_16_method_152_code
def yJ0_coder_7d493 : MethodName := ⟨RJ0, "coder", "()B"⟩
abbrev cJ0_isLatin1_aae02 : ByteArray := prog_16_method_154_code
def yJ0_isLatin1_aae02 : MethodName := ⟨RJ0, "isLatin1", "()Z"⟩
abbrev cJ0_checkIndex_df160 : ByteArray := prog_16_method_155_code
def yJ0_checkIndex_df160 : MethodName := ⟨RJ0, "checkIndex", "(II)V"⟩
def RJ1 : String := "java/lang/StringLatin1"
def TJ1 : u_T := fun k => match k with
  | _ => ("", "", "", false)
def tyJ1 : Nat → FieldType := fun k => match k with
  | _ => .int
abbrev wsJ10 : List Cond := u_ws RJ1 TJ1 0
theorem nmJ1 : ∀ a, a < 0 → ∀ b, b < 0 → a ≠ b → (TJ1 a).2.1 ≠ (TJ1 b).2.1 := by decide +kernel
theorem tyJ1_ok : ∀ k, k < 0 → parseFieldDescriptor (TJ1 k).2.2.1 = some (tyJ1 k) := by decide +kernel
abbrev cJ1_charAt_3b067 : ByteArray := prog_17_method_2_code
def yJ1_charAt_3b067 : MethodName := ⟨RJ1, "charAt", "([BI)C"⟩
def RJ2 : String := "java/lang/StringUTF16"
def TJ2 : u_T := fun k => match k with
  | _ => ("", "", "", false)
def tyJ2 : Nat → FieldType := fun k => match k with
  | _ => .int
abbrev wsJ20 : List Cond := u_ws RJ2 TJ2 0
theorem nmJ2 : ∀ a, a < 0 → ∀ b, b < 0 → a ≠ b → (TJ2 a).2.1 ≠ (TJ2 b).2.1 := by decide +kernel
theorem tyJ2_ok : ∀ k, k < 0 → parseFieldDescriptor (TJ2 k).2.2.1 = some (tyJ2 k) := by decide +kernel
abbrev cJ2_getChar_3b067 : ByteArray := prog_18_method_5_code
def yJ2_getChar_3b067 : MethodName := ⟨RJ2, "getChar", "([BI)C"⟩
abbrev cJ2_length_9d52b : ByteArray := prog_18_method_6_code
def yJ2_length_9d52b : MethodName := ⟨RJ2, "length", "([B)I"⟩
abbrev cJ2_charAt_3b067 : ByteArray := prog_18_method_83_code
def yJ2_charAt_3b067 : MethodName := ⟨RJ2, "charAt", "([BI)C"⟩
abbrev cJ2_checkIndex_2214a : ByteArray := prog_18_method_91_code
def yJ2_checkIndex_2214a : MethodName := ⟨RJ2, "checkIndex", "(I[B)V"⟩
def RJ10 : String := "java/lang/System"
def TJ10 : u_T := fun k => match k with
  | _ => ("", "", "", false)
def tyJ10 : Nat → FieldType := fun k => match k with
  | _ => .int
abbrev wsJ100 : List Cond := u_ws RJ10 TJ10 0
theorem nmJ10 : ∀ a, a < 0 → ∀ b, b < 0 → a ≠ b → (TJ10 a).2.1 ≠ (TJ10 b).2.1 := by decide +kernel
theorem tyJ10_ok : ∀ k, k < 0 → parseFieldDescriptor (TJ10 k).2.2.1 = some (tyJ10 k) := by decide +kernel
def RJxfd54e : String := "java/lang/constant/Constable"
def TJxfd54e : u_T := fun k => match k with
  | _ => ("", "", "", false)
def tyJxfd54e : Nat → FieldType := fun k => match k with
  | _ => .int
abbrev wsJxfd54e0 : List Cond := u_ws RJxfd54e TJxfd54e 0
theorem nmJxfd54e : ∀ a, a < 0 → ∀ b, b < 0 → a ≠ b → (TJxfd54e a).2.1 ≠ (TJxfd54e b).2.1 := by decide +kernel
theorem tyJxfd54e_ok : ∀ k, k < 0 → parseFieldDescriptor (TJxfd54e k).2.2.1 = some (tyJxfd54e k) := by decide +kernel
def RJx3cf43 : String := "java/lang/constant/ConstantDesc"
def TJx3cf43 : u_T := fun k => match k with
  | _ => ("", "", "", false)
def tyJx3cf43 : Nat → FieldType := fun k => match k with
  | _ => .int
abbrev wsJx3cf430 : List Cond := u_ws RJx3cf43 TJx3cf43 0
theorem nmJx3cf43 : ∀ a, a < 0 → ∀ b, b < 0 → a ≠ b → (TJx3cf43 a).2.1 ≠ (TJx3cf43 b).2.1 := by decide +kernel
theorem tyJx3cf43_ok : ∀ k, k < 0 → parseFieldDescriptor (TJx3cf43 k).2.2.1 = some (tyJx3cf43 k) := by decide +kernel
def RJ7 : String := "java/util/Arrays"
def TJ7 : u_T := fun k => match k with
  | _ => ("", "", "", false)
def tyJ7 : Nat → FieldType := fun k => match k with
  | _ => .int
abbrev wsJ70 : List Cond := u_ws RJ7 TJ7 0
theorem nmJ7 : ∀ a, a < 0 → ∀ b, b < 0 → a ≠ b → (TJ7 a).2.1 ≠ (TJ7 b).2.1 := by decide +kernel
theorem tyJ7_ok : ∀ k, k < 0 → parseFieldDescriptor (TJ7 k).2.2.1 = some (tyJ7 k) := by decide +kernel
abbrev cJ7_fill_53178 : ByteArray := prog_20_method_103_code
def yJ7_fill_53178 : MethodName := ⟨RJ7, "fill", "([II)V"⟩
def RJ3 : String := "jdk/internal/util/Preconditions"
def TJ3 : u_T := fun k => match k with
  | _ => ("", "", "", false)
def tyJ3 : Nat → FieldType := fun k => match k with
  | _ => .int
abbrev wsJ30 : List Cond := u_ws RJ3 TJ3 0
theorem nmJ3 : ∀ a, a < 0 → ∀ b, b < 0 → a ≠ b → (TJ3 a).2.1 ≠ (TJ3 b).2.1 := by decide +kernel
theorem tyJ3_ok : ∀ k, k < 0 → parseFieldDescriptor (TJ3 k).2.2.1 = some (tyJ3 k) := by decide +kernel
abbrev cJ3_checkIndex_8e157 : ByteArray := prog_21_method_11_code
def yJ3_checkIndex_8e157 : MethodName := ⟨RJ3, "checkIndex", "(IILjava/util/function/BiFunction;)I"⟩
def RL : String := "RankedRingLaw"
abbrev cL_law : ByteArray := code
def yL_law : MethodName := ⟨RL, "law", "([I)Z"⟩
abbrev vwCl : List vw_C := [(RX0, TX0, 6), (RX1, TX1, 4), (RX2, TX2, 5), (RX3, TX3, 3), (RX4, TX4, 13), (RX5, TX5, 11), (RX6, TX6, 4), (RX7, TX7, 9), (RX8, TX8, 4), (RX9, TX9, 11), (RX10, TX10, 9), (RX11, TX11, 23)]
/-- the words that hold in every state -/
def wsL_law : List Cond := lw_tbl.filter goodWord
end
section
/-! A heap by a static map: which address holds what, each field a reference to a fixed address or an int with a property. -/
abbrev hF : Type := Nat ⊕ (Int32 → Prop)
abbrev hL : Type := (Nat → Int32 → Prop) ⊕ (Unit ⊕ (Nat → Nat))
abbrev hE : Type := (Nat × List hF) ⊕ (Nat × Nat × hL)
abbrev hW : Type := Nat → Option hE
abbrev hG : Type := va_G × (Nat → ClassId)
def h_ty (t : Nat) : FieldType := match t with
  | 0 => .int
  | 1 => .byte
  | 2 => .boolean
  | 3 => .long
  | 4 => .object "RankedRing$Ring"
  | _ => .object "RankedRing$Tape"
def h_fv (f : hF) (v : Value) : Prop := match f with
  | .inl q => v = .ref q
  | .inr P => ∃ x : Int32, v = .int x ∧ P x
def h_ev (ty : FieldType) (el : hL) (j : Nat) (v : Value) : Prop := match el with
  | .inl P => ∃ x : Int32, v = .int x ∧ fits ty (.int x) = true ∧ P j x
  | .inr (.inl _) => ∃ x : Int64, v = .long x
  | .inr (.inr r) => v = .ref (r j)
def h_at (G : hG) (a : Nat) (e : hE) (H : Heap) : Prop := match e with
  | .inl (ci, fs) => ∃ (r : vw_C) (V : Nat → Value), vwCl[ci]? = some r ∧ t_OB a (G.1.1 ci) r.2.2 (G.1.2 ci) H V ∧ ∀ (k : Nat) (f : hF), fs[k]? = some f → k < r.2.2 ∧ h_fv f (V k)
  | .inr (ty, n, el) => ∃ V : Nat → Value, H[a]? = some (arrV (G.2 ty) n V) ∧ ∀ j : Nat, j < n → h_ev (h_ty ty) el j (V j)
def hT (G : hG) (Y : hW) (H : Heap) : Prop := ∀ (a : Nat) (e : hE), Y a = some e → h_at G a e H
def h_K (G : hG) (U : State) : Prop := (∀ (c : Nat) (q : vw_C), vwCl[c]? = some q → u_Kn U q.1 q.2.1 q.2.2 (G.1.1 c) (G.1.2 c)) ∧ ∀ t : Nat, t < 6 → ArrOfT U (G.2 t) (h_ty t) ∧ va_RA U (G.2 t) (h_ty t)
theorem h_K.moved {G : hG} {u U : State} (hvm : u.vm.Alike U.vm) (h : h_K G u) : h_K G U := ⟨fun c q hq => u_Kn_moved hvm (h.1 c q hq), fun t ht => ⟨arrOfT_moved hvm (h.2 t ht).1, (h.2 t ht).2.moved hvm⟩⟩
theorem h_K.va {G : hG} {U : State} (h : h_K G U) : va_K G.1 vwCl [(G.2 0, .int), (G.2 1, .byte), (G.2 2, .boolean), (G.2 3, .long)] U := by
  refine ⟨h.1, fun k q hk => ?_⟩
  match k, hk with
  | 0, hk => cases hk; exact h.2 0 (by decide)
  | 1, hk => cases hk; exact h.2 1 (by decide)
  | 2, hk => cases hk; exact h.2 2 (by decide)
  | 3, hk => cases hk; exact h.2 3 (by decide)
  | k + 4, hk => simp at hk
def h_A (Y : hW) : Nat → Prop := fun q => ∃ e, Y q = some e
/-- what an int field, an int element holds -/
def h_i (v : Value) : Int32 := match v with
  | .int x => x
  | _ => 0
def h_gv (G : hG) (H : Heap) (ci a k : Nat) : Value := match H[a]? with
  | some c => (c.slots[G.1.2 ci k]?).getD .null
  | none => .null
def h_av (H : Heap) (a j : Nat) : Value := match H[a]? with
  | some c => (c.slots[j]?).getD .null
  | none => .null
def h_gi (G : hG) (H : Heap) (ci a k : Nat) : Int32 := h_i (h_gv G H ci a k)
def h_ai (H : Heap) (a j : Nat) : Int32 := h_i (h_av H a j)
theorem h_gv_eq {G : hG} {H : Heap} {ci a k : Nat} {cell : Cell} {v : Value} (h1 : H[a]? = some cell) (h2 : cell.slots[G.1.2 ci k]? = some v) : h_gv G H ci a k = v := by
  simp [h_gv, h1, h2]
theorem h_av_eq {H : Heap} {a j : Nat} {cell : Cell} {v : Value} (h1 : H[a]? = some cell) (h2 : cell.slots[j]? = some v) : h_av H a j = v := by
  simp [h_av, h1, h2]
theorem h_gv_same {G : hG} {H H1 : Heap} {ci a k : Nat} (h : H1[a]? = H[a]?) : h_gv G H1 ci a k = h_gv G H ci a k := by simp [h_gv, h]
theorem h_gi_same {G : hG} {H H1 : Heap} {ci a k : Nat} (h : H1[a]? = H[a]?) : h_gi G H1 ci a k = h_gi G H ci a k := by simp [h_gi, h_gv, h]
theorem h_ai_same {H H1 : Heap} {a j : Nat} (h : H1[a]? = H[a]?) : h_ai H1 a j = h_ai H a j := by simp [h_ai, h_av, h]
theorem h_at.kept {G : hG} {a : Nat} {e : hE} {H H1 : Heap} (h : h_at G a e H) (hq : H1[a]? = H[a]?) : h_at G a e H1 := by
  cases e with
  | inl o => obtain ⟨r, V, h1, h2, h3⟩ := h; exact ⟨r, V, h1, h2.kept hq, h3⟩
  | inr o => obtain ⟨V, h1, h2⟩ := h; exact ⟨V, hq.trans h1, h2⟩
/-- a field of ints: what it holds has its property -/
theorem hT.gi {G : hG} {Y : hW} {H : Heap} (h : hT G Y H) {a ci : Nat} {fs : List hF} (ha : Y a = some (.inl (ci, fs))) (k : Nat) {P : Int32 → Prop} (hf : fs[k]? = some (.inr P)) : P (h_gi G H ci a k) ∧ h_gv G H ci a k = .int (h_gi G H ci a k) := by
  obtain ⟨r, V, -, ⟨cell, q1, -, -, q4⟩, hV⟩ := h a _ ha
  obtain ⟨hk, x, hx, hP⟩ := hV k _ hf
  have e := h_gv_eq (G := G) (ci := ci) q1 (q4 k hk)
  have e2 : h_gi G H ci a k = x := by unfold h_gi; rw [e, hx]; rfl
  rw [e2, e, hx]
  exact ⟨hP, rfl⟩
theorem hT.ai {G : hG} {Y : hW} {H : Heap} (h : hT G Y H) {a ty n : Nat} {P : Nat → Int32 → Prop} (ha : Y a = some (.inr (ty, n, .inl P))) {j : Nat} (hj : j < n) : P j (h_ai H a j) ∧ fits (h_ty ty) (.int (h_ai H a j)) = true ∧ h_av H a j = .int (h_ai H a j) := by
  obtain ⟨V, h1, h2⟩ := h a _ ha
  obtain ⟨x, hx, hfit, hP⟩ := h2 j hj
  have e := h_av_eq (j := j) h1 (arrV_read _ V hj)
  have e2 : h_ai H a j = x := by unfold h_ai; rw [e, hx]; rfl
  rw [e2, e, hx]
  exact ⟨hP, hfit, rfl⟩
theorem hT.arr {G : hG} {Y : hW} {H : Heap} (h : hT G Y H) {a ty n : Nat} {P : Nat → Int32 → Prop} (ha : Y a = some (.inr (ty, n, .inl P))) : H[a]? = some (arrV (G.2 ty) n (fun j => .int (h_ai H a j))) := by
  obtain ⟨V, h1, h2⟩ := h a _ ha
  rw [h1]
  congr 1
  unfold arrV
  congr 1
  apply Array.ext
  · simp
  · intro i hi1 hi2
    have hi : i < n := by simpa using hi1
    obtain ⟨x, hx, hfit, hP⟩ := h2 i hi
    have e := h_av_eq (j := i) h1 (arrV_read _ V hi)
    have e2 : h_ai H a i = x := by unfold h_ai; rw [e, hx]; rfl
    simp [e2, hx]
/-- a heap that differs in one cell alone -/
def h_put (G : hG) (H H1 : Heap) (ci a k : Nat) (v : Value) : Prop := H1.size = H.size ∧ (∀ q : Nat, q ≠ a → H1[q]? = H[q]?) ∧ h_gv G H1 ci a k = v ∧ ∀ (j : Nat) (r : vw_C), vwCl[ci]? = some r → j < r.2.2 → j ≠ k → h_gv G H1 ci a j = h_gv G H ci a j
def h_apu (H H1 : Heap) (a k : Nat) (v : Value) : Prop := H1.size = H.size ∧ (∀ q : Nat, q ≠ a → H1[q]? = H[q]?) ∧ h_av H1 a k = v ∧ ∀ j : Nat, j ≠ k → h_av H1 a j = h_av H a j
theorem hT.kept {G : hG} {Y : hW} {H H1 : Heap} (h : hT G Y H) {a : Nat} {e : hE} (ha : Y a = some e) (he : h_at G a e H1) (oq : ∀ q : Nat, q ≠ a → H1[q]? = H[q]?) : hT G Y H1 := by
  intro b e' hb
  by_cases hba : b = a
  · subst hba
    rw [ha] at hb
    cases hb
    exact he
  · exact (h b e' hb).kept (oq b hba)
theorem va_S.one {A : Nat → Prop} {H0 H H1 : Heap} {locs : List Loc} {a k : Nat} (h : va_S A H0 H locs) (z : H1.size = H.size) (oq : ∀ q : Nat, q ≠ a → H1[q]? = H[q]?) (ha : A a) : va_S A H0 H1 (locs ++ [⟨a, k⟩]) := h.put z oq ha
section HR
variable {p : Program} {l : Launch} {e : Env} {R : Room} {s : State} {m : MethodId} {args : Array Value} {below : List Frame} {meth : Method} {c : Code} {H : Heap} {locs : List Loc} {cells slots : Nat} {Q : State → Prop}
variable {cc : ByteArray} {pc : Nat} {ls : Array Slot} {rest : List Value} {G : hG} {Y : hW} {A : Nat → Prop} {a : Nat} {H0 : Heap}
/-- getfield -/
theorem h_getv (hexec : p.tables.exec = Jvm.exec) (hb : c.code = cc) (hts : ∀ w ∈ wsL_law, w.before args s = true) {own ref C : String} {T : u_T} {N ci index : Nat} (hin : ∀ w ∈ u_ws C T N, w ∈ wsL_law) (hown : s.vm.findClass own = some m.cls) (hK : h_K G s) (hT : hT G Y H) {fs : List hF} (ha : Y a = some (.inl (ci, fs))) (hc : vwCl[ci]? = some (C, T, N)) (k : Nat) {f : hF} (hf : fs[k]? = some f) (hlink : Cond.fieldLink own index ref (T k).2.1 (T k).2.2.1 ∈ wsL_law) (hsame : (T k).1 = ref) (hdg : decode cc pc = .ok (.getfield index, 3))
    (kk : ∀ v : Value, h_gv G H ci a k = v → h_fv f v → W p l e R s m args below meth c H locs cells slots Q (F0 m (pc + 3) ls (v :: rest))) : W p l e R s m args below meth c H locs cells slots Q (F0 m pc ls (.ref a :: rest)) := by
  obtain ⟨r, V, h1, ⟨cell, q1, q2, q3, q4⟩, hV⟩ := hT a _ ha
  have hr : r = (C, T, N) := Option.some.inj (h1.symm.trans hc)
  subst hr
  obtain ⟨hk, hfv⟩ := hV k _ hf
  obtain ⟨hS, hfc, kC, hkC, hkind⟩ := hK.1 ci _ hc
  obtain ⟨cf, kf, fi, f', hi, hsl⟩ := hS k hk
  have hi2 : s.fieldFound? ref (T k).2.1 (T k).2.2.1 = some (cf, kf, fi, f') := by rw [← hsame]; exact hi
  have hv := q4 k hk
  refine W.getf hexec hb hown (hts _ hlink) hi2 (u_facts hfc hkC (u_lays hts hin hk) hi).1 q1 (by rw [q3]; exact fun h => by cases h) (v := V k) ?_ rfl rfl hdg (kk _ (h_gv_eq q1 hv) hfv)
  rw [hsl]; exact hv
theorem h_geti (hexec : p.tables.exec = Jvm.exec) (hb : c.code = cc) (hts : ∀ w ∈ wsL_law, w.before args s = true) {own ref C : String} {T : u_T} {N ci index : Nat} (hin : ∀ w ∈ u_ws C T N, w ∈ wsL_law) (hown : s.vm.findClass own = some m.cls) (hK : h_K G s) (hT : hT G Y H) {fs : List hF} (ha : Y a = some (.inl (ci, fs))) (hc : vwCl[ci]? = some (C, T, N)) (k : Nat) {P : Int32 → Prop} (hf : fs[k]? = some (.inr P)) (hlink : Cond.fieldLink own index ref (T k).2.1 (T k).2.2.1 ∈ wsL_law) (hsame : (T k).1 = ref) (hdg : decode cc pc = .ok (.getfield index, 3))
    (kk : P (h_gi G H ci a k) → W p l e R s m args below meth c H locs cells slots Q (F0 m (pc + 3) ls (.int (h_gi G H ci a k) :: rest))) : W p l e R s m args below meth c H locs cells slots Q (F0 m pc ls (.ref a :: rest)) :=
  h_getv hexec hb hts hin hown hK hT ha hc k hf hlink hsame hdg (fun v hv hp => by
    obtain ⟨h1, h2⟩ := hT.gi ha k hf
    rw [← hv, h2]
    exact kk h1)
theorem h_getr (hexec : p.tables.exec = Jvm.exec) (hb : c.code = cc) (hts : ∀ w ∈ wsL_law, w.before args s = true) {own ref C : String} {T : u_T} {N ci index : Nat} (hin : ∀ w ∈ u_ws C T N, w ∈ wsL_law) (hown : s.vm.findClass own = some m.cls) (hK : h_K G s) (hT : hT G Y H) {fs : List hF} (ha : Y a = some (.inl (ci, fs))) (hc : vwCl[ci]? = some (C, T, N)) (k : Nat) {q : Nat} (hf : fs[k]? = some (.inl q)) (hlink : Cond.fieldLink own index ref (T k).2.1 (T k).2.2.1 ∈ wsL_law) (hsame : (T k).1 = ref) (hdg : decode cc pc = .ok (.getfield index, 3))
    (kk : W p l e R s m args below meth c H locs cells slots Q (F0 m (pc + 3) ls (.ref q :: rest))) : W p l e R s m args below meth c H locs cells slots Q (F0 m pc ls (.ref a :: rest)) :=
  h_getv hexec hb hts hin hown hK hT ha hc k hf hlink hsame hdg (fun v _ hp => by
    have hp : v = .ref q := hp
    rw [hp]
    exact kk)
theorem h_apart {own C : String} {T : u_T} {N ci : Nat} (hts : ∀ w ∈ wsL_law, w.before args s = true) (hin : ∀ w ∈ u_ws C T N, w ∈ wsL_law) (ty : Nat → FieldType) (hty : ∀ k, k < N → parseFieldDescriptor (T k).2.2.1 = some (ty k)) (hnm : ∀ a, a < N → ∀ b, b < N → a ≠ b → (T a).2.1 ≠ (T b).2.1) (hK : h_K G s) (hc : vwCl[ci]? = some (C, T, N)) : ∀ x y, x < N → y < N → x ≠ y → (G.1.2 ci) x ≠ (G.1.2 ci) y :=
  va_apart (own := own) hts hin ty hty hnm hK.va hc
/-- putfield of an int -/
theorem h_puti (hexec : p.tables.exec = Jvm.exec) (hb : c.code = cc) (hts : ∀ w ∈ wsL_law, w.before args s = true) {own ref C : String} {T : u_T} {N ci index : Nat} (hin : ∀ w ∈ u_ws C T N, w ∈ wsL_law) (ty0 : Nat → FieldType) (hty : ∀ k, k < N → parseFieldDescriptor (T k).2.2.1 = some (ty0 k)) (hnm : ∀ a, a < N → ∀ b, b < N → a ≠ b → (T a).2.1 ≠ (T b).2.1) (hown : s.vm.findClass own = some m.cls) (hK : h_K G s) (hT0 : hT G Y H) (hA : ∀ q, h_A Y q → A q) (hS0 : va_S A H0 H locs) {fs : List hF} (ha : Y a = some (.inl (ci, fs))) (hc : vwCl[ci]? = some (C, T, N)) (k : Nat) {P : Int32 → Prop} (hf : fs[k]? = some (.inr P)) (hlink : Cond.fieldLink own index ref (T k).2.1 (T k).2.2.1 ∈ wsL_law) (hsame : (T k).1 = ref) (hfin : (T k).2.2.2 = false) {x : Int32} (hP : P x) (hn : narrow (ty0 k) (.int x) = .int x) (hfit : fits (ty0 k) (.int x) = true)
    (hdg : decode cc pc = .ok (.putfield index, 3)) (kk : ∀ (H1 : Heap) (locs1 : List Loc), hT G Y H1 → va_S A H0 H1 locs1 → h_put G H H1 ci a k (.int x) → W p l e R s m args below meth c H1 locs1 cells slots Q (F0 m (pc + 3) ls rest)) : W p l e R s m args below meth c H locs cells slots Q (F0 m pc ls (.int x :: .ref a :: rest)) := by
  have hap := h_apart (own := own) hts hin ty0 hty hnm hK hc
  obtain ⟨r, V, h1, ⟨cell, q1, q2, q3, q4⟩, hV⟩ := hT0 a _ ha
  have hr : r = (C, T, N) := Option.some.inj (h1.symm.trans hc)
  subst hr
  obtain ⟨hk, -⟩ := hV k _ hf
  obtain ⟨hS, hfc, kC, hkC, hkind⟩ := hK.1 ci _ hc
  obtain ⟨cf, kf, fi, f', hi, hsl⟩ := hS k hk
  have hi2 : s.fieldFound? ref (T k).2.1 (T k).2.2.1 = some (cf, kf, fi, f') := by rw [← hsame]; exact hi
  have hlay := hts _ (hin _ (u_in_lay hk))
  unfold u_lay at hlay
  rw [if_neg (by rw [hfin]; decide)] at hlay
  have hst := (u_facts hfc hkC (u_lays hts hin hk) hi).1
  have h6 := u_store hfc hkC hkind hlay hi (hty k hk) hn hfit
  refine W.putK hexec hb (f := f') ⟨hown, hts _ hlink, ⟨_, _, _, hi2⟩, hst⟩ (by rw [q2]; exact h6) q1 q3 (by rw [hsl]; exact k2_hasslot (q4 k hk)) rfl rfl hdg fun H' e1 e2 e3 => ?_
  rw [hsl] at e1 ⊢
  have hset := t_set q4 hap hk (.int x)
  refine kk H' _ (hT0.kept ha ⟨_, updV V k (.int x), hc, ⟨_, e1, q2, q3, hset⟩, fun j f hj => ?_⟩ e3) (hS0.one e2 e3 (hA _ ⟨_, ha⟩)) ⟨e2, e3, ?_, fun j r hr hj hjk => ?_⟩
  · obtain ⟨hj1, hj2⟩ := hV j f hj
    refine ⟨hj1, ?_⟩
    by_cases hjk : j = k
    · subst hjk
      rw [hf] at hj
      cases hj
      exact ⟨x, by simp [updV], hP⟩
    · have : updV V k (.int x) j = V j := by simp [updV, hjk]
      rw [this]; exact hj2
  · have := h_gv_eq (G := G) (ci := ci) e1 (hset k hk)
    rw [this]; simp [updV]
  · have hr' : r = (C, T, N) := Option.some.inj (hr.symm.trans hc)
    subst hr'
    rw [h_gv_eq (G := G) (ci := ci) e1 (hset j hj), h_gv_eq (G := G) (ci := ci) q1 (q4 j hj)]
    simp [updV, hjk]
end HR
section HR2
variable {p : Program} {l : Launch} {e : Env} {R : Room} {s : State} {m : MethodId} {args : Array Value} {below : List Frame} {meth : Method} {c : Code} {H : Heap} {locs : List Loc} {cells slots : Nat} {Q : State → Prop}
variable {cc : ByteArray} {pc : Nat} {ls : Array Slot} {rest : List Value} {G : hG} {Y : hW} {A : Nat → Prop} {a : Nat} {H0 : Heap}
theorem h_iald (hexec : p.tables.exec = Jvm.exec) (hb : c.code = cc) (hK : h_K G s) (hT0 : hT G Y H) {n : Nat} {P : Nat → Int32 → Prop} (ha : Y a = some (.inr (0, n, .inl P))) {i : Int32} (hin : vp_in i n) (hdg : decode cc pc = .ok (.iaload, 1))
    (kk : P i.toNatClampNeg (h_ai H a i.toNatClampNeg) → W p l e R s m args below meth c H locs cells slots Q (F0 m (pc + 1) ls (.int (h_ai H a i.toNatClampNeg) :: rest))) : W p l e R s m args below meth c H locs cells slots Q (F0 m pc ls (.int i :: .ref a :: rest)) := by
  have hlt : i.toNatClampNeg < n := Nat.not_le.mp fun q => hin (Or.inr q)
  exact W.iald (v := .int (h_ai H a i.toNatClampNeg)) hexec hb (hT0.arr ha) ((hK.2 0 (by decide)).1 n (fun j => .int (h_ai H a j))) (fun q => by cases q) (by show ¬ (i < 0 ∨ (arrV _ _ _).slots.size ≤ _); rw [arrV_size]; exact hin) (by show (arrV _ _ _).slots[_]? = _; rw [arrV_read _ _ hlt]) rfl rfl hdg (kk (hT0.ai ha hlt).1)
theorem h_bald (hexec : p.tables.exec = Jvm.exec) (hb : c.code = cc) (hK : h_K G s) (hT0 : hT G Y H) {n : Nat} {P : Nat → Int32 → Prop} (ha : Y a = some (.inr (1, n, .inl P))) {i : Int32} (hin : vp_in i n) (hdg : decode cc pc = .ok (.baload, 1))
    (kk : P i.toNatClampNeg (h_ai H a i.toNatClampNeg) → W p l e R s m args below meth c H locs cells slots Q (F0 m (pc + 1) ls (.int (h_ai H a i.toNatClampNeg) :: rest))) : W p l e R s m args below meth c H locs cells slots Q (F0 m pc ls (.int i :: .ref a :: rest)) := by
  have hlt : i.toNatClampNeg < n := Nat.not_le.mp fun q => hin (Or.inr q)
  exact W.bald (v := .int (h_ai H a i.toNatClampNeg)) hexec hb (hT0.arr ha) ((hK.2 1 (by decide)).1 n (fun j => .int (h_ai H a j))) (fun q => by cases q) (by show ¬ (i < 0 ∨ (arrV _ _ _).slots.size ≤ _); rw [arrV_size]; exact hin) (by show (arrV _ _ _).slots[_]? = _; rw [arrV_read _ _ hlt]) rfl rfl hdg (kk (hT0.ai ha hlt).1)
theorem h_zald (hexec : p.tables.exec = Jvm.exec) (hb : c.code = cc) (hK : h_K G s) (hT0 : hT G Y H) {n : Nat} {P : Nat → Int32 → Prop} (ha : Y a = some (.inr (2, n, .inl P))) {i : Int32} (hin : vp_in i n) (hdg : decode cc pc = .ok (.baload, 1))
    (kk : P i.toNatClampNeg (h_ai H a i.toNatClampNeg) → W p l e R s m args below meth c H locs cells slots Q (F0 m (pc + 1) ls (.int (h_ai H a i.toNatClampNeg) :: rest))) : W p l e R s m args below meth c H locs cells slots Q (F0 m pc ls (.int i :: .ref a :: rest)) := by
  have hlt : i.toNatClampNeg < n := Nat.not_le.mp fun q => hin (Or.inr q)
  exact W.zald (v := .int (h_ai H a i.toNatClampNeg)) hexec hb (hT0.arr ha) ((hK.2 2 (by decide)).1 n (fun j => .int (h_ai H a j))) (fun q => by cases q) (by show ¬ (i < 0 ∨ (arrV _ _ _).slots.size ≤ _); rw [arrV_size]; exact hin) (by show (arrV _ _ _).slots[_]? = _; rw [arrV_read _ _ hlt]) rfl rfl hdg (kk (hT0.ai ha hlt).1)
theorem h_arrset {H1 : Heap} {ty n : Nat} {P : Nat → Int32 → Prop} (hT0 : hT G Y H) (ha : Y a = some (.inr (ty, n, .inl P))) {k : Nat} (hk : k < n) {x : Int32} (hfit : fits (h_ty ty) (.int x) = true) (hP : P k x)
    (e1 : H1[a]? = some ((arrV (G.2 ty) n (fun j => .int (h_ai H a j))).setSlot k (.int x))) (e2 : H1.size = H.size) (e3 : ∀ q : Nat, q ≠ a → H1[q]? = H[q]?) : hT G Y H1 ∧ h_apu H H1 a k (.int x) := by
  rw [arrV_store] at e1
  have hv : ∀ j : Nat, j < n → h_av H1 a j = updV (fun j => .int (h_ai H a j)) k (.int x) j := fun j hj => h_av_eq e1 (arrV_read _ _ hj)
  refine ⟨hT0.kept ha ⟨_, e1, fun j hj => ?_⟩ e3, e2, e3, ?_, fun j hjk => ?_⟩
  · by_cases hjk : j = k
    · subst hjk
      exact ⟨x, by simp [updV], hfit, hP⟩
    · obtain ⟨h1, h2, -⟩ := hT0.ai ha hj
      exact ⟨h_ai H a j, by simp [updV, hjk], h2, h1⟩
  · rw [hv k hk]; simp [updV]
  · by_cases hj : j < n
    · rw [hv j hj, (hT0.ai ha hj).2.2]
      simp [updV, hjk]
    · have h0 := hT0.arr ha
      have hs : ∀ V : Nat → Value, (arrV (G.2 ty) n V).slots[j]? = none := fun V => by
        apply Array.getElem?_eq_none
        rw [arrV_size]; omega
      unfold h_av
      rw [e1, h0]
      simp only [hs]
theorem h_iast (hexec : p.tables.exec = Jvm.exec) (hb : c.code = cc) (hK : h_K G s) (hT0 : hT G Y H) (hA : ∀ q, h_A Y q → A q) (hS0 : va_S A H0 H locs) {n : Nat} {P : Nat → Int32 → Prop} (ha : Y a = some (.inr (0, n, .inl P))) {i x : Int32} (hin : vp_in i n) (hP : P i.toNatClampNeg x) (hdg : decode cc pc = .ok (.iastore, 1))
    (kk : ∀ (H1 : Heap) (locs1 : List Loc), hT G Y H1 → va_S A H0 H1 locs1 → h_apu H H1 a i.toNatClampNeg (.int x) → W p l e R s m args below meth c H1 locs1 cells slots Q (F0 m (pc + 1) ls rest)) : W p l e R s m args below meth c H locs cells slots Q (F0 m pc ls (.int x :: .int i :: .ref a :: rest)) := by
  have hlt : i.toNatClampNeg < n := Nat.not_le.mp fun q => hin (Or.inr q)
  refine W.iast hexec hb (hT0.arr ha) ((hK.2 0 (by decide)).1 n (fun j => .int (h_ai H a j))) (fun q => by cases q) (by show ¬ (i < 0 ∨ (arrV _ _ _).slots.size ≤ _); rw [arrV_size]; exact hin) rfl rfl hdg fun H1 e1 e2 e3 => ?_
  obtain ⟨g1, g2⟩ := h_arrset hT0 ha hlt rfl hP e1 e2 e3
  exact kk H1 _ g1 (hS0.one e2 e3 (hA _ ⟨_, ha⟩)) g2
theorem h_narb (x : Int32) : narrow .byte (.int x) = .int (vp_nar .byte x) ∧ fits .byte (.int (vp_nar .byte x)) = true := ⟨rfl, by rw [vp_nar_byte]; exact pk_fb x⟩
theorem h_bast (hexec : p.tables.exec = Jvm.exec) (hb : c.code = cc) (hK : h_K G s) (hT0 : hT G Y H) (hA : ∀ q, h_A Y q → A q) (hS0 : va_S A H0 H locs) {n : Nat} {P : Nat → Int32 → Prop} (ha : Y a = some (.inr (1, n, .inl P))) {i x : Int32} (hin : vp_in i n) (hP : P i.toNatClampNeg (vp_nar .byte x)) (hdg : decode cc pc = .ok (.bastore, 1))
    (kk : ∀ (H1 : Heap) (locs1 : List Loc), hT G Y H1 → va_S A H0 H1 locs1 → h_apu H H1 a i.toNatClampNeg (.int (vp_nar .byte x)) → W p l e R s m args below meth c H1 locs1 cells slots Q (F0 m (pc + 1) ls rest)) : W p l e R s m args below meth c H locs cells slots Q (F0 m pc ls (.int x :: .int i :: .ref a :: rest)) := by
  have hlt : i.toNatClampNeg < n := Nat.not_le.mp fun q => hin (Or.inr q)
  refine W.bast hexec hb (hT0.arr ha) ((hK.2 1 (by decide)).1 n (fun j => .int (h_ai H a j))) (fun q => by cases q) (by show ¬ (i < 0 ∨ (arrV _ _ _).slots.size ≤ _); rw [arrV_size]; exact hin) rfl rfl hdg fun H1 e1 e2 e3 => ?_
  obtain ⟨g1, g2⟩ := h_arrset hT0 ha hlt (h_narb x).2 hP e1 e2 e3
  exact kk H1 _ g1 (hS0.one e2 e3 (hA _ ⟨_, ha⟩)) g2
theorem h_zast (hexec : p.tables.exec = Jvm.exec) (hb : c.code = cc) (hK : h_K G s) (hT0 : hT G Y H) (hA : ∀ q, h_A Y q → A q) (hS0 : va_S A H0 H locs) {n : Nat} {P : Nat → Int32 → Prop} (ha : Y a = some (.inr (2, n, .inl P))) {i x : Int32} (hin : vp_in i n) (hx01 : x = 0 ∨ x = 1) (hP : P i.toNatClampNeg x) (hdg : decode cc pc = .ok (.bastore, 1))
    (kk : ∀ (H1 : Heap) (locs1 : List Loc), hT G Y H1 → va_S A H0 H1 locs1 → h_apu H H1 a i.toNatClampNeg (.int x) → W p l e R s m args below meth c H1 locs1 cells slots Q (F0 m (pc + 1) ls rest)) : W p l e R s m args below meth c H locs cells slots Q (F0 m pc ls (.int x :: .int i :: .ref a :: rest)) := by
  have hlt : i.toNatClampNeg < n := Nat.not_le.mp fun q => hin (Or.inr q)
  have hnx : narrow .boolean (.int x) = .int x := by rcases hx01 with rfl | rfl <;> rfl
  have hfx : fits .boolean (.int x) = true := by rcases hx01 with rfl | rfl <;> rfl
  refine W.zast hexec hb (hT0.arr ha) ((hK.2 2 (by decide)).1 n (fun j => .int (h_ai H a j))) (fun q => by cases q) (by show ¬ (i < 0 ∨ (arrV _ _ _).slots.size ≤ _); rw [arrV_size]; exact hin) rfl rfl hdg fun H1 e1 e2 e3 => ?_
  rw [hnx] at e1
  obtain ⟨g1, g2⟩ := h_arrset hT0 ha hlt hfx hP e1 e2 e3
  exact kk H1 _ g1 (hS0.one e2 e3 (hA _ ⟨_, ha⟩)) g2
theorem h_aald (hexec : p.tables.exec = Jvm.exec) (hb : c.code = cc) (hK : h_K G s) (hT0 : hT G Y H) {n ty : Nat} (h4 : ty = 4 ∨ ty = 5) {r : Nat → Nat} (ha : Y a = some (.inr (ty, n, .inr (.inr r)))) {i : Int32} (hin : vp_in i n) (hdg : decode cc pc = .ok (.aaload, 1))
    (kk : W p l e R s m args below meth c H locs cells slots Q (F0 m (pc + 1) ls (.ref (r i.toNatClampNeg) :: rest))) : W p l e R s m args below meth c H locs cells slots Q (F0 m pc ls (.int i :: .ref a :: rest)) := by
  have hlt : i.toNatClampNeg < n := Nat.not_le.mp fun q => hin (Or.inr q)
  obtain ⟨V, h1, h2⟩ := hT0 a _ ha
  have hv : V i.toNatClampNeg = .ref (r i.toNatClampNeg) := h2 _ hlt
  refine W.aald (v := .ref (r i.toNatClampNeg)) (ty := h_ty ty) hexec hb h1 ((hK.2 ty (by omega)).1 n V) (by rcases h4 with rfl | rfl <;> rfl) (fun q => by cases q) (by show ¬ (i < 0 ∨ (arrV _ _ _).slots.size ≤ _); rw [arrV_size]; exact hin) (by show (arrV _ _ _).slots[_]? = _; rw [arrV_read _ _ hlt, hv]) rfl rfl hdg kk
theorem h_alen (hexec : p.tables.exec = Jvm.exec) (hb : c.code = cc) (hK : h_K G s) (hT0 : hT G Y H) {n ty : Nat} (h4 : ty < 6) {el : hL} (ha : Y a = some (.inr (ty, n, el))) {v : Int32} (hv : Int32.ofNat n = v) (hdg : decode cc pc = .ok (.arraylength, 1))
    (kk : W p l e R s m args below meth c H locs cells slots Q (F0 m (pc + 1) ls (.int v :: rest))) : W p l e R s m args below meth c H locs cells slots Q (F0 m pc ls (.ref a :: rest)) := by
  obtain ⟨V, h1, h2⟩ := hT0 a _ ha
  refine W.alen (n := v) hexec hb h1 ((hK.2 ty h4).1 n V) ?_ rfl rfl hdg kk
  show (arrV _ _ _).slots.size.toInt32 = v
  rw [arrV_size]
  exact hv
end HR2
theorem h_good : GoodIn wsL_law wsL_law := fun w hw => ⟨hw, good_of_word (List.mem_filter.mp hw).2⟩
theorem h_places {ws : List Cond} (ps : List Nat) (h : ws.map some = ps.map (fun i => tables_1[i]?)) (hg : ws.all goodWord = true) : ∀ w ∈ ws, w ∈ wsL_law := fun w hw => by
  refine List.mem_filter.mpr ⟨List.mem_append_right _ ?_, List.all_eq_true.mp hg w hw⟩
  have h1 : some w ∈ ws.map some := List.mem_map.mpr ⟨w, hw, rfl⟩
  rw [h] at h1
  obtain ⟨i, -, hi⟩ := List.mem_map.mp h1
  exact List.mem_of_getElem? hi
theorem h_inT {w : Cond} (i : Nat) (h : tables_1[i]? = some w) (hg : goodWord w = true) : w ∈ wsL_law := List.mem_filter.mpr ⟨List.mem_append_right _ (List.mem_of_getElem? h), hg⟩
theorem h_inP {w : Cond} (i : Nat) (h : (k2_sels lw_privs)[i]? = some w) (hg : goodWord w = true) : w ∈ wsL_law := List.mem_filter.mpr ⟨List.mem_append_left _ (List.mem_of_getElem? h), hg⟩
theorem h_hts {args : Array Value} {s : State} (h : ∀ w ∈ lw_tbl, w.before args s = true) : ∀ w ∈ wsL_law, w.before args s = true := fun w hw => h w (List.mem_filter.mp hw).1
def h_Pre (G : hG) (Y : hW) (H0 : Heap) (U : State) : Prop := U.heap = H0 ∧ hT G Y H0 ∧ h_K G U
theorem h_blind {G : hG} {Y : hW} {H0 : Heap} {av : List Value} : FrameBlind (va_Pc av (h_Pre G Y H0)) := fun a U g mk q => by
  obtain ⟨q0, q1, q2, q3⟩ := q
  exact ⟨q0, q1, q2, h_K.moved (u := U) (U := U.calling g mk a) (Vm.Alike.refl U.vm) q3⟩
abbrev h_Qi (G : hG) (Y : hW) (Po : Int32 → Heap → Prop) : Array Value → State → Outcome → State → Prop := va_Qi (S := Heap) (fun r u => Po r u ∧ hT G Y u) (fun u t => t.heap = u) (h_A Y)
abbrev h_Qv (G : hG) (Y : hW) (Po : Heap → Prop) : Array Value → State → Outcome → State → Prop := va_Qv (S := Heap) (fun u => Po u ∧ hT G Y u) (fun u t => t.heap = u) (h_A Y)
abbrev h_rm (fr lo : Nat) : Room := { frames := fr, cells := 0, slots := 0, locals := lo }
/-- a method's contract: its answer and its heap behind, over a static map Y -/
def hMi (l : Launch) (y : MethodName) (cc : ByteArray) (mL : Nat) (ret : Option FieldType) (fr lo : Nat) (G : hG) (Y : hW) (av : List Value) (Pr : Heap → Prop) (Po : Heap → Int32 → Heap → Prop) : Prop :=
  ∀ H0 : Heap, Pr H0 → Met l y (.code y cc mL ret :: wsL_law) (h_rm fr lo) (va_Pc av (h_Pre G Y H0)) (h_Qi G Y (Po H0)) 0 0 (h_A Y)
def hMv (l : Launch) (y : MethodName) (cc : ByteArray) (mL : Nat) (ret : Option FieldType) (fr lo : Nat) (G : hG) (Y : hW) (av : List Value) (Pr : Heap → Prop) (Po : Heap → Heap → Prop) : Prop :=
  ∀ H0 : Heap, Pr H0 → Met l y (.code y cc mL ret :: wsL_law) (h_rm fr lo) (va_Pc av (h_Pre G Y H0)) (h_Qv G Y (Po H0)) 0 0 (h_A Y)
/-- the words of a method, and how many arguments it takes -/
def h_wd (y : MethodName) (cc : ByteArray) (mL : Nat) (ret : Option FieldType) (n : Nat) : Prop :=
  (Cond.code y cc mL ret ∈ wsL_law ∧ Cond.initialized y.cls ∈ wsL_law) ∧ y.cls ≠ "java/lang/invoke/MethodHandle" ∧ y.cls ≠ "java/lang/invoke/VarHandle" ∧ (parseMethodDescriptor y.desc).map (fun d => d.parameters.length) = some n
def h_wV (y : MethodName) : Prop := Cond.instanceMethod y ∈ wsL_law ∧ Cond.selects y.cls y y ∈ wsL_law
def h_wS (y : MethodName) : Prop := Cond.static y ∈ wsL_law
theorem h_ws {y : MethodName} {cc : ByteArray} {mL : Nat} {ret : Option FieldType} {n : Nat} (h : h_wd y cc mL ret n) : GoodIn wsL_law (.code y cc mL ret :: wsL_law) := fun w hw => by
  rcases List.mem_cons.mp hw with rfl | hw
  · exact h_good _ h.1.1
  · exact h_good _ hw
section HC
variable {p : Program} {l : Launch} {e : Env} {R : Room} {s : State} {m : MethodId} {args : Array Value} {below : List Frame} {meth : Method} {c : Code} {H : Heap} {locs : List Loc} {cells slots : Nat} {Q : State → Prop}
variable {cc : ByteArray} {pc nL : Nat} {ls : Array Slot} {rest st0 As : List Value} {G : hG} {Y : hW} {A : Nat → Prop} {b : Nat} {H0 : Heap} {own : String} {index : Nat}
variable {y : MethodName} {bytes : ByteArray} {maxL fr lo n ci N : Nat} {ret : Option FieldType} {T : u_T} {fs : List hF} {Pr : Heap → Prop}
theorem h_cb (hts : ∀ w ∈ wsL_law, w.before args s = true) (hw : h_wd y bytes maxL ret n) (hlink : Cond.methodLink own index y ∈ wsL_law) (hR : fr + 1 ≤ R.frames ∧ 8 + (maxL + 11) + lo ≤ R.locals) : CallB R s args own index y bytes maxL ret (.code y bytes maxL ret :: wsL_law) (h_rm fr lo) 0 0 n :=
  callB_of n hts (h_ws hw) rfl rfl rfl (hts _ hw.1.2) (hts _ hlink) hw.2 hR
theorem h_recv (hK : h_K G s) (hT0 : hT G Y H) (hbY : Y b = some (.inl (ci, fs))) {C : String} (hc : vwCl[ci]? = some (C, T, N)) : ∃ cellB : Cell, H[b]? = some cellB ∧ cellB.vm.isStatics = false ∧ s.vm.findClass C = some cellB.cls := by
  obtain ⟨r, V, h1, ⟨cell, q1, q2, q3, q4⟩, hV⟩ := hT0 b _ hbY
  refine ⟨cell, q1, by rw [q3]; rfl, ?_⟩
  rw [q2]
  exact (hK.1 ci _ hc).2.1
theorem h_callVi (hx : p.tables.exec = Jvm.exec) (hb : c.code = cc) (hml : c.maxLocals = nL) (hown : s.vm.findClass own = some m.cls) (hts : ∀ w ∈ wsL_law, w.before args s = true) (hK : h_K G s) (hT0 : hT G Y H) (hA : ∀ q, h_A Y q → A q) (hS : va_S A H0 H locs) {Po : Heap → Int32 → Heap → Prop}
    (hM : hMi l y bytes maxL ret fr lo G Y (.ref b :: As) Pr Po) (hpr : Pr H) (hw : h_wd y bytes maxL ret n) (hwV : h_wV y) (hlink : Cond.methodLink own index y ∈ wsL_law) (hbY : Y b = some (.inl (ci, fs))) (hc : vwCl[ci]? = some (y.cls, T, N)) (hn : As.length = n) (hls : ls.size = nL) (hst : st0 = As.reverse ++ .ref b :: rest) (hroom : (rest.map fun v => v.category).sum ≤ 8) (hdg : decode cc pc = .ok (.invokevirtual index, 3)) (hR : fr + 1 ≤ R.frames ∧ 8 + (maxL + 11) + lo ≤ R.locals) (hf : cells ≤ R.cells ∧ slots ≤ R.slots)
    (kk : ∀ (r : Int32) (H1 : Heap) (locs1 : List Loc), Po H r H1 → hT G Y H1 → va_S A H0 H1 locs1 → (∀ q : Nat, q < H.size → ¬ h_A Y q → H1[q]? = H[q]?) → W p l e R s m args below meth c H1 locs1 cells slots Q (F0 m (pc + 3) ls (.int r :: rest))) : W p l e R s m args below meth c H locs cells slots Q (F0 m pc ls st0) := by
  refine va_calli (va_runV (C := y.cls) (As := As) (rest := rest) (n := n) ⟨hx, hb, hml, hown, hts⟩ (hM H hpr) ⟨h_cb hts hw hlink hR, hts _ hwV.1, hts _ hwV.2⟩ ⟨h_blind, h_recv hK hT0 hbY hc, fun U hU hW => ⟨rfl, hU, hT0, hK.moved hW.alike⟩⟩ rfl hn hls hst (lv_room hroom) hdg hf) hS (fun q _ h => hA q h) (fun q h => hA q h) (fun r u t H1 locs1 ht hvm hp hB hz hk hS1 => ?_)
  have hu : u = H1 := by rw [← hB]; exact ht
  subst hu
  exact kk r u locs1 hp.1 hp.2 hS1 hk
theorem h_callVv (hx : p.tables.exec = Jvm.exec) (hb : c.code = cc) (hml : c.maxLocals = nL) (hown : s.vm.findClass own = some m.cls) (hts : ∀ w ∈ wsL_law, w.before args s = true) (hK : h_K G s) (hT0 : hT G Y H) (hA : ∀ q, h_A Y q → A q) (hS : va_S A H0 H locs) {Po : Heap → Heap → Prop}
    (hM : hMv l y bytes maxL ret fr lo G Y (.ref b :: As) Pr Po) (hpr : Pr H) (hw : h_wd y bytes maxL ret n) (hwV : h_wV y) (hlink : Cond.methodLink own index y ∈ wsL_law) (hbY : Y b = some (.inl (ci, fs))) (hc : vwCl[ci]? = some (y.cls, T, N)) (hn : As.length = n) (hls : ls.size = nL) (hst : st0 = As.reverse ++ .ref b :: rest) (hroom : (rest.map fun v => v.category).sum ≤ 8) (hdg : decode cc pc = .ok (.invokevirtual index, 3)) (hR : fr + 1 ≤ R.frames ∧ 8 + (maxL + 11) + lo ≤ R.locals) (hf : cells ≤ R.cells ∧ slots ≤ R.slots)
    (kk : ∀ (H1 : Heap) (locs1 : List Loc), Po H H1 → hT G Y H1 → va_S A H0 H1 locs1 → (∀ q : Nat, q < H.size → ¬ h_A Y q → H1[q]? = H[q]?) → W p l e R s m args below meth c H1 locs1 cells slots Q (F0 m (pc + 3) ls rest)) : W p l e R s m args below meth c H locs cells slots Q (F0 m pc ls st0) := by
  refine va_callv (va_runV (C := y.cls) (As := As) (rest := rest) (n := n) ⟨hx, hb, hml, hown, hts⟩ (hM H hpr) ⟨h_cb hts hw hlink hR, hts _ hwV.1, hts _ hwV.2⟩ ⟨h_blind, h_recv hK hT0 hbY hc, fun U hU hW => ⟨rfl, hU, hT0, hK.moved hW.alike⟩⟩ rfl hn hls hst (lv_room hroom) hdg hf) hS (fun q _ h => hA q h) (fun q h => hA q h) (fun u t H1 locs1 ht hvm hp hB hz hk hS1 => ?_)
  have hu : u = H1 := by rw [← hB]; exact ht
  subst hu
  exact kk u locs1 hp.1 hp.2 hS1 hk
theorem h_callSi (hx : p.tables.exec = Jvm.exec) (hb : c.code = cc) (hml : c.maxLocals = nL) (hown : s.vm.findClass own = some m.cls) (hts : ∀ w ∈ wsL_law, w.before args s = true) (hK : h_K G s) (hT0 : hT G Y H) (hA : ∀ q, h_A Y q → A q) (hS : va_S A H0 H locs) {Po : Heap → Int32 → Heap → Prop}
    (hM : hMi l y bytes maxL ret fr lo G Y As Pr Po) (hpr : Pr H) (hw : h_wd y bytes maxL ret n) (hwS : h_wS y) (hlink : Cond.methodLink own index y ∈ wsL_law) (hn : As.length = n) (hls : ls.size = nL) (hst : st0 = As.reverse ++ rest) (hroom : (rest.map fun v => v.category).sum ≤ 8) (hdg : decode cc pc = .ok (.invokestatic index, 3)) (hR : fr + 1 ≤ R.frames ∧ 8 + (maxL + 11) + lo ≤ R.locals) (hf : cells ≤ R.cells ∧ slots ≤ R.slots)
    (kk : ∀ (r : Int32) (H1 : Heap) (locs1 : List Loc), Po H r H1 → hT G Y H1 → va_S A H0 H1 locs1 → (∀ q : Nat, q < H.size → ¬ h_A Y q → H1[q]? = H[q]?) → W p l e R s m args below meth c H1 locs1 cells slots Q (F0 m (pc + 3) ls (.int r :: rest))) : W p l e R s m args below meth c H locs cells slots Q (F0 m pc ls st0) := by
  refine va_calli (va_runS (As := As) (rest := rest) (n := n) ⟨hx, hb, hml, hown, hts⟩ (hM H hpr) ⟨h_cb hts hw hlink hR, hts _ hwS⟩ ⟨h_blind, fun U hU hW => ⟨rfl, hU, hT0, hK.moved hW.alike⟩⟩ rfl hn hls hst (lv_room hroom) hdg hf) hS (fun q _ h => hA q h) (fun q h => hA q h) (fun r u t H1 locs1 ht hvm hp hB hz hk hS1 => ?_)
  have hu : u = H1 := by rw [← hB]; exact ht
  subst hu
  exact kk r u locs1 hp.1 hp.2 hS1 hk
theorem h_callSv (hx : p.tables.exec = Jvm.exec) (hb : c.code = cc) (hml : c.maxLocals = nL) (hown : s.vm.findClass own = some m.cls) (hts : ∀ w ∈ wsL_law, w.before args s = true) (hK : h_K G s) (hT0 : hT G Y H) (hA : ∀ q, h_A Y q → A q) (hS : va_S A H0 H locs) {Po : Heap → Heap → Prop}
    (hM : hMv l y bytes maxL ret fr lo G Y As Pr Po) (hpr : Pr H) (hw : h_wd y bytes maxL ret n) (hwS : h_wS y) (hlink : Cond.methodLink own index y ∈ wsL_law) (hn : As.length = n) (hls : ls.size = nL) (hst : st0 = As.reverse ++ rest) (hroom : (rest.map fun v => v.category).sum ≤ 8) (hdg : decode cc pc = .ok (.invokestatic index, 3)) (hR : fr + 1 ≤ R.frames ∧ 8 + (maxL + 11) + lo ≤ R.locals) (hf : cells ≤ R.cells ∧ slots ≤ R.slots)
    (kk : ∀ (H1 : Heap) (locs1 : List Loc), Po H H1 → hT G Y H1 → va_S A H0 H1 locs1 → (∀ q : Nat, q < H.size → ¬ h_A Y q → H1[q]? = H[q]?) → W p l e R s m args below meth c H1 locs1 cells slots Q (F0 m (pc + 3) ls rest)) : W p l e R s m args below meth c H locs cells slots Q (F0 m pc ls st0) := by
  refine va_callv (va_runS (As := As) (rest := rest) (n := n) ⟨hx, hb, hml, hown, hts⟩ (hM H hpr) ⟨h_cb hts hw hlink hR, hts _ hwS⟩ ⟨h_blind, fun U hU hW => ⟨rfl, hU, hT0, hK.moved hW.alike⟩⟩ rfl hn hls hst (lv_room hroom) hdg hf) hS (fun q _ h => hA q h) (fun q h => hA q h) (fun u t H1 locs1 ht hvm hp hB hz hk hS1 => ?_)
  have hu : u = H1 := by rw [← hB]; exact ht
  subst hu
  exact kk u locs1 hp.1 hp.2 hS1 hk
end HC
section HO
variable {l : Launch} {y : MethodName} {cc : ByteArray} {mL fr lo : Nat} {G : hG} {Y : hW} {av : List Value} {Pr : Heap → Prop}
/-- a contract out of the walk of its body; Q: what the walk comes to; hret: the way there -/
theorem h_ofi {Po : Heap → Int32 → Heap → Prop} (hy : plainName y.cls = true) (hfit : (lg_sl av).length ≤ mL)
    (body : ∀ (p : Program) (e : Env) (s : State) (m : MethodId) (args : Array Value) (below : List Frame) (meth : Method) (c : Code) (H : Heap) (ls : Array Slot) (Q : State → Prop), p.tables.exec = Jvm.exec → c.code = cc → (∀ w ∈ wsL_law, w.before args s = true) → s.vm.findClass y.cls = some m.cls → c.maxLocals = mL → h_K G s → hT G Y H → Pr H → va_S (h_A Y) s.heap H [] → lv_has ls mL (lv_args 0 av) →
      (∀ (H1 : Heap) (locs : List Loc) (pc : Nat) (ls : Array Slot) (x : Int32), hT G Y H1 → va_S (h_A Y) s.heap H1 locs → Po H x H1 → decode cc pc = .ok (.ireturn, 1) → W p l e (h_rm fr lo) s m args below meth c H1 locs 0 0 Q (F0 m pc ls [.int x])) →
      W p l e (h_rm fr lo) s m args below meth c H [] 0 0 Q (F0 m 0 ls [])) : hMi l y cc mL (some .int) fr lo G Y av Pr Po := by
  intro H0 hpr
  refine Met.ofW (cc := cc) (maxL := mL) (ret := some .int) hy rfl ?_
  intro p e s m args below meth c s₁ B hml hv
  obtain ⟨rfl, hh, hT0, hK⟩ := hv
  have hts := atoms_spec (ws := .code y cc mL (some .int) :: wsL_law) B.pre
  subst hh
  have hl := lv_entry av (n := mL) hfit
  rw [lg_entry_eq]
  generalize (lg_sl av ++ List.replicate (mL - (lg_sl av).length) Slot.unset).toArray = ls at hl ⊢
  exact body p e s m av.toArray below meth c s.heap ls _ B.exec B.bytes (fun w hw => hts w (List.mem_cons_of_mem _ hw)) (findClass_of_methodNamed B.named) hml hK hT0 hpr va_S.rf hl
    (fun H1 locs pc ls x hT1 hS1 hp hdg => W.iret B.exec B.bytes B.returns (fun t ht hW => ⟨⟨x, H1, rfl, ⟨hp, hT1⟩, ht⟩, hS1.F ht⟩) hS1.2.2 hdg B.notSynchronized)
theorem h_ofz {Po : Heap → Int32 → Heap → Prop} (hy : plainName y.cls = true) (hfit : (lg_sl av).length ≤ mL)
    (body : ∀ (p : Program) (e : Env) (s : State) (m : MethodId) (args : Array Value) (below : List Frame) (meth : Method) (c : Code) (H : Heap) (ls : Array Slot) (Q : State → Prop), p.tables.exec = Jvm.exec → c.code = cc → (∀ w ∈ wsL_law, w.before args s = true) → s.vm.findClass y.cls = some m.cls → c.maxLocals = mL → h_K G s → hT G Y H → Pr H → va_S (h_A Y) s.heap H [] → lv_has ls mL (lv_args 0 av) →
      (∀ (H1 : Heap) (locs : List Loc) (pc : Nat) (ls : Array Slot) (x : Int32), hT G Y H1 → va_S (h_A Y) s.heap H1 locs → (x = 0 ∨ x = 1) ∧ Po H x H1 → decode cc pc = .ok (.ireturn, 1) → W p l e (h_rm fr lo) s m args below meth c H1 locs 0 0 Q (F0 m pc ls [.int x])) →
      W p l e (h_rm fr lo) s m args below meth c H [] 0 0 Q (F0 m 0 ls [])) : hMi l y cc mL (some .boolean) fr lo G Y av Pr Po := by
  intro H0 hpr
  refine Met.ofW (cc := cc) (maxL := mL) (ret := some .boolean) hy rfl ?_
  intro p e s m args below meth c s₁ B hml hv
  obtain ⟨rfl, hh, hT0, hK⟩ := hv
  have hts := atoms_spec (ws := .code y cc mL (some .boolean) :: wsL_law) B.pre
  subst hh
  have hl := lv_entry av (n := mL) hfit
  rw [lg_entry_eq]
  generalize (lg_sl av ++ List.replicate (mL - (lg_sl av).length) Slot.unset).toArray = ls at hl ⊢
  exact body p e s m av.toArray below meth c s.heap ls _ B.exec B.bytes (fun w hw => hts w (List.mem_cons_of_mem _ hw)) (findClass_of_methodNamed B.named) hml hK hT0 hpr va_S.rf hl
    (fun H1 locs pc ls x hT1 hS1 hp hdg => W.zret B.exec B.bytes B.returns (by rcases hp.1 with rfl | rfl <;> rfl) (fun t ht hW => ⟨⟨x, H1, rfl, ⟨hp.2, hT1⟩, ht⟩, hS1.F ht⟩) hS1.2.2 hdg B.notSynchronized)
theorem h_ofv {Po : Heap → Heap → Prop} (hy : plainName y.cls = true) (hfit : (lg_sl av).length ≤ mL)
    (body : ∀ (p : Program) (e : Env) (s : State) (m : MethodId) (args : Array Value) (below : List Frame) (meth : Method) (c : Code) (H : Heap) (ls : Array Slot) (Q : State → Prop), p.tables.exec = Jvm.exec → c.code = cc → (∀ w ∈ wsL_law, w.before args s = true) → s.vm.findClass y.cls = some m.cls → c.maxLocals = mL → h_K G s → hT G Y H → Pr H → va_S (h_A Y) s.heap H [] → lv_has ls mL (lv_args 0 av) →
      (∀ (H1 : Heap) (locs : List Loc) (pc : Nat) (ls : Array Slot), hT G Y H1 → va_S (h_A Y) s.heap H1 locs → Po H H1 → decode cc pc = .ok (.return_, 1) → W p l e (h_rm fr lo) s m args below meth c H1 locs 0 0 Q (F0 m pc ls [])) →
      W p l e (h_rm fr lo) s m args below meth c H [] 0 0 Q (F0 m 0 ls [])) : hMv l y cc mL none fr lo G Y av Pr Po := by
  intro H0 hpr
  refine Met.ofW (cc := cc) (maxL := mL) (ret := none) hy rfl ?_
  intro p e s m args below meth c s₁ B hml hv
  obtain ⟨rfl, hh, hT0, hK⟩ := hv
  have hts := atoms_spec (ws := .code y cc mL none :: wsL_law) B.pre
  subst hh
  have hl := lv_entry av (n := mL) hfit
  rw [lg_entry_eq]
  generalize (lg_sl av ++ List.replicate (mL - (lg_sl av).length) Slot.unset).toArray = ls at hl ⊢
  exact body p e s m av.toArray below meth c s.heap ls _ B.exec B.bytes (fun w hw => hts w (List.mem_cons_of_mem _ hw)) (findClass_of_methodNamed B.named) hml hK hT0 hpr va_S.rf hl
    (fun H1 locs pc ls hT1 hS1 hp hdg => W.vret B.exec B.bytes B.returns (fun t ht hW => ⟨⟨H1, rfl, ⟨hp, hT1⟩, ht⟩, hS1.F ht⟩) hS1.2.2 hdg B.notSynchronized)
end HO
end
section
/-! The objects of the class and of the reference, as they lie in the heap: one behind the other, from an address on. -/
abbrev hTb : Type := (Nat → Nat → Int32 → Prop) × (Nat → Nat → Int32 → Prop)
def h_On (Y : hW) (a : Nat) (L : List hE) : Prop := ∀ (i : Nat) (e : hE), L[i]? = some e → Y (a + i) = some e
theorem h_On.at {Y : hW} {a : Nat} {L : List hE} (h : h_On Y a L) (i : Nat) {e : hE} (hi : L[i]? = some e) : Y (a + i) = some e := h i e hi
theorem h_On.o {Y : hW} {a : Nat} {L : List hE} (h : h_On Y a L) {e : hE} (hi : L[0]? = some e) : Y a = some e := h 0 e hi
theorem h_On.left {Y : hW} {a : Nat} {L1 L2 : List hE} (h : h_On Y a (L1 ++ L2)) : h_On Y a L1 := fun i e hi => h i e (by
  rw [List.getElem?_append_left (List.getElem?_eq_some_iff.mp hi).1]; exact hi)
theorem h_On.right {Y : hW} {a : Nat} {L1 L2 : List hE} (h : h_On Y a (L1 ++ L2)) (k : Nat) (hk : L1.length = k) : h_On Y (a + k) L2 := fun i e hi => by
  subst hk
  rw [Nat.add_assoc]
  exact h _ e (by rw [List.getElem?_append_right (Nat.le_add_right _ _), Nat.add_sub_cancel_left]; exact hi)
abbrev aI (t : hTb) (n r : Nat) : hE := .inr (0, n, .inl (t.2 r))
abbrev stE (t : hTb) (a : Nat) : List hE := [.inl (7, [.inl (a + 1), .inl (a + 2), .inl (a + 3), .inl (a + 4), .inl (a + 5), .inr (t.1 7 5), .inr (t.1 7 6), .inr (t.1 7 7), .inr (t.1 7 8)]), aI t 8 700, .inr (2, 8, .inl (t.2 701)), aI t 8 702, aI t 8 703, aI t 8 704]
abbrev quE (t : hTb) (a : Nat) : List hE := [.inl (2, [.inl (a + 1), .inl (a + 2), .inl (a + 3), .inl (a + 4), .inl (a + 5)]), aI t 48 200, aI t 48 201, aI t 48 202, aI t 48 203, aI t 8 204]
abbrev raE (t : hTb) (a : Nat) : List hE := [.inl (3, [.inl (a + 1), .inl (a + 2), .inl (a + 3)]), aI t 64 300, aI t 64 301, aI t 8 302]
abbrev waE (t : hTb) (_ : Nat) : List hE := [.inl (9, [.inr (t.1 9 0), .inr (t.1 9 1), .inr (t.1 9 2), .inr (t.1 9 3), .inr (t.1 9 4), .inr (t.1 9 5), .inr (t.1 9 6), .inr (t.1 9 7), .inr (t.1 9 8), .inr (t.1 9 9), .inr (t.1 9 10)])]
abbrev siE (t : hTb) (_ : Nat) : List hE := [.inl (6, [.inr (t.1 6 0), .inr (t.1 6 1), .inr (t.1 6 2), .inr (t.1 6 3)])]
abbrev boE (t : hTb) (a : Nat) : List hE := [.inl (0, [.inl (a + 1), .inl (a + 2), .inl (a + 3), .inl (a + 4), .inl (a + 5), .inr (t.1 0 5)]), aI t 10 0, aI t 8 1, aI t 8 2, aI t 96 3, aI t 72 4]
abbrev taE (t : hTb) (a : Nat) : List hE := [.inl (8, [.inl (a + 1), .inr (t.1 8 1), .inr (t.1 8 2), .inr (t.1 8 3)]), .inr (1, 500, .inl (t.2 800))]
abbrev rgE (t : hTb) (a : Nat) : hE := .inl (5, [.inl (a + 1), .inl (a + 7), .inl (a + 13), .inl (a + 17), .inl (a + 18), .inl (a + 19), .inr (t.1 5 6), .inr (t.1 5 7), .inr (t.1 5 8), .inr (t.1 5 9), .inr (t.1 5 10)])
def ringE (t : hTb) (a : Nat) : List hE := [rgE t a] ++ (stE t (a + 1) ++ (quE t (a + 7) ++ (raE t (a + 13) ++ (waE t (a + 17) ++ (siE t (a + 18) ++ boE t (a + 19))))))
abbrev paE (t : hTb) (a r c : Nat) : List hE := [.inl (1, [.inl r, .inl c, .inl (a + 1), .inl (a + 2)]), aI t 48 102, aI t 48 103]
abbrev reE (t : hTb) (a tp r : Nat) : List hE := [.inl (4, [.inl tp, .inl r, .inl (a + 1), .inl (a + 2), .inr (t.1 4 4), .inr (t.1 4 5), .inr (t.1 4 6), .inr (t.1 4 7), .inr (t.1 4 8), .inr (t.1 4 9), .inr (t.1 4 10), .inr (t.1 4 11), .inr (t.1 4 12)]), aI t 8 402, aI t 8 403]
abbrev rrE (t : hTb) (a : Nat) : hE := .inl (10, [.inl (a + 1), .inl (a + 3), .inl (a + 28), .inl (a + 53), .inl (a + 56), .inl (a + 59), .inl (a + 60), .inr (t.1 10 7), .inr (t.1 10 8)])
abbrev mkE (a : Nat) : List hE := [.inr (4, 4, .inr (.inr (fun j => a + 61 + 27 * j))), .inr (5, 4, .inr (.inr (fun j => a + 61 + 27 * j + 25)))]
def wldE (t : hTb) (a : Nat) : List hE := [rrE t a] ++ (taE t (a + 1) ++ (ringE t (a + 3) ++ (ringE t (a + 28) ++ (paE t (a + 53) (a + 3) (a + 28) ++ (reE t (a + 56) (a + 1) (a + 28) ++ (mkE a ++ (ringE t (a + 61) ++ (taE t (a + 86) ++ (ringE t (a + 88) ++ (taE t (a + 113) ++ (ringE t (a + 115) ++ (taE t (a + 140) ++ (ringE t (a + 142) ++ taE t (a + 167))))))))))))))
def modE (t : hTb) (a : Nat) : List hE := [.inl (11, [.inl (a + 1), .inr (t.1 11 1), .inr (t.1 11 2), .inr (t.1 11 3), .inr (t.1 11 4), .inr (t.1 11 5), .inr (t.1 11 6), .inl (a + 2), .inl (a + 3), .inl (a + 4), .inr (t.1 11 10), .inr (t.1 11 11), .inr (t.1 11 12), .inr (t.1 11 13), .inr (t.1 11 14), .inr (t.1 11 15), .inr (t.1 11 16), .inr (t.1 11 17), .inr (t.1 11 18), .inr (t.1 11 19), .inr (t.1 11 20), .inl (a + 5), .inl (a + 6)]), aI t 3600 1100, .inr (1, 500, .inl (t.2 1107)), .inr (1, 500, .inl (t.2 1108)), .inr (3, 8, .inr (.inl ())), aI t 48 1121, aI t 96 1122]
theorem ringE_len (t : hTb) (a : Nat) : (ringE t a).length = 25 := rfl
set_option maxRecDepth 100000 in
theorem wldE_len (t : hTb) (a : Nat) : (wldE t a).length = 169 := rfl
section RG
variable {Y : hW} {t : hTb} {a : Nat}
theorem on_rg (h : h_On Y a (ringE t a)) : Y a = some (rgE t a) := h.at 0 rfl
theorem on_st (h : h_On Y a (ringE t a)) : h_On Y (a + 1) (stE t (a + 1)) := (h.right 1 rfl).left
theorem on_qu (h : h_On Y a (ringE t a)) : h_On Y (a + 7) (quE t (a + 7)) := ((h.right 1 rfl).right 6 rfl).left
theorem on_ra (h : h_On Y a (ringE t a)) : h_On Y (a + 13) (raE t (a + 13)) := (((h.right 1 rfl).right 6 rfl).right 6 rfl).left
theorem on_wa (h : h_On Y a (ringE t a)) : h_On Y (a + 17) (waE t (a + 17)) := ((((h.right 1 rfl).right 6 rfl).right 6 rfl).right 4 rfl).left
theorem on_si (h : h_On Y a (ringE t a)) : h_On Y (a + 18) (siE t (a + 18)) := (((((h.right 1 rfl).right 6 rfl).right 6 rfl).right 4 rfl).right 1 rfl).left
theorem on_bo (h : h_On Y a (ringE t a)) : h_On Y (a + 19) (boE t (a + 19)) := (((((h.right 1 rfl).right 6 rfl).right 6 rfl).right 4 rfl).right 1 rfl).right 1 rfl
theorem on_w0 (h : h_On Y a (wldE t a)) : Y a = some (rrE t a) := h.at 0 rfl
theorem on_wt (h : h_On Y a (wldE t a)) : h_On Y (a + 1) (taE t (a + 1)) := (h.right 1 rfl).left
theorem on_wr (h : h_On Y a (wldE t a)) : h_On Y (a + 3) (ringE t (a + 3)) := ((h.right 1 rfl).right 2 rfl).left
theorem on_ws (h : h_On Y a (wldE t a)) : h_On Y (a + 28) (ringE t (a + 28)) := (((h.right 1 rfl).right 2 rfl).right 25 rfl).left
theorem on_wp (h : h_On Y a (wldE t a)) : h_On Y (a + 53) (paE t (a + 53) (a + 3) (a + 28)) := ((((h.right 1 rfl).right 2 rfl).right 25 rfl).right 25 rfl).left
theorem on_we (h : h_On Y a (wldE t a)) : h_On Y (a + 56) (reE t (a + 56) (a + 1) (a + 28)) := (((((h.right 1 rfl).right 2 rfl).right 25 rfl).right 25 rfl).right 3 rfl).left
theorem on_wm (h : h_On Y a (wldE t a)) : h_On Y (a + 59) (mkE a) := ((((((h.right 1 rfl).right 2 rfl).right 25 rfl).right 25 rfl).right 3 rfl).right 3 rfl).left
theorem on_wk (h : h_On Y a (wldE t a)) : h_On Y (a + 61) (ringE t (a + 61) ++ (taE t (a + 86) ++ (ringE t (a + 88) ++ (taE t (a + 113) ++ (ringE t (a + 115) ++ (taE t (a + 140) ++ (ringE t (a + 142) ++ taE t (a + 167)))))))) := ((((((h.right 1 rfl).right 2 rfl).right 25 rfl).right 25 rfl).right 3 rfl).right 3 rfl).right 2 rfl
theorem on_kr (h : h_On Y a (wldE t a)) {j : Nat} (hj : j < 4) : h_On Y (a + 61 + 27 * j) (ringE t (a + 61 + 27 * j)) := by
  have k0 := on_wk h
  have k1 := (k0.right 25 rfl).right 2 rfl
  have k2 := (k1.right 25 rfl).right 2 rfl
  have k3 := (k2.right 25 rfl).right 2 rfl
  match j, hj with
  | 0, _ => exact k0.left
  | 1, _ => exact k1.left
  | 2, _ => exact k2.left
  | 3, _ => exact k3.left
  | j + 4, hj => omega
theorem on_kt (h : h_On Y a (wldE t a)) {j : Nat} (hj : j < 4) : h_On Y (a + 61 + 27 * j + 25) (taE t (a + 61 + 27 * j + 25)) := by
  have k0 := on_wk h
  have k1 := (k0.right 25 rfl).right 2 rfl
  have k2 := (k1.right 25 rfl).right 2 rfl
  have k3 := (k2.right 25 rfl).right 2 rfl
  match j, hj with
  | 0, _ => exact (k0.right 25 rfl).left
  | 1, _ => exact (k1.right 25 rfl).left
  | 2, _ => exact (k2.right 25 rfl).left
  | 3, _ => exact k3.right 25 rfl
  | j + 4, hj => omega
end RG
/-! more rows -/
section HR3
variable {p : Program} {l : Launch} {e : Env} {R : Room} {s : State} {m : MethodId} {args : Array Value} {below : List Frame} {meth : Method} {c : Code} {H : Heap} {locs : List Loc} {cells slots : Nat} {Q : State → Prop}
variable {cc : ByteArray} {pc : Nat} {ls : Array Slot} {rest : List Value} {G : hG} {Y : hW} {A : Nat → Prop} {a : Nat} {H0 : Heap}
/-- the int on top, by another name -/
theorem h_top {x v : Int32} (h : x = v) (kk : W p l e R s m args below meth c H locs cells slots Q (F0 m pc ls (.int v :: rest))) : W p l e R s m args below meth c H locs cells slots Q (F0 m pc ls (.int x :: rest)) := by
  rw [h]; exact kk
/-- a field that holds one int alone -/
theorem h_getc (hexec : p.tables.exec = Jvm.exec) (hb : c.code = cc) (hts : ∀ w ∈ wsL_law, w.before args s = true) {own ref C : String} {T : u_T} {N ci index : Nat} (hin : ∀ w ∈ u_ws C T N, w ∈ wsL_law) (hown : s.vm.findClass own = some m.cls) (hK : h_K G s) (hT0 : hT G Y H) {fs : List hF} (ha : Y a = some (.inl (ci, fs))) (hc : vwCl[ci]? = some (C, T, N)) (k : Nat) {P : Int32 → Prop} (hf : fs[k]? = some (.inr P)) (hlink : Cond.fieldLink own index ref (T k).2.1 (T k).2.2.1 ∈ wsL_law) (hsame : (T k).1 = ref) {v : Int32} (hv : ∀ x : Int32, P x → x = v) (hdg : decode cc pc = .ok (.getfield index, 3))
    (kk : W p l e R s m args below meth c H locs cells slots Q (F0 m (pc + 3) ls (.int v :: rest))) : W p l e R s m args below meth c H locs cells slots Q (F0 m pc ls (.ref a :: rest)) :=
  h_geti hexec hb hts hin hown hK hT0 ha hc k hf hlink hsame hdg (fun h => by rw [hv _ h]; exact kk)
end HR3
end
section
/-- arraycopy of a whole array upon another of its kind -/
def h_cpu (H H1 : Heap) (a a0 N : Nat) : Prop := H1.size = H.size ∧ (∀ q : Nat, q ≠ a → H1[q]? = H[q]?) ∧ ∀ j : Nat, j < N → h_ai H1 a j = h_ai H a0 j
section HR4
variable {p : Program} {l : Launch} {e : Env} {R : Room} {s : State} {m : MethodId} {args : Array Value} {below : List Frame} {meth : Method} {c : Code} {H : Heap} {locs : List Loc} {cells slots : Nat} {Q : State → Prop}
variable {cc : ByteArray} {pc : Nat} {ls : Array Slot} {rest : List Value} {G : hG} {Y : hW} {A : Nat → Prop} {a a0 : Nat} {H0 : Heap}
theorem h_copy (hexec : p.tables.exec = Jvm.exec) (hb : c.code = cc) (hts : ∀ w ∈ wsL_law, w.before args s = true) (hml : c.maxLocals = ls.size) {own : String} {index : Nat} (hown : s.vm.findClass own = some m.cls) (hlink : Cond.methodLink own index arraycopyName ∈ wsL_law) (hnat : Cond.native arraycopyName ∈ wsL_law) (hstat : Cond.static arraycopyName ∈ wsL_law) (hini : Cond.initialized "java/lang/System" ∈ wsL_law)
    (hK : h_K G s) (hT0 : hT G Y H) (hA : ∀ q, h_A Y q → A q) (hS : va_S A H0 H locs) {ty N : Nat} {P0 P1 : Nat → Int32 → Prop} (hty : ty < 3) (ha0 : Y a0 = some (.inr (ty, N, .inl P0))) (ha1 : Y a = some (.inr (ty, N, .inl P1))) (hPP : ∀ (j : Nat) (x : Int32), j < N → P0 j x → P1 j x) {n : Int32} (h3 : ¬ n < 0) (hn : n.toNatClampNeg = N)
    (hframes : 1 ≤ R.frames) (hlocals : (rest.map fun v => v.category).sum + (nativeFrameWords "java/lang/System" "arraycopy" 5 + 11) ≤ R.locals) (hdg : decode cc pc = .ok (.invokestatic index, 3))
    (kk : ∀ (H1 : Heap) (locs1 : List Loc), hT G Y H1 → va_S A H0 H1 locs1 → h_cpu H H1 a a0 N → W p l e R s m args below meth c H1 locs1 cells slots Q (F0 m (pc + 3) ls rest)) : W p l e R s m args below meth c H locs cells slots Q (F0 m pc ls (.int n :: .int 0 :: .ref a :: .int 0 :: .ref a0 :: rest)) := by
  subst hn
  have nn : ∀ z : Int32, ¬ z < 0 → z.toInt = (z.toNatClampNeg : Int) := by
    intro z hz
    have hz0 : (0 : Int) ≤ z.toInt := by
      have := Int32.not_lt.mp hz
      simpa using Int32.le_iff_toInt_le.mp this
    show z.toInt = ((z.toInt.toNat : Nat) : Int)
    omega
  have h1 : ¬ (0 : Int32) < 0 := by decide
  have z0 : (0 : Int32).toNatClampNeg = 0 := by decide
  have hprim : refKind (h_ty ty) = false := by
    match ty, hty with
    | 0, _ => rfl
    | 1, _ => rfl
    | 2, _ => rfl
  intro T hT X
  have hc0 : H[a0]? = some (vp_cell (G.2 ty) (n.toNatClampNeg, .inl (fun j => h_ai H a0 j))) := hT0.arr ha0
  have hc1 : H[a]? = some (vp_cell (G.2 ty) (n.toNatClampNeg, .inl (fun j => h_ai H a j))) := hT0.arr ha1
  obtain ⟨-, k0, hk0, cm0, hkk0⟩ := (hK.2 ty (by omega)).1 n.toNatClampNeg (fun j => .int (h_ai H a0 j))
  obtain ⟨-, k1, hk1, cm1, hkk1⟩ := (hK.2 ty (by omega)).1 n.toNatClampNeg (fun j => .int (h_ai H a j))
  obtain ⟨vm', X', step⟩ := X.arraycopy hexec hown (hts _ hlink) (hts _ hnat) (hts _ hstat) (hts _ hini) (src := a0) (dst := a) (cs := vp_cell (G.2 ty) (n.toNatClampNeg, .inl (fun j => h_ai H a0 j))) (cd := vp_cell (G.2 ty) (n.toNatClampNeg, .inl (fun j => h_ai H a j))) (srcPos := 0) (destPos := 0) (n := n) (by rw [hT]; exact hc0) (by rw [hT]; exact hc1)
    (fun _ h => by cases h) (fun _ h => by cases h) (fun h => by cases h) (fun h => by cases h) hk0 hk1 hkk0 hkk1 (by simp [hprim]) h1 h1 h3
    (by rw [nn 0 h1, nn n h3, z0]; show ¬ _ > ((arrV (G.2 ty) n.toNatClampNeg (fun j => .int (h_ai H a0 j))).slots.size : Int); rw [arrV_size]; omega)
    (by rw [nn 0 h1, nn n h3, z0]; show ¬ _ > ((arrV (G.2 ty) n.toNatClampNeg (fun j => .int (h_ai H a j))).slots.size : Int); rw [arrV_size]; omega)
    (fun vm₁ _ i hi => by
      have e : (vp_cell (G.2 ty) (n.toNatClampNeg, .inl (fun j => h_ai H a0 j))).slots.getD ((0 : Int32).toNatClampNeg + i) .null = .int (h_ai H a0 i) := by
        show (arrV (G.2 ty) n.toNatClampNeg (fun j => .int (h_ai H a0 j))).slots.getD _ _ = _
        rw [Array.getD_eq_getD_getElem?, z0, Nat.zero_add, arrV_read _ _ hi]
        rfl
      refine ⟨?_, ?_⟩
      · rw [e]
        exact (hT0.ai ha0 hi).2.1
      · rw [e]
        exact trivial)
    (g := F0 m pc ls (.int n :: .int 0 :: .ref a :: .int 0 :: .ref a0 :: rest)) rfl (by rw [hml]) (rest := rest) rfl (by rw [hb]; exact hdg) hframes (by show 2 * 0 + _ + _ ≤ _; omega)
  have e1 : copied (vp_cell (G.2 ty) (n.toNatClampNeg, .inl (fun j => h_ai H a0 j))) (vp_cell (G.2 ty) (n.toNatClampNeg, .inl (fun j => h_ai H a j))) 0 0 n = vp_cell (G.2 ty) (n.toNatClampNeg, .inl (va_cpy (fun j => h_ai H a0 j) (fun j => h_ai H a j) (0 : Int32).toNatClampNeg (0 : Int32).toNatClampNeg n.toNatClampNeg)) := va_copied (fun z => .int z) (G.2 ty) (G.2 ty) (fun j => h_ai H a0 j) (fun j => h_ai H a j) (by rw [z0]; omega)
  rw [e1] at X' step
  have hl : a < H.size := (Array.getElem?_eq_some_iff.mp hc1).1
  generalize hV : (va_cpy (fun j => h_ai H a0 j) (fun j => h_ai H a j) (0 : Int32).toNatClampNeg (0 : Int32).toNatClampNeg n.toNatClampNeg) = V at X' step
  have hVj : ∀ j, j < n.toNatClampNeg → V j = h_ai H a0 j := fun j hj => by
    rw [← hV, z0]
    simp [va_cpy, hj]
  have hheap : ((T.setVm vm').setCell a (vp_cell (G.2 ty) (n.toNatClampNeg, .inl V))).heap = H.setIfInBounds a (vp_cell (G.2 ty) (n.toNatClampNeg, .inl V)) := by rw [← hT]; rfl
  have oq : ∀ q : Nat, q ≠ a → (H.setIfInBounds a (vp_cell (G.2 ty) (n.toNatClampNeg, .inl V)))[q]? = H[q]? := fun q hq => by simp [Array.getElem?_setIfInBounds, Ne.symm hq]
  have e2 : (H.setIfInBounds a (vp_cell (G.2 ty) (n.toNatClampNeg, .inl V)))[a]? = some (arrV (G.2 ty) n.toNatClampNeg (fun j => .int (V j))) := by simp [Array.getElem?_setIfInBounds, hl, vp_cell]
  have hv : ∀ j, j < n.toNatClampNeg → h_ai (H.setIfInBounds a (vp_cell (G.2 ty) (n.toNatClampNeg, .inl V))) a j = h_ai H a0 j := fun j hj => by
    unfold h_ai
    rw [h_av_eq e2 (arrV_read _ _ hj)]
    exact hVj j hj
  obtain ⟨t, a1, b1⟩ := kk _ _ (hT0.kept ha1 ⟨_, e2, fun j hj => by
      obtain ⟨g1, g2, -⟩ := hT0.ai ha0 hj
      refine ⟨V j, rfl, ?_, ?_⟩
      · rw [hVj j hj]; exact g2
      · rw [hVj j hj]; exact hPP j _ hj g1⟩ oq)
    ⟨by simp; exact hS.1, fun q g1 g2 => by
      rw [oq q (fun e => g2 (by rw [e]; exact hA _ ⟨_, ha1⟩))]
      exact hS.2.1 q g1 g2, fun q hq => by
      rcases List.mem_append.mp hq with h | h
      · exact hS.2.2 q h
      · obtain ⟨z, -, hz⟩ := List.mem_map.mp h
        rw [← hz]
        exact hA _ ⟨_, ha1⟩⟩ ⟨by simp, oq, hv⟩ _ hheap X'
  exact ⟨t, step t a1, b1⟩
end HR4
theorem h_nz {x : Int32} (h : x = 0 ∨ x = 1) : narrow .boolean (.int x) = .int x := by rcases h with rfl | rfl <;> rfl
theorem h_fz {x : Int32} (h : x = 0 ∨ x = 1) : fits .boolean (.int x) = true := by rcases h with rfl | rfl <;> rfl
theorem h_ix {x M : Int32} {n : Nat} (h0 : ¬ x < 0) (h1 : ¬ M ≤ x) (hM : M.toInt = (n : Int)) : vp_in x n := by
  rw [vp_in_iff]
  simp only [Int32.lt_iff_toInt_lt, Int32.le_iff_toInt_le] at h0 h1
  have : (0 : Int32).toInt = 0 := rfl
  omega
theorem h_pu {G : hG} {H H1 : Heap} {ci a k : Nat} {x : Int32} (h : h_put G H H1 ci a k (.int x)) : h_gi G H1 ci a k = x := by
  unfold h_gi; rw [h.2.2.1]; rfl
theorem h_po {G : hG} {H H1 : Heap} {ci a k : Nat} {v : Value} (h : h_put G H H1 ci a k v) {b cj j : Nat} (hb : b ≠ a) : h_gi G H1 cj b j = h_gi G H cj b j := h_gi_same (h.2.1 b hb)
theorem h_ps {G : hG} {H H1 : Heap} {ci a k : Nat} {v : Value} (h : h_put G H H1 ci a k v) {j : Nat} {r : vw_C} (hr : vwCl[ci]? = some r) (hj : j < r.2.2) (hjk : j ≠ k) : h_gi G H1 ci a j = h_gi G H ci a j := by
  unfold h_gi; rw [h.2.2.2 j r hr hj hjk]
theorem h_pa {G : hG} {H H1 : Heap} {ci a k : Nat} {v : Value} (h : h_put G H H1 ci a k v) {b j : Nat} (hb : b ≠ a) : h_ai H1 b j = h_ai H b j := h_ai_same (h.2.1 b hb)
theorem h_sw5 (x : Int32) : (x.toInt < 0 ∨ 4 < x.toInt) ∨ x = 0 ∨ x = 1 ∨ x = 2 ∨ x = 3 ∨ x = 4 := by
  rcases Classical.em (x.toInt < 0 ∨ 4 < x.toInt) with h | h
  · exact Or.inl h
  · right
    have e : x.toInt = 0 ∨ x.toInt = 1 ∨ x.toInt = 2 ∨ x.toInt = 3 ∨ x.toInt = 4 := by omega
    rcases e with h | h | h | h | h
    · exact Or.inl (Int32.toInt_inj.mp (h.trans rfl))
    · exact Or.inr (Or.inl (Int32.toInt_inj.mp (h.trans rfl)))
    · exact Or.inr (Or.inr (Or.inl (Int32.toInt_inj.mp (h.trans rfl))))
    · exact Or.inr (Or.inr (Or.inr (Or.inl (Int32.toInt_inj.mp (h.trans rfl)))))
    · exact Or.inr (Or.inr (Or.inr (Or.inr (Int32.toInt_inj.mp (h.trans rfl)))))
theorem h_sw6 (x : Int32) : (x.toInt < 0 ∨ 5 < x.toInt) ∨ x = 0 ∨ x = 1 ∨ x = 2 ∨ x = 3 ∨ x = 4 ∨ x = 5 := by
  rcases Classical.em (x.toInt < 0 ∨ 5 < x.toInt) with h | h
  · exact Or.inl h
  · right
    have e : x.toInt = 0 ∨ x.toInt = 1 ∨ x.toInt = 2 ∨ x.toInt = 3 ∨ x.toInt = 4 ∨ x.toInt = 5 := by omega
    rcases e with h | h | h | h | h | h
    · exact Or.inl (Int32.toInt_inj.mp (h.trans rfl))
    · exact Or.inr (Or.inl (Int32.toInt_inj.mp (h.trans rfl)))
    · exact Or.inr (Or.inr (Or.inl (Int32.toInt_inj.mp (h.trans rfl))))
    · exact Or.inr (Or.inr (Or.inr (Or.inl (Int32.toInt_inj.mp (h.trans rfl)))))
    · exact Or.inr (Or.inr (Or.inr (Or.inr (Or.inl (Int32.toInt_inj.mp (h.trans rfl))))))
    · exact Or.inr (Or.inr (Or.inr (Or.inr (Or.inr (Int32.toInt_inj.mp (h.trans rfl))))))
theorem h_sw9 (x : Int32) : (x.toInt < 0 ∨ 8 < x.toInt) ∨ x = 0 ∨ x = 1 ∨ x = 2 ∨ x = 3 ∨ x = 4 ∨ x = 5 ∨ x = 6 ∨ x = 7 ∨ x = 8 := by
  rcases Classical.em (x.toInt < 0 ∨ 8 < x.toInt) with h | h
  · exact Or.inl h
  · right
    have e : x.toInt = 0 ∨ x.toInt = 1 ∨ x.toInt = 2 ∨ x.toInt = 3 ∨ x.toInt = 4 ∨ x.toInt = 5 ∨ x.toInt = 6 ∨ x.toInt = 7 ∨ x.toInt = 8 := by omega
    rcases e with h | h | h | h | h | h | h | h | h
    · exact Or.inl (Int32.toInt_inj.mp (h.trans rfl))
    · exact Or.inr (Or.inl (Int32.toInt_inj.mp (h.trans rfl)))
    · exact Or.inr (Or.inr (Or.inl (Int32.toInt_inj.mp (h.trans rfl))))
    · exact Or.inr (Or.inr (Or.inr (Or.inl (Int32.toInt_inj.mp (h.trans rfl)))))
    · exact Or.inr (Or.inr (Or.inr (Or.inr (Or.inl (Int32.toInt_inj.mp (h.trans rfl))))))
    · exact Or.inr (Or.inr (Or.inr (Or.inr (Or.inr (Or.inl (Int32.toInt_inj.mp (h.trans rfl)))))))
    · exact Or.inr (Or.inr (Or.inr (Or.inr (Or.inr (Or.inr (Or.inl (Int32.toInt_inj.mp (h.trans rfl))))))))
    · exact Or.inr (Or.inr (Or.inr (Or.inr (Or.inr (Or.inr (Or.inr (Or.inl (Int32.toInt_inj.mp (h.trans rfl)))))))))
    · exact Or.inr (Or.inr (Or.inr (Or.inr (Or.inr (Or.inr (Or.inr (Or.inr (Int32.toInt_inj.mp (h.trans rfl)))))))))
theorem h_sw10 (x : Int32) : (x.toInt < 0 ∨ 9 < x.toInt) ∨ x = 0 ∨ x = 1 ∨ x = 2 ∨ x = 3 ∨ x = 4 ∨ x = 5 ∨ x = 6 ∨ x = 7 ∨ x = 8 ∨ x = 9 := by
  rcases Classical.em (x.toInt < 0 ∨ 9 < x.toInt) with h | h
  · exact Or.inl h
  · right
    have e : x.toInt = 0 ∨ x.toInt = 1 ∨ x.toInt = 2 ∨ x.toInt = 3 ∨ x.toInt = 4 ∨ x.toInt = 5 ∨ x.toInt = 6 ∨ x.toInt = 7 ∨ x.toInt = 8 ∨ x.toInt = 9 := by omega
    rcases e with h | h | h | h | h | h | h | h | h | h
    · exact Or.inl (Int32.toInt_inj.mp (h.trans rfl))
    · exact Or.inr (Or.inl (Int32.toInt_inj.mp (h.trans rfl)))
    · exact Or.inr (Or.inr (Or.inl (Int32.toInt_inj.mp (h.trans rfl))))
    · exact Or.inr (Or.inr (Or.inr (Or.inl (Int32.toInt_inj.mp (h.trans rfl)))))
    · exact Or.inr (Or.inr (Or.inr (Or.inr (Or.inl (Int32.toInt_inj.mp (h.trans rfl))))))
    · exact Or.inr (Or.inr (Or.inr (Or.inr (Or.inr (Or.inl (Int32.toInt_inj.mp (h.trans rfl)))))))
    · exact Or.inr (Or.inr (Or.inr (Or.inr (Or.inr (Or.inr (Or.inl (Int32.toInt_inj.mp (h.trans rfl))))))))
    · exact Or.inr (Or.inr (Or.inr (Or.inr (Or.inr (Or.inr (Or.inr (Or.inl (Int32.toInt_inj.mp (h.trans rfl)))))))))
    · exact Or.inr (Or.inr (Or.inr (Or.inr (Or.inr (Or.inr (Or.inr (Or.inr (Or.inl (Int32.toInt_inj.mp (h.trans rfl))))))))))
    · exact Or.inr (Or.inr (Or.inr (Or.inr (Or.inr (Or.inr (Or.inr (Or.inr (Or.inr (Int32.toInt_inj.mp (h.trans rfl))))))))))
theorem h_sw11 (x : Int32) : (x.toInt < 0 ∨ 10 < x.toInt) ∨ x = 0 ∨ x = 1 ∨ x = 2 ∨ x = 3 ∨ x = 4 ∨ x = 5 ∨ x = 6 ∨ x = 7 ∨ x = 8 ∨ x = 9 ∨ x = 10 := by
  rcases Classical.em (x.toInt < 0 ∨ 10 < x.toInt) with h | h
  · exact Or.inl h
  · right
    have e : x.toInt = 0 ∨ x.toInt = 1 ∨ x.toInt = 2 ∨ x.toInt = 3 ∨ x.toInt = 4 ∨ x.toInt = 5 ∨ x.toInt = 6 ∨ x.toInt = 7 ∨ x.toInt = 8 ∨ x.toInt = 9 ∨ x.toInt = 10 := by omega
    rcases e with h | h | h | h | h | h | h | h | h | h | h
    · exact Or.inl (Int32.toInt_inj.mp (h.trans rfl))
    · exact Or.inr (Or.inl (Int32.toInt_inj.mp (h.trans rfl)))
    · exact Or.inr (Or.inr (Or.inl (Int32.toInt_inj.mp (h.trans rfl))))
    · exact Or.inr (Or.inr (Or.inr (Or.inl (Int32.toInt_inj.mp (h.trans rfl)))))
    · exact Or.inr (Or.inr (Or.inr (Or.inr (Or.inl (Int32.toInt_inj.mp (h.trans rfl))))))
    · exact Or.inr (Or.inr (Or.inr (Or.inr (Or.inr (Or.inl (Int32.toInt_inj.mp (h.trans rfl)))))))
    · exact Or.inr (Or.inr (Or.inr (Or.inr (Or.inr (Or.inr (Or.inl (Int32.toInt_inj.mp (h.trans rfl))))))))
    · exact Or.inr (Or.inr (Or.inr (Or.inr (Or.inr (Or.inr (Or.inr (Or.inl (Int32.toInt_inj.mp (h.trans rfl)))))))))
    · exact Or.inr (Or.inr (Or.inr (Or.inr (Or.inr (Or.inr (Or.inr (Or.inr (Or.inl (Int32.toInt_inj.mp (h.trans rfl))))))))))
    · exact Or.inr (Or.inr (Or.inr (Or.inr (Or.inr (Or.inr (Or.inr (Or.inr (Or.inr (Or.inl (Int32.toInt_inj.mp (h.trans rfl)))))))))))
    · exact Or.inr (Or.inr (Or.inr (Or.inr (Or.inr (Or.inr (Or.inr (Or.inr (Or.inr (Or.inr (Int32.toInt_inj.mp (h.trans rfl)))))))))))
theorem h_sw41 (x : Int32) : (x.toInt < 0 ∨ 40 < x.toInt) ∨ x = 0 ∨ x = 1 ∨ x = 2 ∨ x = 3 ∨ x = 4 ∨ x = 5 ∨ x = 6 ∨ x = 7 ∨ x = 8 ∨ x = 9 ∨ x = 10 ∨ x = 11 ∨ x = 12 ∨ x = 13 ∨ x = 14 ∨ x = 15 ∨ x = 16 ∨ x = 17 ∨ x = 18 ∨ x = 19 ∨ x = 20 ∨ x = 21 ∨ x = 22 ∨ x = 23 ∨ x = 24 ∨ x = 25 ∨ x = 26 ∨ x = 27 ∨ x = 28 ∨ x = 29 ∨ x = 30 ∨ x = 31 ∨ x = 32 ∨ x = 33 ∨ x = 34 ∨ x = 35 ∨ x = 36 ∨ x = 37 ∨ x = 38 ∨ x = 39 ∨ x = 40 := by
  rcases Classical.em (x.toInt < 0 ∨ 40 < x.toInt) with h | h
  · exact Or.inl h
  · right
    have e : x.toInt = 0 ∨ x.toInt = 1 ∨ x.toInt = 2 ∨ x.toInt = 3 ∨ x.toInt = 4 ∨ x.toInt = 5 ∨ x.toInt = 6 ∨ x.toInt = 7 ∨ x.toInt = 8 ∨ x.toInt = 9 ∨ x.toInt = 10 ∨ x.toInt = 11 ∨ x.toInt = 12 ∨ x.toInt = 13 ∨ x.toInt = 14 ∨ x.toInt = 15 ∨ x.toInt = 16 ∨ x.toInt = 17 ∨ x.toInt = 18 ∨ x.toInt = 19 ∨ x.toInt = 20 ∨ x.toInt = 21 ∨ x.toInt = 22 ∨ x.toInt = 23 ∨ x.toInt = 24 ∨ x.toInt = 25 ∨ x.toInt = 26 ∨ x.toInt = 27 ∨ x.toInt = 28 ∨ x.toInt = 29 ∨ x.toInt = 30 ∨ x.toInt = 31 ∨ x.toInt = 32 ∨ x.toInt = 33 ∨ x.toInt = 34 ∨ x.toInt = 35 ∨ x.toInt = 36 ∨ x.toInt = 37 ∨ x.toInt = 38 ∨ x.toInt = 39 ∨ x.toInt = 40 := by omega
    rcases e with h | h | h | h | h | h | h | h | h | h | h | h | h | h | h | h | h | h | h | h | h | h | h | h | h | h | h | h | h | h | h | h | h | h | h | h | h | h | h | h | h
    · exact Or.inl (Int32.toInt_inj.mp (h.trans rfl))
    · exact Or.inr (Or.inl (Int32.toInt_inj.mp (h.trans rfl)))
    · exact Or.inr (Or.inr (Or.inl (Int32.toInt_inj.mp (h.trans rfl))))
    · exact Or.inr (Or.inr (Or.inr (Or.inl (Int32.toInt_inj.mp (h.trans rfl)))))
    · exact Or.inr (Or.inr (Or.inr (Or.inr (Or.inl (Int32.toInt_inj.mp (h.trans rfl))))))
    · exact Or.inr (Or.inr (Or.inr (Or.inr (Or.inr (Or.inl (Int32.toInt_inj.mp (h.trans rfl)))))))
    · exact Or.inr (Or.inr (Or.inr (Or.inr (Or.inr (Or.inr (Or.inl (Int32.toInt_inj.mp (h.trans rfl))))))))
    · exact Or.inr (Or.inr (Or.inr (Or.inr (Or.inr (Or.inr (Or.inr (Or.inl (Int32.toInt_inj.mp (h.trans rfl)))))))))
    · exact Or.inr (Or.inr (Or.inr (Or.inr (Or.inr (Or.inr (Or.inr (Or.inr (Or.inl (Int32.toInt_inj.mp (h.trans rfl))))))))))
    · exact Or.inr (Or.inr (Or.inr (Or.inr (Or.inr (Or.inr (Or.inr (Or.inr (Or.inr (Or.inl (Int32.toInt_inj.mp (h.trans rfl)))))))))))
    · exact Or.inr (Or.inr (Or.inr (Or.inr (Or.inr (Or.inr (Or.inr (Or.inr (Or.inr (Or.inr (Or.inl (Int32.toInt_inj.mp (h.trans rfl))))))))))))
    · exact Or.inr (Or.inr (Or.inr (Or.inr (Or.inr (Or.inr (Or.inr (Or.inr (Or.inr (Or.inr (Or.inr (Or.inl (Int32.toInt_inj.mp (h.trans rfl)))))))))))))
    · exact Or.inr (Or.inr (Or.inr (Or.inr (Or.inr (Or.inr (Or.inr (Or.inr (Or.inr (Or.inr (Or.inr (Or.inr (Or.inl (Int32.toInt_inj.mp (h.trans rfl))))))))))))))
    · exact Or.inr (Or.inr (Or.inr (Or.inr (Or.inr (Or.inr (Or.inr (Or.inr (Or.inr (Or.inr (Or.inr (Or.inr (Or.inr (Or.inl (Int32.toInt_inj.mp (h.trans rfl)))))))))))))))
    · exact Or.inr (Or.inr (Or.inr (Or.inr (Or.inr (Or.inr (Or.inr (Or.inr (Or.inr (Or.inr (Or.inr (Or.inr (Or.inr (Or.inr (Or.inl (Int32.toInt_inj.mp (h.trans rfl))))))))))))))))
    · exact Or.inr (Or.inr (Or.inr (Or.inr (Or.inr (Or.inr (Or.inr (Or.inr (Or.inr (Or.inr (Or.inr (Or.inr (Or.inr (Or.inr (Or.inr (Or.inl (Int32.toInt_inj.mp (h.trans rfl)))))))))))))))))
    · exact Or.inr (Or.inr (Or.inr (Or.inr (Or.inr (Or.inr (Or.inr (Or.inr (Or.inr (Or.inr (Or.inr (Or.inr (Or.inr (Or.inr (Or.inr (Or.inr (Or.inl (Int32.toInt_inj.mp (h.trans rfl))))))))))))))))))
    · exact Or.inr (Or.inr (Or.inr (Or.inr (Or.inr (Or.inr (Or.inr (Or.inr (Or.inr (Or.inr (Or.inr (Or.inr (Or.inr (Or.inr (Or.inr (Or.inr (Or.inr (Or.inl (Int32.toInt_inj.mp (h.trans rfl)))))))))))))))))))
    · exact Or.inr (Or.inr (Or.inr (Or.inr (Or.inr (Or.inr (Or.inr (Or.inr (Or.inr (Or.inr (Or.inr (Or.inr (Or.inr (Or.inr (Or.inr (Or.inr (Or.inr (Or.inr (Or.inl (Int32.toInt_inj.mp (h.trans rfl))))))))))))))))))))
    · exact Or.inr (Or.inr (Or.inr (Or.inr (Or.inr (Or.inr (Or.inr (Or.inr (Or.inr (Or.inr (Or.inr (Or.inr (Or.inr (Or.inr (Or.inr (Or.inr (Or.inr (Or.inr (Or.inr (Or.inl (Int32.toInt_inj.mp (h.trans rfl)))))))))))))))))))))
    · exact Or.inr (Or.inr (Or.inr (Or.inr (Or.inr (Or.inr (Or.inr (Or.inr (Or.inr (Or.inr (Or.inr (Or.inr (Or.inr (Or.inr (Or.inr (Or.inr (Or.inr (Or.inr (Or.inr (Or.inr (Or.inl (Int32.toInt_inj.mp (h.trans rfl))))))))))))))))))))))
    · exact Or.inr (Or.inr (Or.inr (Or.inr (Or.inr (Or.inr (Or.inr (Or.inr (Or.inr (Or.inr (Or.inr (Or.inr (Or.inr (Or.inr (Or.inr (Or.inr (Or.inr (Or.inr (Or.inr (Or.inr (Or.inr (Or.inl (Int32.toInt_inj.mp (h.trans rfl)))))))))))))))))))))))
    · exact Or.inr (Or.inr (Or.inr (Or.inr (Or.inr (Or.inr (Or.inr (Or.inr (Or.inr (Or.inr (Or.inr (Or.inr (Or.inr (Or.inr (Or.inr (Or.inr (Or.inr (Or.inr (Or.inr (Or.inr (Or.inr (Or.inr (Or.inl (Int32.toInt_inj.mp (h.trans rfl))))))))))))))))))))))))
    · exact Or.inr (Or.inr (Or.inr (Or.inr (Or.inr (Or.inr (Or.inr (Or.inr (Or.inr (Or.inr (Or.inr (Or.inr (Or.inr (Or.inr (Or.inr (Or.inr (Or.inr (Or.inr (Or.inr (Or.inr (Or.inr (Or.inr (Or.inr (Or.inl (Int32.toInt_inj.mp (h.trans rfl)))))))))))))))))))))))))
    · exact Or.inr (Or.inr (Or.inr (Or.inr (Or.inr (Or.inr (Or.inr (Or.inr (Or.inr (Or.inr (Or.inr (Or.inr (Or.inr (Or.inr (Or.inr (Or.inr (Or.inr (Or.inr (Or.inr (Or.inr (Or.inr (Or.inr (Or.inr (Or.inr (Or.inl (Int32.toInt_inj.mp (h.trans rfl))))))))))))))))))))))))))
    · exact Or.inr (Or.inr (Or.inr (Or.inr (Or.inr (Or.inr (Or.inr (Or.inr (Or.inr (Or.inr (Or.inr (Or.inr (Or.inr (Or.inr (Or.inr (Or.inr (Or.inr (Or.inr (Or.inr (Or.inr (Or.inr (Or.inr (Or.inr (Or.inr (Or.inr (Or.inl (Int32.toInt_inj.mp (h.trans rfl)))))))))))))))))))))))))))
    · exact Or.inr (Or.inr (Or.inr (Or.inr (Or.inr (Or.inr (Or.inr (Or.inr (Or.inr (Or.inr (Or.inr (Or.inr (Or.inr (Or.inr (Or.inr (Or.inr (Or.inr (Or.inr (Or.inr (Or.inr (Or.inr (Or.inr (Or.inr (Or.inr (Or.inr (Or.inr (Or.inl (Int32.toInt_inj.mp (h.trans rfl))))))))))))))))))))))))))))
    · exact Or.inr (Or.inr (Or.inr (Or.inr (Or.inr (Or.inr (Or.inr (Or.inr (Or.inr (Or.inr (Or.inr (Or.inr (Or.inr (Or.inr (Or.inr (Or.inr (Or.inr (Or.inr (Or.inr (Or.inr (Or.inr (Or.inr (Or.inr (Or.inr (Or.inr (Or.inr (Or.inr (Or.inl (Int32.toInt_inj.mp (h.trans rfl)))))))))))))))))))))))))))))
    · exact Or.inr (Or.inr (Or.inr (Or.inr (Or.inr (Or.inr (Or.inr (Or.inr (Or.inr (Or.inr (Or.inr (Or.inr (Or.inr (Or.inr (Or.inr (Or.inr (Or.inr (Or.inr (Or.inr (Or.inr (Or.inr (Or.inr (Or.inr (Or.inr (Or.inr (Or.inr (Or.inr (Or.inr (Or.inl (Int32.toInt_inj.mp (h.trans rfl))))))))))))))))))))))))))))))
    · exact Or.inr (Or.inr (Or.inr (Or.inr (Or.inr (Or.inr (Or.inr (Or.inr (Or.inr (Or.inr (Or.inr (Or.inr (Or.inr (Or.inr (Or.inr (Or.inr (Or.inr (Or.inr (Or.inr (Or.inr (Or.inr (Or.inr (Or.inr (Or.inr (Or.inr (Or.inr (Or.inr (Or.inr (Or.inr (Or.inl (Int32.toInt_inj.mp (h.trans rfl)))))))))))))))))))))))))))))))
    · exact Or.inr (Or.inr (Or.inr (Or.inr (Or.inr (Or.inr (Or.inr (Or.inr (Or.inr (Or.inr (Or.inr (Or.inr (Or.inr (Or.inr (Or.inr (Or.inr (Or.inr (Or.inr (Or.inr (Or.inr (Or.inr (Or.inr (Or.inr (Or.inr (Or.inr (Or.inr (Or.inr (Or.inr (Or.inr (Or.inr (Or.inl (Int32.toInt_inj.mp (h.trans rfl))))))))))))))))))))))))))))))))
    · exact Or.inr (Or.inr (Or.inr (Or.inr (Or.inr (Or.inr (Or.inr (Or.inr (Or.inr (Or.inr (Or.inr (Or.inr (Or.inr (Or.inr (Or.inr (Or.inr (Or.inr (Or.inr (Or.inr (Or.inr (Or.inr (Or.inr (Or.inr (Or.inr (Or.inr (Or.inr (Or.inr (Or.inr (Or.inr (Or.inr (Or.inr (Or.inl (Int32.toInt_inj.mp (h.trans rfl)))))))))))))))))))))))))))))))))
    · exact Or.inr (Or.inr (Or.inr (Or.inr (Or.inr (Or.inr (Or.inr (Or.inr (Or.inr (Or.inr (Or.inr (Or.inr (Or.inr (Or.inr (Or.inr (Or.inr (Or.inr (Or.inr (Or.inr (Or.inr (Or.inr (Or.inr (Or.inr (Or.inr (Or.inr (Or.inr (Or.inr (Or.inr (Or.inr (Or.inr (Or.inr (Or.inr (Or.inl (Int32.toInt_inj.mp (h.trans rfl))))))))))))))))))))))))))))))))))
    · exact Or.inr (Or.inr (Or.inr (Or.inr (Or.inr (Or.inr (Or.inr (Or.inr (Or.inr (Or.inr (Or.inr (Or.inr (Or.inr (Or.inr (Or.inr (Or.inr (Or.inr (Or.inr (Or.inr (Or.inr (Or.inr (Or.inr (Or.inr (Or.inr (Or.inr (Or.inr (Or.inr (Or.inr (Or.inr (Or.inr (Or.inr (Or.inr (Or.inr (Or.inl (Int32.toInt_inj.mp (h.trans rfl)))))))))))))))))))))))))))))))))))
    · exact Or.inr (Or.inr (Or.inr (Or.inr (Or.inr (Or.inr (Or.inr (Or.inr (Or.inr (Or.inr (Or.inr (Or.inr (Or.inr (Or.inr (Or.inr (Or.inr (Or.inr (Or.inr (Or.inr (Or.inr (Or.inr (Or.inr (Or.inr (Or.inr (Or.inr (Or.inr (Or.inr (Or.inr (Or.inr (Or.inr (Or.inr (Or.inr (Or.inr (Or.inr (Or.inl (Int32.toInt_inj.mp (h.trans rfl))))))))))))))))))))))))))))))))))))
    · exact Or.inr (Or.inr (Or.inr (Or.inr (Or.inr (Or.inr (Or.inr (Or.inr (Or.inr (Or.inr (Or.inr (Or.inr (Or.inr (Or.inr (Or.inr (Or.inr (Or.inr (Or.inr (Or.inr (Or.inr (Or.inr (Or.inr (Or.inr (Or.inr (Or.inr (Or.inr (Or.inr (Or.inr (Or.inr (Or.inr (Or.inr (Or.inr (Or.inr (Or.inr (Or.inr (Or.inl (Int32.toInt_inj.mp (h.trans rfl)))))))))))))))))))))))))))))))))))))
    · exact Or.inr (Or.inr (Or.inr (Or.inr (Or.inr (Or.inr (Or.inr (Or.inr (Or.inr (Or.inr (Or.inr (Or.inr (Or.inr (Or.inr (Or.inr (Or.inr (Or.inr (Or.inr (Or.inr (Or.inr (Or.inr (Or.inr (Or.inr (Or.inr (Or.inr (Or.inr (Or.inr (Or.inr (Or.inr (Or.inr (Or.inr (Or.inr (Or.inr (Or.inr (Or.inr (Or.inr (Or.inl (Int32.toInt_inj.mp (h.trans rfl))))))))))))))))))))))))))))))))))))))
    · exact Or.inr (Or.inr (Or.inr (Or.inr (Or.inr (Or.inr (Or.inr (Or.inr (Or.inr (Or.inr (Or.inr (Or.inr (Or.inr (Or.inr (Or.inr (Or.inr (Or.inr (Or.inr (Or.inr (Or.inr (Or.inr (Or.inr (Or.inr (Or.inr (Or.inr (Or.inr (Or.inr (Or.inr (Or.inr (Or.inr (Or.inr (Or.inr (Or.inr (Or.inr (Or.inr (Or.inr (Or.inr (Or.inl (Int32.toInt_inj.mp (h.trans rfl)))))))))))))))))))))))))))))))))))))))
    · exact Or.inr (Or.inr (Or.inr (Or.inr (Or.inr (Or.inr (Or.inr (Or.inr (Or.inr (Or.inr (Or.inr (Or.inr (Or.inr (Or.inr (Or.inr (Or.inr (Or.inr (Or.inr (Or.inr (Or.inr (Or.inr (Or.inr (Or.inr (Or.inr (Or.inr (Or.inr (Or.inr (Or.inr (Or.inr (Or.inr (Or.inr (Or.inr (Or.inr (Or.inr (Or.inr (Or.inr (Or.inr (Or.inr (Or.inl (Int32.toInt_inj.mp (h.trans rfl))))))))))))))))))))))))))))))))))))))))
    · exact Or.inr (Or.inr (Or.inr (Or.inr (Or.inr (Or.inr (Or.inr (Or.inr (Or.inr (Or.inr (Or.inr (Or.inr (Or.inr (Or.inr (Or.inr (Or.inr (Or.inr (Or.inr (Or.inr (Or.inr (Or.inr (Or.inr (Or.inr (Or.inr (Or.inr (Or.inr (Or.inr (Or.inr (Or.inr (Or.inr (Or.inr (Or.inr (Or.inr (Or.inr (Or.inr (Or.inr (Or.inr (Or.inr (Or.inr (Or.inl (Int32.toInt_inj.mp (h.trans rfl)))))))))))))))))))))))))))))))))))))))))
    · exact Or.inr (Or.inr (Or.inr (Or.inr (Or.inr (Or.inr (Or.inr (Or.inr (Or.inr (Or.inr (Or.inr (Or.inr (Or.inr (Or.inr (Or.inr (Or.inr (Or.inr (Or.inr (Or.inr (Or.inr (Or.inr (Or.inr (Or.inr (Or.inr (Or.inr (Or.inr (Or.inr (Or.inr (Or.inr (Or.inr (Or.inr (Or.inr (Or.inr (Or.inr (Or.inr (Or.inr (Or.inr (Or.inr (Or.inr (Or.inr (Int32.toInt_inj.mp (h.trans rfl)))))))))))))))))))))))))))))))))))))))))
theorem h_inc {x : Int32} {n : Nat} (h : ¬ (x < 0 ∨ n ≤ x.toNatClampNeg)) : vp_in x n := h
section HR5
variable {p : Program} {l : Launch} {e : Env} {R : Room} {s : State} {m : MethodId} {args : Array Value} {below : List Frame} {meth : Method} {c : Code} {H : Heap} {locs : List Loc} {cells slots : Nat} {Q : State → Prop}
variable {cc : ByteArray} {pc : Nat} {ls : Array Slot} {rest : List Value} {G : hG} {Y : hW} {a : Nat}
theorem h_aal (hexec : p.tables.exec = Jvm.exec) (hb : c.code = cc) (hK : h_K G s) (hT0 : hT G Y H) {n ty : Nat} (h4 : ty = 4 ∨ ty = 5) {r : Nat → Nat} (ha : Y a = some (.inr (ty, n, .inr (.inr r)))) {i : Int32} (hin : vp_in i n) (j : Nat) (hj : i.toNatClampNeg = j) (hdg : decode cc pc = .ok (.aaload, 1))
    (kk : W p l e R s m args below meth c H locs cells slots Q (F0 m (pc + 1) ls (.ref (r j) :: rest))) : W p l e R s m args below meth c H locs cells slots Q (F0 m pc ls (.int i :: .ref a :: rest)) := by
  subst hj
  exact h_aald hexec hb hK hT0 h4 ha hin hdg kk
end HR5
end
section
theorem wF_X0_15 : Cond.fieldLink RX0 15 "RankedRing$Book" "rankGot" "[I" ∈ wsL_law := h_inT 237 (by decide +kernel) rfl
theorem wF_X0_18 : Cond.fieldLink RX0 18 "RankedRing$Book" "rankAges" "[I" ∈ wsL_law := h_inT 238 (by decide +kernel) rfl
theorem wF_X0_21 : Cond.fieldLink RX0 21 "RankedRing$Book" "gots" "[I" ∈ wsL_law := h_inT 239 (by decide +kernel) rfl
theorem wF_X0_24 : Cond.fieldLink RX0 24 "RankedRing$Book" "events" "[I" ∈ wsL_law := h_inT 240 (by decide +kernel) rfl
theorem wF_X0_27 : Cond.fieldLink RX0 27 "RankedRing$Book" "eventCount" "I" ∈ wsL_law := h_inT 241 (by decide +kernel) rfl
theorem wF_X0_9 : Cond.fieldLink RX0 9 "RankedRing$Book" "counts" "[I" ∈ wsL_law := h_inT 236 (by decide +kernel) rfl
theorem wF_X1_15 : Cond.fieldLink RX1 15 "RankedRing$Paper" "gotPlainAt" "[I" ∈ wsL_law := h_inT 316 (by decide +kernel) rfl
theorem wF_X1_18 : Cond.fieldLink RX1 18 "RankedRing$Paper" "ring" "LRankedRing$Ring;" ∈ wsL_law := h_inT 313 (by decide +kernel) rfl
theorem wF_X1_22 : Cond.fieldLink RX1 22 "RankedRing$Paper" "copy" "LRankedRing$Ring;" ∈ wsL_law := h_inT 314 (by decide +kernel) rfl
theorem wF_X1_43 : Cond.fieldLink RX1 43 "RankedRing$Ring" "gotNow" "I" ∈ wsL_law := h_inT 278 (by decide +kernel) rfl
theorem wF_X1_47 : Cond.fieldLink RX1 47 "RankedRing$Ring" "raises" "LRankedRing$Raises;" ∈ wsL_law := h_inT 264 (by decide +kernel) rfl
theorem wF_X1_56 : Cond.fieldLink RX1 56 "RankedRing$Ring" "way" "LRankedRing$Way;" ∈ wsL_law := h_inT 267 (by decide +kernel) rfl
theorem wF_X1_60 : Cond.fieldLink RX1 60 "RankedRing$Way" "kind" "I" ∈ wsL_law := h_inT 153 (by decide +kernel) rfl
theorem wF_X1_65 : Cond.fieldLink RX1 65 "RankedRing$Ring" "purgedNow" "Z" ∈ wsL_law := h_inT 283 (by decide +kernel) rfl
theorem wF_X1_69 : Cond.fieldLink RX1 69 "RankedRing$Ring" "fellNow" "I" ∈ wsL_law := h_inT 280 (by decide +kernel) rfl
theorem wF_X1_9 : Cond.fieldLink RX1 9 "RankedRing$Paper" "gotAt" "[I" ∈ wsL_law := h_inT 315 (by decide +kernel) rfl
theorem wF_X2_15 : Cond.fieldLink RX2 15 "RankedRing$Queues" "goals" "[I" ∈ wsL_law := h_inT 115 (by decide +kernel) rfl
theorem wF_X2_18 : Cond.fieldLink RX2 18 "RankedRing$Queues" "rankings" "[I" ∈ wsL_law := h_inT 116 (by decide +kernel) rfl
theorem wF_X2_21 : Cond.fieldLink RX2 21 "RankedRing$Queues" "births" "[I" ∈ wsL_law := h_inT 117 (by decide +kernel) rfl
theorem wF_X2_24 : Cond.fieldLink RX2 24 "RankedRing$Queues" "sizes" "[I" ∈ wsL_law := h_inT 118 (by decide +kernel) rfl
theorem wF_X2_9 : Cond.fieldLink RX2 9 "RankedRing$Queues" "numbers" "[I" ∈ wsL_law := h_inT 114 (by decide +kernel) rfl
theorem wF_X3_15 : Cond.fieldLink RX3 15 "RankedRing$Raises" "news" "[I" ∈ wsL_law := h_inT 137 (by decide +kernel) rfl
theorem wF_X3_18 : Cond.fieldLink RX3 18 "RankedRing$Raises" "depths" "[I" ∈ wsL_law := h_inT 138 (by decide +kernel) rfl
theorem wF_X3_9 : Cond.fieldLink RX3 9 "RankedRing$Raises" "olds" "[I" ∈ wsL_law := h_inT 136 (by decide +kernel) rfl
theorem wF_X4_18 : Cond.fieldLink RX4 18 "RankedRing$Reader" "length" "I" ∈ wsL_law := h_inT 336 (by decide +kernel) rfl
theorem wF_X4_22 : Cond.fieldLink RX4 22 "RankedRing$Reader" "place" "I" ∈ wsL_law := h_inT 337 (by decide +kernel) rfl
theorem wF_X4_25 : Cond.fieldLink RX4 25 "RankedRing$Reader" "kind" "I" ∈ wsL_law := h_inT 338 (by decide +kernel) rfl
theorem wF_X4_28 : Cond.fieldLink RX4 28 "RankedRing$Reader" "start" "I" ∈ wsL_law := h_inT 339 (by decide +kernel) rfl
theorem wF_X4_31 : Cond.fieldLink RX4 31 "RankedRing$Reader" "size" "I" ∈ wsL_law := h_inT 340 (by decide +kernel) rfl
theorem wF_X4_40 : Cond.fieldLink RX4 40 "RankedRing$Reader" "faultKind" "I" ∈ wsL_law := h_inT 343 (by decide +kernel) rfl
theorem wF_X4_43 : Cond.fieldLink RX4 43 "RankedRing$Reader" "faultPlace" "I" ∈ wsL_law := h_inT 345 (by decide +kernel) rfl
theorem wF_X4_50 : Cond.fieldLink RX4 50 "RankedRing$Reader" "ring" "LRankedRing$Ring;" ∈ wsL_law := h_inT 333 (by decide +kernel) rfl
theorem wF_X5_12 : Cond.fieldLink RX5 12 "RankedRing$Ring" "stations" "LRankedRing$Stations;" ∈ wsL_law := h_inT 256 (by decide +kernel) rfl
theorem wF_X5_142 : Cond.fieldLink RX5 142 "RankedRing$Way" "kind" "I" ∈ wsL_law := h_inT 154 (by decide +kernel) rfl
theorem wF_X5_151 : Cond.fieldLink RX5 151 "RankedRing$Stations" "count" "I" ∈ wsL_law := h_inT 76 (by decide +kernel) rfl
theorem wF_X5_21 : Cond.fieldLink RX5 21 "RankedRing$Ring" "queues" "LRankedRing$Queues;" ∈ wsL_law := h_inT 259 (by decide +kernel) rfl
theorem wF_X5_28 : Cond.fieldLink RX5 28 "RankedRing$Ring" "raises" "LRankedRing$Raises;" ∈ wsL_law := h_inT 263 (by decide +kernel) rfl
theorem wF_X5_284 : Cond.fieldLink RX5 284 "RankedRing$Silence" "ticks" "I" ∈ wsL_law := h_inT 211 (by decide +kernel) rfl
theorem wF_X5_35 : Cond.fieldLink RX5 35 "RankedRing$Ring" "way" "LRankedRing$Way;" ∈ wsL_law := h_inT 266 (by decide +kernel) rfl
theorem wF_X5_42 : Cond.fieldLink RX5 42 "RankedRing$Ring" "silence" "LRankedRing$Silence;" ∈ wsL_law := h_inT 269 (by decide +kernel) rfl
theorem wF_X5_49 : Cond.fieldLink RX5 49 "RankedRing$Ring" "book" "LRankedRing$Book;" ∈ wsL_law := h_inT 271 (by decide +kernel) rfl
theorem wF_X5_53 : Cond.fieldLink RX5 53 "RankedRing$Ring" "ticks" "I" ∈ wsL_law := h_inT 273 (by decide +kernel) rfl
theorem wF_X5_57 : Cond.fieldLink RX5 57 "RankedRing$Ring" "framesEver" "I" ∈ wsL_law := h_inT 275 (by decide +kernel) rfl
theorem wF_X5_60 : Cond.fieldLink RX5 60 "RankedRing$Ring" "gotNow" "I" ∈ wsL_law := h_inT 277 (by decide +kernel) rfl
theorem wF_X5_63 : Cond.fieldLink RX5 63 "RankedRing$Ring" "fellNow" "I" ∈ wsL_law := h_inT 279 (by decide +kernel) rfl
theorem wF_X5_66 : Cond.fieldLink RX5 66 "RankedRing$Ring" "purgedNow" "Z" ∈ wsL_law := h_inT 282 (by decide +kernel) rfl
theorem wF_X6_15 : Cond.fieldLink RX6 15 "RankedRing$Silence" "sign" "I" ∈ wsL_law := h_inT 212 (by decide +kernel) rfl
theorem wF_X6_18 : Cond.fieldLink RX6 18 "RankedRing$Silence" "tail" "I" ∈ wsL_law := h_inT 215 (by decide +kernel) rfl
theorem wF_X6_21 : Cond.fieldLink RX6 21 "RankedRing$Silence" "head" "I" ∈ wsL_law := h_inT 218 (by decide +kernel) rfl
theorem wF_X6_9 : Cond.fieldLink RX6 9 "RankedRing$Silence" "ticks" "I" ∈ wsL_law := h_inT 209 (by decide +kernel) rfl
theorem wF_X7_15 : Cond.fieldLink RX7 15 "RankedRing$Stations" "alive" "[Z" ∈ wsL_law := h_inT 66 (by decide +kernel) rfl
theorem wF_X7_19 : Cond.fieldLink RX7 19 "RankedRing$Stations" "known" "[I" ∈ wsL_law := h_inT 67 (by decide +kernel) rfl
theorem wF_X7_22 : Cond.fieldLink RX7 22 "RankedRing$Stations" "gotFrom" "[I" ∈ wsL_law := h_inT 69 (by decide +kernel) rfl
theorem wF_X7_25 : Cond.fieldLink RX7 25 "RankedRing$Stations" "gotTo" "[I" ∈ wsL_law := h_inT 71 (by decide +kernel) rfl
theorem wF_X7_28 : Cond.fieldLink RX7 28 "RankedRing$Stations" "count" "I" ∈ wsL_law := h_inT 73 (by decide +kernel) rfl
theorem wF_X7_32 : Cond.fieldLink RX7 32 "RankedRing$Stations" "chief" "I" ∈ wsL_law := h_inT 77 (by decide +kernel) rfl
theorem wF_X7_35 : Cond.fieldLink RX7 35 "RankedRing$Stations" "breakBehind" "I" ∈ wsL_law := h_inT 81 (by decide +kernel) rfl
theorem wF_X7_38 : Cond.fieldLink RX7 38 "RankedRing$Stations" "breakCause" "I" ∈ wsL_law := h_inT 85 (by decide +kernel) rfl
theorem wF_X7_9 : Cond.fieldLink RX7 9 "RankedRing$Stations" "addresses" "[I" ∈ wsL_law := h_inT 64 (by decide +kernel) rfl
theorem wF_X8_15 : Cond.fieldLink RX8 15 "RankedRing$Tape" "length" "I" ∈ wsL_law := h_inT 36 (by decide +kernel) rfl
theorem wF_X8_19 : Cond.fieldLink RX8 19 "RankedRing$Tape" "faultKind" "I" ∈ wsL_law := h_inT 38 (by decide +kernel) rfl
theorem wF_X8_22 : Cond.fieldLink RX8 22 "RankedRing$Tape" "faultPlace" "I" ∈ wsL_law := h_inT 40 (by decide +kernel) rfl
theorem wF_X8_9 : Cond.fieldLink RX8 9 "RankedRing$Tape" "bytes" "[B" ∈ wsL_law := h_inT 35 (by decide +kernel) rfl
theorem wF_X9_15 : Cond.fieldLink RX9 15 "RankedRing$Way" "at" "I" ∈ wsL_law := h_inT 156 (by decide +kernel) rfl
theorem wF_X9_18 : Cond.fieldLink RX9 18 "RankedRing$Way" "level" "I" ∈ wsL_law := h_inT 158 (by decide +kernel) rfl
theorem wF_X9_21 : Cond.fieldLink RX9 21 "RankedRing$Way" "wish" "I" ∈ wsL_law := h_inT 161 (by decide +kernel) rfl
theorem wF_X9_24 : Cond.fieldLink RX9 24 "RankedRing$Way" "marked" "Z" ∈ wsL_law := h_inT 163 (by decide +kernel) rfl
theorem wF_X9_28 : Cond.fieldLink RX9 28 "RankedRing$Way" "from" "I" ∈ wsL_law := h_inT 165 (by decide +kernel) rfl
theorem wF_X9_31 : Cond.fieldLink RX9 31 "RankedRing$Way" "to" "I" ∈ wsL_law := h_inT 168 (by decide +kernel) rfl
theorem wF_X9_34 : Cond.fieldLink RX9 34 "RankedRing$Way" "rank" "I" ∈ wsL_law := h_inT 171 (by decide +kernel) rfl
theorem wF_X9_37 : Cond.fieldLink RX9 37 "RankedRing$Way" "copied" "Z" ∈ wsL_law := h_inT 173 (by decide +kernel) rfl
theorem wF_X9_40 : Cond.fieldLink RX9 40 "RankedRing$Way" "number" "I" ∈ wsL_law := h_inT 175 (by decide +kernel) rfl
theorem wF_X9_43 : Cond.fieldLink RX9 43 "RankedRing$Way" "birth" "I" ∈ wsL_law := h_inT 178 (by decide +kernel) rfl
theorem wF_X9_9 : Cond.fieldLink RX9 9 "RankedRing$Way" "kind" "I" ∈ wsL_law := h_inT 152 (by decide +kernel) rfl
theorem wF_X10_10 : Cond.fieldLink RX10 10 "RankedRing" "tape" "LRankedRing$Tape;" ∈ wsL_law := h_inT 376 (by decide +kernel) rfl
theorem wF_X10_102 : Cond.fieldLink RX10 102 "RankedRing$Stations" "chief" "I" ∈ wsL_law := h_inT 78 (by decide +kernel) rfl
theorem wF_X10_105 : Cond.fieldLink RX10 105 "RankedRing$Ring" "queues" "LRankedRing$Queues;" ∈ wsL_law := h_inT 260 (by decide +kernel) rfl
theorem wF_X10_114 : Cond.fieldLink RX10 114 "RankedRing$Ring" "framesEver" "I" ∈ wsL_law := h_inT 276 (by decide +kernel) rfl
theorem wF_X10_117 : Cond.fieldLink RX10 117 "RankedRing$Ring" "ticks" "I" ∈ wsL_law := h_inT 274 (by decide +kernel) rfl
theorem wF_X10_120 : Cond.fieldLink RX10 120 "RankedRing$Ring" "way" "LRankedRing$Way;" ∈ wsL_law := h_inT 268 (by decide +kernel) rfl
theorem wF_X10_124 : Cond.fieldLink RX10 124 "RankedRing$Way" "kind" "I" ∈ wsL_law := h_inT 155 (by decide +kernel) rfl
theorem wF_X10_129 : Cond.fieldLink RX10 129 "RankedRing$Ring" "silence" "LRankedRing$Silence;" ∈ wsL_law := h_inT 270 (by decide +kernel) rfl
theorem wF_X10_133 : Cond.fieldLink RX10 133 "RankedRing$Silence" "ticks" "I" ∈ wsL_law := h_inT 210 (by decide +kernel) rfl
theorem wF_X10_140 : Cond.fieldLink RX10 140 "RankedRing$Stations" "breakBehind" "I" ∈ wsL_law := h_inT 82 (by decide +kernel) rfl
theorem wF_X10_143 : Cond.fieldLink RX10 143 "RankedRing$Stations" "breakCause" "I" ∈ wsL_law := h_inT 86 (by decide +kernel) rfl
theorem wF_X10_171 : Cond.fieldLink RX10 171 "RankedRing$Silence" "sign" "I" ∈ wsL_law := h_inT 213 (by decide +kernel) rfl
theorem wF_X10_180 : Cond.fieldLink RX10 180 "RankedRing$Ring" "book" "LRankedRing$Book;" ∈ wsL_law := h_inT 272 (by decide +kernel) rfl
theorem wF_X10_19 : Cond.fieldLink RX10 19 "RankedRing" "ring" "LRankedRing$Ring;" ∈ wsL_law := h_inT 377 (by decide +kernel) rfl
theorem wF_X10_207 : Cond.fieldLink RX10 207 "RankedRing$Book" "eventCount" "I" ∈ wsL_law := h_inT 242 (by decide +kernel) rfl
theorem wF_X10_23 : Cond.fieldLink RX10 23 "RankedRing" "scratch" "LRankedRing$Ring;" ∈ wsL_law := h_inT 378 (by decide +kernel) rfl
theorem wF_X10_31 : Cond.fieldLink RX10 31 "RankedRing" "paper" "LRankedRing$Paper;" ∈ wsL_law := h_inT 379 (by decide +kernel) rfl
theorem wF_X10_40 : Cond.fieldLink RX10 40 "RankedRing" "reader" "LRankedRing$Reader;" ∈ wsL_law := h_inT 380 (by decide +kernel) rfl
theorem wF_X10_44 : Cond.fieldLink RX10 44 "RankedRing" "markedRings" "[LRankedRing$Ring;" ∈ wsL_law := h_inT 381 (by decide +kernel) rfl
theorem wF_X10_48 : Cond.fieldLink RX10 48 "RankedRing" "markedTapes" "[LRankedRing$Tape;" ∈ wsL_law := h_inT 382 (by decide +kernel) rfl
theorem wF_X10_52 : Cond.fieldLink RX10 52 "RankedRing" "markCount" "I" ∈ wsL_law := h_inT 383 (by decide +kernel) rfl
theorem wF_X10_56 : Cond.fieldLink RX10 56 "RankedRing" "status" "I" ∈ wsL_law := h_inT 384 (by decide +kernel) rfl
theorem wF_X10_59 : Cond.fieldLink RX10 59 "RankedRing$Tape" "length" "I" ∈ wsL_law := h_inT 37 (by decide +kernel) rfl
theorem wF_X10_74 : Cond.fieldLink RX10 74 "RankedRing$Reader" "faultKind" "I" ∈ wsL_law := h_inT 344 (by decide +kernel) rfl
theorem wF_X10_77 : Cond.fieldLink RX10 77 "RankedRing$Tape" "faultKind" "I" ∈ wsL_law := h_inT 39 (by decide +kernel) rfl
theorem wF_X10_78 : Cond.fieldLink RX10 78 "RankedRing$Reader" "faultPlace" "I" ∈ wsL_law := h_inT 346 (by decide +kernel) rfl
theorem wF_X10_81 : Cond.fieldLink RX10 81 "RankedRing$Tape" "faultPlace" "I" ∈ wsL_law := h_inT 41 (by decide +kernel) rfl
theorem wF_X10_86 : Cond.fieldLink RX10 86 "RankedRing$Ring" "stations" "LRankedRing$Stations;" ∈ wsL_law := h_inT 257 (by decide +kernel) rfl
theorem wF_X10_90 : Cond.fieldLink RX10 90 "RankedRing$Stations" "count" "I" ∈ wsL_law := h_inT 74 (by decide +kernel) rfl
theorem inX0 : ∀ w ∈ u_ws RX0 TX0 6, w ∈ wsL_law := h_places [243, 245, 247, 249, 251, 253] (by decide +kernel) (by decide +kernel)
theorem inX1 : ∀ w ∈ u_ws RX1 TX1 4, w ∈ wsL_law := h_places [317, 319, 321, 323] (by decide +kernel) (by decide +kernel)
theorem inX2 : ∀ w ∈ u_ws RX2 TX2 5, w ∈ wsL_law := h_places [119, 121, 123, 125, 127] (by decide +kernel) (by decide +kernel)
theorem inX3 : ∀ w ∈ u_ws RX3 TX3 3, w ∈ wsL_law := h_places [139, 141, 143] (by decide +kernel) (by decide +kernel)
theorem inX4 : ∀ w ∈ u_ws RX4 TX4 13, w ∈ wsL_law := h_places [347, 349, 351, 353, 355, 357, 359, 361, 363, 365, 367, 369, 371] (by decide +kernel) (by decide +kernel)
theorem inX5 : ∀ w ∈ u_ws RX5 TX5 11, w ∈ wsL_law := h_places [284, 286, 288, 290, 292, 294, 296, 298, 300, 302, 304] (by decide +kernel) (by decide +kernel)
theorem inX6 : ∀ w ∈ u_ws RX6 TX6 4, w ∈ wsL_law := h_places [221, 223, 225, 227] (by decide +kernel) (by decide +kernel)
theorem inX7 : ∀ w ∈ u_ws RX7 TX7 9, w ∈ wsL_law := h_places [87, 89, 91, 93, 95, 97, 99, 101, 103] (by decide +kernel) (by decide +kernel)
theorem inX8 : ∀ w ∈ u_ws RX8 TX8 4, w ∈ wsL_law := h_places [42, 44, 46, 48] (by decide +kernel) (by decide +kernel)
theorem inX9 : ∀ w ∈ u_ws RX9 TX9 11, w ∈ wsL_law := h_places [180, 182, 184, 186, 188, 190, 192, 194, 196, 198, 200] (by decide +kernel) (by decide +kernel)
theorem inX10 : ∀ w ∈ u_ws RX10 TX10 9, w ∈ wsL_law := h_places [385, 387, 389, 391, 393, 395, 397, 399, 401] (by decide +kernel) (by decide +kernel)
theorem wL_X0_31 : Cond.methodLink RX0 31 yJ7_fill_53178 ∈ wsL_law := h_inT 464 (by decide +kernel) rfl
theorem wL_X0_37 : Cond.methodLink RX0 37 arraycopyName ∈ wsL_law := h_inT 673 (by decide +kernel) rfl
theorem wL_X1_25 : Cond.methodLink RX1 25 yX5_copyFrom ∈ wsL_law := h_inT 1137 (by decide +kernel) rfl
theorem wL_X1_31 : Cond.methodLink RX1 31 yX1_hasCome ∈ wsL_law := h_inT 1138 (by decide +kernel) rfl
theorem wL_X1_35 : Cond.methodLink RX1 35 yX5_passTick ∈ wsL_law := h_inT 1150 (by decide +kernel) rfl
theorem wL_X1_39 : Cond.methodLink RX1 39 yX5_isQuiet ∈ wsL_law := h_inT 1142 (by decide +kernel) rfl
theorem wL_X1_51 : Cond.methodLink RX1 51 yX3_isEmpty ∈ wsL_law := h_inT 1146 (by decide +kernel) rfl
theorem wL_X1_81 : Cond.methodLink RX1 81 yJ7_fill_53178 ∈ wsL_law := h_inT 1205 (by decide +kernel) rfl
theorem wL_X2_27 : Cond.methodLink RX2 27 yJ7_fill_53178 ∈ wsL_law := h_inT 444 (by decide +kernel) rfl
theorem wL_X2_33 : Cond.methodLink RX2 33 arraycopyName ∈ wsL_law := h_inT 655 (by decide +kernel) rfl
theorem wL_X3_21 : Cond.methodLink RX3 21 yJ7_fill_53178 ∈ wsL_law := h_inT 451 (by decide +kernel) rfl
theorem wL_X3_27 : Cond.methodLink RX3 27 arraycopyName ∈ wsL_law := h_inT 660 (by decide +kernel) rfl
theorem wL_X4_160 : Cond.methodLink RX4 160 yX4_skipBlanks ∈ wsL_law := h_inT 469 (by decide +kernel) rfl
theorem wL_X4_54 : Cond.methodLink RX4 54 yX5_clear ∈ wsL_law := h_inT 428 (by decide +kernel) rfl
theorem wL_X4_59 : Cond.methodLink RX4 59 yX4_readToken ∈ wsL_law := h_inT 465 (by decide +kernel) rfl
theorem wL_X5_148 : Cond.methodLink RX5 148 yX2_slotOf ∈ wsL_law := h_inT 1163 (by decide +kernel) rfl
theorem wL_X5_166 : Cond.methodLink RX5 166 yX5_nextDraw ∈ wsL_law := h_inT 1083 (by decide +kernel) rfl
theorem wL_X5_169 : Cond.methodLink RX5 169 yX5_drawn ∈ wsL_law := h_inT 1088 (by decide +kernel) rfl
theorem wL_X5_195 : Cond.methodLink RX5 195 yX5_passSilentTick ∈ wsL_law := h_inT 950 (by decide +kernel) rfl
theorem wL_X5_285 : Cond.methodLink RX5 285 yX7_onCount ∈ wsL_law := h_inT 954 (by decide +kernel) rfl
theorem wL_X5_70 : Cond.methodLink RX5 70 yX7_clear ∈ wsL_law := h_inT 432 (by decide +kernel) rfl
theorem wL_X5_73 : Cond.methodLink RX5 73 yX2_clear ∈ wsL_law := h_inT 440 (by decide +kernel) rfl
theorem wL_X5_74 : Cond.methodLink RX5 74 yX3_clear ∈ wsL_law := h_inT 447 (by decide +kernel) rfl
theorem wL_X5_75 : Cond.methodLink RX5 75 yX9_clear ∈ wsL_law := h_inT 452 (by decide +kernel) rfl
theorem wL_X5_76 : Cond.methodLink RX5 76 yX6_restart ∈ wsL_law := h_inT 456 (by decide +kernel) rfl
theorem wL_X5_79 : Cond.methodLink RX5 79 yX0_clear ∈ wsL_law := h_inT 460 (by decide +kernel) rfl
theorem wL_X5_80 : Cond.methodLink RX5 80 yX7_copyFrom ∈ wsL_law := h_inT 644 (by decide +kernel) rfl
theorem wL_X5_84 : Cond.methodLink RX5 84 yX2_copyFrom ∈ wsL_law := h_inT 651 (by decide +kernel) rfl
theorem wL_X5_87 : Cond.methodLink RX5 87 yX3_copyFrom ∈ wsL_law := h_inT 656 (by decide +kernel) rfl
theorem wL_X5_90 : Cond.methodLink RX5 90 yX9_copyFrom ∈ wsL_law := h_inT 661 (by decide +kernel) rfl
theorem wL_X5_93 : Cond.methodLink RX5 93 yX6_copyFrom ∈ wsL_law := h_inT 665 (by decide +kernel) rfl
theorem wL_X5_96 : Cond.methodLink RX5 96 yX0_copyFrom ∈ wsL_law := h_inT 669 (by decide +kernel) rfl
theorem wL_X5_99 : Cond.methodLink RX5 99 yX5_forgetLatestTick ∈ wsL_law := h_inT 674 (by decide +kernel) rfl
theorem wL_X7_41 : Cond.methodLink RX7 41 yX7_setBreak ∈ wsL_law := h_inT 436 (by decide +kernel) rfl
theorem wL_X7_45 : Cond.methodLink RX7 45 arraycopyName ∈ wsL_law := h_inT 648 (by decide +kernel) rfl
theorem wL_X7_51 : Cond.methodLink RX7 51 yX7_exists ∈ wsL_law := h_inT 582 (by decide +kernel) rfl
theorem wL_X7_55 : Cond.methodLink RX7 55 yX7_onBits ∈ wsL_law := h_inT 958 (by decide +kernel) rfl
theorem wL_X7_59 : Cond.methodLink RX7 59 yJ6_bitCount_0f7a4 ∈ wsL_law := h_inT 959 (by decide +kernel) rfl
theorem wL_X7_65 : Cond.methodLink RX7 65 yX7_isOn ∈ wsL_law := h_inT 694 (by decide +kernel) rfl
theorem wL_X7_74 : Cond.methodLink RX7 74 yX7_breakCountsWithout ∈ wsL_law := h_inT 703 (by decide +kernel) rfl
theorem wL_X8_25 : Cond.methodLink RX8 25 arraycopyName ∈ wsL_law := h_inT 1124 (by decide +kernel) rfl
theorem wL_X10_109 : Cond.methodLink RX10 109 yX2_total ∈ wsL_law := h_inT 695 (by decide +kernel) rfl
theorem wL_X10_136 : Cond.methodLink RX10 136 yX7_breakCounts ∈ wsL_law := h_inT 699 (by decide +kernel) rfl
theorem wL_X10_146 : Cond.methodLink RX10 146 yX7_exists ∈ wsL_law := h_inT 715 (by decide +kernel) rfl
theorem wL_X10_168 : Cond.methodLink RX10 168 yX9_tell ∈ wsL_law := h_inT 767 (by decide +kernel) rfl
theorem wL_X10_184 : Cond.methodLink RX10 184 yX0_counted ∈ wsL_law := h_inT 779 (by decide +kernel) rfl
theorem wL_X10_213 : Cond.methodLink RX10 213 yX2_totalOf ∈ wsL_law := h_inT 813 (by decide +kernel) rfl
theorem wL_X10_216 : Cond.methodLink RX10 216 yX0_gotOf ∈ wsL_law := h_inT 817 (by decide +kernel) rfl
theorem wL_X10_219 : Cond.methodLink RX10 219 yX0_agesOf ∈ wsL_law := h_inT 821 (by decide +kernel) rfl
theorem wL_X10_232 : Cond.methodLink RX10 232 yX7_greatestOn ∈ wsL_law := h_inT 843 (by decide +kernel) rfl
theorem wL_X10_235 : Cond.methodLink RX10 235 yX7_hasAddress ∈ wsL_law := h_inT 851 (by decide +kernel) rfl
theorem wL_X10_238 : Cond.methodLink RX10 238 yX7_append ∈ wsL_law := h_inT 852 (by decide +kernel) rfl
theorem wL_X10_239 : Cond.methodLink RX10 239 yX5_startSilence ∈ wsL_law := h_inT 853 (by decide +kernel) rfl
theorem wL_X10_249 : Cond.methodLink RX10 249 yX2_slotOf ∈ wsL_law := h_inT 867 (by decide +kernel) rfl
theorem wL_X10_258 : Cond.methodLink RX10 258 yX10_refuse ∈ wsL_law := h_inT 892 (by decide +kernel) rfl
theorem wL_X10_277 : Cond.methodLink RX10 277 yX5_passTick ∈ wsL_law := h_inT 946 (by decide +kernel) rfl
theorem wL_X10_281 : Cond.methodLink RX10 281 yX5_drawFrame ∈ wsL_law := h_inT 1079 (by decide +kernel) rfl
theorem wL_X10_284 : Cond.methodLink RX10 284 yX7_chiefIsOn ∈ wsL_law := h_inT 1102 (by decide +kernel) rfl
theorem wL_X10_290 : Cond.methodLink RX10 290 yX7_staleBits ∈ wsL_law := h_inT 1112 (by decide +kernel) rfl
theorem wL_X10_293 : Cond.methodLink RX10 293 yX8_copyFrom ∈ wsL_law := h_inT 1120 (by decide +kernel) rfl
theorem wL_X10_296 : Cond.methodLink RX10 296 yX1_ticksTill ∈ wsL_law := h_inT 1133 (by decide +kernel) rfl
theorem wL_X10_300 : Cond.methodLink RX10 300 yX10_giveReached ∈ wsL_law := h_inT 1151 (by decide +kernel) rfl
theorem wL_X10_303 : Cond.methodLink RX10 303 yX5_hasFrame ∈ wsL_law := h_inT 1159 (by decide +kernel) rfl
theorem wL_X10_306 : Cond.methodLink RX10 306 yX1_numberGot ∈ wsL_law := h_inT 1168 (by decide +kernel) rfl
theorem wL_X10_310 : Cond.methodLink RX10 310 yX1_greatestLevel ∈ wsL_law := h_inT 1176 (by decide +kernel) rfl
theorem wL_X10_316 : Cond.methodLink RX10 316 yX1_noteGot ∈ wsL_law := h_inT 1201 (by decide +kernel) rfl
theorem wL_X10_319 : Cond.methodLink RX10 319 yX1_ticksGained ∈ wsL_law := h_inT 1207 (by decide +kernel) rfl
theorem wL_X10_62 : Cond.methodLink RX10 62 yX8_append ∈ wsL_law := h_inT 412 (by decide +kernel) rfl
theorem wL_X10_66 : Cond.methodLink RX10 66 yX10_fail ∈ wsL_law := h_inT 420 (by decide +kernel) rfl
theorem wL_X10_70 : Cond.methodLink RX10 70 yX4_readText ∈ wsL_law := h_inT 424 (by decide +kernel) rfl
theorem wL_X10_82 : Cond.methodLink RX10 82 yX5_copyFrom ∈ wsL_law := h_inT 640 (by decide +kernel) rfl
theorem wL_X10_95 : Cond.methodLink RX10 95 yX10_give ∈ wsL_law := h_inT 678 (by decide +kernel) rfl
theorem wL_X10_98 : Cond.methodLink RX10 98 yX7_onBits ∈ wsL_law := h_inT 690 (by decide +kernel) rfl
theorem wS_J6_bitCount_0f7a4 : h_wS yJ6_bitCount_0f7a4 := h_inT 960 (by decide +kernel) rfl
theorem wS_J7_fill_53178 : h_wS yJ7_fill_53178 := h_inT 445 (by decide +kernel) rfl
theorem wA_ini : Cond.initialized "java/lang/System" ∈ wsL_law := h_inT 18 (by decide +kernel) rfl
theorem wA_nat : Cond.native arraycopyName ∈ wsL_law := h_inT 650 (by decide +kernel) rfl
theorem wA_sta : Cond.static arraycopyName ∈ wsL_law := h_inT 649 (by decide +kernel) rfl
theorem wC_J6_265 : Cond.constant RJ6 265 1431655765 ∈ wsL_law := h_inT 962 (by decide +kernel) rfl
theorem wC_J6_266 : Cond.constant RJ6 266 858993459 ∈ wsL_law := h_inT 963 (by decide +kernel) rfl
theorem wC_J6_267 : Cond.constant RJ6 267 252645135 ∈ wsL_law := h_inT 964 (by decide +kernel) rfl
theorem wC_X5_165 : Cond.constant RX5 165 139968 ∈ wsL_law := h_inT 1087 (by decide +kernel) rfl
theorem wV_X0_agesOf : h_wV yX0_agesOf := ⟨h_inT 822 (by decide +kernel) rfl, h_inT 823 (by decide +kernel) rfl⟩
theorem wV_X0_clear : h_wV yX0_clear := ⟨h_inT 461 (by decide +kernel) rfl, h_inT 462 (by decide +kernel) rfl⟩
theorem wV_X0_copyFrom : h_wV yX0_copyFrom := ⟨h_inT 670 (by decide +kernel) rfl, h_inT 671 (by decide +kernel) rfl⟩
theorem wV_X0_counted : h_wV yX0_counted := ⟨h_inT 780 (by decide +kernel) rfl, h_inT 781 (by decide +kernel) rfl⟩
theorem wV_X0_gotOf : h_wV yX0_gotOf := ⟨h_inT 818 (by decide +kernel) rfl, h_inT 819 (by decide +kernel) rfl⟩
theorem wV_X1_greatestLevel : h_wV yX1_greatestLevel := ⟨h_inT 1177 (by decide +kernel) rfl, h_inT 1178 (by decide +kernel) rfl⟩
theorem wV_X1_hasCome : h_wV yX1_hasCome := ⟨h_inT 1139 (by decide +kernel) rfl, h_inT 1140 (by decide +kernel) rfl⟩
theorem wV_X1_noteGot : h_wV yX1_noteGot := ⟨h_inT 1202 (by decide +kernel) rfl, h_inT 1203 (by decide +kernel) rfl⟩
theorem wV_X1_numberGot : h_wV yX1_numberGot := ⟨h_inT 1169 (by decide +kernel) rfl, h_inT 1170 (by decide +kernel) rfl⟩
theorem wV_X1_ticksGained : h_wV yX1_ticksGained := ⟨h_inT 1208 (by decide +kernel) rfl, h_inT 1209 (by decide +kernel) rfl⟩
theorem wV_X1_ticksTill : h_wV yX1_ticksTill := ⟨h_inT 1134 (by decide +kernel) rfl, h_inT 1135 (by decide +kernel) rfl⟩
theorem wV_X2_clear : h_wV yX2_clear := ⟨h_inT 441 (by decide +kernel) rfl, h_inT 442 (by decide +kernel) rfl⟩
theorem wV_X2_copyFrom : h_wV yX2_copyFrom := ⟨h_inT 652 (by decide +kernel) rfl, h_inT 653 (by decide +kernel) rfl⟩
theorem wV_X2_slotOf : h_wV yX2_slotOf := ⟨h_inT 868 (by decide +kernel) rfl, h_inT 869 (by decide +kernel) rfl⟩
theorem wV_X2_total : h_wV yX2_total := ⟨h_inT 696 (by decide +kernel) rfl, h_inT 697 (by decide +kernel) rfl⟩
theorem wV_X2_totalOf : h_wV yX2_totalOf := ⟨h_inT 814 (by decide +kernel) rfl, h_inT 815 (by decide +kernel) rfl⟩
theorem wV_X3_clear : h_wV yX3_clear := ⟨h_inT 448 (by decide +kernel) rfl, h_inT 449 (by decide +kernel) rfl⟩
theorem wV_X3_copyFrom : h_wV yX3_copyFrom := ⟨h_inT 657 (by decide +kernel) rfl, h_inT 658 (by decide +kernel) rfl⟩
theorem wV_X3_isEmpty : h_wV yX3_isEmpty := ⟨h_inT 1147 (by decide +kernel) rfl, h_inT 1148 (by decide +kernel) rfl⟩
theorem wV_X4_readText : h_wV yX4_readText := ⟨h_inT 425 (by decide +kernel) rfl, h_inT 426 (by decide +kernel) rfl⟩
theorem wV_X4_readToken : h_wV yX4_readToken := ⟨h_inT 466 (by decide +kernel) rfl, h_inT 467 (by decide +kernel) rfl⟩
theorem wV_X4_skipBlanks : h_wV yX4_skipBlanks := ⟨h_inT 470 (by decide +kernel) rfl, h_inT 471 (by decide +kernel) rfl⟩
theorem wV_X5_clear : h_wV yX5_clear := ⟨h_inT 429 (by decide +kernel) rfl, h_inT 430 (by decide +kernel) rfl⟩
theorem wV_X5_copyFrom : h_wV yX5_copyFrom := ⟨h_inT 641 (by decide +kernel) rfl, h_inT 642 (by decide +kernel) rfl⟩
theorem wV_X5_drawFrame : h_wV yX5_drawFrame := ⟨h_inT 1080 (by decide +kernel) rfl, h_inT 1081 (by decide +kernel) rfl⟩
theorem wV_X5_drawn : h_wV yX5_drawn := ⟨h_inT 1089 (by decide +kernel) rfl, h_inT 1090 (by decide +kernel) rfl⟩
theorem wV_X5_forgetLatestTick : h_wV yX5_forgetLatestTick := ⟨h_inT 675 (by decide +kernel) rfl, h_inT 676 (by decide +kernel) rfl⟩
theorem wV_X5_hasFrame : h_wV yX5_hasFrame := ⟨h_inT 1160 (by decide +kernel) rfl, h_inT 1161 (by decide +kernel) rfl⟩
theorem wV_X5_isQuiet : h_wV yX5_isQuiet := ⟨h_inT 1143 (by decide +kernel) rfl, h_inT 1144 (by decide +kernel) rfl⟩
theorem wV_X5_nextDraw : h_wV yX5_nextDraw := ⟨h_inT 1084 (by decide +kernel) rfl, h_inT 1085 (by decide +kernel) rfl⟩
theorem wV_X5_passSilentTick : h_wV yX5_passSilentTick := ⟨h_inT 951 (by decide +kernel) rfl, h_inT 952 (by decide +kernel) rfl⟩
theorem wV_X5_passTick : h_wV yX5_passTick := ⟨h_inT 947 (by decide +kernel) rfl, h_inT 948 (by decide +kernel) rfl⟩
theorem wV_X5_startSilence : h_wV yX5_startSilence := ⟨h_inT 854 (by decide +kernel) rfl, h_inT 855 (by decide +kernel) rfl⟩
theorem wV_X6_copyFrom : h_wV yX6_copyFrom := ⟨h_inT 666 (by decide +kernel) rfl, h_inT 667 (by decide +kernel) rfl⟩
theorem wV_X6_restart : h_wV yX6_restart := ⟨h_inT 457 (by decide +kernel) rfl, h_inT 458 (by decide +kernel) rfl⟩
theorem wV_X7_append : h_wV yX7_append := ⟨h_inT 587 (by decide +kernel) rfl, h_inT 588 (by decide +kernel) rfl⟩
theorem wV_X7_breakCounts : h_wV yX7_breakCounts := ⟨h_inT 700 (by decide +kernel) rfl, h_inT 701 (by decide +kernel) rfl⟩
theorem wV_X7_breakCountsWithout : h_wV yX7_breakCountsWithout := ⟨h_inT 704 (by decide +kernel) rfl, h_inT 705 (by decide +kernel) rfl⟩
theorem wV_X7_chiefIsOn : h_wV yX7_chiefIsOn := ⟨h_inT 984 (by decide +kernel) rfl, h_inT 985 (by decide +kernel) rfl⟩
theorem wV_X7_clear : h_wV yX7_clear := ⟨h_inT 433 (by decide +kernel) rfl, h_inT 434 (by decide +kernel) rfl⟩
theorem wV_X7_copyFrom : h_wV yX7_copyFrom := ⟨h_inT 645 (by decide +kernel) rfl, h_inT 646 (by decide +kernel) rfl⟩
theorem wV_X7_exists : h_wV yX7_exists := ⟨h_inT 583 (by decide +kernel) rfl, h_inT 584 (by decide +kernel) rfl⟩
theorem wV_X7_greatestOn : h_wV yX7_greatestOn := ⟨h_inT 844 (by decide +kernel) rfl, h_inT 845 (by decide +kernel) rfl⟩
theorem wV_X7_hasAddress : h_wV yX7_hasAddress := ⟨h_inT 579 (by decide +kernel) rfl, h_inT 580 (by decide +kernel) rfl⟩
theorem wV_X7_isOn : h_wV yX7_isOn := ⟨h_inT 599 (by decide +kernel) rfl, h_inT 600 (by decide +kernel) rfl⟩
theorem wV_X7_onBits : h_wV yX7_onBits := ⟨h_inT 691 (by decide +kernel) rfl, h_inT 692 (by decide +kernel) rfl⟩
theorem wV_X7_onCount : h_wV yX7_onCount := ⟨h_inT 955 (by decide +kernel) rfl, h_inT 956 (by decide +kernel) rfl⟩
theorem wV_X7_setBreak : h_wV yX7_setBreak := ⟨h_inT 437 (by decide +kernel) rfl, h_inT 438 (by decide +kernel) rfl⟩
theorem wV_X7_staleBits : h_wV yX7_staleBits := ⟨h_inT 1113 (by decide +kernel) rfl, h_inT 1114 (by decide +kernel) rfl⟩
theorem wV_X8_append : h_wV yX8_append := ⟨h_inT 413 (by decide +kernel) rfl, h_inT 414 (by decide +kernel) rfl⟩
theorem wV_X8_copyFrom : h_wV yX8_copyFrom := ⟨h_inT 1121 (by decide +kernel) rfl, h_inT 1122 (by decide +kernel) rfl⟩
theorem wV_X9_clear : h_wV yX9_clear := ⟨h_inT 453 (by decide +kernel) rfl, h_inT 454 (by decide +kernel) rfl⟩
theorem wV_X9_copyFrom : h_wV yX9_copyFrom := ⟨h_inT 662 (by decide +kernel) rfl, h_inT 663 (by decide +kernel) rfl⟩
theorem wV_X9_tell : h_wV yX9_tell := ⟨h_inT 768 (by decide +kernel) rfl, h_inT 769 (by decide +kernel) rfl⟩
theorem wV_X10_fail : h_wV yX10_fail := ⟨h_inT 422 (by decide +kernel) rfl, h_inP 0 (by decide +kernel) rfl⟩
theorem wV_X10_give : h_wV yX10_give := ⟨h_inT 680 (by decide +kernel) rfl, h_inP 1 (by decide +kernel) rfl⟩
theorem wV_X10_giveReached : h_wV yX10_giveReached := ⟨h_inT 1153 (by decide +kernel) rfl, h_inP 4 (by decide +kernel) rfl⟩
theorem wV_X10_refuse : h_wV yX10_refuse := ⟨h_inT 894 (by decide +kernel) rfl, h_inP 2 (by decide +kernel) rfl⟩
theorem wd_X0_agesOf : h_wd yX0_agesOf cX0_agesOf 2 (some .int) 1 := ⟨⟨h_inT 824 (by decide +kernel) rfl, h_inT 9 (by decide +kernel) rfl⟩, by decide +kernel, by decide +kernel, by decide +kernel⟩
theorem wd_X0_clear : h_wd yX0_clear cX0_clear 1 none 0 := ⟨⟨h_inT 463 (by decide +kernel) rfl, h_inT 9 (by decide +kernel) rfl⟩, by decide +kernel, by decide +kernel, by decide +kernel⟩
theorem wd_X0_copyFrom : h_wd yX0_copyFrom cX0_copyFrom 2 none 1 := ⟨⟨h_inT 672 (by decide +kernel) rfl, h_inT 9 (by decide +kernel) rfl⟩, by decide +kernel, by decide +kernel, by decide +kernel⟩
theorem wd_X0_counted : h_wd yX0_counted cX0_counted 2 (some .int) 1 := ⟨⟨h_inT 782 (by decide +kernel) rfl, h_inT 9 (by decide +kernel) rfl⟩, by decide +kernel, by decide +kernel, by decide +kernel⟩
theorem wd_X0_gotOf : h_wd yX0_gotOf cX0_gotOf 2 (some .int) 1 := ⟨⟨h_inT 820 (by decide +kernel) rfl, h_inT 9 (by decide +kernel) rfl⟩, by decide +kernel, by decide +kernel, by decide +kernel⟩
theorem wd_X1_greatestLevel : h_wd yX1_greatestLevel cX1_greatestLevel 3 (some .int) 0 := ⟨⟨h_inT 1179 (by decide +kernel) rfl, h_inT 10 (by decide +kernel) rfl⟩, by decide +kernel, by decide +kernel, by decide +kernel⟩
theorem wd_X1_hasCome : h_wd yX1_hasCome cX1_hasCome 3 (some .boolean) 2 := ⟨⟨h_inT 1141 (by decide +kernel) rfl, h_inT 10 (by decide +kernel) rfl⟩, by decide +kernel, by decide +kernel, by decide +kernel⟩
theorem wd_X1_noteGot : h_wd yX1_noteGot cX1_noteGot 5 none 1 := ⟨⟨h_inT 1204 (by decide +kernel) rfl, h_inT 10 (by decide +kernel) rfl⟩, by decide +kernel, by decide +kernel, by decide +kernel⟩
theorem wd_X1_numberGot : h_wd yX1_numberGot cX1_numberGot 5 (some .int) 2 := ⟨⟨h_inT 1171 (by decide +kernel) rfl, h_inT 10 (by decide +kernel) rfl⟩, by decide +kernel, by decide +kernel, by decide +kernel⟩
theorem wd_X1_ticksGained : h_wd yX1_ticksGained cX1_ticksGained 3 (some .int) 0 := ⟨⟨h_inT 1210 (by decide +kernel) rfl, h_inT 10 (by decide +kernel) rfl⟩, by decide +kernel, by decide +kernel, by decide +kernel⟩
theorem wd_X1_ticksTill : h_wd yX1_ticksTill cX1_ticksTill 5 (some .int) 3 := ⟨⟨h_inT 1136 (by decide +kernel) rfl, h_inT 10 (by decide +kernel) rfl⟩, by decide +kernel, by decide +kernel, by decide +kernel⟩
theorem wd_X2_clear : h_wd yX2_clear cX2_clear 1 none 0 := ⟨⟨h_inT 443 (by decide +kernel) rfl, h_inT 5 (by decide +kernel) rfl⟩, by decide +kernel, by decide +kernel, by decide +kernel⟩
theorem wd_X2_copyFrom : h_wd yX2_copyFrom cX2_copyFrom 2 none 1 := ⟨⟨h_inT 654 (by decide +kernel) rfl, h_inT 5 (by decide +kernel) rfl⟩, by decide +kernel, by decide +kernel, by decide +kernel⟩
theorem wd_X2_slotOf : h_wd yX2_slotOf cX2_slotOf 4 (some .int) 1 := ⟨⟨h_inT 870 (by decide +kernel) rfl, h_inT 5 (by decide +kernel) rfl⟩, by decide +kernel, by decide +kernel, by decide +kernel⟩
theorem wd_X2_total : h_wd yX2_total cX2_total 3 (some .int) 0 := ⟨⟨h_inT 698 (by decide +kernel) rfl, h_inT 5 (by decide +kernel) rfl⟩, by decide +kernel, by decide +kernel, by decide +kernel⟩
theorem wd_X2_totalOf : h_wd yX2_totalOf cX2_totalOf 5 (some .int) 1 := ⟨⟨h_inT 816 (by decide +kernel) rfl, h_inT 5 (by decide +kernel) rfl⟩, by decide +kernel, by decide +kernel, by decide +kernel⟩
theorem wd_X3_clear : h_wd yX3_clear cX3_clear 1 none 0 := ⟨⟨h_inT 450 (by decide +kernel) rfl, h_inT 6 (by decide +kernel) rfl⟩, by decide +kernel, by decide +kernel, by decide +kernel⟩
theorem wd_X3_copyFrom : h_wd yX3_copyFrom cX3_copyFrom 2 none 1 := ⟨⟨h_inT 659 (by decide +kernel) rfl, h_inT 6 (by decide +kernel) rfl⟩, by decide +kernel, by decide +kernel, by decide +kernel⟩
theorem wd_X3_isEmpty : h_wd yX3_isEmpty cX3_isEmpty 2 (some .boolean) 0 := ⟨⟨h_inT 1149 (by decide +kernel) rfl, h_inT 6 (by decide +kernel) rfl⟩, by decide +kernel, by decide +kernel, by decide +kernel⟩
theorem wd_X4_readText : h_wd yX4_readText cX4_readText 3 (some .boolean) 1 := ⟨⟨h_inT 427 (by decide +kernel) rfl, h_inT 11 (by decide +kernel) rfl⟩, by decide +kernel, by decide +kernel, by decide +kernel⟩
theorem wd_X4_readToken : h_wd yX4_readToken cX4_readToken 2 (some .boolean) 0 := ⟨⟨h_inT 468 (by decide +kernel) rfl, h_inT 11 (by decide +kernel) rfl⟩, by decide +kernel, by decide +kernel, by decide +kernel⟩
theorem wd_X4_skipBlanks : h_wd yX4_skipBlanks cX4_skipBlanks 1 none 0 := ⟨⟨h_inT 472 (by decide +kernel) rfl, h_inT 11 (by decide +kernel) rfl⟩, by decide +kernel, by decide +kernel, by decide +kernel⟩
theorem wd_X5_clear : h_wd yX5_clear cX5_clear 1 none 0 := ⟨⟨h_inT 431 (by decide +kernel) rfl, h_inT 3 (by decide +kernel) rfl⟩, by decide +kernel, by decide +kernel, by decide +kernel⟩
theorem wd_X5_copyFrom : h_wd yX5_copyFrom cX5_copyFrom 2 none 1 := ⟨⟨h_inT 643 (by decide +kernel) rfl, h_inT 3 (by decide +kernel) rfl⟩, by decide +kernel, by decide +kernel, by decide +kernel⟩
theorem wd_X5_drawFrame : h_wd yX5_drawFrame cX5_drawFrame 7 (some .int) 2 := ⟨⟨h_inT 1082 (by decide +kernel) rfl, h_inT 3 (by decide +kernel) rfl⟩, by decide +kernel, by decide +kernel, by decide +kernel⟩
theorem wd_X5_drawn : h_wd yX5_drawn cX5_drawn 3 (some .int) 2 := ⟨⟨h_inT 1091 (by decide +kernel) rfl, h_inT 3 (by decide +kernel) rfl⟩, by decide +kernel, by decide +kernel, by decide +kernel⟩
theorem wd_X5_forgetLatestTick : h_wd yX5_forgetLatestTick cX5_forgetLatestTick 1 none 0 := ⟨⟨h_inT 677 (by decide +kernel) rfl, h_inT 3 (by decide +kernel) rfl⟩, by decide +kernel, by decide +kernel, by decide +kernel⟩
theorem wd_X5_hasFrame : h_wd yX5_hasFrame cX5_hasFrame 2 (some .boolean) 1 := ⟨⟨h_inT 1162 (by decide +kernel) rfl, h_inT 3 (by decide +kernel) rfl⟩, by decide +kernel, by decide +kernel, by decide +kernel⟩
theorem wd_X5_isQuiet : h_wd yX5_isQuiet cX5_isQuiet 2 (some .boolean) 0 := ⟨⟨h_inT 1145 (by decide +kernel) rfl, h_inT 3 (by decide +kernel) rfl⟩, by decide +kernel, by decide +kernel, by decide +kernel⟩
theorem wd_X5_nextDraw : h_wd yX5_nextDraw cX5_nextDraw 2 (some .int) 1 := ⟨⟨h_inT 1086 (by decide +kernel) rfl, h_inT 3 (by decide +kernel) rfl⟩, by decide +kernel, by decide +kernel, by decide +kernel⟩
theorem wd_X5_passSilentTick : h_wd yX5_passSilentTick cX5_passSilentTick 2 none 0 := ⟨⟨h_inT 953 (by decide +kernel) rfl, h_inT 3 (by decide +kernel) rfl⟩, by decide +kernel, by decide +kernel, by decide +kernel⟩
theorem wd_X5_passTick : h_wd yX5_passTick cX5_passTick 2 none 1 := ⟨⟨h_inT 949 (by decide +kernel) rfl, h_inT 3 (by decide +kernel) rfl⟩, by decide +kernel, by decide +kernel, by decide +kernel⟩
theorem wd_X5_startSilence : h_wd yX5_startSilence cX5_startSilence 1 none 0 := ⟨⟨h_inT 856 (by decide +kernel) rfl, h_inT 3 (by decide +kernel) rfl⟩, by decide +kernel, by decide +kernel, by decide +kernel⟩
theorem wd_X6_copyFrom : h_wd yX6_copyFrom cX6_copyFrom 2 none 1 := ⟨⟨h_inT 668 (by decide +kernel) rfl, h_inT 8 (by decide +kernel) rfl⟩, by decide +kernel, by decide +kernel, by decide +kernel⟩
theorem wd_X6_restart : h_wd yX6_restart cX6_restart 1 none 0 := ⟨⟨h_inT 459 (by decide +kernel) rfl, h_inT 8 (by decide +kernel) rfl⟩, by decide +kernel, by decide +kernel, by decide +kernel⟩
theorem wd_X7_append : h_wd yX7_append cX7_append 2 none 1 := ⟨⟨h_inT 589 (by decide +kernel) rfl, h_inT 4 (by decide +kernel) rfl⟩, by decide +kernel, by decide +kernel, by decide +kernel⟩
theorem wd_X7_breakCounts : h_wd yX7_breakCounts cX7_breakCounts 1 (some .boolean) 0 := ⟨⟨h_inT 702 (by decide +kernel) rfl, h_inT 4 (by decide +kernel) rfl⟩, by decide +kernel, by decide +kernel, by decide +kernel⟩
theorem wd_X7_breakCountsWithout : h_wd yX7_breakCountsWithout cX7_breakCountsWithout 3 (some .boolean) 1 := ⟨⟨h_inT 706 (by decide +kernel) rfl, h_inT 4 (by decide +kernel) rfl⟩, by decide +kernel, by decide +kernel, by decide +kernel⟩
theorem wd_X7_chiefIsOn : h_wd yX7_chiefIsOn cX7_chiefIsOn 1 (some .boolean) 0 := ⟨⟨h_inT 986 (by decide +kernel) rfl, h_inT 4 (by decide +kernel) rfl⟩, by decide +kernel, by decide +kernel, by decide +kernel⟩
theorem wd_X7_clear : h_wd yX7_clear cX7_clear 1 none 0 := ⟨⟨h_inT 435 (by decide +kernel) rfl, h_inT 4 (by decide +kernel) rfl⟩, by decide +kernel, by decide +kernel, by decide +kernel⟩
theorem wd_X7_copyFrom : h_wd yX7_copyFrom cX7_copyFrom 2 none 1 := ⟨⟨h_inT 647 (by decide +kernel) rfl, h_inT 4 (by decide +kernel) rfl⟩, by decide +kernel, by decide +kernel, by decide +kernel⟩
theorem wd_X7_exists : h_wd yX7_exists cX7_exists 2 (some .boolean) 1 := ⟨⟨h_inT 585 (by decide +kernel) rfl, h_inT 4 (by decide +kernel) rfl⟩, by decide +kernel, by decide +kernel, by decide +kernel⟩
theorem wd_X7_greatestOn : h_wd yX7_greatestOn cX7_greatestOn 4 (some .int) 0 := ⟨⟨h_inT 846 (by decide +kernel) rfl, h_inT 4 (by decide +kernel) rfl⟩, by decide +kernel, by decide +kernel, by decide +kernel⟩
theorem wd_X7_hasAddress : h_wd yX7_hasAddress cX7_hasAddress 3 (some .boolean) 1 := ⟨⟨h_inT 581 (by decide +kernel) rfl, h_inT 4 (by decide +kernel) rfl⟩, by decide +kernel, by decide +kernel, by decide +kernel⟩
theorem wd_X7_isOn : h_wd yX7_isOn cX7_isOn 2 (some .boolean) 1 := ⟨⟨h_inT 601 (by decide +kernel) rfl, h_inT 4 (by decide +kernel) rfl⟩, by decide +kernel, by decide +kernel, by decide +kernel⟩
theorem wd_X7_onBits : h_wd yX7_onBits cX7_onBits 3 (some .int) 0 := ⟨⟨h_inT 693 (by decide +kernel) rfl, h_inT 4 (by decide +kernel) rfl⟩, by decide +kernel, by decide +kernel, by decide +kernel⟩
theorem wd_X7_onCount : h_wd yX7_onCount cX7_onCount 1 (some .int) 0 := ⟨⟨h_inT 957 (by decide +kernel) rfl, h_inT 4 (by decide +kernel) rfl⟩, by decide +kernel, by decide +kernel, by decide +kernel⟩
theorem wd_X7_setBreak : h_wd yX7_setBreak cX7_setBreak 3 none 2 := ⟨⟨h_inT 439 (by decide +kernel) rfl, h_inT 4 (by decide +kernel) rfl⟩, by decide +kernel, by decide +kernel, by decide +kernel⟩
theorem wd_X7_staleBits : h_wd yX7_staleBits cX7_staleBits 3 (some .int) 0 := ⟨⟨h_inT 1115 (by decide +kernel) rfl, h_inT 4 (by decide +kernel) rfl⟩, by decide +kernel, by decide +kernel, by decide +kernel⟩
theorem wd_X8_append : h_wd yX8_append cX8_append 3 none 1 := ⟨⟨h_inT 415 (by decide +kernel) rfl, h_inT 2 (by decide +kernel) rfl⟩, by decide +kernel, by decide +kernel, by decide +kernel⟩
theorem wd_X8_copyFrom : h_wd yX8_copyFrom cX8_copyFrom 2 none 1 := ⟨⟨h_inT 1123 (by decide +kernel) rfl, h_inT 2 (by decide +kernel) rfl⟩, by decide +kernel, by decide +kernel, by decide +kernel⟩
theorem wd_X9_clear : h_wd yX9_clear cX9_clear 1 none 0 := ⟨⟨h_inT 455 (by decide +kernel) rfl, h_inT 7 (by decide +kernel) rfl⟩, by decide +kernel, by decide +kernel, by decide +kernel⟩
theorem wd_X9_copyFrom : h_wd yX9_copyFrom cX9_copyFrom 2 none 1 := ⟨⟨h_inT 664 (by decide +kernel) rfl, h_inT 7 (by decide +kernel) rfl⟩, by decide +kernel, by decide +kernel, by decide +kernel⟩
theorem wd_X9_tell : h_wd yX9_tell cX9_tell 2 (some .int) 1 := ⟨⟨h_inT 770 (by decide +kernel) rfl, h_inT 7 (by decide +kernel) rfl⟩, by decide +kernel, by decide +kernel, by decide +kernel⟩
theorem wd_X10_fail : h_wd yX10_fail cX10_fail 2 (some .int) 1 := ⟨⟨h_inT 423 (by decide +kernel) rfl, h_inT 1 (by decide +kernel) rfl⟩, by decide +kernel, by decide +kernel, by decide +kernel⟩
theorem wd_X10_give : h_wd yX10_give cX10_give 2 (some .int) 1 := ⟨⟨h_inT 681 (by decide +kernel) rfl, h_inT 1 (by decide +kernel) rfl⟩, by decide +kernel, by decide +kernel, by decide +kernel⟩
theorem wd_X10_giveReached : h_wd yX10_giveReached cX10_giveReached 2 (some .int) 1 := ⟨⟨h_inT 1154 (by decide +kernel) rfl, h_inT 1 (by decide +kernel) rfl⟩, by decide +kernel, by decide +kernel, by decide +kernel⟩
theorem wd_X10_refuse : h_wd yX10_refuse cX10_refuse 2 (some .boolean) 1 := ⟨⟨h_inT 895 (by decide +kernel) rfl, h_inT 1 (by decide +kernel) rfl⟩, by decide +kernel, by decide +kernel, by decide +kernel⟩
theorem wd_J6_bitCount_0f7a4 : h_wd yJ6_bitCount_0f7a4 cJ6_bitCount_0f7a4 1 (some .int) 1 := ⟨⟨h_inT 961 (by decide +kernel) rfl, h_inT 20 (by decide +kernel) rfl⟩, by decide +kernel, by decide +kernel, by decide +kernel⟩
theorem wd_J7_fill_53178 : h_wd yJ7_fill_53178 cJ7_fill_53178 4 none 2 := ⟨⟨h_inT 446 (by decide +kernel) rfl, h_inT 13 (by decide +kernel) rfl⟩, by decide +kernel, by decide +kernel, by decide +kernel⟩
end
section
theorem dJ6_bitCount_0f7a4_0 : decode cJ6_bitCount_0f7a4 0 = .ok (.iload_n 0, 1) := by decide +kernel
theorem dJ6_bitCount_0f7a4_1 : decode cJ6_bitCount_0f7a4 1 = .ok (.iload_n 0, 1) := by decide +kernel
theorem dJ6_bitCount_0f7a4_2 : decode cJ6_bitCount_0f7a4 2 = .ok (.iconst 1, 1) := by decide +kernel
theorem dJ6_bitCount_0f7a4_3 : decode cJ6_bitCount_0f7a4 3 = .ok (.iushr, 1) := by decide +kernel
theorem dJ6_bitCount_0f7a4_4 : decode cJ6_bitCount_0f7a4 4 = .ok (.ldc_w 265, 3) := by decide +kernel
theorem dJ6_bitCount_0f7a4_7 : decode cJ6_bitCount_0f7a4 7 = .ok (.iand, 1) := by decide +kernel
theorem dJ6_bitCount_0f7a4_8 : decode cJ6_bitCount_0f7a4 8 = .ok (.isub, 1) := by decide +kernel
theorem dJ6_bitCount_0f7a4_9 : decode cJ6_bitCount_0f7a4 9 = .ok (.istore_n 0, 1) := by decide +kernel
theorem dJ6_bitCount_0f7a4_10 : decode cJ6_bitCount_0f7a4 10 = .ok (.iload_n 0, 1) := by decide +kernel
theorem dJ6_bitCount_0f7a4_11 : decode cJ6_bitCount_0f7a4 11 = .ok (.ldc_w 266, 3) := by decide +kernel
theorem dJ6_bitCount_0f7a4_14 : decode cJ6_bitCount_0f7a4 14 = .ok (.iand, 1) := by decide +kernel
theorem dJ6_bitCount_0f7a4_15 : decode cJ6_bitCount_0f7a4 15 = .ok (.iload_n 0, 1) := by decide +kernel
theorem dJ6_bitCount_0f7a4_16 : decode cJ6_bitCount_0f7a4 16 = .ok (.iconst 2, 1) := by decide +kernel
theorem dJ6_bitCount_0f7a4_17 : decode cJ6_bitCount_0f7a4 17 = .ok (.iushr, 1) := by decide +kernel
theorem dJ6_bitCount_0f7a4_18 : decode cJ6_bitCount_0f7a4 18 = .ok (.ldc_w 266, 3) := by decide +kernel
theorem dJ6_bitCount_0f7a4_21 : decode cJ6_bitCount_0f7a4 21 = .ok (.iand, 1) := by decide +kernel
theorem dJ6_bitCount_0f7a4_22 : decode cJ6_bitCount_0f7a4 22 = .ok (.iadd, 1) := by decide +kernel
theorem dJ6_bitCount_0f7a4_23 : decode cJ6_bitCount_0f7a4 23 = .ok (.istore_n 0, 1) := by decide +kernel
theorem dJ6_bitCount_0f7a4_24 : decode cJ6_bitCount_0f7a4 24 = .ok (.iload_n 0, 1) := by decide +kernel
theorem dJ6_bitCount_0f7a4_25 : decode cJ6_bitCount_0f7a4 25 = .ok (.iload_n 0, 1) := by decide +kernel
theorem dJ6_bitCount_0f7a4_26 : decode cJ6_bitCount_0f7a4 26 = .ok (.iconst 4, 1) := by decide +kernel
theorem dJ6_bitCount_0f7a4_27 : decode cJ6_bitCount_0f7a4 27 = .ok (.iushr, 1) := by decide +kernel
theorem dJ6_bitCount_0f7a4_28 : decode cJ6_bitCount_0f7a4 28 = .ok (.iadd, 1) := by decide +kernel
theorem dJ6_bitCount_0f7a4_29 : decode cJ6_bitCount_0f7a4 29 = .ok (.ldc_w 267, 3) := by decide +kernel
theorem dJ6_bitCount_0f7a4_32 : decode cJ6_bitCount_0f7a4 32 = .ok (.iand, 1) := by decide +kernel
theorem dJ6_bitCount_0f7a4_33 : decode cJ6_bitCount_0f7a4 33 = .ok (.istore_n 0, 1) := by decide +kernel
theorem dJ6_bitCount_0f7a4_34 : decode cJ6_bitCount_0f7a4 34 = .ok (.iload_n 0, 1) := by decide +kernel
theorem dJ6_bitCount_0f7a4_35 : decode cJ6_bitCount_0f7a4 35 = .ok (.iload_n 0, 1) := by decide +kernel
theorem dJ6_bitCount_0f7a4_36 : decode cJ6_bitCount_0f7a4 36 = .ok (.bipush 8, 2) := by decide +kernel
theorem dJ6_bitCount_0f7a4_38 : decode cJ6_bitCount_0f7a4 38 = .ok (.iushr, 1) := by decide +kernel
theorem dJ6_bitCount_0f7a4_39 : decode cJ6_bitCount_0f7a4 39 = .ok (.iadd, 1) := by decide +kernel
theorem dJ6_bitCount_0f7a4_40 : decode cJ6_bitCount_0f7a4 40 = .ok (.istore_n 0, 1) := by decide +kernel
theorem dJ6_bitCount_0f7a4_41 : decode cJ6_bitCount_0f7a4 41 = .ok (.iload_n 0, 1) := by decide +kernel
theorem dJ6_bitCount_0f7a4_42 : decode cJ6_bitCount_0f7a4 42 = .ok (.iload_n 0, 1) := by decide +kernel
theorem dJ6_bitCount_0f7a4_43 : decode cJ6_bitCount_0f7a4 43 = .ok (.bipush 16, 2) := by decide +kernel
theorem dJ6_bitCount_0f7a4_45 : decode cJ6_bitCount_0f7a4 45 = .ok (.iushr, 1) := by decide +kernel
theorem dJ6_bitCount_0f7a4_46 : decode cJ6_bitCount_0f7a4 46 = .ok (.iadd, 1) := by decide +kernel
theorem dJ6_bitCount_0f7a4_47 : decode cJ6_bitCount_0f7a4 47 = .ok (.istore_n 0, 1) := by decide +kernel
theorem dJ6_bitCount_0f7a4_48 : decode cJ6_bitCount_0f7a4 48 = .ok (.iload_n 0, 1) := by decide +kernel
theorem dJ6_bitCount_0f7a4_49 : decode cJ6_bitCount_0f7a4 49 = .ok (.bipush 63, 2) := by decide +kernel
theorem dJ6_bitCount_0f7a4_51 : decode cJ6_bitCount_0f7a4 51 = .ok (.iand, 1) := by decide +kernel
theorem dJ6_bitCount_0f7a4_52 : decode cJ6_bitCount_0f7a4 52 = .ok (.ireturn, 1) := by decide +kernel
theorem dJ7_fill_53178_0 : decode cJ7_fill_53178 0 = .ok (.iconst 0, 1) := by decide +kernel
theorem dJ7_fill_53178_1 : decode cJ7_fill_53178 1 = .ok (.istore_n 2, 1) := by decide +kernel
theorem dJ7_fill_53178_2 : decode cJ7_fill_53178 2 = .ok (.aload_n 0, 1) := by decide +kernel
theorem dJ7_fill_53178_3 : decode cJ7_fill_53178 3 = .ok (.arraylength, 1) := by decide +kernel
theorem dJ7_fill_53178_4 : decode cJ7_fill_53178 4 = .ok (.istore_n 3, 1) := by decide +kernel
theorem dJ7_fill_53178_5 : decode cJ7_fill_53178 5 = .ok (.iload_n 2, 1) := by decide +kernel
theorem dJ7_fill_53178_6 : decode cJ7_fill_53178 6 = .ok (.iload_n 3, 1) := by decide +kernel
theorem dJ7_fill_53178_7 : decode cJ7_fill_53178 7 = .ok (.if_icmp .ge 13, 3) := by decide +kernel
theorem dJ7_fill_53178_10 : decode cJ7_fill_53178 10 = .ok (.aload_n 0, 1) := by decide +kernel
theorem dJ7_fill_53178_11 : decode cJ7_fill_53178 11 = .ok (.iload_n 2, 1) := by decide +kernel
theorem dJ7_fill_53178_12 : decode cJ7_fill_53178 12 = .ok (.iload_n 1, 1) := by decide +kernel
theorem dJ7_fill_53178_13 : decode cJ7_fill_53178 13 = .ok (.iastore, 1) := by decide +kernel
theorem dJ7_fill_53178_14 : decode cJ7_fill_53178 14 = .ok (.iinc 2 1, 3) := by decide +kernel
theorem dJ7_fill_53178_17 : decode cJ7_fill_53178 17 = .ok (.goto (-12), 3) := by decide +kernel
theorem dJ7_fill_53178_20 : decode cJ7_fill_53178 20 = .ok (.return_, 1) := by decide +kernel
theorem dX0_agesOf_0 : decode cX0_agesOf 0 = .ok (.iload_n 1, 1) := by decide +kernel
theorem dX0_agesOf_1 : decode cX0_agesOf 1 = .ok (.ifCond .lt 18, 3) := by decide +kernel
theorem dX0_agesOf_4 : decode cX0_agesOf 4 = .ok (.iload_n 1, 1) := by decide +kernel
theorem dX0_agesOf_5 : decode cX0_agesOf 5 = .ok (.bipush 8, 2) := by decide +kernel
theorem dX0_agesOf_7 : decode cX0_agesOf 7 = .ok (.if_icmp .ge 12, 3) := by decide +kernel
theorem dX0_agesOf_10 : decode cX0_agesOf 10 = .ok (.aload_n 0, 1) := by decide +kernel
theorem dX0_agesOf_11 : decode cX0_agesOf 11 = .ok (.getfield 18, 3) := by decide +kernel
theorem dX0_agesOf_14 : decode cX0_agesOf 14 = .ok (.iload_n 1, 1) := by decide +kernel
theorem dX0_agesOf_15 : decode cX0_agesOf 15 = .ok (.iaload, 1) := by decide +kernel
theorem dX0_agesOf_16 : decode cX0_agesOf 16 = .ok (.goto 4, 3) := by decide +kernel
theorem dX0_agesOf_19 : decode cX0_agesOf 19 = .ok (.iconst 0, 1) := by decide +kernel
theorem dX0_agesOf_20 : decode cX0_agesOf 20 = .ok (.ireturn, 1) := by decide +kernel
theorem dX0_clear_0 : decode cX0_clear 0 = .ok (.aload_n 0, 1) := by decide +kernel
theorem dX0_clear_1 : decode cX0_clear 1 = .ok (.getfield 9, 3) := by decide +kernel
theorem dX0_clear_4 : decode cX0_clear 4 = .ok (.iconst 0, 1) := by decide +kernel
theorem dX0_clear_5 : decode cX0_clear 5 = .ok (.invokestatic 31, 3) := by decide +kernel
theorem dX0_clear_8 : decode cX0_clear 8 = .ok (.aload_n 0, 1) := by decide +kernel
theorem dX0_clear_9 : decode cX0_clear 9 = .ok (.getfield 15, 3) := by decide +kernel
theorem dX0_clear_12 : decode cX0_clear 12 = .ok (.iconst 0, 1) := by decide +kernel
theorem dX0_clear_13 : decode cX0_clear 13 = .ok (.invokestatic 31, 3) := by decide +kernel
theorem dX0_clear_16 : decode cX0_clear 16 = .ok (.aload_n 0, 1) := by decide +kernel
theorem dX0_clear_17 : decode cX0_clear 17 = .ok (.getfield 18, 3) := by decide +kernel
theorem dX0_clear_20 : decode cX0_clear 20 = .ok (.iconst 0, 1) := by decide +kernel
theorem dX0_clear_21 : decode cX0_clear 21 = .ok (.invokestatic 31, 3) := by decide +kernel
theorem dX0_clear_24 : decode cX0_clear 24 = .ok (.aload_n 0, 1) := by decide +kernel
theorem dX0_clear_25 : decode cX0_clear 25 = .ok (.iconst 0, 1) := by decide +kernel
theorem dX0_clear_26 : decode cX0_clear 26 = .ok (.putfield 27, 3) := by decide +kernel
theorem dX0_clear_29 : decode cX0_clear 29 = .ok (.return_, 1) := by decide +kernel
theorem dX0_copyFrom_0 : decode cX0_copyFrom 0 = .ok (.aload_n 1, 1) := by decide +kernel
theorem dX0_copyFrom_1 : decode cX0_copyFrom 1 = .ok (.getfield 9, 3) := by decide +kernel
theorem dX0_copyFrom_4 : decode cX0_copyFrom 4 = .ok (.iconst 0, 1) := by decide +kernel
theorem dX0_copyFrom_5 : decode cX0_copyFrom 5 = .ok (.aload_n 0, 1) := by decide +kernel
theorem dX0_copyFrom_6 : decode cX0_copyFrom 6 = .ok (.getfield 9, 3) := by decide +kernel
theorem dX0_copyFrom_9 : decode cX0_copyFrom 9 = .ok (.iconst 0, 1) := by decide +kernel
theorem dX0_copyFrom_10 : decode cX0_copyFrom 10 = .ok (.bipush 10, 2) := by decide +kernel
theorem dX0_copyFrom_12 : decode cX0_copyFrom 12 = .ok (.invokestatic 37, 3) := by decide +kernel
theorem dX0_copyFrom_15 : decode cX0_copyFrom 15 = .ok (.aload_n 1, 1) := by decide +kernel
theorem dX0_copyFrom_16 : decode cX0_copyFrom 16 = .ok (.getfield 15, 3) := by decide +kernel
theorem dX0_copyFrom_19 : decode cX0_copyFrom 19 = .ok (.iconst 0, 1) := by decide +kernel
theorem dX0_copyFrom_20 : decode cX0_copyFrom 20 = .ok (.aload_n 0, 1) := by decide +kernel
theorem dX0_copyFrom_21 : decode cX0_copyFrom 21 = .ok (.getfield 15, 3) := by decide +kernel
theorem dX0_copyFrom_24 : decode cX0_copyFrom 24 = .ok (.iconst 0, 1) := by decide +kernel
theorem dX0_copyFrom_25 : decode cX0_copyFrom 25 = .ok (.bipush 8, 2) := by decide +kernel
theorem dX0_copyFrom_27 : decode cX0_copyFrom 27 = .ok (.invokestatic 37, 3) := by decide +kernel
theorem dX0_copyFrom_30 : decode cX0_copyFrom 30 = .ok (.aload_n 1, 1) := by decide +kernel
theorem dX0_copyFrom_31 : decode cX0_copyFrom 31 = .ok (.getfield 18, 3) := by decide +kernel
theorem dX0_copyFrom_34 : decode cX0_copyFrom 34 = .ok (.iconst 0, 1) := by decide +kernel
theorem dX0_copyFrom_35 : decode cX0_copyFrom 35 = .ok (.aload_n 0, 1) := by decide +kernel
theorem dX0_copyFrom_36 : decode cX0_copyFrom 36 = .ok (.getfield 18, 3) := by decide +kernel
theorem dX0_copyFrom_39 : decode cX0_copyFrom 39 = .ok (.iconst 0, 1) := by decide +kernel
theorem dX0_copyFrom_40 : decode cX0_copyFrom 40 = .ok (.bipush 8, 2) := by decide +kernel
theorem dX0_copyFrom_42 : decode cX0_copyFrom 42 = .ok (.invokestatic 37, 3) := by decide +kernel
theorem dX0_copyFrom_45 : decode cX0_copyFrom 45 = .ok (.aload_n 1, 1) := by decide +kernel
theorem dX0_copyFrom_46 : decode cX0_copyFrom 46 = .ok (.getfield 21, 3) := by decide +kernel
theorem dX0_copyFrom_49 : decode cX0_copyFrom 49 = .ok (.iconst 0, 1) := by decide +kernel
theorem dX0_copyFrom_50 : decode cX0_copyFrom 50 = .ok (.aload_n 0, 1) := by decide +kernel
theorem dX0_copyFrom_51 : decode cX0_copyFrom 51 = .ok (.getfield 21, 3) := by decide +kernel
theorem dX0_copyFrom_54 : decode cX0_copyFrom 54 = .ok (.iconst 0, 1) := by decide +kernel
theorem dX0_copyFrom_55 : decode cX0_copyFrom 55 = .ok (.bipush 96, 2) := by decide +kernel
theorem dX0_copyFrom_57 : decode cX0_copyFrom 57 = .ok (.invokestatic 37, 3) := by decide +kernel
theorem dX0_copyFrom_60 : decode cX0_copyFrom 60 = .ok (.aload_n 1, 1) := by decide +kernel
theorem dX0_copyFrom_61 : decode cX0_copyFrom 61 = .ok (.getfield 24, 3) := by decide +kernel
theorem dX0_copyFrom_64 : decode cX0_copyFrom 64 = .ok (.iconst 0, 1) := by decide +kernel
theorem dX0_copyFrom_65 : decode cX0_copyFrom 65 = .ok (.aload_n 0, 1) := by decide +kernel
theorem dX0_copyFrom_66 : decode cX0_copyFrom 66 = .ok (.getfield 24, 3) := by decide +kernel
theorem dX0_copyFrom_69 : decode cX0_copyFrom 69 = .ok (.iconst 0, 1) := by decide +kernel
theorem dX0_copyFrom_70 : decode cX0_copyFrom 70 = .ok (.bipush 72, 2) := by decide +kernel
theorem dX0_copyFrom_72 : decode cX0_copyFrom 72 = .ok (.invokestatic 37, 3) := by decide +kernel
theorem dX0_copyFrom_75 : decode cX0_copyFrom 75 = .ok (.aload_n 0, 1) := by decide +kernel
theorem dX0_copyFrom_76 : decode cX0_copyFrom 76 = .ok (.aload_n 1, 1) := by decide +kernel
theorem dX0_copyFrom_77 : decode cX0_copyFrom 77 = .ok (.getfield 27, 3) := by decide +kernel
theorem dX0_copyFrom_80 : decode cX0_copyFrom 80 = .ok (.putfield 27, 3) := by decide +kernel
theorem dX0_copyFrom_83 : decode cX0_copyFrom 83 = .ok (.return_, 1) := by decide +kernel
theorem dX0_counted_0 : decode cX0_counted 0 = .ok (.iload_n 1, 1) := by decide +kernel
theorem dX0_counted_1 : decode cX0_counted 1 = .ok (.ifCond .lt 18, 3) := by decide +kernel
theorem dX0_counted_4 : decode cX0_counted 4 = .ok (.iload_n 1, 1) := by decide +kernel
theorem dX0_counted_5 : decode cX0_counted 5 = .ok (.bipush 10, 2) := by decide +kernel
theorem dX0_counted_7 : decode cX0_counted 7 = .ok (.if_icmp .ge 12, 3) := by decide +kernel
theorem dX0_counted_10 : decode cX0_counted 10 = .ok (.aload_n 0, 1) := by decide +kernel
theorem dX0_counted_11 : decode cX0_counted 11 = .ok (.getfield 9, 3) := by decide +kernel
theorem dX0_counted_14 : decode cX0_counted 14 = .ok (.iload_n 1, 1) := by decide +kernel
theorem dX0_counted_15 : decode cX0_counted 15 = .ok (.iaload, 1) := by decide +kernel
theorem dX0_counted_16 : decode cX0_counted 16 = .ok (.goto 4, 3) := by decide +kernel
theorem dX0_counted_19 : decode cX0_counted 19 = .ok (.iconst 0, 1) := by decide +kernel
theorem dX0_counted_20 : decode cX0_counted 20 = .ok (.ireturn, 1) := by decide +kernel
theorem dX0_gotOf_0 : decode cX0_gotOf 0 = .ok (.iload_n 1, 1) := by decide +kernel
theorem dX0_gotOf_1 : decode cX0_gotOf 1 = .ok (.ifCond .lt 18, 3) := by decide +kernel
theorem dX0_gotOf_4 : decode cX0_gotOf 4 = .ok (.iload_n 1, 1) := by decide +kernel
theorem dX0_gotOf_5 : decode cX0_gotOf 5 = .ok (.bipush 8, 2) := by decide +kernel
theorem dX0_gotOf_7 : decode cX0_gotOf 7 = .ok (.if_icmp .ge 12, 3) := by decide +kernel
theorem dX0_gotOf_10 : decode cX0_gotOf 10 = .ok (.aload_n 0, 1) := by decide +kernel
theorem dX0_gotOf_11 : decode cX0_gotOf 11 = .ok (.getfield 15, 3) := by decide +kernel
theorem dX0_gotOf_14 : decode cX0_gotOf 14 = .ok (.iload_n 1, 1) := by decide +kernel
theorem dX0_gotOf_15 : decode cX0_gotOf 15 = .ok (.iaload, 1) := by decide +kernel
theorem dX0_gotOf_16 : decode cX0_gotOf 16 = .ok (.goto 4, 3) := by decide +kernel
theorem dX0_gotOf_19 : decode cX0_gotOf 19 = .ok (.iconst 0, 1) := by decide +kernel
theorem dX0_gotOf_20 : decode cX0_gotOf 20 = .ok (.ireturn, 1) := by decide +kernel
theorem dX10_add_0 : decode cX10_add 0 = .ok (.iload_n 1, 1) := by decide +kernel
theorem dX10_add_1 : decode cX10_add 1 = .ok (.ifCond .lt 9, 3) := by decide +kernel
theorem dX10_add_4 : decode cX10_add 4 = .ok (.iload_n 1, 1) := by decide +kernel
theorem dX10_add_5 : decode cX10_add 5 = .ok (.bipush 100, 2) := by decide +kernel
theorem dX10_add_7 : decode cX10_add 7 = .ok (.if_icmp .lt 9, 3) := by decide +kernel
theorem dX10_add_10 : decode cX10_add 10 = .ok (.aload_n 0, 1) := by decide +kernel
theorem dX10_add_11 : decode cX10_add 11 = .ok (.iconst 1, 1) := by decide +kernel
theorem dX10_add_12 : decode cX10_add 12 = .ok (.invokevirtual 66, 3) := by decide +kernel
theorem dX10_add_15 : decode cX10_add 15 = .ok (.ireturn, 1) := by decide +kernel
theorem dX10_add_16 : decode cX10_add 16 = .ok (.aload_n 0, 1) := by decide +kernel
theorem dX10_add_17 : decode cX10_add 17 = .ok (.getfield 19, 3) := by decide +kernel
theorem dX10_add_20 : decode cX10_add 20 = .ok (.getfield 86, 3) := by decide +kernel
theorem dX10_add_23 : decode cX10_add 23 = .ok (.getfield 90, 3) := by decide +kernel
theorem dX10_add_26 : decode cX10_add 26 = .ok (.bipush 8, 2) := by decide +kernel
theorem dX10_add_28 : decode cX10_add 28 = .ok (.if_icmp .lt 9, 3) := by decide +kernel
theorem dX10_add_37 : decode cX10_add 37 = .ok (.aload_n 0, 1) := by decide +kernel
theorem dX10_add_38 : decode cX10_add 38 = .ok (.getfield 19, 3) := by decide +kernel
theorem dX10_add_41 : decode cX10_add 41 = .ok (.getfield 86, 3) := by decide +kernel
theorem dX10_add_44 : decode cX10_add 44 = .ok (.iload_n 1, 1) := by decide +kernel
theorem dX10_add_45 : decode cX10_add 45 = .ok (.invokevirtual 235, 3) := by decide +kernel
theorem dX10_add_48 : decode cX10_add 48 = .ok (.ifCond .eq 10, 3) := by decide +kernel
theorem dX10_add_58 : decode cX10_add 58 = .ok (.aload_n 0, 1) := by decide +kernel
theorem dX10_add_59 : decode cX10_add 59 = .ok (.getfield 19, 3) := by decide +kernel
theorem dX10_add_62 : decode cX10_add 62 = .ok (.getfield 86, 3) := by decide +kernel
theorem dX10_add_65 : decode cX10_add 65 = .ok (.iload_n 1, 1) := by decide +kernel
theorem dX10_add_66 : decode cX10_add 66 = .ok (.invokevirtual 238, 3) := by decide +kernel
theorem dX10_add_69 : decode cX10_add 69 = .ok (.aload_n 0, 1) := by decide +kernel
theorem dX10_add_70 : decode cX10_add 70 = .ok (.getfield 19, 3) := by decide +kernel
theorem dX10_add_73 : decode cX10_add 73 = .ok (.invokevirtual 239, 3) := by decide +kernel
theorem dX10_add_76 : decode cX10_add 76 = .ok (.aload_n 0, 1) := by decide +kernel
theorem dX10_add_77 : decode cX10_add 77 = .ok (.aload_n 0, 1) := by decide +kernel
theorem dX10_add_78 : decode cX10_add 78 = .ok (.getfield 19, 3) := by decide +kernel
theorem dX10_add_81 : decode cX10_add 81 = .ok (.getfield 86, 3) := by decide +kernel
theorem dX10_add_84 : decode cX10_add 84 = .ok (.getfield 90, 3) := by decide +kernel
theorem dX10_add_87 : decode cX10_add 87 = .ok (.iconst 1, 1) := by decide +kernel
theorem dX10_add_88 : decode cX10_add 88 = .ok (.isub, 1) := by decide +kernel
theorem dX10_add_89 : decode cX10_add 89 = .ok (.invokevirtual 95, 3) := by decide +kernel
theorem dX10_add_92 : decode cX10_add 92 = .ok (.ireturn, 1) := by decide +kernel
theorem dX10_back_0 : decode cX10_back 0 = .ok (.aload_n 0, 1) := by decide +kernel
theorem dX10_back_1 : decode cX10_back 1 = .ok (.getfield 52, 3) := by decide +kernel
theorem dX10_back_4 : decode cX10_back 4 = .ok (.iconst 1, 1) := by decide +kernel
theorem dX10_back_5 : decode cX10_back 5 = .ok (.if_icmp .lt 11, 3) := by decide +kernel
theorem dX10_back_16 : decode cX10_back 16 = .ok (.aload_n 0, 1) := by decide +kernel
theorem dX10_back_17 : decode cX10_back 17 = .ok (.iconst 5, 1) := by decide +kernel
theorem dX10_back_18 : decode cX10_back 18 = .ok (.invokevirtual 66, 3) := by decide +kernel
theorem dX10_back_21 : decode cX10_back 21 = .ok (.ireturn, 1) := by decide +kernel
theorem dX10_beacon_0 : decode cX10_beacon 0 = .ok (.iload_n 1, 1) := by decide +kernel
theorem dX10_beacon_1 : decode cX10_beacon 1 = .ok (.ifCond .lt 8, 3) := by decide +kernel
theorem dX10_beacon_4 : decode cX10_beacon 4 = .ok (.iload_n 1, 1) := by decide +kernel
theorem dX10_beacon_5 : decode cX10_beacon 5 = .ok (.iconst 2, 1) := by decide +kernel
theorem dX10_beacon_6 : decode cX10_beacon 6 = .ok (.if_icmp .le 9, 3) := by decide +kernel
theorem dX10_beacon_9 : decode cX10_beacon 9 = .ok (.aload_n 0, 1) := by decide +kernel
theorem dX10_beacon_10 : decode cX10_beacon 10 = .ok (.iconst 1, 1) := by decide +kernel
theorem dX10_beacon_11 : decode cX10_beacon 11 = .ok (.invokevirtual 66, 3) := by decide +kernel
theorem dX10_beacon_14 : decode cX10_beacon 14 = .ok (.ireturn, 1) := by decide +kernel
theorem dX10_beacon_15 : decode cX10_beacon 15 = .ok (.aload_n 0, 1) := by decide +kernel
theorem dX10_beacon_16 : decode cX10_beacon 16 = .ok (.getfield 19, 3) := by decide +kernel
theorem dX10_beacon_19 : decode cX10_beacon 19 = .ok (.getfield 129, 3) := by decide +kernel
theorem dX10_beacon_22 : decode cX10_beacon 22 = .ok (.astore_n 2, 1) := by decide +kernel
theorem dX10_beacon_23 : decode cX10_beacon 23 = .ok (.iload_n 1, 1) := by decide +kernel
theorem dX10_beacon_24 : decode cX10_beacon 24 = .ok (.ifCond .ne 12, 3) := by decide +kernel
theorem dX10_beacon_27 : decode cX10_beacon 27 = .ok (.aload_n 0, 1) := by decide +kernel
theorem dX10_beacon_28 : decode cX10_beacon 28 = .ok (.aload_n 2, 1) := by decide +kernel
theorem dX10_beacon_29 : decode cX10_beacon 29 = .ok (.getfield 171, 3) := by decide +kernel
theorem dX10_beacon_32 : decode cX10_beacon 32 = .ok (.invokevirtual 95, 3) := by decide +kernel
theorem dX10_beacon_35 : decode cX10_beacon 35 = .ok (.ireturn, 1) := by decide +kernel
theorem dX10_beacon_36 : decode cX10_beacon 36 = .ok (.aload_n 2, 1) := by decide +kernel
theorem dX10_beacon_37 : decode cX10_beacon 37 = .ok (.getfield 171, 3) := by decide +kernel
theorem dX10_beacon_40 : decode cX10_beacon 40 = .ok (.iconst 2, 1) := by decide +kernel
theorem dX10_beacon_41 : decode cX10_beacon 41 = .ok (.if_icmp .eq 9, 3) := by decide +kernel
theorem dX10_beacon_44 : decode cX10_beacon 44 = .ok (.aload_n 0, 1) := by decide +kernel
theorem dX10_beacon_45 : decode cX10_beacon 45 = .ok (.iconst 5, 1) := by decide +kernel
theorem dX10_beacon_46 : decode cX10_beacon 46 = .ok (.invokevirtual 66, 3) := by decide +kernel
theorem dX10_beacon_49 : decode cX10_beacon 49 = .ok (.ireturn, 1) := by decide +kernel
theorem dX10_been_0 : decode cX10_been 0 = .ok (.iload_n 1, 1) := by decide +kernel
theorem dX10_been_1 : decode cX10_been 1 = .ok (.ifCond .lt 9, 3) := by decide +kernel
theorem dX10_been_4 : decode cX10_been 4 = .ok (.iload_n 1, 1) := by decide +kernel
theorem dX10_been_5 : decode cX10_been 5 = .ok (.bipush 10, 2) := by decide +kernel
theorem dX10_been_7 : decode cX10_been 7 = .ok (.if_icmp .lt 9, 3) := by decide +kernel
theorem dX10_been_10 : decode cX10_been 10 = .ok (.aload_n 0, 1) := by decide +kernel
theorem dX10_been_11 : decode cX10_been 11 = .ok (.iconst 1, 1) := by decide +kernel
theorem dX10_been_12 : decode cX10_been 12 = .ok (.invokevirtual 66, 3) := by decide +kernel
theorem dX10_been_15 : decode cX10_been 15 = .ok (.ireturn, 1) := by decide +kernel
theorem dX10_been_16 : decode cX10_been 16 = .ok (.aload_n 0, 1) := by decide +kernel
theorem dX10_been_17 : decode cX10_been 17 = .ok (.aload_n 0, 1) := by decide +kernel
theorem dX10_been_18 : decode cX10_been 18 = .ok (.getfield 19, 3) := by decide +kernel
theorem dX10_been_21 : decode cX10_been 21 = .ok (.getfield 180, 3) := by decide +kernel
theorem dX10_been_24 : decode cX10_been 24 = .ok (.iload_n 1, 1) := by decide +kernel
theorem dX10_been_25 : decode cX10_been 25 = .ok (.invokevirtual 184, 3) := by decide +kernel
theorem dX10_been_28 : decode cX10_been 28 = .ok (.invokevirtual 95, 3) := by decide +kernel
theorem dX10_been_31 : decode cX10_been 31 = .ok (.ireturn, 1) := by decide +kernel
theorem dX10_blamed_0 : decode cX10_blamed 0 = .ok (.aload_n 0, 1) := by decide +kernel
theorem dX10_blamed_1 : decode cX10_blamed 1 = .ok (.getfield 31, 3) := by decide +kernel
theorem dX10_blamed_4 : decode cX10_blamed 4 = .ok (.iconst 5, 1) := by decide +kernel
theorem dX10_blamed_5 : decode cX10_blamed 5 = .ok (.iconst (-1), 1) := by decide +kernel
theorem dX10_blamed_6 : decode cX10_blamed 6 = .ok (.iconst 0, 1) := by decide +kernel
theorem dX10_blamed_7 : decode cX10_blamed 7 = .ok (.invokevirtual 296, 3) := by decide +kernel
theorem dX10_blamed_10 : decode cX10_blamed 10 = .ok (.istore_n 1, 1) := by decide +kernel
theorem dX10_blamed_11 : decode cX10_blamed 11 = .ok (.aload_n 0, 1) := by decide +kernel
theorem dX10_blamed_12 : decode cX10_blamed 12 = .ok (.iload_n 1, 1) := by decide +kernel
theorem dX10_blamed_13 : decode cX10_blamed 13 = .ok (.iconst (-1), 1) := by decide +kernel
theorem dX10_blamed_14 : decode cX10_blamed 14 = .ok (.if_icmp .ne 7, 3) := by decide +kernel
theorem dX10_blamed_17 : decode cX10_blamed 17 = .ok (.iconst (-1), 1) := by decide +kernel
theorem dX10_blamed_18 : decode cX10_blamed 18 = .ok (.goto 10, 3) := by decide +kernel
theorem dX10_blamed_28 : decode cX10_blamed 28 = .ok (.invokevirtual 300, 3) := by decide +kernel
theorem dX10_blamed_31 : decode cX10_blamed 31 = .ok (.ireturn, 1) := by decide +kernel
theorem dX10_event_0 : decode cX10_event 0 = .ok (.iload_n 1, 1) := by decide +kernel
theorem dX10_event_1 : decode cX10_event 1 = .ok (.ifCond .lt 18, 3) := by decide +kernel
theorem dX10_event_4 : decode cX10_event 4 = .ok (.iload_n 1, 1) := by decide +kernel
theorem dX10_event_5 : decode cX10_event 5 = .ok (.bipush 24, 2) := by decide +kernel
theorem dX10_event_7 : decode cX10_event 7 = .ok (.if_icmp .ge 12, 3) := by decide +kernel
theorem dX10_event_10 : decode cX10_event 10 = .ok (.iload_n 2, 1) := by decide +kernel
theorem dX10_event_11 : decode cX10_event 11 = .ok (.ifCond .lt 8, 3) := by decide +kernel
theorem dX10_event_14 : decode cX10_event 14 = .ok (.iload_n 2, 1) := by decide +kernel
theorem dX10_event_15 : decode cX10_event 15 = .ok (.iconst 3, 1) := by decide +kernel
theorem dX10_event_16 : decode cX10_event 16 = .ok (.if_icmp .lt 9, 3) := by decide +kernel
theorem dX10_event_19 : decode cX10_event 19 = .ok (.aload_n 0, 1) := by decide +kernel
theorem dX10_event_20 : decode cX10_event 20 = .ok (.iconst 1, 1) := by decide +kernel
theorem dX10_event_21 : decode cX10_event 21 = .ok (.invokevirtual 66, 3) := by decide +kernel
theorem dX10_event_24 : decode cX10_event 24 = .ok (.ireturn, 1) := by decide +kernel
theorem dX10_event_25 : decode cX10_event 25 = .ok (.iload_n 1, 1) := by decide +kernel
theorem dX10_event_26 : decode cX10_event 26 = .ok (.aload_n 0, 1) := by decide +kernel
theorem dX10_event_27 : decode cX10_event 27 = .ok (.getfield 19, 3) := by decide +kernel
theorem dX10_event_30 : decode cX10_event 30 = .ok (.getfield 180, 3) := by decide +kernel
theorem dX10_event_33 : decode cX10_event 33 = .ok (.getfield 207, 3) := by decide +kernel
theorem dX10_event_36 : decode cX10_event 36 = .ok (.if_icmp .lt 9, 3) := by decide +kernel
theorem dX10_event_39 : decode cX10_event 39 = .ok (.aload_n 0, 1) := by decide +kernel
theorem dX10_event_40 : decode cX10_event 40 = .ok (.iconst 5, 1) := by decide +kernel
theorem dX10_event_41 : decode cX10_event 41 = .ok (.invokevirtual 66, 3) := by decide +kernel
theorem dX10_event_44 : decode cX10_event 44 = .ok (.ireturn, 1) := by decide +kernel
theorem dX10_fail_0 : decode cX10_fail 0 = .ok (.aload_n 0, 1) := by decide +kernel
theorem dX10_fail_1 : decode cX10_fail 1 = .ok (.iload_n 1, 1) := by decide +kernel
theorem dX10_fail_2 : decode cX10_fail 2 = .ok (.putfield 56, 3) := by decide +kernel
theorem dX10_fail_5 : decode cX10_fail 5 = .ok (.iconst (-1), 1) := by decide +kernel
theorem dX10_fail_6 : decode cX10_fail 6 = .ok (.ireturn, 1) := by decide +kernel
theorem dX10_fault_0 : decode cX10_fault 0 = .ok (.iload_n 1, 1) := by decide +kernel
theorem dX10_fault_1 : decode cX10_fault 1 = .ok (.ifCond .ne 11, 3) := by decide +kernel
theorem dX10_fault_4 : decode cX10_fault 4 = .ok (.aload_n 0, 1) := by decide +kernel
theorem dX10_fault_5 : decode cX10_fault 5 = .ok (.getfield 10, 3) := by decide +kernel
theorem dX10_fault_8 : decode cX10_fault 8 = .ok (.getfield 77, 3) := by decide +kernel
theorem dX10_fault_11 : decode cX10_fault 11 = .ok (.ireturn, 1) := by decide +kernel
theorem dX10_fault_12 : decode cX10_fault 12 = .ok (.iload_n 1, 1) := by decide +kernel
theorem dX10_fault_13 : decode cX10_fault 13 = .ok (.iconst 1, 1) := by decide +kernel
theorem dX10_fault_14 : decode cX10_fault 14 = .ok (.if_icmp .ne 13, 3) := by decide +kernel
theorem dX10_fault_17 : decode cX10_fault 17 = .ok (.aload_n 0, 1) := by decide +kernel
theorem dX10_fault_18 : decode cX10_fault 18 = .ok (.getfield 10, 3) := by decide +kernel
theorem dX10_fault_21 : decode cX10_fault 21 = .ok (.getfield 81, 3) := by decide +kernel
theorem dX10_fault_24 : decode cX10_fault 24 = .ok (.goto 4, 3) := by decide +kernel
theorem dX10_fault_27 : decode cX10_fault 27 = .ok (.iconst (-1), 1) := by decide +kernel
theorem dX10_fault_28 : decode cX10_fault 28 = .ok (.ireturn, 1) := by decide +kernel
theorem dX10_feed_0 : decode cX10_feed 0 = .ok (.aload_n 0, 1) := by decide +kernel
theorem dX10_feed_1 : decode cX10_feed 1 = .ok (.getfield 10, 3) := by decide +kernel
theorem dX10_feed_4 : decode cX10_feed 4 = .ok (.getfield 59, 3) := by decide +kernel
theorem dX10_feed_7 : decode cX10_feed 7 = .ok (.bipush 20, 2) := by decide +kernel
theorem dX10_feed_9 : decode cX10_feed 9 = .ok (.iadd, 1) := by decide +kernel
theorem dX10_feed_10 : decode cX10_feed 10 = .ok (.sipush 500, 3) := by decide +kernel
theorem dX10_feed_13 : decode cX10_feed 13 = .ok (.if_icmp .le 5, 3) := by decide +kernel
theorem dX10_feed_18 : decode cX10_feed 18 = .ok (.aload_n 0, 1) := by decide +kernel
theorem dX10_feed_19 : decode cX10_feed 19 = .ok (.getfield 10, 3) := by decide +kernel
theorem dX10_feed_22 : decode cX10_feed 22 = .ok (.iload_n 1, 1) := by decide +kernel
theorem dX10_feed_23 : decode cX10_feed 23 = .ok (.invokevirtual 62, 3) := by decide +kernel
theorem dX10_feed_26 : decode cX10_feed 26 = .ok (.aload_n 0, 1) := by decide +kernel
theorem dX10_feed_27 : decode cX10_feed 27 = .ok (.getfield 10, 3) := by decide +kernel
theorem dX10_feed_30 : decode cX10_feed 30 = .ok (.iload_n 2, 1) := by decide +kernel
theorem dX10_feed_31 : decode cX10_feed 31 = .ok (.invokevirtual 62, 3) := by decide +kernel
theorem dX10_feed_34 : decode cX10_feed 34 = .ok (.aload_n 0, 1) := by decide +kernel
theorem dX10_feed_35 : decode cX10_feed 35 = .ok (.getfield 10, 3) := by decide +kernel
theorem dX10_feed_38 : decode cX10_feed 38 = .ok (.iload_n 3, 1) := by decide +kernel
theorem dX10_feed_39 : decode cX10_feed 39 = .ok (.invokevirtual 62, 3) := by decide +kernel
theorem dX10_feed_42 : decode cX10_feed 42 = .ok (.aload_n 0, 1) := by decide +kernel
theorem dX10_feed_43 : decode cX10_feed 43 = .ok (.getfield 10, 3) := by decide +kernel
theorem dX10_feed_46 : decode cX10_feed 46 = .ok (.iload 4, 2) := by decide +kernel
theorem dX10_feed_48 : decode cX10_feed 48 = .ok (.invokevirtual 62, 3) := by decide +kernel
theorem dX10_feed_51 : decode cX10_feed 51 = .ok (.aload_n 0, 1) := by decide +kernel
theorem dX10_feed_52 : decode cX10_feed 52 = .ok (.getfield 10, 3) := by decide +kernel
theorem dX10_feed_55 : decode cX10_feed 55 = .ok (.iload 5, 2) := by decide +kernel
theorem dX10_feed_57 : decode cX10_feed 57 = .ok (.invokevirtual 62, 3) := by decide +kernel
theorem dX10_feed_60 : decode cX10_feed 60 = .ok (.aload_n 0, 1) := by decide +kernel
theorem dX10_feed_61 : decode cX10_feed 61 = .ok (.getfield 10, 3) := by decide +kernel
theorem dX10_feed_64 : decode cX10_feed 64 = .ok (.getfield 59, 3) := by decide +kernel
theorem dX10_feed_67 : decode cX10_feed 67 = .ok (.ireturn, 1) := by decide +kernel
theorem dX10_gain_0 : decode cX10_gain 0 = .ok (.aload_n 0, 1) := by decide +kernel
theorem dX10_gain_1 : decode cX10_gain 1 = .ok (.getfield 31, 3) := by decide +kernel
theorem dX10_gain_4 : decode cX10_gain 4 = .ok (.iconst 0, 1) := by decide +kernel
theorem dX10_gain_5 : decode cX10_gain 5 = .ok (.invokevirtual 316, 3) := by decide +kernel
theorem dX10_gain_8 : decode cX10_gain 8 = .ok (.aload_n 0, 1) := by decide +kernel
theorem dX10_gain_9 : decode cX10_gain 9 = .ok (.getfield 31, 3) := by decide +kernel
theorem dX10_gain_12 : decode cX10_gain 12 = .ok (.iconst 1, 1) := by decide +kernel
theorem dX10_gain_13 : decode cX10_gain 13 = .ok (.invokevirtual 316, 3) := by decide +kernel
theorem dX10_gain_16 : decode cX10_gain 16 = .ok (.aload_n 0, 1) := by decide +kernel
theorem dX10_gain_17 : decode cX10_gain 17 = .ok (.aload_n 0, 1) := by decide +kernel
theorem dX10_gain_18 : decode cX10_gain 18 = .ok (.getfield 31, 3) := by decide +kernel
theorem dX10_gain_21 : decode cX10_gain 21 = .ok (.invokevirtual 319, 3) := by decide +kernel
theorem dX10_gain_24 : decode cX10_gain 24 = .ok (.invokevirtual 95, 3) := by decide +kernel
theorem dX10_gain_27 : decode cX10_gain 27 = .ok (.ireturn, 1) := by decide +kernel
theorem dX10_give_0 : decode cX10_give 0 = .ok (.aload_n 0, 1) := by decide +kernel
theorem dX10_give_1 : decode cX10_give 1 = .ok (.iconst 0, 1) := by decide +kernel
theorem dX10_give_2 : decode cX10_give 2 = .ok (.putfield 56, 3) := by decide +kernel
theorem dX10_give_5 : decode cX10_give 5 = .ok (.iload_n 1, 1) := by decide +kernel
theorem dX10_give_6 : decode cX10_give 6 = .ok (.ireturn, 1) := by decide +kernel
theorem dX10_giveReached_0 : decode cX10_giveReached 0 = .ok (.aload_n 0, 1) := by decide +kernel
theorem dX10_giveReached_1 : decode cX10_giveReached 1 = .ok (.iload_n 1, 1) := by decide +kernel
theorem dX10_giveReached_2 : decode cX10_giveReached 2 = .ok (.iconst (-1), 1) := by decide +kernel
theorem dX10_giveReached_3 : decode cX10_giveReached 3 = .ok (.if_icmp .ne 8, 3) := by decide +kernel
theorem dX10_giveReached_6 : decode cX10_giveReached 6 = .ok (.bipush 7, 2) := by decide +kernel
theorem dX10_giveReached_8 : decode cX10_giveReached 8 = .ok (.goto 4, 3) := by decide +kernel
theorem dX10_giveReached_11 : decode cX10_giveReached 11 = .ok (.iconst 0, 1) := by decide +kernel
theorem dX10_giveReached_12 : decode cX10_giveReached 12 = .ok (.putfield 56, 3) := by decide +kernel
theorem dX10_giveReached_15 : decode cX10_giveReached 15 = .ok (.iload_n 1, 1) := by decide +kernel
theorem dX10_giveReached_16 : decode cX10_giveReached 16 = .ok (.ireturn, 1) := by decide +kernel
theorem dX10_got_0 : decode cX10_got 0 = .ok (.iload_n 1, 1) := by decide +kernel
theorem dX10_got_1 : decode cX10_got 1 = .ok (.ifCond .lt 19, 3) := by decide +kernel
theorem dX10_got_4 : decode cX10_got 4 = .ok (.iload_n 1, 1) := by decide +kernel
theorem dX10_got_5 : decode cX10_got 5 = .ok (.bipush 16, 2) := by decide +kernel
theorem dX10_got_7 : decode cX10_got 7 = .ok (.if_icmp .ge 13, 3) := by decide +kernel
theorem dX10_got_10 : decode cX10_got 10 = .ok (.iload_n 2, 1) := by decide +kernel
theorem dX10_got_11 : decode cX10_got 11 = .ok (.ifCond .lt 9, 3) := by decide +kernel
theorem dX10_got_14 : decode cX10_got 14 = .ok (.iload_n 2, 1) := by decide +kernel
theorem dX10_got_15 : decode cX10_got 15 = .ok (.bipush 6, 2) := by decide +kernel
theorem dX10_got_17 : decode cX10_got 17 = .ok (.if_icmp .lt 9, 3) := by decide +kernel
theorem dX10_got_20 : decode cX10_got 20 = .ok (.aload_n 0, 1) := by decide +kernel
theorem dX10_got_21 : decode cX10_got 21 = .ok (.iconst 1, 1) := by decide +kernel
theorem dX10_got_22 : decode cX10_got 22 = .ok (.invokevirtual 66, 3) := by decide +kernel
theorem dX10_got_25 : decode cX10_got 25 = .ok (.ireturn, 1) := by decide +kernel
theorem dX10_got_26 : decode cX10_got 26 = .ok (.iload_n 1, 1) := by decide +kernel
theorem dX10_got_27 : decode cX10_got 27 = .ok (.aload_n 0, 1) := by decide +kernel
theorem dX10_got_28 : decode cX10_got 28 = .ok (.getfield 19, 3) := by decide +kernel
theorem dX10_got_31 : decode cX10_got 31 = .ok (.getfield 180, 3) := by decide +kernel
theorem dX10_got_34 : decode cX10_got 34 = .ok (.iconst 0, 1) := by decide +kernel
theorem dX10_got_35 : decode cX10_got 35 = .ok (.invokevirtual 184, 3) := by decide +kernel
theorem dX10_got_38 : decode cX10_got 38 = .ok (.if_icmp .lt 9, 3) := by decide +kernel
theorem dX10_got_41 : decode cX10_got 41 = .ok (.aload_n 0, 1) := by decide +kernel
theorem dX10_got_42 : decode cX10_got 42 = .ok (.iconst 5, 1) := by decide +kernel
theorem dX10_got_43 : decode cX10_got 43 = .ok (.invokevirtual 66, 3) := by decide +kernel
theorem dX10_got_46 : decode cX10_got 46 = .ok (.ireturn, 1) := by decide +kernel
theorem dX10_healed_0 : decode cX10_healed 0 = .ok (.aload_n 0, 1) := by decide +kernel
theorem dX10_healed_1 : decode cX10_healed 1 = .ok (.aload_n 0, 1) := by decide +kernel
theorem dX10_healed_2 : decode cX10_healed 2 = .ok (.getfield 31, 3) := by decide +kernel
theorem dX10_healed_5 : decode cX10_healed 5 = .ok (.iconst 3, 1) := by decide +kernel
theorem dX10_healed_6 : decode cX10_healed 6 = .ok (.iconst (-1), 1) := by decide +kernel
theorem dX10_healed_7 : decode cX10_healed 7 = .ok (.iconst 0, 1) := by decide +kernel
theorem dX10_healed_8 : decode cX10_healed 8 = .ok (.invokevirtual 296, 3) := by decide +kernel
theorem dX10_healed_11 : decode cX10_healed 11 = .ok (.invokevirtual 300, 3) := by decide +kernel
theorem dX10_healed_14 : decode cX10_healed 14 = .ok (.ireturn, 1) := by decide +kernel
theorem dX10_heir_0 : decode cX10_heir 0 = .ok (.aload_n 0, 1) := by decide +kernel
theorem dX10_heir_1 : decode cX10_heir 1 = .ok (.getfield 19, 3) := by decide +kernel
theorem dX10_heir_4 : decode cX10_heir 4 = .ok (.getfield 86, 3) := by decide +kernel
theorem dX10_heir_7 : decode cX10_heir 7 = .ok (.invokevirtual 232, 3) := by decide +kernel
theorem dX10_heir_10 : decode cX10_heir 10 = .ok (.istore_n 1, 1) := by decide +kernel
theorem dX10_heir_11 : decode cX10_heir 11 = .ok (.iload_n 1, 1) := by decide +kernel
theorem dX10_heir_12 : decode cX10_heir 12 = .ok (.iconst (-1), 1) := by decide +kernel
theorem dX10_heir_13 : decode cX10_heir 13 = .ok (.if_icmp .ne 11, 3) := by decide +kernel
theorem dX10_heir_16 : decode cX10_heir 16 = .ok (.aload_n 0, 1) := by decide +kernel
theorem dX10_heir_17 : decode cX10_heir 17 = .ok (.iconst 5, 1) := by decide +kernel
theorem dX10_heir_18 : decode cX10_heir 18 = .ok (.invokevirtual 66, 3) := by decide +kernel
theorem dX10_heir_21 : decode cX10_heir 21 = .ok (.goto 8, 3) := by decide +kernel
theorem dX10_heir_29 : decode cX10_heir 29 = .ok (.ireturn, 1) := by decide +kernel
theorem dX10_hops_0 : decode cX10_hops 0 = .ok (.aload_n 0, 1) := by decide +kernel
theorem dX10_hops_1 : decode cX10_hops 1 = .ok (.getfield 19, 3) := by decide +kernel
theorem dX10_hops_4 : decode cX10_hops 4 = .ok (.getfield 86, 3) := by decide +kernel
theorem dX10_hops_7 : decode cX10_hops 7 = .ok (.astore_n 3, 1) := by decide +kernel
theorem dX10_hops_8 : decode cX10_hops 8 = .ok (.aload_n 3, 1) := by decide +kernel
theorem dX10_hops_9 : decode cX10_hops 9 = .ok (.iload_n 1, 1) := by decide +kernel
theorem dX10_hops_10 : decode cX10_hops 10 = .ok (.invokevirtual 146, 3) := by decide +kernel
theorem dX10_hops_13 : decode cX10_hops 13 = .ok (.ifCond .eq 11, 3) := by decide +kernel
theorem dX10_hops_24 : decode cX10_hops 24 = .ok (.aload_n 0, 1) := by decide +kernel
theorem dX10_hops_25 : decode cX10_hops 25 = .ok (.iconst 2, 1) := by decide +kernel
theorem dX10_hops_26 : decode cX10_hops 26 = .ok (.invokevirtual 66, 3) := by decide +kernel
theorem dX10_hops_29 : decode cX10_hops 29 = .ok (.ireturn, 1) := by decide +kernel
theorem dX10_load_0 : decode cX10_load 0 = .ok (.iload_n 1, 1) := by decide +kernel
theorem dX10_load_1 : decode cX10_load 1 = .ok (.ifCond .lt 14, 3) := by decide +kernel
theorem dX10_load_4 : decode cX10_load 4 = .ok (.iload_n 1, 1) := by decide +kernel
theorem dX10_load_5 : decode cX10_load 5 = .ok (.aload_n 0, 1) := by decide +kernel
theorem dX10_load_6 : decode cX10_load 6 = .ok (.getfield 10, 3) := by decide +kernel
theorem dX10_load_9 : decode cX10_load 9 = .ok (.getfield 59, 3) := by decide +kernel
theorem dX10_load_12 : decode cX10_load 12 = .ok (.if_icmp .le 9, 3) := by decide +kernel
theorem dX10_load_15 : decode cX10_load 15 = .ok (.aload_n 0, 1) := by decide +kernel
theorem dX10_load_16 : decode cX10_load 16 = .ok (.iconst 1, 1) := by decide +kernel
theorem dX10_load_17 : decode cX10_load 17 = .ok (.invokevirtual 66, 3) := by decide +kernel
theorem dX10_load_20 : decode cX10_load 20 = .ok (.ireturn, 1) := by decide +kernel
theorem dX10_load_21 : decode cX10_load 21 = .ok (.aload_n 0, 1) := by decide +kernel
theorem dX10_load_22 : decode cX10_load 22 = .ok (.getfield 40, 3) := by decide +kernel
theorem dX10_load_25 : decode cX10_load 25 = .ok (.iload_n 1, 1) := by decide +kernel
theorem dX10_load_26 : decode cX10_load 26 = .ok (.invokevirtual 70, 3) := by decide +kernel
theorem dX10_load_29 : decode cX10_load 29 = .ok (.istore_n 2, 1) := by decide +kernel
theorem dX10_load_30 : decode cX10_load 30 = .ok (.aload_n 0, 1) := by decide +kernel
theorem dX10_load_31 : decode cX10_load 31 = .ok (.getfield 10, 3) := by decide +kernel
theorem dX10_load_34 : decode cX10_load 34 = .ok (.iconst 0, 1) := by decide +kernel
theorem dX10_load_35 : decode cX10_load 35 = .ok (.putfield 59, 3) := by decide +kernel
theorem dX10_load_38 : decode cX10_load 38 = .ok (.aload_n 0, 1) := by decide +kernel
theorem dX10_load_39 : decode cX10_load 39 = .ok (.getfield 10, 3) := by decide +kernel
theorem dX10_load_42 : decode cX10_load 42 = .ok (.aload_n 0, 1) := by decide +kernel
theorem dX10_load_43 : decode cX10_load 43 = .ok (.getfield 40, 3) := by decide +kernel
theorem dX10_load_46 : decode cX10_load 46 = .ok (.getfield 74, 3) := by decide +kernel
theorem dX10_load_49 : decode cX10_load 49 = .ok (.putfield 77, 3) := by decide +kernel
theorem dX10_load_52 : decode cX10_load 52 = .ok (.aload_n 0, 1) := by decide +kernel
theorem dX10_load_53 : decode cX10_load 53 = .ok (.getfield 10, 3) := by decide +kernel
theorem dX10_load_56 : decode cX10_load 56 = .ok (.aload_n 0, 1) := by decide +kernel
theorem dX10_load_57 : decode cX10_load 57 = .ok (.getfield 40, 3) := by decide +kernel
theorem dX10_load_60 : decode cX10_load 60 = .ok (.getfield 78, 3) := by decide +kernel
theorem dX10_load_63 : decode cX10_load 63 = .ok (.putfield 81, 3) := by decide +kernel
theorem dX10_load_66 : decode cX10_load 66 = .ok (.iload_n 2, 1) := by decide +kernel
theorem dX10_load_67 : decode cX10_load 67 = .ok (.ifCond .ne 10, 3) := by decide +kernel
theorem dX10_load_77 : decode cX10_load 77 = .ok (.aload_n 0, 1) := by decide +kernel
theorem dX10_load_78 : decode cX10_load 78 = .ok (.getfield 19, 3) := by decide +kernel
theorem dX10_load_81 : decode cX10_load 81 = .ok (.aload_n 0, 1) := by decide +kernel
theorem dX10_load_82 : decode cX10_load 82 = .ok (.getfield 23, 3) := by decide +kernel
theorem dX10_load_85 : decode cX10_load 85 = .ok (.invokevirtual 82, 3) := by decide +kernel
theorem dX10_load_88 : decode cX10_load 88 = .ok (.aload_n 0, 1) := by decide +kernel
theorem dX10_load_89 : decode cX10_load 89 = .ok (.aload_n 0, 1) := by decide +kernel
theorem dX10_load_90 : decode cX10_load 90 = .ok (.getfield 19, 3) := by decide +kernel
theorem dX10_load_93 : decode cX10_load 93 = .ok (.getfield 86, 3) := by decide +kernel
theorem dX10_load_96 : decode cX10_load 96 = .ok (.getfield 90, 3) := by decide +kernel
theorem dX10_load_99 : decode cX10_load 99 = .ok (.invokevirtual 95, 3) := by decide +kernel
theorem dX10_load_102 : decode cX10_load 102 = .ok (.ireturn, 1) := by decide +kernel
theorem dX10_lose_0 : decode cX10_lose 0 = .ok (.aload_n 0, 1) := by decide +kernel
theorem dX10_lose_1 : decode cX10_lose 1 = .ok (.getfield 19, 3) := by decide +kernel
theorem dX10_lose_4 : decode cX10_lose 4 = .ok (.getfield 120, 3) := by decide +kernel
theorem dX10_lose_7 : decode cX10_lose 7 = .ok (.getfield 124, 3) := by decide +kernel
theorem dX10_lose_10 : decode cX10_lose 10 = .ok (.ifCond .ne 10, 3) := by decide +kernel
theorem dX10_lose_13 : decode cX10_lose 13 = .ok (.aload_n 0, 1) := by decide +kernel
theorem dX10_lose_14 : decode cX10_lose 14 = .ok (.bipush 6, 2) := by decide +kernel
theorem dX10_lose_16 : decode cX10_lose 16 = .ok (.invokevirtual 258, 3) := by decide +kernel
theorem dX10_lose_19 : decode cX10_lose 19 = .ok (.ireturn, 1) := by decide +kernel
theorem dX10_lowered_0 : decode cX10_lowered 0 = .ok (.aload_n 0, 1) := by decide +kernel
theorem dX10_lowered_1 : decode cX10_lowered 1 = .ok (.aload_n 0, 1) := by decide +kernel
theorem dX10_lowered_2 : decode cX10_lowered 2 = .ok (.getfield 31, 3) := by decide +kernel
theorem dX10_lowered_5 : decode cX10_lowered 5 = .ok (.iconst 2, 1) := by decide +kernel
theorem dX10_lowered_6 : decode cX10_lowered 6 = .ok (.iconst (-1), 1) := by decide +kernel
theorem dX10_lowered_7 : decode cX10_lowered 7 = .ok (.iconst 0, 1) := by decide +kernel
theorem dX10_lowered_8 : decode cX10_lowered 8 = .ok (.invokevirtual 296, 3) := by decide +kernel
theorem dX10_lowered_11 : decode cX10_lowered 11 = .ok (.invokevirtual 300, 3) := by decide +kernel
theorem dX10_lowered_14 : decode cX10_lowered 14 = .ok (.ireturn, 1) := by decide +kernel
theorem dX10_many_0 : decode cX10_many 0 = .ok (.aload_n 0, 1) := by decide +kernel
theorem dX10_many_1 : decode cX10_many 1 = .ok (.getfield 19, 3) := by decide +kernel
theorem dX10_many_4 : decode cX10_many 4 = .ok (.getfield 86, 3) := by decide +kernel
theorem dX10_many_7 : decode cX10_many 7 = .ok (.astore_n 2, 1) := by decide +kernel
theorem dX10_many_8 : decode cX10_many 8 = .ok (.iload_n 1, 1) := by decide +kernel
theorem dX10_many_9 : decode cX10_many 9 = .ok (.tableswitch 201 0 10 #[59, 68, 77, 86, 101, 113, 125, 157, 166, 183, 192], 59) := by decide +kernel
theorem dX10_many_68 : decode cX10_many 68 = .ok (.aload_n 0, 1) := by decide +kernel
theorem dX10_many_69 : decode cX10_many 69 = .ok (.aload_n 2, 1) := by decide +kernel
theorem dX10_many_70 : decode cX10_many 70 = .ok (.getfield 90, 3) := by decide +kernel
theorem dX10_many_73 : decode cX10_many 73 = .ok (.invokevirtual 95, 3) := by decide +kernel
theorem dX10_many_76 : decode cX10_many 76 = .ok (.ireturn, 1) := by decide +kernel
theorem dX10_many_77 : decode cX10_many 77 = .ok (.aload_n 0, 1) := by decide +kernel
theorem dX10_many_78 : decode cX10_many 78 = .ok (.aload_n 2, 1) := by decide +kernel
theorem dX10_many_79 : decode cX10_many 79 = .ok (.invokevirtual 98, 3) := by decide +kernel
theorem dX10_many_82 : decode cX10_many 82 = .ok (.invokevirtual 95, 3) := by decide +kernel
theorem dX10_many_85 : decode cX10_many 85 = .ok (.ireturn, 1) := by decide +kernel
theorem dX10_many_86 : decode cX10_many 86 = .ok (.aload_n 0, 1) := by decide +kernel
theorem dX10_many_87 : decode cX10_many 87 = .ok (.aload_n 2, 1) := by decide +kernel
theorem dX10_many_88 : decode cX10_many 88 = .ok (.getfield 102, 3) := by decide +kernel
theorem dX10_many_91 : decode cX10_many 91 = .ok (.invokevirtual 95, 3) := by decide +kernel
theorem dX10_many_94 : decode cX10_many 94 = .ok (.ireturn, 1) := by decide +kernel
theorem dX10_many_95 : decode cX10_many 95 = .ok (.aload_n 0, 1) := by decide +kernel
theorem dX10_many_96 : decode cX10_many 96 = .ok (.aload_n 0, 1) := by decide +kernel
theorem dX10_many_97 : decode cX10_many 97 = .ok (.getfield 19, 3) := by decide +kernel
theorem dX10_many_100 : decode cX10_many 100 = .ok (.getfield 105, 3) := by decide +kernel
theorem dX10_many_103 : decode cX10_many 103 = .ok (.invokevirtual 109, 3) := by decide +kernel
theorem dX10_many_106 : decode cX10_many 106 = .ok (.invokevirtual 95, 3) := by decide +kernel
theorem dX10_many_109 : decode cX10_many 109 = .ok (.ireturn, 1) := by decide +kernel
theorem dX10_many_110 : decode cX10_many 110 = .ok (.aload_n 0, 1) := by decide +kernel
theorem dX10_many_111 : decode cX10_many 111 = .ok (.aload_n 0, 1) := by decide +kernel
theorem dX10_many_112 : decode cX10_many 112 = .ok (.getfield 19, 3) := by decide +kernel
theorem dX10_many_115 : decode cX10_many 115 = .ok (.getfield 114, 3) := by decide +kernel
theorem dX10_many_118 : decode cX10_many 118 = .ok (.invokevirtual 95, 3) := by decide +kernel
theorem dX10_many_121 : decode cX10_many 121 = .ok (.ireturn, 1) := by decide +kernel
theorem dX10_many_122 : decode cX10_many 122 = .ok (.aload_n 0, 1) := by decide +kernel
theorem dX10_many_123 : decode cX10_many 123 = .ok (.aload_n 0, 1) := by decide +kernel
theorem dX10_many_124 : decode cX10_many 124 = .ok (.getfield 19, 3) := by decide +kernel
theorem dX10_many_127 : decode cX10_many 127 = .ok (.getfield 117, 3) := by decide +kernel
theorem dX10_many_130 : decode cX10_many 130 = .ok (.invokevirtual 95, 3) := by decide +kernel
theorem dX10_many_133 : decode cX10_many 133 = .ok (.ireturn, 1) := by decide +kernel
theorem dX10_many_134 : decode cX10_many 134 = .ok (.aload_n 0, 1) := by decide +kernel
theorem dX10_many_135 : decode cX10_many 135 = .ok (.aload_n 0, 1) := by decide +kernel
theorem dX10_many_136 : decode cX10_many 136 = .ok (.getfield 19, 3) := by decide +kernel
theorem dX10_many_139 : decode cX10_many 139 = .ok (.getfield 120, 3) := by decide +kernel
theorem dX10_many_142 : decode cX10_many 142 = .ok (.getfield 124, 3) := by decide +kernel
theorem dX10_many_145 : decode cX10_many 145 = .ok (.ifCond .ne 16, 3) := by decide +kernel
theorem dX10_many_148 : decode cX10_many 148 = .ok (.aload_n 0, 1) := by decide +kernel
theorem dX10_many_149 : decode cX10_many 149 = .ok (.getfield 19, 3) := by decide +kernel
theorem dX10_many_152 : decode cX10_many 152 = .ok (.getfield 129, 3) := by decide +kernel
theorem dX10_many_155 : decode cX10_many 155 = .ok (.getfield 133, 3) := by decide +kernel
theorem dX10_many_158 : decode cX10_many 158 = .ok (.goto 4, 3) := by decide +kernel
theorem dX10_many_162 : decode cX10_many 162 = .ok (.invokevirtual 95, 3) := by decide +kernel
theorem dX10_many_165 : decode cX10_many 165 = .ok (.ireturn, 1) := by decide +kernel
theorem dX10_many_166 : decode cX10_many 166 = .ok (.aload_n 0, 1) := by decide +kernel
theorem dX10_many_167 : decode cX10_many 167 = .ok (.aload_n 0, 1) := by decide +kernel
theorem dX10_many_168 : decode cX10_many 168 = .ok (.getfield 52, 3) := by decide +kernel
theorem dX10_many_171 : decode cX10_many 171 = .ok (.invokevirtual 95, 3) := by decide +kernel
theorem dX10_many_174 : decode cX10_many 174 = .ok (.ireturn, 1) := by decide +kernel
theorem dX10_many_175 : decode cX10_many 175 = .ok (.aload_n 0, 1) := by decide +kernel
theorem dX10_many_176 : decode cX10_many 176 = .ok (.aload_n 2, 1) := by decide +kernel
theorem dX10_many_177 : decode cX10_many 177 = .ok (.invokevirtual 136, 3) := by decide +kernel
theorem dX10_many_180 : decode cX10_many 180 = .ok (.ifCond .eq 7, 3) := by decide +kernel
theorem dX10_many_187 : decode cX10_many 187 = .ok (.iconst 0, 1) := by decide +kernel
theorem dX10_many_188 : decode cX10_many 188 = .ok (.invokevirtual 95, 3) := by decide +kernel
theorem dX10_many_191 : decode cX10_many 191 = .ok (.ireturn, 1) := by decide +kernel
theorem dX10_many_192 : decode cX10_many 192 = .ok (.aload_n 0, 1) := by decide +kernel
theorem dX10_many_193 : decode cX10_many 193 = .ok (.aload_n 2, 1) := by decide +kernel
theorem dX10_many_194 : decode cX10_many 194 = .ok (.getfield 140, 3) := by decide +kernel
theorem dX10_many_197 : decode cX10_many 197 = .ok (.invokevirtual 95, 3) := by decide +kernel
theorem dX10_many_200 : decode cX10_many 200 = .ok (.ireturn, 1) := by decide +kernel
theorem dX10_many_201 : decode cX10_many 201 = .ok (.aload_n 0, 1) := by decide +kernel
theorem dX10_many_202 : decode cX10_many 202 = .ok (.aload_n 2, 1) := by decide +kernel
theorem dX10_many_203 : decode cX10_many 203 = .ok (.getfield 143, 3) := by decide +kernel
theorem dX10_many_206 : decode cX10_many 206 = .ok (.invokevirtual 95, 3) := by decide +kernel
theorem dX10_many_209 : decode cX10_many 209 = .ok (.ireturn, 1) := by decide +kernel
theorem dX10_many_210 : decode cX10_many 210 = .ok (.aload_n 0, 1) := by decide +kernel
theorem dX10_many_211 : decode cX10_many 211 = .ok (.iconst 1, 1) := by decide +kernel
theorem dX10_many_212 : decode cX10_many 212 = .ok (.invokevirtual 66, 3) := by decide +kernel
theorem dX10_many_215 : decode cX10_many 215 = .ok (.ireturn, 1) := by decide +kernel
theorem dX10_mark_0 : decode cX10_mark 0 = .ok (.aload_n 0, 1) := by decide +kernel
theorem dX10_mark_1 : decode cX10_mark 1 = .ok (.getfield 52, 3) := by decide +kernel
theorem dX10_mark_4 : decode cX10_mark 4 = .ok (.ifCond .lt 11, 3) := by decide +kernel
theorem dX10_mark_7 : decode cX10_mark 7 = .ok (.aload_n 0, 1) := by decide +kernel
theorem dX10_mark_8 : decode cX10_mark 8 = .ok (.getfield 52, 3) := by decide +kernel
theorem dX10_mark_11 : decode cX10_mark 11 = .ok (.iconst 4, 1) := by decide +kernel
theorem dX10_mark_12 : decode cX10_mark 12 = .ok (.if_icmp .lt 9, 3) := by decide +kernel
theorem dX10_mark_21 : decode cX10_mark 21 = .ok (.aload_n 0, 1) := by decide +kernel
theorem dX10_mark_22 : decode cX10_mark 22 = .ok (.getfield 44, 3) := by decide +kernel
theorem dX10_mark_25 : decode cX10_mark 25 = .ok (.aload_n 0, 1) := by decide +kernel
theorem dX10_mark_26 : decode cX10_mark 26 = .ok (.getfield 52, 3) := by decide +kernel
theorem dX10_mark_29 : decode cX10_mark 29 = .ok (.aaload, 1) := by decide +kernel
theorem dX10_mark_30 : decode cX10_mark 30 = .ok (.aload_n 0, 1) := by decide +kernel
theorem dX10_mark_31 : decode cX10_mark 31 = .ok (.getfield 19, 3) := by decide +kernel
theorem dX10_mark_34 : decode cX10_mark 34 = .ok (.invokevirtual 82, 3) := by decide +kernel
theorem dX10_mark_37 : decode cX10_mark 37 = .ok (.aload_n 0, 1) := by decide +kernel
theorem dX10_mark_38 : decode cX10_mark 38 = .ok (.getfield 48, 3) := by decide +kernel
theorem dX10_mark_41 : decode cX10_mark 41 = .ok (.aload_n 0, 1) := by decide +kernel
theorem dX10_mark_42 : decode cX10_mark 42 = .ok (.getfield 52, 3) := by decide +kernel
theorem dX10_mark_45 : decode cX10_mark 45 = .ok (.aaload, 1) := by decide +kernel
theorem dX10_mark_46 : decode cX10_mark 46 = .ok (.aload_n 0, 1) := by decide +kernel
theorem dX10_mark_47 : decode cX10_mark 47 = .ok (.getfield 10, 3) := by decide +kernel
theorem dX10_mark_50 : decode cX10_mark 50 = .ok (.invokevirtual 293, 3) := by decide +kernel
theorem dX10_mark_53 : decode cX10_mark 53 = .ok (.aload_n 0, 1) := by decide +kernel
theorem dX10_mark_54 : decode cX10_mark 54 = .ok (.dup, 1) := by decide +kernel
theorem dX10_mark_55 : decode cX10_mark 55 = .ok (.getfield 52, 3) := by decide +kernel
theorem dX10_mark_58 : decode cX10_mark 58 = .ok (.iconst 1, 1) := by decide +kernel
theorem dX10_mark_59 : decode cX10_mark 59 = .ok (.iadd, 1) := by decide +kernel
theorem dX10_mark_60 : decode cX10_mark 60 = .ok (.putfield 52, 3) := by decide +kernel
theorem dX10_mark_63 : decode cX10_mark 63 = .ok (.aload_n 0, 1) := by decide +kernel
theorem dX10_mark_64 : decode cX10_mark 64 = .ok (.aload_n 0, 1) := by decide +kernel
theorem dX10_mark_65 : decode cX10_mark 65 = .ok (.getfield 52, 3) := by decide +kernel
theorem dX10_mark_68 : decode cX10_mark 68 = .ok (.invokevirtual 95, 3) := by decide +kernel
theorem dX10_mark_71 : decode cX10_mark 71 = .ok (.ireturn, 1) := by decide +kernel
theorem dX10_mend_0 : decode cX10_mend 0 = .ok (.aload_n 0, 1) := by decide +kernel
theorem dX10_mend_1 : decode cX10_mend 1 = .ok (.getfield 19, 3) := by decide +kernel
theorem dX10_mend_4 : decode cX10_mend 4 = .ok (.getfield 86, 3) := by decide +kernel
theorem dX10_mend_7 : decode cX10_mend 7 = .ok (.getfield 140, 3) := by decide +kernel
theorem dX10_mend_10 : decode cX10_mend 10 = .ok (.iconst (-1), 1) := by decide +kernel
theorem dX10_mend_11 : decode cX10_mend 11 = .ok (.if_icmp .ne 9, 3) := by decide +kernel
theorem dX10_mend_14 : decode cX10_mend 14 = .ok (.aload_n 0, 1) := by decide +kernel
theorem dX10_mend_15 : decode cX10_mend 15 = .ok (.iconst 5, 1) := by decide +kernel
theorem dX10_mend_16 : decode cX10_mend 16 = .ok (.invokevirtual 258, 3) := by decide +kernel
theorem dX10_mend_19 : decode cX10_mend 19 = .ok (.ireturn, 1) := by decide +kernel
theorem dX10_monitor_0 : decode cX10_monitor 0 = .ok (.aload_n 0, 1) := by decide +kernel
theorem dX10_monitor_1 : decode cX10_monitor 1 = .ok (.getfield 19, 3) := by decide +kernel
theorem dX10_monitor_4 : decode cX10_monitor 4 = .ok (.getfield 86, 3) := by decide +kernel
theorem dX10_monitor_7 : decode cX10_monitor 7 = .ok (.iload_n 1, 1) := by decide +kernel
theorem dX10_monitor_8 : decode cX10_monitor 8 = .ok (.invokevirtual 146, 3) := by decide +kernel
theorem dX10_monitor_11 : decode cX10_monitor 11 = .ok (.ifCond .ne 9, 3) := by decide +kernel
theorem dX10_monitor_14 : decode cX10_monitor 14 = .ok (.aload_n 0, 1) := by decide +kernel
theorem dX10_monitor_15 : decode cX10_monitor 15 = .ok (.iconst 2, 1) := by decide +kernel
theorem dX10_monitor_16 : decode cX10_monitor 16 = .ok (.invokevirtual 258, 3) := by decide +kernel
theorem dX10_monitor_19 : decode cX10_monitor 19 = .ok (.ireturn, 1) := by decide +kernel
theorem dX10_next_0 : decode cX10_next 0 = .ok (.iload_n 1, 1) := by decide +kernel
theorem dX10_next_1 : decode cX10_next 1 = .ok (.ifCond .ge 9, 3) := by decide +kernel
theorem dX10_next_4 : decode cX10_next 4 = .ok (.aload_n 0, 1) := by decide +kernel
theorem dX10_next_5 : decode cX10_next 5 = .ok (.iconst 1, 1) := by decide +kernel
theorem dX10_next_6 : decode cX10_next 6 = .ok (.invokevirtual 66, 3) := by decide +kernel
theorem dX10_next_9 : decode cX10_next 9 = .ok (.ireturn, 1) := by decide +kernel
theorem dX10_next_10 : decode cX10_next 10 = .ok (.aload_n 0, 1) := by decide +kernel
theorem dX10_next_11 : decode cX10_next 11 = .ok (.aload_n 0, 1) := by decide +kernel
theorem dX10_next_12 : decode cX10_next 12 = .ok (.getfield 31, 3) := by decide +kernel
theorem dX10_next_15 : decode cX10_next 15 = .ok (.iload_n 1, 1) := by decide +kernel
theorem dX10_next_16 : decode cX10_next 16 = .ok (.iload_n 2, 1) := by decide +kernel
theorem dX10_next_17 : decode cX10_next 17 = .ok (.invokevirtual 306, 3) := by decide +kernel
theorem dX10_next_20 : decode cX10_next 20 = .ok (.invokevirtual 300, 3) := by decide +kernel
theorem dX10_next_23 : decode cX10_next 23 = .ok (.ireturn, 1) := by decide +kernel
theorem dX10_notice_0 : decode cX10_notice 0 = .ok (.aload_n 0, 1) := by decide +kernel
theorem dX10_notice_1 : decode cX10_notice 1 = .ok (.getfield 19, 3) := by decide +kernel
theorem dX10_notice_4 : decode cX10_notice 4 = .ok (.getfield 86, 3) := by decide +kernel
theorem dX10_notice_7 : decode cX10_notice 7 = .ok (.invokevirtual 136, 3) := by decide +kernel
theorem dX10_notice_10 : decode cX10_notice 10 = .ok (.ifCond .eq 9, 3) := by decide +kernel
theorem dX10_notice_19 : decode cX10_notice 19 = .ok (.aload_n 0, 1) := by decide +kernel
theorem dX10_notice_20 : decode cX10_notice 20 = .ok (.getfield 19, 3) := by decide +kernel
theorem dX10_notice_23 : decode cX10_notice 23 = .ok (.getfield 86, 3) := by decide +kernel
theorem dX10_notice_26 : decode cX10_notice 26 = .ok (.invokevirtual 284, 3) := by decide +kernel
theorem dX10_notice_29 : decode cX10_notice 29 = .ok (.ifCond .ne 9, 3) := by decide +kernel
theorem dX10_notice_32 : decode cX10_notice 32 = .ok (.aload_n 0, 1) := by decide +kernel
theorem dX10_notice_33 : decode cX10_notice 33 = .ok (.iconst 5, 1) := by decide +kernel
theorem dX10_notice_34 : decode cX10_notice 34 = .ok (.invokevirtual 66, 3) := by decide +kernel
theorem dX10_notice_37 : decode cX10_notice 37 = .ok (.ireturn, 1) := by decide +kernel
theorem dX10_off_0 : decode cX10_off 0 = .ok (.aload_n 0, 1) := by decide +kernel
theorem dX10_off_1 : decode cX10_off 1 = .ok (.getfield 19, 3) := by decide +kernel
theorem dX10_off_4 : decode cX10_off 4 = .ok (.getfield 86, 3) := by decide +kernel
theorem dX10_off_7 : decode cX10_off 7 = .ok (.iload_n 1, 1) := by decide +kernel
theorem dX10_off_8 : decode cX10_off 8 = .ok (.invokevirtual 146, 3) := by decide +kernel
theorem dX10_off_11 : decode cX10_off 11 = .ok (.ifCond .ne 9, 3) := by decide +kernel
theorem dX10_off_14 : decode cX10_off 14 = .ok (.aload_n 0, 1) := by decide +kernel
theorem dX10_off_15 : decode cX10_off 15 = .ok (.iconst 2, 1) := by decide +kernel
theorem dX10_off_16 : decode cX10_off 16 = .ok (.invokevirtual 258, 3) := by decide +kernel
theorem dX10_off_19 : decode cX10_off 19 = .ok (.ireturn, 1) := by decide +kernel
theorem dX10_on_0 : decode cX10_on 0 = .ok (.aload_n 0, 1) := by decide +kernel
theorem dX10_on_1 : decode cX10_on 1 = .ok (.getfield 19, 3) := by decide +kernel
theorem dX10_on_4 : decode cX10_on 4 = .ok (.getfield 86, 3) := by decide +kernel
theorem dX10_on_7 : decode cX10_on 7 = .ok (.iload_n 1, 1) := by decide +kernel
theorem dX10_on_8 : decode cX10_on 8 = .ok (.invokevirtual 146, 3) := by decide +kernel
theorem dX10_on_11 : decode cX10_on 11 = .ok (.ifCond .ne 9, 3) := by decide +kernel
theorem dX10_on_14 : decode cX10_on 14 = .ok (.aload_n 0, 1) := by decide +kernel
theorem dX10_on_15 : decode cX10_on 15 = .ok (.iconst 2, 1) := by decide +kernel
theorem dX10_on_16 : decode cX10_on 16 = .ok (.invokevirtual 258, 3) := by decide +kernel
theorem dX10_on_19 : decode cX10_on 19 = .ok (.ireturn, 1) := by decide +kernel
theorem dX10_peak_0 : decode cX10_peak 0 = .ok (.aload_n 0, 1) := by decide +kernel
theorem dX10_peak_1 : decode cX10_peak 1 = .ok (.aload_n 0, 1) := by decide +kernel
theorem dX10_peak_2 : decode cX10_peak 2 = .ok (.getfield 31, 3) := by decide +kernel
theorem dX10_peak_5 : decode cX10_peak 5 = .ok (.invokevirtual 310, 3) := by decide +kernel
theorem dX10_peak_8 : decode cX10_peak 8 = .ok (.invokevirtual 300, 3) := by decide +kernel
theorem dX10_peak_11 : decode cX10_peak 11 = .ok (.ireturn, 1) := by decide +kernel
theorem dX10_purged_0 : decode cX10_purged 0 = .ok (.aload_n 0, 1) := by decide +kernel
theorem dX10_purged_1 : decode cX10_purged 1 = .ok (.aload_n 0, 1) := by decide +kernel
theorem dX10_purged_2 : decode cX10_purged 2 = .ok (.getfield 31, 3) := by decide +kernel
theorem dX10_purged_5 : decode cX10_purged 5 = .ok (.iconst 4, 1) := by decide +kernel
theorem dX10_purged_6 : decode cX10_purged 6 = .ok (.iconst (-1), 1) := by decide +kernel
theorem dX10_purged_7 : decode cX10_purged 7 = .ok (.iconst 0, 1) := by decide +kernel
theorem dX10_purged_8 : decode cX10_purged 8 = .ok (.invokevirtual 296, 3) := by decide +kernel
theorem dX10_purged_11 : decode cX10_purged 11 = .ok (.invokevirtual 300, 3) := by decide +kernel
theorem dX10_purged_14 : decode cX10_purged 14 = .ok (.ireturn, 1) := by decide +kernel
theorem dX10_quiet_0 : decode cX10_quiet 0 = .ok (.aload_n 0, 1) := by decide +kernel
theorem dX10_quiet_1 : decode cX10_quiet 1 = .ok (.aload_n 0, 1) := by decide +kernel
theorem dX10_quiet_2 : decode cX10_quiet 2 = .ok (.getfield 31, 3) := by decide +kernel
theorem dX10_quiet_5 : decode cX10_quiet 5 = .ok (.iconst 0, 1) := by decide +kernel
theorem dX10_quiet_6 : decode cX10_quiet 6 = .ok (.iconst (-1), 1) := by decide +kernel
theorem dX10_quiet_7 : decode cX10_quiet 7 = .ok (.iload_n 1, 1) := by decide +kernel
theorem dX10_quiet_8 : decode cX10_quiet 8 = .ok (.invokevirtual 296, 3) := by decide +kernel
theorem dX10_quiet_11 : decode cX10_quiet 11 = .ok (.invokevirtual 300, 3) := by decide +kernel
theorem dX10_quiet_14 : decode cX10_quiet 14 = .ok (.ireturn, 1) := by decide +kernel
theorem dX10_raise_0 : decode cX10_raise 0 = .ok (.iload_n 2, 1) := by decide +kernel
theorem dX10_raise_1 : decode cX10_raise 1 = .ok (.ifCond .lt 12, 3) := by decide +kernel
theorem dX10_raise_4 : decode cX10_raise 4 = .ok (.iload_n 3, 1) := by decide +kernel
theorem dX10_raise_5 : decode cX10_raise 5 = .ok (.ifCond .lt 8, 3) := by decide +kernel
theorem dX10_raise_8 : decode cX10_raise 8 = .ok (.iload_n 3, 1) := by decide +kernel
theorem dX10_raise_9 : decode cX10_raise 9 = .ok (.iconst 1, 1) := by decide +kernel
theorem dX10_raise_10 : decode cX10_raise 10 = .ok (.if_icmp .le 9, 3) := by decide +kernel
theorem dX10_raise_13 : decode cX10_raise 13 = .ok (.aload_n 0, 1) := by decide +kernel
theorem dX10_raise_14 : decode cX10_raise 14 = .ok (.iconst 1, 1) := by decide +kernel
theorem dX10_raise_15 : decode cX10_raise 15 = .ok (.invokevirtual 66, 3) := by decide +kernel
theorem dX10_raise_18 : decode cX10_raise 18 = .ok (.ireturn, 1) := by decide +kernel
theorem dX10_raise_19 : decode cX10_raise 19 = .ok (.aload_n 0, 1) := by decide +kernel
theorem dX10_raise_20 : decode cX10_raise 20 = .ok (.getfield 19, 3) := by decide +kernel
theorem dX10_raise_23 : decode cX10_raise 23 = .ok (.getfield 86, 3) := by decide +kernel
theorem dX10_raise_26 : decode cX10_raise 26 = .ok (.iload_n 1, 1) := by decide +kernel
theorem dX10_raise_27 : decode cX10_raise 27 = .ok (.invokevirtual 146, 3) := by decide +kernel
theorem dX10_raise_30 : decode cX10_raise 30 = .ok (.ifCond .ne 9, 3) := by decide +kernel
theorem dX10_raise_33 : decode cX10_raise 33 = .ok (.aload_n 0, 1) := by decide +kernel
theorem dX10_raise_34 : decode cX10_raise 34 = .ok (.iconst 2, 1) := by decide +kernel
theorem dX10_raise_35 : decode cX10_raise 35 = .ok (.invokevirtual 66, 3) := by decide +kernel
theorem dX10_raise_38 : decode cX10_raise 38 = .ok (.ireturn, 1) := by decide +kernel
theorem dX10_ranks_0 : decode cX10_ranks 0 = .ok (.iload_n 1, 1) := by decide +kernel
theorem dX10_ranks_1 : decode cX10_ranks 1 = .ok (.ifCond .lt 18, 3) := by decide +kernel
theorem dX10_ranks_4 : decode cX10_ranks 4 = .ok (.iload_n 1, 1) := by decide +kernel
theorem dX10_ranks_5 : decode cX10_ranks 5 = .ok (.bipush 8, 2) := by decide +kernel
theorem dX10_ranks_7 : decode cX10_ranks 7 = .ok (.if_icmp .ge 12, 3) := by decide +kernel
theorem dX10_ranks_10 : decode cX10_ranks 10 = .ok (.iload_n 2, 1) := by decide +kernel
theorem dX10_ranks_11 : decode cX10_ranks 11 = .ok (.ifCond .lt 8, 3) := by decide +kernel
theorem dX10_ranks_14 : decode cX10_ranks 14 = .ok (.iload_n 2, 1) := by decide +kernel
theorem dX10_ranks_15 : decode cX10_ranks 15 = .ok (.iconst 2, 1) := by decide +kernel
theorem dX10_ranks_16 : decode cX10_ranks 16 = .ok (.if_icmp .le 9, 3) := by decide +kernel
theorem dX10_ranks_19 : decode cX10_ranks 19 = .ok (.aload_n 0, 1) := by decide +kernel
theorem dX10_ranks_20 : decode cX10_ranks 20 = .ok (.iconst 1, 1) := by decide +kernel
theorem dX10_ranks_21 : decode cX10_ranks 21 = .ok (.invokevirtual 66, 3) := by decide +kernel
theorem dX10_ranks_24 : decode cX10_ranks 24 = .ok (.ireturn, 1) := by decide +kernel
theorem dX10_ranks_25 : decode cX10_ranks 25 = .ok (.iload_n 2, 1) := by decide +kernel
theorem dX10_ranks_26 : decode cX10_ranks 26 = .ok (.ifCond .ne 19, 3) := by decide +kernel
theorem dX10_ranks_29 : decode cX10_ranks 29 = .ok (.aload_n 0, 1) := by decide +kernel
theorem dX10_ranks_30 : decode cX10_ranks 30 = .ok (.aload_n 0, 1) := by decide +kernel
theorem dX10_ranks_31 : decode cX10_ranks 31 = .ok (.getfield 19, 3) := by decide +kernel
theorem dX10_ranks_34 : decode cX10_ranks 34 = .ok (.getfield 105, 3) := by decide +kernel
theorem dX10_ranks_37 : decode cX10_ranks 37 = .ok (.iload_n 1, 1) := by decide +kernel
theorem dX10_ranks_38 : decode cX10_ranks 38 = .ok (.invokevirtual 213, 3) := by decide +kernel
theorem dX10_ranks_41 : decode cX10_ranks 41 = .ok (.invokevirtual 95, 3) := by decide +kernel
theorem dX10_ranks_44 : decode cX10_ranks 44 = .ok (.ireturn, 1) := by decide +kernel
theorem dX10_ranks_45 : decode cX10_ranks 45 = .ok (.aload_n 0, 1) := by decide +kernel
theorem dX10_ranks_46 : decode cX10_ranks 46 = .ok (.iload_n 2, 1) := by decide +kernel
theorem dX10_ranks_47 : decode cX10_ranks 47 = .ok (.iconst 1, 1) := by decide +kernel
theorem dX10_ranks_48 : decode cX10_ranks 48 = .ok (.if_icmp .ne 17, 3) := by decide +kernel
theorem dX10_ranks_51 : decode cX10_ranks 51 = .ok (.aload_n 0, 1) := by decide +kernel
theorem dX10_ranks_52 : decode cX10_ranks 52 = .ok (.getfield 19, 3) := by decide +kernel
theorem dX10_ranks_55 : decode cX10_ranks 55 = .ok (.getfield 180, 3) := by decide +kernel
theorem dX10_ranks_58 : decode cX10_ranks 58 = .ok (.iload_n 1, 1) := by decide +kernel
theorem dX10_ranks_59 : decode cX10_ranks 59 = .ok (.invokevirtual 216, 3) := by decide +kernel
theorem dX10_ranks_62 : decode cX10_ranks 62 = .ok (.goto 14, 3) := by decide +kernel
theorem dX10_ranks_65 : decode cX10_ranks 65 = .ok (.aload_n 0, 1) := by decide +kernel
theorem dX10_ranks_66 : decode cX10_ranks 66 = .ok (.getfield 19, 3) := by decide +kernel
theorem dX10_ranks_69 : decode cX10_ranks 69 = .ok (.getfield 180, 3) := by decide +kernel
theorem dX10_ranks_72 : decode cX10_ranks 72 = .ok (.iload_n 1, 1) := by decide +kernel
theorem dX10_ranks_73 : decode cX10_ranks 73 = .ok (.invokevirtual 219, 3) := by decide +kernel
theorem dX10_ranks_76 : decode cX10_ranks 76 = .ok (.invokevirtual 95, 3) := by decide +kernel
theorem dX10_ranks_79 : decode cX10_ranks 79 = .ok (.ireturn, 1) := by decide +kernel
theorem dX10_refuse_0 : decode cX10_refuse 0 = .ok (.aload_n 0, 1) := by decide +kernel
theorem dX10_refuse_1 : decode cX10_refuse 1 = .ok (.iload_n 1, 1) := by decide +kernel
theorem dX10_refuse_2 : decode cX10_refuse 2 = .ok (.putfield 56, 3) := by decide +kernel
theorem dX10_refuse_5 : decode cX10_refuse 5 = .ok (.iconst 0, 1) := by decide +kernel
theorem dX10_refuse_6 : decode cX10_refuse 6 = .ok (.ireturn, 1) := by decide +kernel
theorem dX10_run_0 : decode cX10_run 0 = .ok (.iload_n 1, 1) := by decide +kernel
theorem dX10_run_1 : decode cX10_run 1 = .ok (.iconst 1, 1) := by decide +kernel
theorem dX10_run_2 : decode cX10_run 2 = .ok (.if_icmp .lt 31, 3) := by decide +kernel
theorem dX10_run_5 : decode cX10_run 5 = .ok (.iload_n 1, 1) := by decide +kernel
theorem dX10_run_6 : decode cX10_run 6 = .ok (.sipush 500, 3) := by decide +kernel
theorem dX10_run_9 : decode cX10_run 9 = .ok (.if_icmp .gt 24, 3) := by decide +kernel
theorem dX10_run_12 : decode cX10_run 12 = .ok (.iload_n 2, 1) := by decide +kernel
theorem dX10_run_13 : decode cX10_run 13 = .ok (.ifCond .lt 20, 3) := by decide +kernel
theorem dX10_run_16 : decode cX10_run 16 = .ok (.iload_n 2, 1) := by decide +kernel
theorem dX10_run_17 : decode cX10_run 17 = .ok (.sipush 9999, 3) := by decide +kernel
theorem dX10_run_20 : decode cX10_run 20 = .ok (.if_icmp .gt 13, 3) := by decide +kernel
theorem dX10_run_23 : decode cX10_run 23 = .ok (.iload_n 3, 1) := by decide +kernel
theorem dX10_run_24 : decode cX10_run 24 = .ok (.ifCond .lt 9, 3) := by decide +kernel
theorem dX10_run_27 : decode cX10_run 27 = .ok (.iload_n 3, 1) := by decide +kernel
theorem dX10_run_28 : decode cX10_run 28 = .ok (.bipush 16, 2) := by decide +kernel
theorem dX10_run_30 : decode cX10_run 30 = .ok (.if_icmp .le 9, 3) := by decide +kernel
theorem dX10_run_33 : decode cX10_run 33 = .ok (.aload_n 0, 1) := by decide +kernel
theorem dX10_run_34 : decode cX10_run 34 = .ok (.iconst 1, 1) := by decide +kernel
theorem dX10_run_35 : decode cX10_run 35 = .ok (.invokevirtual 66, 3) := by decide +kernel
theorem dX10_run_38 : decode cX10_run 38 = .ok (.ireturn, 1) := by decide +kernel
theorem dX10_run_39 : decode cX10_run 39 = .ok (.aload_n 0, 1) := by decide +kernel
theorem dX10_run_40 : decode cX10_run 40 = .ok (.getfield 19, 3) := by decide +kernel
theorem dX10_run_43 : decode cX10_run 43 = .ok (.getfield 180, 3) := by decide +kernel
theorem dX10_run_46 : decode cX10_run 46 = .ok (.iconst 0, 1) := by decide +kernel
theorem dX10_run_47 : decode cX10_run 47 = .ok (.invokevirtual 184, 3) := by decide +kernel
theorem dX10_run_50 : decode cX10_run 50 = .ok (.istore 4, 2) := by decide +kernel
theorem dX10_run_52 : decode cX10_run 52 = .ok (.iload_n 2, 1) := by decide +kernel
theorem dX10_run_53 : decode cX10_run 53 = .ok (.istore 5, 2) := by decide +kernel
theorem dX10_run_55 : decode cX10_run 55 = .ok (.iconst 0, 1) := by decide +kernel
theorem dX10_run_56 : decode cX10_run 56 = .ok (.istore 6, 2) := by decide +kernel
theorem dX10_run_58 : decode cX10_run 58 = .ok (.iload 6, 2) := by decide +kernel
theorem dX10_run_60 : decode cX10_run 60 = .ok (.iload_n 1, 1) := by decide +kernel
theorem dX10_run_61 : decode cX10_run 61 = .ok (.if_icmp .ge 29, 3) := by decide +kernel
theorem dX10_run_64 : decode cX10_run 64 = .ok (.aload_n 0, 1) := by decide +kernel
theorem dX10_run_65 : decode cX10_run 65 = .ok (.getfield 19, 3) := by decide +kernel
theorem dX10_run_68 : decode cX10_run 68 = .ok (.iload 5, 2) := by decide +kernel
theorem dX10_run_70 : decode cX10_run 70 = .ok (.iload_n 3, 1) := by decide +kernel
theorem dX10_run_71 : decode cX10_run 71 = .ok (.invokevirtual 281, 3) := by decide +kernel
theorem dX10_run_74 : decode cX10_run 74 = .ok (.istore 5, 2) := by decide +kernel
theorem dX10_run_76 : decode cX10_run 76 = .ok (.aload_n 0, 1) := by decide +kernel
theorem dX10_run_77 : decode cX10_run 77 = .ok (.getfield 19, 3) := by decide +kernel
theorem dX10_run_80 : decode cX10_run 80 = .ok (.iconst 0, 1) := by decide +kernel
theorem dX10_run_81 : decode cX10_run 81 = .ok (.invokevirtual 277, 3) := by decide +kernel
theorem dX10_run_84 : decode cX10_run 84 = .ok (.iinc 6 1, 3) := by decide +kernel
theorem dX10_run_87 : decode cX10_run 87 = .ok (.goto (-29), 3) := by decide +kernel
theorem dX10_run_90 : decode cX10_run 90 = .ok (.aload_n 0, 1) := by decide +kernel
theorem dX10_run_91 : decode cX10_run 91 = .ok (.aload_n 0, 1) := by decide +kernel
theorem dX10_run_92 : decode cX10_run 92 = .ok (.getfield 19, 3) := by decide +kernel
theorem dX10_run_95 : decode cX10_run 95 = .ok (.getfield 180, 3) := by decide +kernel
theorem dX10_run_98 : decode cX10_run 98 = .ok (.iconst 0, 1) := by decide +kernel
theorem dX10_run_99 : decode cX10_run 99 = .ok (.invokevirtual 184, 3) := by decide +kernel
theorem dX10_run_102 : decode cX10_run 102 = .ok (.iload 4, 2) := by decide +kernel
theorem dX10_run_104 : decode cX10_run 104 = .ok (.isub, 1) := by decide +kernel
theorem dX10_run_105 : decode cX10_run 105 = .ok (.invokevirtual 95, 3) := by decide +kernel
theorem dX10_run_108 : decode cX10_run 108 = .ok (.ireturn, 1) := by decide +kernel
theorem dX10_send_0 : decode cX10_send 0 = .ok (.iload_n 3, 1) := by decide +kernel
theorem dX10_send_1 : decode cX10_send 1 = .ok (.ifCond .lt 9, 3) := by decide +kernel
theorem dX10_send_4 : decode cX10_send 4 = .ok (.iload_n 3, 1) := by decide +kernel
theorem dX10_send_5 : decode cX10_send 5 = .ok (.bipush 8, 2) := by decide +kernel
theorem dX10_send_7 : decode cX10_send 7 = .ok (.if_icmp .lt 9, 3) := by decide +kernel
theorem dX10_send_10 : decode cX10_send 10 = .ok (.aload_n 0, 1) := by decide +kernel
theorem dX10_send_11 : decode cX10_send 11 = .ok (.iconst 1, 1) := by decide +kernel
theorem dX10_send_12 : decode cX10_send 12 = .ok (.invokevirtual 66, 3) := by decide +kernel
theorem dX10_send_15 : decode cX10_send 15 = .ok (.ireturn, 1) := by decide +kernel
theorem dX10_send_16 : decode cX10_send 16 = .ok (.aload_n 0, 1) := by decide +kernel
theorem dX10_send_17 : decode cX10_send 17 = .ok (.getfield 19, 3) := by decide +kernel
theorem dX10_send_20 : decode cX10_send 20 = .ok (.getfield 86, 3) := by decide +kernel
theorem dX10_send_23 : decode cX10_send 23 = .ok (.iload_n 1, 1) := by decide +kernel
theorem dX10_send_24 : decode cX10_send 24 = .ok (.invokevirtual 146, 3) := by decide +kernel
theorem dX10_send_27 : decode cX10_send 27 = .ok (.ifCond .eq 17, 3) := by decide +kernel
theorem dX10_send_44 : decode cX10_send 44 = .ok (.aload_n 0, 1) := by decide +kernel
theorem dX10_send_45 : decode cX10_send 45 = .ok (.iconst 2, 1) := by decide +kernel
theorem dX10_send_46 : decode cX10_send 46 = .ok (.invokevirtual 66, 3) := by decide +kernel
theorem dX10_send_49 : decode cX10_send 49 = .ok (.ireturn, 1) := by decide +kernel
theorem dX10_shed_0 : decode cX10_shed 0 = .ok (.iload_n 2, 1) := by decide +kernel
theorem dX10_shed_1 : decode cX10_shed 1 = .ok (.ifCond .lt 9, 3) := by decide +kernel
theorem dX10_shed_4 : decode cX10_shed 4 = .ok (.iload_n 2, 1) := by decide +kernel
theorem dX10_shed_5 : decode cX10_shed 5 = .ok (.bipush 8, 2) := by decide +kernel
theorem dX10_shed_7 : decode cX10_shed 7 = .ok (.if_icmp .le 9, 3) := by decide +kernel
theorem dX10_shed_10 : decode cX10_shed 10 = .ok (.aload_n 0, 1) := by decide +kernel
theorem dX10_shed_11 : decode cX10_shed 11 = .ok (.iconst 1, 1) := by decide +kernel
theorem dX10_shed_12 : decode cX10_shed 12 = .ok (.invokevirtual 66, 3) := by decide +kernel
theorem dX10_shed_15 : decode cX10_shed 15 = .ok (.ireturn, 1) := by decide +kernel
theorem dX10_shed_16 : decode cX10_shed 16 = .ok (.aload_n 0, 1) := by decide +kernel
theorem dX10_shed_17 : decode cX10_shed 17 = .ok (.getfield 19, 3) := by decide +kernel
theorem dX10_shed_20 : decode cX10_shed 20 = .ok (.getfield 86, 3) := by decide +kernel
theorem dX10_shed_23 : decode cX10_shed 23 = .ok (.iload_n 1, 1) := by decide +kernel
theorem dX10_shed_24 : decode cX10_shed 24 = .ok (.invokevirtual 146, 3) := by decide +kernel
theorem dX10_shed_27 : decode cX10_shed 27 = .ok (.ifCond .ne 9, 3) := by decide +kernel
theorem dX10_shed_30 : decode cX10_shed 30 = .ok (.aload_n 0, 1) := by decide +kernel
theorem dX10_shed_31 : decode cX10_shed 31 = .ok (.iconst 2, 1) := by decide +kernel
theorem dX10_shed_32 : decode cX10_shed 32 = .ok (.invokevirtual 66, 3) := by decide +kernel
theorem dX10_shed_35 : decode cX10_shed 35 = .ok (.ireturn, 1) := by decide +kernel
theorem dX10_snap_0 : decode cX10_snap 0 = .ok (.iload_n 2, 1) := by decide +kernel
theorem dX10_snap_1 : decode cX10_snap 1 = .ok (.ifCond .lt 8, 3) := by decide +kernel
theorem dX10_snap_4 : decode cX10_snap 4 = .ok (.iload_n 2, 1) := by decide +kernel
theorem dX10_snap_5 : decode cX10_snap 5 = .ok (.iconst 3, 1) := by decide +kernel
theorem dX10_snap_6 : decode cX10_snap 6 = .ok (.if_icmp .lt 9, 3) := by decide +kernel
theorem dX10_snap_9 : decode cX10_snap 9 = .ok (.aload_n 0, 1) := by decide +kernel
theorem dX10_snap_10 : decode cX10_snap 10 = .ok (.iconst 1, 1) := by decide +kernel
theorem dX10_snap_11 : decode cX10_snap 11 = .ok (.invokevirtual 258, 3) := by decide +kernel
theorem dX10_snap_14 : decode cX10_snap 14 = .ok (.ireturn, 1) := by decide +kernel
theorem dX10_snap_15 : decode cX10_snap 15 = .ok (.aload_n 0, 1) := by decide +kernel
theorem dX10_snap_16 : decode cX10_snap 16 = .ok (.getfield 19, 3) := by decide +kernel
theorem dX10_snap_19 : decode cX10_snap 19 = .ok (.getfield 86, 3) := by decide +kernel
theorem dX10_snap_22 : decode cX10_snap 22 = .ok (.iload_n 1, 1) := by decide +kernel
theorem dX10_snap_23 : decode cX10_snap 23 = .ok (.invokevirtual 146, 3) := by decide +kernel
theorem dX10_snap_26 : decode cX10_snap 26 = .ok (.ifCond .ne 9, 3) := by decide +kernel
theorem dX10_snap_29 : decode cX10_snap 29 = .ok (.aload_n 0, 1) := by decide +kernel
theorem dX10_snap_30 : decode cX10_snap 30 = .ok (.iconst 2, 1) := by decide +kernel
theorem dX10_snap_31 : decode cX10_snap 31 = .ok (.invokevirtual 258, 3) := by decide +kernel
theorem dX10_snap_34 : decode cX10_snap 34 = .ok (.ireturn, 1) := by decide +kernel
theorem dX10_stale_0 : decode cX10_stale 0 = .ok (.aload_n 0, 1) := by decide +kernel
theorem dX10_stale_1 : decode cX10_stale 1 = .ok (.aload_n 0, 1) := by decide +kernel
theorem dX10_stale_2 : decode cX10_stale 2 = .ok (.getfield 19, 3) := by decide +kernel
theorem dX10_stale_5 : decode cX10_stale 5 = .ok (.getfield 86, 3) := by decide +kernel
theorem dX10_stale_8 : decode cX10_stale 8 = .ok (.invokevirtual 290, 3) := by decide +kernel
theorem dX10_stale_11 : decode cX10_stale 11 = .ok (.invokevirtual 95, 3) := by decide +kernel
theorem dX10_stale_14 : decode cX10_stale 14 = .ok (.ireturn, 1) := by decide +kernel
theorem dX10_station_0 : decode cX10_station 0 = .ok (.iload_n 2, 1) := by decide +kernel
theorem dX10_station_1 : decode cX10_station 1 = .ok (.ifCond .lt 9, 3) := by decide +kernel
theorem dX10_station_4 : decode cX10_station 4 = .ok (.iload_n 2, 1) := by decide +kernel
theorem dX10_station_5 : decode cX10_station 5 = .ok (.bipush 9, 2) := by decide +kernel
theorem dX10_station_7 : decode cX10_station 7 = .ok (.if_icmp .le 9, 3) := by decide +kernel
theorem dX10_station_10 : decode cX10_station 10 = .ok (.aload_n 0, 1) := by decide +kernel
theorem dX10_station_11 : decode cX10_station 11 = .ok (.iconst 1, 1) := by decide +kernel
theorem dX10_station_12 : decode cX10_station 12 = .ok (.invokevirtual 66, 3) := by decide +kernel
theorem dX10_station_15 : decode cX10_station 15 = .ok (.ireturn, 1) := by decide +kernel
theorem dX10_station_16 : decode cX10_station 16 = .ok (.aload_n 0, 1) := by decide +kernel
theorem dX10_station_17 : decode cX10_station 17 = .ok (.getfield 19, 3) := by decide +kernel
theorem dX10_station_20 : decode cX10_station 20 = .ok (.getfield 86, 3) := by decide +kernel
theorem dX10_station_23 : decode cX10_station 23 = .ok (.iload_n 1, 1) := by decide +kernel
theorem dX10_station_24 : decode cX10_station 24 = .ok (.invokevirtual 146, 3) := by decide +kernel
theorem dX10_station_27 : decode cX10_station 27 = .ok (.ifCond .ne 9, 3) := by decide +kernel
theorem dX10_station_30 : decode cX10_station 30 = .ok (.aload_n 0, 1) := by decide +kernel
theorem dX10_station_31 : decode cX10_station 31 = .ok (.iconst 2, 1) := by decide +kernel
theorem dX10_station_32 : decode cX10_station 32 = .ok (.invokevirtual 66, 3) := by decide +kernel
theorem dX10_station_35 : decode cX10_station 35 = .ok (.ireturn, 1) := by decide +kernel
theorem dX10_status_0 : decode cX10_status 0 = .ok (.aload_n 0, 1) := by decide +kernel
theorem dX10_status_1 : decode cX10_status 1 = .ok (.getfield 56, 3) := by decide +kernel
theorem dX10_status_4 : decode cX10_status 4 = .ok (.ireturn, 1) := by decide +kernel
theorem dX10_succeed_0 : decode cX10_succeed 0 = .ok (.aload_n 0, 1) := by decide +kernel
theorem dX10_succeed_1 : decode cX10_succeed 1 = .ok (.iconst 0, 1) := by decide +kernel
theorem dX10_succeed_2 : decode cX10_succeed 2 = .ok (.putfield 56, 3) := by decide +kernel
theorem dX10_succeed_5 : decode cX10_succeed 5 = .ok (.iconst 1, 1) := by decide +kernel
theorem dX10_succeed_6 : decode cX10_succeed 6 = .ok (.ireturn, 1) := by decide +kernel
theorem dX10_take_0 : decode cX10_take 0 = .ok (.iload_n 1, 1) := by decide +kernel
theorem dX10_take_1 : decode cX10_take 1 = .ok (.ifCond .ge 9, 3) := by decide +kernel
theorem dX10_take_4 : decode cX10_take 4 = .ok (.aload_n 0, 1) := by decide +kernel
theorem dX10_take_5 : decode cX10_take 5 = .ok (.iconst 1, 1) := by decide +kernel
theorem dX10_take_6 : decode cX10_take 6 = .ok (.invokevirtual 66, 3) := by decide +kernel
theorem dX10_take_9 : decode cX10_take 9 = .ok (.ireturn, 1) := by decide +kernel
theorem dX10_take_10 : decode cX10_take 10 = .ok (.aload_n 0, 1) := by decide +kernel
theorem dX10_take_11 : decode cX10_take 11 = .ok (.getfield 19, 3) := by decide +kernel
theorem dX10_take_14 : decode cX10_take 14 = .ok (.getfield 105, 3) := by decide +kernel
theorem dX10_take_17 : decode cX10_take 17 = .ok (.iload_n 1, 1) := by decide +kernel
theorem dX10_take_18 : decode cX10_take 18 = .ok (.invokevirtual 249, 3) := by decide +kernel
theorem dX10_take_21 : decode cX10_take 21 = .ok (.istore_n 2, 1) := by decide +kernel
theorem dX10_take_22 : decode cX10_take 22 = .ok (.iload_n 2, 1) := by decide +kernel
theorem dX10_take_23 : decode cX10_take 23 = .ok (.iconst (-1), 1) := by decide +kernel
theorem dX10_take_24 : decode cX10_take 24 = .ok (.if_icmp .ne 9, 3) := by decide +kernel
theorem dX10_take_27 : decode cX10_take 27 = .ok (.aload_n 0, 1) := by decide +kernel
theorem dX10_take_28 : decode cX10_take 28 = .ok (.iconst 5, 1) := by decide +kernel
theorem dX10_take_29 : decode cX10_take 29 = .ok (.invokevirtual 66, 3) := by decide +kernel
theorem dX10_take_32 : decode cX10_take 32 = .ok (.ireturn, 1) := by decide +kernel
theorem dX10_tick_0 : decode cX10_tick 0 = .ok (.iload_n 1, 1) := by decide +kernel
theorem dX10_tick_1 : decode cX10_tick 1 = .ok (.iconst 1, 1) := by decide +kernel
theorem dX10_tick_2 : decode cX10_tick 2 = .ok (.if_icmp .lt 10, 3) := by decide +kernel
theorem dX10_tick_5 : decode cX10_tick 5 = .ok (.iload_n 1, 1) := by decide +kernel
theorem dX10_tick_6 : decode cX10_tick 6 = .ok (.sipush 500, 3) := by decide +kernel
theorem dX10_tick_9 : decode cX10_tick 9 = .ok (.if_icmp .le 9, 3) := by decide +kernel
theorem dX10_tick_12 : decode cX10_tick 12 = .ok (.aload_n 0, 1) := by decide +kernel
theorem dX10_tick_13 : decode cX10_tick 13 = .ok (.iconst 1, 1) := by decide +kernel
theorem dX10_tick_14 : decode cX10_tick 14 = .ok (.invokevirtual 66, 3) := by decide +kernel
theorem dX10_tick_17 : decode cX10_tick 17 = .ok (.ireturn, 1) := by decide +kernel
theorem dX10_tick_18 : decode cX10_tick 18 = .ok (.iconst 0, 1) := by decide +kernel
theorem dX10_tick_19 : decode cX10_tick 19 = .ok (.istore_n 2, 1) := by decide +kernel
theorem dX10_tick_20 : decode cX10_tick 20 = .ok (.iload_n 2, 1) := by decide +kernel
theorem dX10_tick_21 : decode cX10_tick 21 = .ok (.iload_n 1, 1) := by decide +kernel
theorem dX10_tick_22 : decode cX10_tick 22 = .ok (.if_icmp .ge 17, 3) := by decide +kernel
theorem dX10_tick_25 : decode cX10_tick 25 = .ok (.aload_n 0, 1) := by decide +kernel
theorem dX10_tick_26 : decode cX10_tick 26 = .ok (.getfield 19, 3) := by decide +kernel
theorem dX10_tick_29 : decode cX10_tick 29 = .ok (.iconst 0, 1) := by decide +kernel
theorem dX10_tick_30 : decode cX10_tick 30 = .ok (.invokevirtual 277, 3) := by decide +kernel
theorem dX10_tick_33 : decode cX10_tick 33 = .ok (.iinc 2 1, 3) := by decide +kernel
theorem dX10_tick_36 : decode cX10_tick 36 = .ok (.goto (-16), 3) := by decide +kernel
theorem dX10_tick_39 : decode cX10_tick 39 = .ok (.aload_n 0, 1) := by decide +kernel
theorem dX10_tick_40 : decode cX10_tick 40 = .ok (.aload_n 0, 1) := by decide +kernel
theorem dX10_tick_41 : decode cX10_tick 41 = .ok (.getfield 19, 3) := by decide +kernel
theorem dX10_tick_44 : decode cX10_tick 44 = .ok (.getfield 117, 3) := by decide +kernel
theorem dX10_tick_47 : decode cX10_tick 47 = .ok (.invokevirtual 95, 3) := by decide +kernel
theorem dX10_tick_50 : decode cX10_tick 50 = .ok (.ireturn, 1) := by decide +kernel
theorem dX10_waits_0 : decode cX10_waits 0 = .ok (.iload_n 2, 1) := by decide +kernel
theorem dX10_waits_1 : decode cX10_waits 1 = .ok (.ifCond .lt 12, 3) := by decide +kernel
theorem dX10_waits_4 : decode cX10_waits 4 = .ok (.iload_n 3, 1) := by decide +kernel
theorem dX10_waits_5 : decode cX10_waits 5 = .ok (.ifCond .lt 8, 3) := by decide +kernel
theorem dX10_waits_8 : decode cX10_waits 8 = .ok (.iload_n 3, 1) := by decide +kernel
theorem dX10_waits_9 : decode cX10_waits 9 = .ok (.iconst 2, 1) := by decide +kernel
theorem dX10_waits_10 : decode cX10_waits 10 = .ok (.if_icmp .le 9, 3) := by decide +kernel
theorem dX10_waits_13 : decode cX10_waits 13 = .ok (.aload_n 0, 1) := by decide +kernel
theorem dX10_waits_14 : decode cX10_waits 14 = .ok (.iconst 1, 1) := by decide +kernel
theorem dX10_waits_15 : decode cX10_waits 15 = .ok (.invokevirtual 66, 3) := by decide +kernel
theorem dX10_waits_18 : decode cX10_waits 18 = .ok (.ireturn, 1) := by decide +kernel
theorem dX10_waits_19 : decode cX10_waits 19 = .ok (.aload_n 0, 1) := by decide +kernel
theorem dX10_waits_20 : decode cX10_waits 20 = .ok (.getfield 19, 3) := by decide +kernel
theorem dX10_waits_23 : decode cX10_waits 23 = .ok (.getfield 86, 3) := by decide +kernel
theorem dX10_waits_26 : decode cX10_waits 26 = .ok (.iload_n 1, 1) := by decide +kernel
theorem dX10_waits_27 : decode cX10_waits 27 = .ok (.invokevirtual 146, 3) := by decide +kernel
theorem dX10_waits_30 : decode cX10_waits 30 = .ok (.ifCond .ne 9, 3) := by decide +kernel
theorem dX10_waits_33 : decode cX10_waits 33 = .ok (.aload_n 0, 1) := by decide +kernel
theorem dX10_waits_34 : decode cX10_waits 34 = .ok (.iconst 2, 1) := by decide +kernel
theorem dX10_waits_35 : decode cX10_waits 35 = .ok (.invokevirtual 66, 3) := by decide +kernel
theorem dX10_waits_38 : decode cX10_waits 38 = .ok (.ireturn, 1) := by decide +kernel
theorem dX10_way_0 : decode cX10_way 0 = .ok (.iload_n 1, 1) := by decide +kernel
theorem dX10_way_1 : decode cX10_way 1 = .ok (.ifCond .lt 9, 3) := by decide +kernel
theorem dX10_way_4 : decode cX10_way 4 = .ok (.iload_n 1, 1) := by decide +kernel
theorem dX10_way_5 : decode cX10_way 5 = .ok (.bipush 9, 2) := by decide +kernel
theorem dX10_way_7 : decode cX10_way 7 = .ok (.if_icmp .le 9, 3) := by decide +kernel
theorem dX10_way_10 : decode cX10_way 10 = .ok (.aload_n 0, 1) := by decide +kernel
theorem dX10_way_11 : decode cX10_way 11 = .ok (.iconst 1, 1) := by decide +kernel
theorem dX10_way_12 : decode cX10_way 12 = .ok (.invokevirtual 66, 3) := by decide +kernel
theorem dX10_way_15 : decode cX10_way 15 = .ok (.ireturn, 1) := by decide +kernel
theorem dX10_way_16 : decode cX10_way 16 = .ok (.aload_n 0, 1) := by decide +kernel
theorem dX10_way_17 : decode cX10_way 17 = .ok (.getfield 19, 3) := by decide +kernel
theorem dX10_way_20 : decode cX10_way 20 = .ok (.getfield 120, 3) := by decide +kernel
theorem dX10_way_23 : decode cX10_way 23 = .ok (.getfield 124, 3) := by decide +kernel
theorem dX10_way_26 : decode cX10_way 26 = .ok (.istore_n 2, 1) := by decide +kernel
theorem dX10_way_27 : decode cX10_way 27 = .ok (.iload_n 1, 1) := by decide +kernel
theorem dX10_way_28 : decode cX10_way 28 = .ok (.iconst 1, 1) := by decide +kernel
theorem dX10_way_29 : decode cX10_way 29 = .ok (.if_icmp .lt 7, 3) := by decide +kernel
theorem dX10_way_32 : decode cX10_way 32 = .ok (.iload_n 2, 1) := by decide +kernel
theorem dX10_way_33 : decode cX10_way 33 = .ok (.ifCond .eq 13, 3) := by decide +kernel
theorem dX10_way_36 : decode cX10_way 36 = .ok (.iload_n 1, 1) := by decide +kernel
theorem dX10_way_37 : decode cX10_way 37 = .ok (.iconst 5, 1) := by decide +kernel
theorem dX10_way_38 : decode cX10_way 38 = .ok (.if_icmp .lt 15, 3) := by decide +kernel
theorem dX10_way_46 : decode cX10_way 46 = .ok (.aload_n 0, 1) := by decide +kernel
theorem dX10_way_47 : decode cX10_way 47 = .ok (.bipush 6, 2) := by decide +kernel
theorem dX10_way_49 : decode cX10_way 49 = .ok (.invokevirtual 66, 3) := by decide +kernel
theorem dX10_way_52 : decode cX10_way 52 = .ok (.ireturn, 1) := by decide +kernel
theorem dX10_way_53 : decode cX10_way 53 = .ok (.aload_n 0, 1) := by decide +kernel
theorem dX10_way_54 : decode cX10_way 54 = .ok (.aload_n 0, 1) := by decide +kernel
theorem dX10_way_55 : decode cX10_way 55 = .ok (.getfield 19, 3) := by decide +kernel
theorem dX10_way_58 : decode cX10_way 58 = .ok (.getfield 120, 3) := by decide +kernel
theorem dX10_way_61 : decode cX10_way 61 = .ok (.iload_n 1, 1) := by decide +kernel
theorem dX10_way_62 : decode cX10_way 62 = .ok (.invokevirtual 168, 3) := by decide +kernel
theorem dX10_way_65 : decode cX10_way 65 = .ok (.invokevirtual 95, 3) := by decide +kernel
theorem dX10_way_68 : decode cX10_way 68 = .ok (.ireturn, 1) := by decide +kernel
theorem dX10_when_0 : decode cX10_when 0 = .ok (.iload_n 1, 1) := by decide +kernel
theorem dX10_when_1 : decode cX10_when 1 = .ok (.ifCond .ge 9, 3) := by decide +kernel
theorem dX10_when_4 : decode cX10_when 4 = .ok (.aload_n 0, 1) := by decide +kernel
theorem dX10_when_5 : decode cX10_when 5 = .ok (.iconst 1, 1) := by decide +kernel
theorem dX10_when_6 : decode cX10_when 6 = .ok (.invokevirtual 66, 3) := by decide +kernel
theorem dX10_when_9 : decode cX10_when 9 = .ok (.ireturn, 1) := by decide +kernel
theorem dX10_when_10 : decode cX10_when 10 = .ok (.aload_n 0, 1) := by decide +kernel
theorem dX10_when_11 : decode cX10_when 11 = .ok (.getfield 19, 3) := by decide +kernel
theorem dX10_when_14 : decode cX10_when 14 = .ok (.iload_n 1, 1) := by decide +kernel
theorem dX10_when_15 : decode cX10_when 15 = .ok (.invokevirtual 303, 3) := by decide +kernel
theorem dX10_when_18 : decode cX10_when 18 = .ok (.ifCond .ne 9, 3) := by decide +kernel
theorem dX10_when_21 : decode cX10_when 21 = .ok (.aload_n 0, 1) := by decide +kernel
theorem dX10_when_22 : decode cX10_when 22 = .ok (.iconst 5, 1) := by decide +kernel
theorem dX10_when_23 : decode cX10_when 23 = .ok (.invokevirtual 66, 3) := by decide +kernel
theorem dX10_when_26 : decode cX10_when 26 = .ok (.ireturn, 1) := by decide +kernel
theorem dX1_greatestLevel_0 : decode cX1_greatestLevel 0 = .ok (.aload_n 0, 1) := by decide +kernel
theorem dX1_greatestLevel_1 : decode cX1_greatestLevel 1 = .ok (.getfield 22, 3) := by decide +kernel
theorem dX1_greatestLevel_4 : decode cX1_greatestLevel 4 = .ok (.aload_n 0, 1) := by decide +kernel
theorem dX1_greatestLevel_5 : decode cX1_greatestLevel 5 = .ok (.getfield 18, 3) := by decide +kernel
theorem dX1_greatestLevel_8 : decode cX1_greatestLevel 8 = .ok (.invokevirtual 25, 3) := by decide +kernel
theorem dX1_greatestLevel_11 : decode cX1_greatestLevel 11 = .ok (.iconst 0, 1) := by decide +kernel
theorem dX1_greatestLevel_12 : decode cX1_greatestLevel 12 = .ok (.istore_n 1, 1) := by decide +kernel
theorem dX1_greatestLevel_13 : decode cX1_greatestLevel 13 = .ok (.iconst 0, 1) := by decide +kernel
theorem dX1_greatestLevel_14 : decode cX1_greatestLevel 14 = .ok (.istore_n 2, 1) := by decide +kernel
theorem dX1_greatestLevel_15 : decode cX1_greatestLevel 15 = .ok (.iload_n 2, 1) := by decide +kernel
theorem dX1_greatestLevel_16 : decode cX1_greatestLevel 16 = .ok (.sipush 3000, 3) := by decide +kernel
theorem dX1_greatestLevel_19 : decode cX1_greatestLevel 19 = .ok (.if_icmp .gt 57, 3) := by decide +kernel
theorem dX1_greatestLevel_22 : decode cX1_greatestLevel 22 = .ok (.aload_n 0, 1) := by decide +kernel
theorem dX1_greatestLevel_23 : decode cX1_greatestLevel 23 = .ok (.getfield 22, 3) := by decide +kernel
theorem dX1_greatestLevel_26 : decode cX1_greatestLevel 26 = .ok (.getfield 56, 3) := by decide +kernel
theorem dX1_greatestLevel_29 : decode cX1_greatestLevel 29 = .ok (.getfield 60, 3) := by decide +kernel
theorem dX1_greatestLevel_32 : decode cX1_greatestLevel 32 = .ok (.ifCond .eq 18, 3) := by decide +kernel
theorem dX1_greatestLevel_50 : decode cX1_greatestLevel 50 = .ok (.aload_n 0, 1) := by decide +kernel
theorem dX1_greatestLevel_51 : decode cX1_greatestLevel 51 = .ok (.getfield 22, 3) := by decide +kernel
theorem dX1_greatestLevel_54 : decode cX1_greatestLevel 54 = .ok (.invokevirtual 39, 3) := by decide +kernel
theorem dX1_greatestLevel_57 : decode cX1_greatestLevel 57 = .ok (.ifCond .eq 5, 3) := by decide +kernel
theorem dX1_greatestLevel_60 : decode cX1_greatestLevel 60 = .ok (.iload_n 1, 1) := by decide +kernel
theorem dX1_greatestLevel_61 : decode cX1_greatestLevel 61 = .ok (.ireturn, 1) := by decide +kernel
theorem dX1_hasCome_0 : decode cX1_hasCome 0 = .ok (.iload_n 1, 1) := by decide +kernel
theorem dX1_hasCome_1 : decode cX1_hasCome 1 = .ok (.tableswitch 120 0 5 #[39, 47, 64, 75, 95, 103], 39) := by decide +kernel
theorem dX1_hasCome_40 : decode cX1_hasCome 40 = .ok (.aload_n 0, 1) := by decide +kernel
theorem dX1_hasCome_41 : decode cX1_hasCome 41 = .ok (.getfield 22, 3) := by decide +kernel
theorem dX1_hasCome_44 : decode cX1_hasCome 44 = .ok (.invokevirtual 39, 3) := by decide +kernel
theorem dX1_hasCome_47 : decode cX1_hasCome 47 = .ok (.ireturn, 1) := by decide +kernel
theorem dX1_hasCome_65 : decode cX1_hasCome 65 = .ok (.aload_n 0, 1) := by decide +kernel
theorem dX1_hasCome_66 : decode cX1_hasCome 66 = .ok (.getfield 22, 3) := by decide +kernel
theorem dX1_hasCome_69 : decode cX1_hasCome 69 = .ok (.getfield 47, 3) := by decide +kernel
theorem dX1_hasCome_72 : decode cX1_hasCome 72 = .ok (.invokevirtual 51, 3) := by decide +kernel
theorem dX1_hasCome_75 : decode cX1_hasCome 75 = .ok (.ireturn, 1) := by decide +kernel
theorem dX1_hasCome_76 : decode cX1_hasCome 76 = .ok (.aload_n 0, 1) := by decide +kernel
theorem dX1_hasCome_77 : decode cX1_hasCome 77 = .ok (.getfield 22, 3) := by decide +kernel
theorem dX1_hasCome_80 : decode cX1_hasCome 80 = .ok (.getfield 56, 3) := by decide +kernel
theorem dX1_hasCome_83 : decode cX1_hasCome 83 = .ok (.getfield 60, 3) := by decide +kernel
theorem dX1_hasCome_86 : decode cX1_hasCome 86 = .ok (.iconst 1, 1) := by decide +kernel
theorem dX1_hasCome_87 : decode cX1_hasCome 87 = .ok (.if_icmp .ne 7, 3) := by decide +kernel
theorem dX1_hasCome_94 : decode cX1_hasCome 94 = .ok (.iconst 0, 1) := by decide +kernel
theorem dX1_hasCome_95 : decode cX1_hasCome 95 = .ok (.ireturn, 1) := by decide +kernel
theorem dX1_hasCome_96 : decode cX1_hasCome 96 = .ok (.aload_n 0, 1) := by decide +kernel
theorem dX1_hasCome_97 : decode cX1_hasCome 97 = .ok (.getfield 22, 3) := by decide +kernel
theorem dX1_hasCome_100 : decode cX1_hasCome 100 = .ok (.getfield 65, 3) := by decide +kernel
theorem dX1_hasCome_103 : decode cX1_hasCome 103 = .ok (.ireturn, 1) := by decide +kernel
theorem dX1_hasCome_104 : decode cX1_hasCome 104 = .ok (.aload_n 0, 1) := by decide +kernel
theorem dX1_hasCome_105 : decode cX1_hasCome 105 = .ok (.getfield 22, 3) := by decide +kernel
theorem dX1_hasCome_108 : decode cX1_hasCome 108 = .ok (.getfield 69, 3) := by decide +kernel
theorem dX1_hasCome_111 : decode cX1_hasCome 111 = .ok (.iconst (-1), 1) := by decide +kernel
theorem dX1_hasCome_112 : decode cX1_hasCome 112 = .ok (.if_icmp .eq 7, 3) := by decide +kernel
theorem dX1_hasCome_119 : decode cX1_hasCome 119 = .ok (.iconst 0, 1) := by decide +kernel
theorem dX1_hasCome_120 : decode cX1_hasCome 120 = .ok (.ireturn, 1) := by decide +kernel
theorem dX1_noteGot_0 : decode cX1_noteGot 0 = .ok (.iload_n 1, 1) := by decide +kernel
theorem dX1_noteGot_1 : decode cX1_noteGot 1 = .ok (.ifCond .eq 10, 3) := by decide +kernel
theorem dX1_noteGot_4 : decode cX1_noteGot 4 = .ok (.aload_n 0, 1) := by decide +kernel
theorem dX1_noteGot_5 : decode cX1_noteGot 5 = .ok (.getfield 15, 3) := by decide +kernel
theorem dX1_noteGot_8 : decode cX1_noteGot 8 = .ok (.goto 7, 3) := by decide +kernel
theorem dX1_noteGot_11 : decode cX1_noteGot 11 = .ok (.aload_n 0, 1) := by decide +kernel
theorem dX1_noteGot_12 : decode cX1_noteGot 12 = .ok (.getfield 9, 3) := by decide +kernel
theorem dX1_noteGot_15 : decode cX1_noteGot 15 = .ok (.astore_n 2, 1) := by decide +kernel
theorem dX1_noteGot_16 : decode cX1_noteGot 16 = .ok (.aload_n 2, 1) := by decide +kernel
theorem dX1_noteGot_17 : decode cX1_noteGot 17 = .ok (.iconst (-1), 1) := by decide +kernel
theorem dX1_noteGot_18 : decode cX1_noteGot 18 = .ok (.invokestatic 81, 3) := by decide +kernel
theorem dX1_noteGot_21 : decode cX1_noteGot 21 = .ok (.aload_n 0, 1) := by decide +kernel
theorem dX1_noteGot_22 : decode cX1_noteGot 22 = .ok (.getfield 22, 3) := by decide +kernel
theorem dX1_noteGot_25 : decode cX1_noteGot 25 = .ok (.aload_n 0, 1) := by decide +kernel
theorem dX1_noteGot_26 : decode cX1_noteGot 26 = .ok (.getfield 18, 3) := by decide +kernel
theorem dX1_noteGot_29 : decode cX1_noteGot 29 = .ok (.invokevirtual 25, 3) := by decide +kernel
theorem dX1_noteGot_32 : decode cX1_noteGot 32 = .ok (.iconst 1, 1) := by decide +kernel
theorem dX1_noteGot_33 : decode cX1_noteGot 33 = .ok (.istore_n 3, 1) := by decide +kernel
theorem dX1_noteGot_34 : decode cX1_noteGot 34 = .ok (.iload_n 3, 1) := by decide +kernel
theorem dX1_noteGot_35 : decode cX1_noteGot 35 = .ok (.sipush 3000, 3) := by decide +kernel
theorem dX1_noteGot_38 : decode cX1_noteGot 38 = .ok (.if_icmp .gt 68, 3) := by decide +kernel
theorem dX1_noteGot_41 : decode cX1_noteGot 41 = .ok (.aload_n 0, 1) := by decide +kernel
theorem dX1_noteGot_42 : decode cX1_noteGot 42 = .ok (.getfield 22, 3) := by decide +kernel
theorem dX1_noteGot_45 : decode cX1_noteGot 45 = .ok (.iload_n 1, 1) := by decide +kernel
theorem dX1_noteGot_46 : decode cX1_noteGot 46 = .ok (.invokevirtual 35, 3) := by decide +kernel
theorem dX1_noteGot_49 : decode cX1_noteGot 49 = .ok (.aload_n 0, 1) := by decide +kernel
theorem dX1_noteGot_50 : decode cX1_noteGot 50 = .ok (.getfield 22, 3) := by decide +kernel
theorem dX1_noteGot_53 : decode cX1_noteGot 53 = .ok (.getfield 43, 3) := by decide +kernel
theorem dX1_noteGot_56 : decode cX1_noteGot 56 = .ok (.iconst (-1), 1) := by decide +kernel
theorem dX1_noteGot_57 : decode cX1_noteGot 57 = .ok (.if_icmp .ne 7, 3) := by decide +kernel
theorem dX1_noteGot_60 : decode cX1_noteGot 60 = .ok (.iconst (-1), 1) := by decide +kernel
theorem dX1_noteGot_61 : decode cX1_noteGot 61 = .ok (.goto 20, 3) := by decide +kernel
theorem dX1_noteGot_81 : decode cX1_noteGot 81 = .ok (.istore 4, 2) := by decide +kernel
theorem dX1_noteGot_83 : decode cX1_noteGot 83 = .ok (.iload 4, 2) := by decide +kernel
theorem dX1_noteGot_85 : decode cX1_noteGot 85 = .ok (.ifCond .lt 15, 3) := by decide +kernel
theorem dX1_noteGot_100 : decode cX1_noteGot 100 = .ok (.iinc 3 1, 3) := by decide +kernel
theorem dX1_noteGot_103 : decode cX1_noteGot 103 = .ok (.goto (-69), 3) := by decide +kernel
theorem dX1_noteGot_106 : decode cX1_noteGot 106 = .ok (.return_, 1) := by decide +kernel
theorem dX1_numberGot_0 : decode cX1_numberGot 0 = .ok (.aload_n 0, 1) := by decide +kernel
theorem dX1_numberGot_1 : decode cX1_numberGot 1 = .ok (.getfield 22, 3) := by decide +kernel
theorem dX1_numberGot_4 : decode cX1_numberGot 4 = .ok (.aload_n 0, 1) := by decide +kernel
theorem dX1_numberGot_5 : decode cX1_numberGot 5 = .ok (.getfield 18, 3) := by decide +kernel
theorem dX1_numberGot_8 : decode cX1_numberGot 8 = .ok (.invokevirtual 25, 3) := by decide +kernel
theorem dX1_numberGot_11 : decode cX1_numberGot 11 = .ok (.iconst 0, 1) := by decide +kernel
theorem dX1_numberGot_12 : decode cX1_numberGot 12 = .ok (.istore_n 3, 1) := by decide +kernel
theorem dX1_numberGot_13 : decode cX1_numberGot 13 = .ok (.iconst 1, 1) := by decide +kernel
theorem dX1_numberGot_14 : decode cX1_numberGot 14 = .ok (.istore 4, 2) := by decide +kernel
theorem dX1_numberGot_16 : decode cX1_numberGot 16 = .ok (.iload 4, 2) := by decide +kernel
theorem dX1_numberGot_18 : decode cX1_numberGot 18 = .ok (.sipush 3000, 3) := by decide +kernel
theorem dX1_numberGot_21 : decode cX1_numberGot 21 = .ok (.if_icmp .gt 44, 3) := by decide +kernel
theorem dX1_numberGot_24 : decode cX1_numberGot 24 = .ok (.aload_n 0, 1) := by decide +kernel
theorem dX1_numberGot_25 : decode cX1_numberGot 25 = .ok (.getfield 22, 3) := by decide +kernel
theorem dX1_numberGot_28 : decode cX1_numberGot 28 = .ok (.iload_n 2, 1) := by decide +kernel
theorem dX1_numberGot_29 : decode cX1_numberGot 29 = .ok (.invokevirtual 35, 3) := by decide +kernel
theorem dX1_numberGot_32 : decode cX1_numberGot 32 = .ok (.aload_n 0, 1) := by decide +kernel
theorem dX1_numberGot_33 : decode cX1_numberGot 33 = .ok (.getfield 22, 3) := by decide +kernel
theorem dX1_numberGot_36 : decode cX1_numberGot 36 = .ok (.getfield 43, 3) := by decide +kernel
theorem dX1_numberGot_39 : decode cX1_numberGot 39 = .ok (.iconst (-1), 1) := by decide +kernel
theorem dX1_numberGot_40 : decode cX1_numberGot 40 = .ok (.if_icmp .eq 19, 3) := by decide +kernel
theorem dX1_numberGot_59 : decode cX1_numberGot 59 = .ok (.iinc 4 1, 3) := by decide +kernel
theorem dX1_numberGot_62 : decode cX1_numberGot 62 = .ok (.goto (-46), 3) := by decide +kernel
theorem dX1_numberGot_65 : decode cX1_numberGot 65 = .ok (.iconst (-1), 1) := by decide +kernel
theorem dX1_numberGot_66 : decode cX1_numberGot 66 = .ok (.ireturn, 1) := by decide +kernel
theorem dX1_ticksGained_0 : decode cX1_ticksGained 0 = .ok (.iconst 0, 1) := by decide +kernel
theorem dX1_ticksGained_1 : decode cX1_ticksGained 1 = .ok (.istore_n 1, 1) := by decide +kernel
theorem dX1_ticksGained_2 : decode cX1_ticksGained 2 = .ok (.iconst 0, 1) := by decide +kernel
theorem dX1_ticksGained_3 : decode cX1_ticksGained 3 = .ok (.istore_n 2, 1) := by decide +kernel
theorem dX1_ticksGained_4 : decode cX1_ticksGained 4 = .ok (.iload_n 2, 1) := by decide +kernel
theorem dX1_ticksGained_5 : decode cX1_ticksGained 5 = .ok (.bipush 48, 2) := by decide +kernel
theorem dX1_ticksGained_7 : decode cX1_ticksGained 7 = .ok (.if_icmp .ge 45, 3) := by decide +kernel
theorem dX1_ticksGained_10 : decode cX1_ticksGained 10 = .ok (.aload_n 0, 1) := by decide +kernel
theorem dX1_ticksGained_11 : decode cX1_ticksGained 11 = .ok (.getfield 9, 3) := by decide +kernel
theorem dX1_ticksGained_14 : decode cX1_ticksGained 14 = .ok (.iload_n 2, 1) := by decide +kernel
theorem dX1_ticksGained_15 : decode cX1_ticksGained 15 = .ok (.iaload, 1) := by decide +kernel
theorem dX1_ticksGained_16 : decode cX1_ticksGained 16 = .ok (.iconst (-1), 1) := by decide +kernel
theorem dX1_ticksGained_17 : decode cX1_ticksGained 17 = .ok (.if_icmp .eq 29, 3) := by decide +kernel
theorem dX1_ticksGained_20 : decode cX1_ticksGained 20 = .ok (.aload_n 0, 1) := by decide +kernel
theorem dX1_ticksGained_21 : decode cX1_ticksGained 21 = .ok (.getfield 15, 3) := by decide +kernel
theorem dX1_ticksGained_24 : decode cX1_ticksGained 24 = .ok (.iload_n 2, 1) := by decide +kernel
theorem dX1_ticksGained_25 : decode cX1_ticksGained 25 = .ok (.iaload, 1) := by decide +kernel
theorem dX1_ticksGained_26 : decode cX1_ticksGained 26 = .ok (.iconst (-1), 1) := by decide +kernel
theorem dX1_ticksGained_27 : decode cX1_ticksGained 27 = .ok (.if_icmp .eq 19, 3) := by decide +kernel
theorem dX1_ticksGained_30 : decode cX1_ticksGained 30 = .ok (.iload_n 1, 1) := by decide +kernel
theorem dX1_ticksGained_31 : decode cX1_ticksGained 31 = .ok (.aload_n 0, 1) := by decide +kernel
theorem dX1_ticksGained_32 : decode cX1_ticksGained 32 = .ok (.getfield 15, 3) := by decide +kernel
theorem dX1_ticksGained_35 : decode cX1_ticksGained 35 = .ok (.iload_n 2, 1) := by decide +kernel
theorem dX1_ticksGained_36 : decode cX1_ticksGained 36 = .ok (.iaload, 1) := by decide +kernel
theorem dX1_ticksGained_37 : decode cX1_ticksGained 37 = .ok (.aload_n 0, 1) := by decide +kernel
theorem dX1_ticksGained_38 : decode cX1_ticksGained 38 = .ok (.getfield 9, 3) := by decide +kernel
theorem dX1_ticksGained_41 : decode cX1_ticksGained 41 = .ok (.iload_n 2, 1) := by decide +kernel
theorem dX1_ticksGained_42 : decode cX1_ticksGained 42 = .ok (.iaload, 1) := by decide +kernel
theorem dX1_ticksGained_43 : decode cX1_ticksGained 43 = .ok (.isub, 1) := by decide +kernel
theorem dX1_ticksGained_44 : decode cX1_ticksGained 44 = .ok (.iadd, 1) := by decide +kernel
theorem dX1_ticksGained_45 : decode cX1_ticksGained 45 = .ok (.istore_n 1, 1) := by decide +kernel
theorem dX1_ticksGained_46 : decode cX1_ticksGained 46 = .ok (.iinc 2 1, 3) := by decide +kernel
theorem dX1_ticksGained_49 : decode cX1_ticksGained 49 = .ok (.goto (-45), 3) := by decide +kernel
theorem dX1_ticksGained_52 : decode cX1_ticksGained 52 = .ok (.iload_n 1, 1) := by decide +kernel
theorem dX1_ticksGained_53 : decode cX1_ticksGained 53 = .ok (.ireturn, 1) := by decide +kernel
theorem dX1_ticksTill_0 : decode cX1_ticksTill 0 = .ok (.aload_n 0, 1) := by decide +kernel
theorem dX1_ticksTill_1 : decode cX1_ticksTill 1 = .ok (.getfield 22, 3) := by decide +kernel
theorem dX1_ticksTill_4 : decode cX1_ticksTill 4 = .ok (.aload_n 0, 1) := by decide +kernel
theorem dX1_ticksTill_5 : decode cX1_ticksTill 5 = .ok (.getfield 18, 3) := by decide +kernel
theorem dX1_ticksTill_8 : decode cX1_ticksTill 8 = .ok (.invokevirtual 25, 3) := by decide +kernel
theorem dX1_ticksTill_11 : decode cX1_ticksTill 11 = .ok (.iconst 0, 1) := by decide +kernel
theorem dX1_ticksTill_12 : decode cX1_ticksTill 12 = .ok (.istore 4, 2) := by decide +kernel
theorem dX1_ticksTill_14 : decode cX1_ticksTill 14 = .ok (.iload 4, 2) := by decide +kernel
theorem dX1_ticksTill_16 : decode cX1_ticksTill 16 = .ok (.sipush 3000, 3) := by decide +kernel
theorem dX1_ticksTill_19 : decode cX1_ticksTill 19 = .ok (.if_icmp .gt 29, 3) := by decide +kernel
theorem dX1_ticksTill_22 : decode cX1_ticksTill 22 = .ok (.aload_n 0, 1) := by decide +kernel
theorem dX1_ticksTill_23 : decode cX1_ticksTill 23 = .ok (.iload_n 1, 1) := by decide +kernel
theorem dX1_ticksTill_24 : decode cX1_ticksTill 24 = .ok (.iload_n 2, 1) := by decide +kernel
theorem dX1_ticksTill_25 : decode cX1_ticksTill 25 = .ok (.invokevirtual 31, 3) := by decide +kernel
theorem dX1_ticksTill_28 : decode cX1_ticksTill 28 = .ok (.ifCond .eq 6, 3) := by decide +kernel
theorem dX1_ticksTill_31 : decode cX1_ticksTill 31 = .ok (.iload 4, 2) := by decide +kernel
theorem dX1_ticksTill_33 : decode cX1_ticksTill 33 = .ok (.ireturn, 1) := by decide +kernel
theorem dX1_ticksTill_34 : decode cX1_ticksTill 34 = .ok (.aload_n 0, 1) := by decide +kernel
theorem dX1_ticksTill_35 : decode cX1_ticksTill 35 = .ok (.getfield 22, 3) := by decide +kernel
theorem dX1_ticksTill_38 : decode cX1_ticksTill 38 = .ok (.iload_n 3, 1) := by decide +kernel
theorem dX1_ticksTill_39 : decode cX1_ticksTill 39 = .ok (.invokevirtual 35, 3) := by decide +kernel
theorem dX1_ticksTill_42 : decode cX1_ticksTill 42 = .ok (.iinc 4 1, 3) := by decide +kernel
theorem dX1_ticksTill_45 : decode cX1_ticksTill 45 = .ok (.goto (-31), 3) := by decide +kernel
theorem dX1_ticksTill_48 : decode cX1_ticksTill 48 = .ok (.iconst (-1), 1) := by decide +kernel
theorem dX1_ticksTill_49 : decode cX1_ticksTill 49 = .ok (.ireturn, 1) := by decide +kernel
theorem dX2_clear_0 : decode cX2_clear 0 = .ok (.aload_n 0, 1) := by decide +kernel
theorem dX2_clear_1 : decode cX2_clear 1 = .ok (.getfield 24, 3) := by decide +kernel
theorem dX2_clear_4 : decode cX2_clear 4 = .ok (.iconst 0, 1) := by decide +kernel
theorem dX2_clear_5 : decode cX2_clear 5 = .ok (.invokestatic 27, 3) := by decide +kernel
theorem dX2_clear_8 : decode cX2_clear 8 = .ok (.return_, 1) := by decide +kernel
theorem dX2_copyFrom_0 : decode cX2_copyFrom 0 = .ok (.aload_n 1, 1) := by decide +kernel
theorem dX2_copyFrom_1 : decode cX2_copyFrom 1 = .ok (.getfield 9, 3) := by decide +kernel
theorem dX2_copyFrom_4 : decode cX2_copyFrom 4 = .ok (.iconst 0, 1) := by decide +kernel
theorem dX2_copyFrom_5 : decode cX2_copyFrom 5 = .ok (.aload_n 0, 1) := by decide +kernel
theorem dX2_copyFrom_6 : decode cX2_copyFrom 6 = .ok (.getfield 9, 3) := by decide +kernel
theorem dX2_copyFrom_9 : decode cX2_copyFrom 9 = .ok (.iconst 0, 1) := by decide +kernel
theorem dX2_copyFrom_10 : decode cX2_copyFrom 10 = .ok (.bipush 48, 2) := by decide +kernel
theorem dX2_copyFrom_12 : decode cX2_copyFrom 12 = .ok (.invokestatic 33, 3) := by decide +kernel
theorem dX2_copyFrom_15 : decode cX2_copyFrom 15 = .ok (.aload_n 1, 1) := by decide +kernel
theorem dX2_copyFrom_16 : decode cX2_copyFrom 16 = .ok (.getfield 15, 3) := by decide +kernel
theorem dX2_copyFrom_19 : decode cX2_copyFrom 19 = .ok (.iconst 0, 1) := by decide +kernel
theorem dX2_copyFrom_20 : decode cX2_copyFrom 20 = .ok (.aload_n 0, 1) := by decide +kernel
theorem dX2_copyFrom_21 : decode cX2_copyFrom 21 = .ok (.getfield 15, 3) := by decide +kernel
theorem dX2_copyFrom_24 : decode cX2_copyFrom 24 = .ok (.iconst 0, 1) := by decide +kernel
theorem dX2_copyFrom_25 : decode cX2_copyFrom 25 = .ok (.bipush 48, 2) := by decide +kernel
theorem dX2_copyFrom_27 : decode cX2_copyFrom 27 = .ok (.invokestatic 33, 3) := by decide +kernel
theorem dX2_copyFrom_30 : decode cX2_copyFrom 30 = .ok (.aload_n 1, 1) := by decide +kernel
theorem dX2_copyFrom_31 : decode cX2_copyFrom 31 = .ok (.getfield 18, 3) := by decide +kernel
theorem dX2_copyFrom_34 : decode cX2_copyFrom 34 = .ok (.iconst 0, 1) := by decide +kernel
theorem dX2_copyFrom_35 : decode cX2_copyFrom 35 = .ok (.aload_n 0, 1) := by decide +kernel
theorem dX2_copyFrom_36 : decode cX2_copyFrom 36 = .ok (.getfield 18, 3) := by decide +kernel
theorem dX2_copyFrom_39 : decode cX2_copyFrom 39 = .ok (.iconst 0, 1) := by decide +kernel
theorem dX2_copyFrom_40 : decode cX2_copyFrom 40 = .ok (.bipush 48, 2) := by decide +kernel
theorem dX2_copyFrom_42 : decode cX2_copyFrom 42 = .ok (.invokestatic 33, 3) := by decide +kernel
theorem dX2_copyFrom_45 : decode cX2_copyFrom 45 = .ok (.aload_n 1, 1) := by decide +kernel
theorem dX2_copyFrom_46 : decode cX2_copyFrom 46 = .ok (.getfield 21, 3) := by decide +kernel
theorem dX2_copyFrom_49 : decode cX2_copyFrom 49 = .ok (.iconst 0, 1) := by decide +kernel
theorem dX2_copyFrom_50 : decode cX2_copyFrom 50 = .ok (.aload_n 0, 1) := by decide +kernel
theorem dX2_copyFrom_51 : decode cX2_copyFrom 51 = .ok (.getfield 21, 3) := by decide +kernel
theorem dX2_copyFrom_54 : decode cX2_copyFrom 54 = .ok (.iconst 0, 1) := by decide +kernel
theorem dX2_copyFrom_55 : decode cX2_copyFrom 55 = .ok (.bipush 48, 2) := by decide +kernel
theorem dX2_copyFrom_57 : decode cX2_copyFrom 57 = .ok (.invokestatic 33, 3) := by decide +kernel
theorem dX2_copyFrom_60 : decode cX2_copyFrom 60 = .ok (.aload_n 1, 1) := by decide +kernel
theorem dX2_copyFrom_61 : decode cX2_copyFrom 61 = .ok (.getfield 24, 3) := by decide +kernel
theorem dX2_copyFrom_64 : decode cX2_copyFrom 64 = .ok (.iconst 0, 1) := by decide +kernel
theorem dX2_copyFrom_65 : decode cX2_copyFrom 65 = .ok (.aload_n 0, 1) := by decide +kernel
theorem dX2_copyFrom_66 : decode cX2_copyFrom 66 = .ok (.getfield 24, 3) := by decide +kernel
theorem dX2_copyFrom_69 : decode cX2_copyFrom 69 = .ok (.iconst 0, 1) := by decide +kernel
theorem dX2_copyFrom_70 : decode cX2_copyFrom 70 = .ok (.bipush 8, 2) := by decide +kernel
theorem dX2_copyFrom_72 : decode cX2_copyFrom 72 = .ok (.invokestatic 33, 3) := by decide +kernel
theorem dX2_copyFrom_75 : decode cX2_copyFrom 75 = .ok (.return_, 1) := by decide +kernel
theorem dX2_slotOf_0 : decode cX2_slotOf 0 = .ok (.iconst 0, 1) := by decide +kernel
theorem dX2_slotOf_1 : decode cX2_slotOf 1 = .ok (.istore_n 2, 1) := by decide +kernel
theorem dX2_slotOf_2 : decode cX2_slotOf 2 = .ok (.iload_n 2, 1) := by decide +kernel
theorem dX2_slotOf_3 : decode cX2_slotOf 3 = .ok (.bipush 8, 2) := by decide +kernel
theorem dX2_slotOf_5 : decode cX2_slotOf 5 = .ok (.if_icmp .ge 48, 3) := by decide +kernel
theorem dX2_slotOf_8 : decode cX2_slotOf 8 = .ok (.iconst 0, 1) := by decide +kernel
theorem dX2_slotOf_9 : decode cX2_slotOf 9 = .ok (.istore_n 3, 1) := by decide +kernel
theorem dX2_slotOf_10 : decode cX2_slotOf 10 = .ok (.iload_n 3, 1) := by decide +kernel
theorem dX2_slotOf_11 : decode cX2_slotOf 11 = .ok (.aload_n 0, 1) := by decide +kernel
theorem dX2_slotOf_12 : decode cX2_slotOf 12 = .ok (.getfield 24, 3) := by decide +kernel
theorem dX2_slotOf_15 : decode cX2_slotOf 15 = .ok (.iload_n 2, 1) := by decide +kernel
theorem dX2_slotOf_16 : decode cX2_slotOf 16 = .ok (.iaload, 1) := by decide +kernel
theorem dX2_slotOf_17 : decode cX2_slotOf 17 = .ok (.if_icmp .ge 30, 3) := by decide +kernel
theorem dX2_slotOf_47 : decode cX2_slotOf 47 = .ok (.iinc 2 1, 3) := by decide +kernel
theorem dX2_slotOf_50 : decode cX2_slotOf 50 = .ok (.goto (-48), 3) := by decide +kernel
theorem dX2_slotOf_53 : decode cX2_slotOf 53 = .ok (.iconst (-1), 1) := by decide +kernel
theorem dX2_slotOf_54 : decode cX2_slotOf 54 = .ok (.ireturn, 1) := by decide +kernel
theorem dX2_total_0 : decode cX2_total 0 = .ok (.iconst 0, 1) := by decide +kernel
theorem dX2_total_1 : decode cX2_total 1 = .ok (.istore_n 1, 1) := by decide +kernel
theorem dX2_total_2 : decode cX2_total 2 = .ok (.iconst 0, 1) := by decide +kernel
theorem dX2_total_3 : decode cX2_total 3 = .ok (.istore_n 2, 1) := by decide +kernel
theorem dX2_total_4 : decode cX2_total 4 = .ok (.iload_n 2, 1) := by decide +kernel
theorem dX2_total_5 : decode cX2_total 5 = .ok (.bipush 8, 2) := by decide +kernel
theorem dX2_total_7 : decode cX2_total 7 = .ok (.if_icmp .ge 18, 3) := by decide +kernel
theorem dX2_total_10 : decode cX2_total 10 = .ok (.iload_n 1, 1) := by decide +kernel
theorem dX2_total_11 : decode cX2_total 11 = .ok (.aload_n 0, 1) := by decide +kernel
theorem dX2_total_12 : decode cX2_total 12 = .ok (.getfield 24, 3) := by decide +kernel
theorem dX2_total_15 : decode cX2_total 15 = .ok (.iload_n 2, 1) := by decide +kernel
theorem dX2_total_16 : decode cX2_total 16 = .ok (.iaload, 1) := by decide +kernel
theorem dX2_total_17 : decode cX2_total 17 = .ok (.iadd, 1) := by decide +kernel
theorem dX2_total_18 : decode cX2_total 18 = .ok (.istore_n 1, 1) := by decide +kernel
theorem dX2_total_19 : decode cX2_total 19 = .ok (.iinc 2 1, 3) := by decide +kernel
theorem dX2_total_22 : decode cX2_total 22 = .ok (.goto (-18), 3) := by decide +kernel
theorem dX2_total_25 : decode cX2_total 25 = .ok (.iload_n 1, 1) := by decide +kernel
theorem dX2_total_26 : decode cX2_total 26 = .ok (.ireturn, 1) := by decide +kernel
theorem dX2_totalOf_0 : decode cX2_totalOf 0 = .ok (.iconst 0, 1) := by decide +kernel
theorem dX2_totalOf_1 : decode cX2_totalOf 1 = .ok (.istore_n 2, 1) := by decide +kernel
theorem dX2_totalOf_2 : decode cX2_totalOf 2 = .ok (.iconst 0, 1) := by decide +kernel
theorem dX2_totalOf_3 : decode cX2_totalOf 3 = .ok (.istore_n 3, 1) := by decide +kernel
theorem dX2_totalOf_4 : decode cX2_totalOf 4 = .ok (.iload_n 3, 1) := by decide +kernel
theorem dX2_totalOf_5 : decode cX2_totalOf 5 = .ok (.bipush 8, 2) := by decide +kernel
theorem dX2_totalOf_7 : decode cX2_totalOf 7 = .ok (.if_icmp .ge 47, 3) := by decide +kernel
theorem dX2_totalOf_10 : decode cX2_totalOf 10 = .ok (.iconst 0, 1) := by decide +kernel
theorem dX2_totalOf_11 : decode cX2_totalOf 11 = .ok (.istore 4, 2) := by decide +kernel
theorem dX2_totalOf_13 : decode cX2_totalOf 13 = .ok (.iload 4, 2) := by decide +kernel
theorem dX2_totalOf_15 : decode cX2_totalOf 15 = .ok (.aload_n 0, 1) := by decide +kernel
theorem dX2_totalOf_16 : decode cX2_totalOf 16 = .ok (.getfield 24, 3) := by decide +kernel
theorem dX2_totalOf_19 : decode cX2_totalOf 19 = .ok (.iload_n 3, 1) := by decide +kernel
theorem dX2_totalOf_20 : decode cX2_totalOf 20 = .ok (.iaload, 1) := by decide +kernel
theorem dX2_totalOf_21 : decode cX2_totalOf 21 = .ok (.if_icmp .ge 27, 3) := by decide +kernel
theorem dX2_totalOf_48 : decode cX2_totalOf 48 = .ok (.iinc 3 1, 3) := by decide +kernel
theorem dX2_totalOf_51 : decode cX2_totalOf 51 = .ok (.goto (-47), 3) := by decide +kernel
theorem dX2_totalOf_54 : decode cX2_totalOf 54 = .ok (.iload_n 2, 1) := by decide +kernel
theorem dX2_totalOf_55 : decode cX2_totalOf 55 = .ok (.ireturn, 1) := by decide +kernel
theorem dX3_clear_0 : decode cX3_clear 0 = .ok (.aload_n 0, 1) := by decide +kernel
theorem dX3_clear_1 : decode cX3_clear 1 = .ok (.getfield 18, 3) := by decide +kernel
theorem dX3_clear_4 : decode cX3_clear 4 = .ok (.iconst 0, 1) := by decide +kernel
theorem dX3_clear_5 : decode cX3_clear 5 = .ok (.invokestatic 21, 3) := by decide +kernel
theorem dX3_clear_8 : decode cX3_clear 8 = .ok (.return_, 1) := by decide +kernel
theorem dX3_copyFrom_0 : decode cX3_copyFrom 0 = .ok (.aload_n 1, 1) := by decide +kernel
theorem dX3_copyFrom_1 : decode cX3_copyFrom 1 = .ok (.getfield 9, 3) := by decide +kernel
theorem dX3_copyFrom_4 : decode cX3_copyFrom 4 = .ok (.iconst 0, 1) := by decide +kernel
theorem dX3_copyFrom_5 : decode cX3_copyFrom 5 = .ok (.aload_n 0, 1) := by decide +kernel
theorem dX3_copyFrom_6 : decode cX3_copyFrom 6 = .ok (.getfield 9, 3) := by decide +kernel
theorem dX3_copyFrom_9 : decode cX3_copyFrom 9 = .ok (.iconst 0, 1) := by decide +kernel
theorem dX3_copyFrom_10 : decode cX3_copyFrom 10 = .ok (.bipush 64, 2) := by decide +kernel
theorem dX3_copyFrom_12 : decode cX3_copyFrom 12 = .ok (.invokestatic 27, 3) := by decide +kernel
theorem dX3_copyFrom_15 : decode cX3_copyFrom 15 = .ok (.aload_n 1, 1) := by decide +kernel
theorem dX3_copyFrom_16 : decode cX3_copyFrom 16 = .ok (.getfield 15, 3) := by decide +kernel
theorem dX3_copyFrom_19 : decode cX3_copyFrom 19 = .ok (.iconst 0, 1) := by decide +kernel
theorem dX3_copyFrom_20 : decode cX3_copyFrom 20 = .ok (.aload_n 0, 1) := by decide +kernel
theorem dX3_copyFrom_21 : decode cX3_copyFrom 21 = .ok (.getfield 15, 3) := by decide +kernel
theorem dX3_copyFrom_24 : decode cX3_copyFrom 24 = .ok (.iconst 0, 1) := by decide +kernel
theorem dX3_copyFrom_25 : decode cX3_copyFrom 25 = .ok (.bipush 64, 2) := by decide +kernel
theorem dX3_copyFrom_27 : decode cX3_copyFrom 27 = .ok (.invokestatic 27, 3) := by decide +kernel
theorem dX3_copyFrom_30 : decode cX3_copyFrom 30 = .ok (.aload_n 1, 1) := by decide +kernel
theorem dX3_copyFrom_31 : decode cX3_copyFrom 31 = .ok (.getfield 18, 3) := by decide +kernel
theorem dX3_copyFrom_34 : decode cX3_copyFrom 34 = .ok (.iconst 0, 1) := by decide +kernel
theorem dX3_copyFrom_35 : decode cX3_copyFrom 35 = .ok (.aload_n 0, 1) := by decide +kernel
theorem dX3_copyFrom_36 : decode cX3_copyFrom 36 = .ok (.getfield 18, 3) := by decide +kernel
theorem dX3_copyFrom_39 : decode cX3_copyFrom 39 = .ok (.iconst 0, 1) := by decide +kernel
theorem dX3_copyFrom_40 : decode cX3_copyFrom 40 = .ok (.bipush 8, 2) := by decide +kernel
theorem dX3_copyFrom_42 : decode cX3_copyFrom 42 = .ok (.invokestatic 27, 3) := by decide +kernel
theorem dX3_copyFrom_45 : decode cX3_copyFrom 45 = .ok (.return_, 1) := by decide +kernel
theorem dX3_isEmpty_0 : decode cX3_isEmpty 0 = .ok (.iconst 0, 1) := by decide +kernel
theorem dX3_isEmpty_1 : decode cX3_isEmpty 1 = .ok (.istore_n 1, 1) := by decide +kernel
theorem dX3_isEmpty_2 : decode cX3_isEmpty 2 = .ok (.iload_n 1, 1) := by decide +kernel
theorem dX3_isEmpty_3 : decode cX3_isEmpty 3 = .ok (.bipush 8, 2) := by decide +kernel
theorem dX3_isEmpty_5 : decode cX3_isEmpty 5 = .ok (.if_icmp .ge 20, 3) := by decide +kernel
theorem dX3_isEmpty_8 : decode cX3_isEmpty 8 = .ok (.aload_n 0, 1) := by decide +kernel
theorem dX3_isEmpty_9 : decode cX3_isEmpty 9 = .ok (.getfield 18, 3) := by decide +kernel
theorem dX3_isEmpty_12 : decode cX3_isEmpty 12 = .ok (.iload_n 1, 1) := by decide +kernel
theorem dX3_isEmpty_13 : decode cX3_isEmpty 13 = .ok (.iaload, 1) := by decide +kernel
theorem dX3_isEmpty_14 : decode cX3_isEmpty 14 = .ok (.ifCond .le 5, 3) := by decide +kernel
theorem dX3_isEmpty_19 : decode cX3_isEmpty 19 = .ok (.iinc 1 1, 3) := by decide +kernel
theorem dX3_isEmpty_22 : decode cX3_isEmpty 22 = .ok (.goto (-20), 3) := by decide +kernel
theorem dX3_isEmpty_25 : decode cX3_isEmpty 25 = .ok (.iconst 1, 1) := by decide +kernel
theorem dX3_isEmpty_26 : decode cX3_isEmpty 26 = .ok (.ireturn, 1) := by decide +kernel
theorem dX4_readText_0 : decode cX4_readText 0 = .ok (.aload_n 0, 1) := by decide +kernel
theorem dX4_readText_1 : decode cX4_readText 1 = .ok (.getfield 50, 3) := by decide +kernel
theorem dX4_readText_4 : decode cX4_readText 4 = .ok (.invokevirtual 54, 3) := by decide +kernel
theorem dX4_readText_7 : decode cX4_readText 7 = .ok (.aload_n 0, 1) := by decide +kernel
theorem dX4_readText_8 : decode cX4_readText 8 = .ok (.iload_n 1, 1) := by decide +kernel
theorem dX4_readText_9 : decode cX4_readText 9 = .ok (.putfield 18, 3) := by decide +kernel
theorem dX4_readText_12 : decode cX4_readText 12 = .ok (.aload_n 0, 1) := by decide +kernel
theorem dX4_readText_13 : decode cX4_readText 13 = .ok (.iconst 0, 1) := by decide +kernel
theorem dX4_readText_14 : decode cX4_readText 14 = .ok (.putfield 22, 3) := by decide +kernel
theorem dX4_readText_17 : decode cX4_readText 17 = .ok (.aload_n 0, 1) := by decide +kernel
theorem dX4_readText_18 : decode cX4_readText 18 = .ok (.iconst 0, 1) := by decide +kernel
theorem dX4_readText_19 : decode cX4_readText 19 = .ok (.putfield 40, 3) := by decide +kernel
theorem dX4_readText_22 : decode cX4_readText 22 = .ok (.aload_n 0, 1) := by decide +kernel
theorem dX4_readText_23 : decode cX4_readText 23 = .ok (.iconst (-1), 1) := by decide +kernel
theorem dX4_readText_24 : decode cX4_readText 24 = .ok (.putfield 43, 3) := by decide +kernel
theorem dX4_readText_27 : decode cX4_readText 27 = .ok (.iconst 0, 1) := by decide +kernel
theorem dX4_readText_28 : decode cX4_readText 28 = .ok (.istore_n 2, 1) := by decide +kernel
theorem dX4_readText_29 : decode cX4_readText 29 = .ok (.iload_n 2, 1) := by decide +kernel
theorem dX4_readText_30 : decode cX4_readText 30 = .ok (.sipush 500, 3) := by decide +kernel
theorem dX4_readText_33 : decode cX4_readText 33 = .ok (.if_icmp .gt 36, 3) := by decide +kernel
theorem dX4_readText_36 : decode cX4_readText 36 = .ok (.aload_n 0, 1) := by decide +kernel
theorem dX4_readText_37 : decode cX4_readText 37 = .ok (.invokevirtual 59, 3) := by decide +kernel
theorem dX4_readText_40 : decode cX4_readText 40 = .ok (.ifCond .ne 5, 3) := by decide +kernel
theorem dX4_readText_45 : decode cX4_readText 45 = .ok (.aload_n 0, 1) := by decide +kernel
theorem dX4_readText_46 : decode cX4_readText 46 = .ok (.getfield 25, 3) := by decide +kernel
theorem dX4_readText_49 : decode cX4_readText 49 = .ok (.ifCond .ne 5, 3) := by decide +kernel
theorem dX4_readText_52 : decode cX4_readText 52 = .ok (.iconst 1, 1) := by decide +kernel
theorem dX4_readText_53 : decode cX4_readText 53 = .ok (.ireturn, 1) := by decide +kernel
theorem dX4_readToken_0 : decode cX4_readToken 0 = .ok (.aload_n 0, 1) := by decide +kernel
theorem dX4_readToken_1 : decode cX4_readToken 1 = .ok (.invokevirtual 160, 3) := by decide +kernel
theorem dX4_readToken_4 : decode cX4_readToken 4 = .ok (.aload_n 0, 1) := by decide +kernel
theorem dX4_readToken_5 : decode cX4_readToken 5 = .ok (.aload_n 0, 1) := by decide +kernel
theorem dX4_readToken_6 : decode cX4_readToken 6 = .ok (.getfield 22, 3) := by decide +kernel
theorem dX4_readToken_9 : decode cX4_readToken 9 = .ok (.putfield 28, 3) := by decide +kernel
theorem dX4_readToken_12 : decode cX4_readToken 12 = .ok (.aload_n 0, 1) := by decide +kernel
theorem dX4_readToken_13 : decode cX4_readToken 13 = .ok (.iconst 0, 1) := by decide +kernel
theorem dX4_readToken_14 : decode cX4_readToken 14 = .ok (.putfield 31, 3) := by decide +kernel
theorem dX4_readToken_17 : decode cX4_readToken 17 = .ok (.aload_n 0, 1) := by decide +kernel
theorem dX4_readToken_18 : decode cX4_readToken 18 = .ok (.getfield 22, 3) := by decide +kernel
theorem dX4_readToken_21 : decode cX4_readToken 21 = .ok (.aload_n 0, 1) := by decide +kernel
theorem dX4_readToken_22 : decode cX4_readToken 22 = .ok (.getfield 18, 3) := by decide +kernel
theorem dX4_readToken_25 : decode cX4_readToken 25 = .ok (.if_icmp .lt 10, 3) := by decide +kernel
theorem dX4_readToken_28 : decode cX4_readToken 28 = .ok (.aload_n 0, 1) := by decide +kernel
theorem dX4_readToken_29 : decode cX4_readToken 29 = .ok (.iconst 0, 1) := by decide +kernel
theorem dX4_readToken_30 : decode cX4_readToken 30 = .ok (.putfield 25, 3) := by decide +kernel
theorem dX4_readToken_33 : decode cX4_readToken 33 = .ok (.iconst 1, 1) := by decide +kernel
theorem dX4_readToken_34 : decode cX4_readToken 34 = .ok (.ireturn, 1) := by decide +kernel
theorem dX4_skipBlanks_0 : decode cX4_skipBlanks 0 = .ok (.aload_n 0, 1) := by decide +kernel
theorem dX4_skipBlanks_1 : decode cX4_skipBlanks 1 = .ok (.getfield 22, 3) := by decide +kernel
theorem dX4_skipBlanks_4 : decode cX4_skipBlanks 4 = .ok (.aload_n 0, 1) := by decide +kernel
theorem dX4_skipBlanks_5 : decode cX4_skipBlanks 5 = .ok (.getfield 18, 3) := by decide +kernel
theorem dX4_skipBlanks_8 : decode cX4_skipBlanks 8 = .ok (.if_icmp .ge 48, 3) := by decide +kernel
theorem dX4_skipBlanks_56 : decode cX4_skipBlanks 56 = .ok (.return_, 1) := by decide +kernel
theorem dX5_clear_0 : decode cX5_clear 0 = .ok (.aload_n 0, 1) := by decide +kernel
theorem dX5_clear_1 : decode cX5_clear 1 = .ok (.getfield 12, 3) := by decide +kernel
theorem dX5_clear_4 : decode cX5_clear 4 = .ok (.invokevirtual 70, 3) := by decide +kernel
theorem dX5_clear_7 : decode cX5_clear 7 = .ok (.aload_n 0, 1) := by decide +kernel
theorem dX5_clear_8 : decode cX5_clear 8 = .ok (.getfield 21, 3) := by decide +kernel
theorem dX5_clear_11 : decode cX5_clear 11 = .ok (.invokevirtual 73, 3) := by decide +kernel
theorem dX5_clear_14 : decode cX5_clear 14 = .ok (.aload_n 0, 1) := by decide +kernel
theorem dX5_clear_15 : decode cX5_clear 15 = .ok (.getfield 28, 3) := by decide +kernel
theorem dX5_clear_18 : decode cX5_clear 18 = .ok (.invokevirtual 74, 3) := by decide +kernel
theorem dX5_clear_21 : decode cX5_clear 21 = .ok (.aload_n 0, 1) := by decide +kernel
theorem dX5_clear_22 : decode cX5_clear 22 = .ok (.getfield 35, 3) := by decide +kernel
theorem dX5_clear_25 : decode cX5_clear 25 = .ok (.invokevirtual 75, 3) := by decide +kernel
theorem dX5_clear_28 : decode cX5_clear 28 = .ok (.aload_n 0, 1) := by decide +kernel
theorem dX5_clear_29 : decode cX5_clear 29 = .ok (.getfield 42, 3) := by decide +kernel
theorem dX5_clear_32 : decode cX5_clear 32 = .ok (.invokevirtual 76, 3) := by decide +kernel
theorem dX5_clear_35 : decode cX5_clear 35 = .ok (.aload_n 0, 1) := by decide +kernel
theorem dX5_clear_36 : decode cX5_clear 36 = .ok (.getfield 49, 3) := by decide +kernel
theorem dX5_clear_39 : decode cX5_clear 39 = .ok (.invokevirtual 79, 3) := by decide +kernel
theorem dX5_clear_42 : decode cX5_clear 42 = .ok (.aload_n 0, 1) := by decide +kernel
theorem dX5_clear_43 : decode cX5_clear 43 = .ok (.iconst 0, 1) := by decide +kernel
theorem dX5_clear_44 : decode cX5_clear 44 = .ok (.putfield 53, 3) := by decide +kernel
theorem dX5_clear_47 : decode cX5_clear 47 = .ok (.aload_n 0, 1) := by decide +kernel
theorem dX5_clear_48 : decode cX5_clear 48 = .ok (.iconst 0, 1) := by decide +kernel
theorem dX5_clear_49 : decode cX5_clear 49 = .ok (.putfield 57, 3) := by decide +kernel
theorem dX5_clear_52 : decode cX5_clear 52 = .ok (.return_, 1) := by decide +kernel
theorem dX5_copyFrom_0 : decode cX5_copyFrom 0 = .ok (.aload_n 0, 1) := by decide +kernel
theorem dX5_copyFrom_1 : decode cX5_copyFrom 1 = .ok (.getfield 12, 3) := by decide +kernel
theorem dX5_copyFrom_4 : decode cX5_copyFrom 4 = .ok (.aload_n 1, 1) := by decide +kernel
theorem dX5_copyFrom_5 : decode cX5_copyFrom 5 = .ok (.getfield 12, 3) := by decide +kernel
theorem dX5_copyFrom_8 : decode cX5_copyFrom 8 = .ok (.invokevirtual 80, 3) := by decide +kernel
theorem dX5_copyFrom_11 : decode cX5_copyFrom 11 = .ok (.aload_n 0, 1) := by decide +kernel
theorem dX5_copyFrom_12 : decode cX5_copyFrom 12 = .ok (.getfield 21, 3) := by decide +kernel
theorem dX5_copyFrom_15 : decode cX5_copyFrom 15 = .ok (.aload_n 1, 1) := by decide +kernel
theorem dX5_copyFrom_16 : decode cX5_copyFrom 16 = .ok (.getfield 21, 3) := by decide +kernel
theorem dX5_copyFrom_19 : decode cX5_copyFrom 19 = .ok (.invokevirtual 84, 3) := by decide +kernel
theorem dX5_copyFrom_22 : decode cX5_copyFrom 22 = .ok (.aload_n 0, 1) := by decide +kernel
theorem dX5_copyFrom_23 : decode cX5_copyFrom 23 = .ok (.getfield 28, 3) := by decide +kernel
theorem dX5_copyFrom_26 : decode cX5_copyFrom 26 = .ok (.aload_n 1, 1) := by decide +kernel
theorem dX5_copyFrom_27 : decode cX5_copyFrom 27 = .ok (.getfield 28, 3) := by decide +kernel
theorem dX5_copyFrom_30 : decode cX5_copyFrom 30 = .ok (.invokevirtual 87, 3) := by decide +kernel
theorem dX5_copyFrom_33 : decode cX5_copyFrom 33 = .ok (.aload_n 0, 1) := by decide +kernel
theorem dX5_copyFrom_34 : decode cX5_copyFrom 34 = .ok (.getfield 35, 3) := by decide +kernel
theorem dX5_copyFrom_37 : decode cX5_copyFrom 37 = .ok (.aload_n 1, 1) := by decide +kernel
theorem dX5_copyFrom_38 : decode cX5_copyFrom 38 = .ok (.getfield 35, 3) := by decide +kernel
theorem dX5_copyFrom_41 : decode cX5_copyFrom 41 = .ok (.invokevirtual 90, 3) := by decide +kernel
theorem dX5_copyFrom_44 : decode cX5_copyFrom 44 = .ok (.aload_n 0, 1) := by decide +kernel
theorem dX5_copyFrom_45 : decode cX5_copyFrom 45 = .ok (.getfield 42, 3) := by decide +kernel
theorem dX5_copyFrom_48 : decode cX5_copyFrom 48 = .ok (.aload_n 1, 1) := by decide +kernel
theorem dX5_copyFrom_49 : decode cX5_copyFrom 49 = .ok (.getfield 42, 3) := by decide +kernel
theorem dX5_copyFrom_52 : decode cX5_copyFrom 52 = .ok (.invokevirtual 93, 3) := by decide +kernel
theorem dX5_copyFrom_55 : decode cX5_copyFrom 55 = .ok (.aload_n 0, 1) := by decide +kernel
theorem dX5_copyFrom_56 : decode cX5_copyFrom 56 = .ok (.getfield 49, 3) := by decide +kernel
theorem dX5_copyFrom_59 : decode cX5_copyFrom 59 = .ok (.aload_n 1, 1) := by decide +kernel
theorem dX5_copyFrom_60 : decode cX5_copyFrom 60 = .ok (.getfield 49, 3) := by decide +kernel
theorem dX5_copyFrom_63 : decode cX5_copyFrom 63 = .ok (.invokevirtual 96, 3) := by decide +kernel
theorem dX5_copyFrom_66 : decode cX5_copyFrom 66 = .ok (.aload_n 0, 1) := by decide +kernel
theorem dX5_copyFrom_67 : decode cX5_copyFrom 67 = .ok (.aload_n 1, 1) := by decide +kernel
theorem dX5_copyFrom_68 : decode cX5_copyFrom 68 = .ok (.getfield 53, 3) := by decide +kernel
theorem dX5_copyFrom_71 : decode cX5_copyFrom 71 = .ok (.putfield 53, 3) := by decide +kernel
theorem dX5_copyFrom_74 : decode cX5_copyFrom 74 = .ok (.aload_n 0, 1) := by decide +kernel
theorem dX5_copyFrom_75 : decode cX5_copyFrom 75 = .ok (.aload_n 1, 1) := by decide +kernel
theorem dX5_copyFrom_76 : decode cX5_copyFrom 76 = .ok (.getfield 57, 3) := by decide +kernel
theorem dX5_copyFrom_79 : decode cX5_copyFrom 79 = .ok (.putfield 57, 3) := by decide +kernel
theorem dX5_copyFrom_82 : decode cX5_copyFrom 82 = .ok (.aload_n 0, 1) := by decide +kernel
theorem dX5_copyFrom_83 : decode cX5_copyFrom 83 = .ok (.invokevirtual 99, 3) := by decide +kernel
theorem dX5_copyFrom_86 : decode cX5_copyFrom 86 = .ok (.return_, 1) := by decide +kernel
theorem dX5_drawFrame_0 : decode cX5_drawFrame 0 = .ok (.aload_n 0, 1) := by decide +kernel
theorem dX5_drawFrame_1 : decode cX5_drawFrame 1 = .ok (.iload_n 1, 1) := by decide +kernel
theorem dX5_drawFrame_2 : decode cX5_drawFrame 2 = .ok (.invokevirtual 166, 3) := by decide +kernel
theorem dX5_drawFrame_5 : decode cX5_drawFrame 5 = .ok (.istore_n 3, 1) := by decide +kernel
theorem dX5_drawFrame_6 : decode cX5_drawFrame 6 = .ok (.aload_n 0, 1) := by decide +kernel
theorem dX5_drawFrame_7 : decode cX5_drawFrame 7 = .ok (.iload_n 3, 1) := by decide +kernel
theorem dX5_drawFrame_8 : decode cX5_drawFrame 8 = .ok (.bipush 16, 2) := by decide +kernel
theorem dX5_drawFrame_10 : decode cX5_drawFrame 10 = .ok (.invokevirtual 169, 3) := by decide +kernel
theorem dX5_drawFrame_13 : decode cX5_drawFrame 13 = .ok (.iload_n 2, 1) := by decide +kernel
theorem dX5_drawFrame_14 : decode cX5_drawFrame 14 = .ok (.if_icmp .ge 13, 3) := by decide +kernel
theorem dX5_drawFrame_17 : decode cX5_drawFrame 17 = .ok (.aload_n 0, 1) := by decide +kernel
theorem dX5_drawFrame_18 : decode cX5_drawFrame 18 = .ok (.getfield 12, 3) := by decide +kernel
theorem dX5_drawFrame_21 : decode cX5_drawFrame 21 = .ok (.getfield 151, 3) := by decide +kernel
theorem dX5_drawFrame_24 : decode cX5_drawFrame 24 = .ok (.ifCond .ne 5, 3) := by decide +kernel
theorem dX5_drawFrame_27 : decode cX5_drawFrame 27 = .ok (.iload_n 3, 1) := by decide +kernel
theorem dX5_drawFrame_28 : decode cX5_drawFrame 28 = .ok (.ireturn, 1) := by decide +kernel
theorem dX5_drawn_0 : decode cX5_drawn 0 = .ok (.iload_n 1, 1) := by decide +kernel
theorem dX5_drawn_1 : decode cX5_drawn 1 = .ok (.iload_n 2, 1) := by decide +kernel
theorem dX5_drawn_2 : decode cX5_drawn 2 = .ok (.imul, 1) := by decide +kernel
theorem dX5_drawn_3 : decode cX5_drawn 3 = .ok (.ldc 165, 2) := by decide +kernel
theorem dX5_drawn_5 : decode cX5_drawn 5 = .ok (.idiv, 1) := by decide +kernel
theorem dX5_drawn_6 : decode cX5_drawn 6 = .ok (.ireturn, 1) := by decide +kernel
theorem dX5_forgetLatestTick_0 : decode cX5_forgetLatestTick 0 = .ok (.aload_n 0, 1) := by decide +kernel
theorem dX5_forgetLatestTick_1 : decode cX5_forgetLatestTick 1 = .ok (.iconst (-1), 1) := by decide +kernel
theorem dX5_forgetLatestTick_2 : decode cX5_forgetLatestTick 2 = .ok (.putfield 60, 3) := by decide +kernel
theorem dX5_forgetLatestTick_5 : decode cX5_forgetLatestTick 5 = .ok (.aload_n 0, 1) := by decide +kernel
theorem dX5_forgetLatestTick_6 : decode cX5_forgetLatestTick 6 = .ok (.iconst (-1), 1) := by decide +kernel
theorem dX5_forgetLatestTick_7 : decode cX5_forgetLatestTick 7 = .ok (.putfield 63, 3) := by decide +kernel
theorem dX5_forgetLatestTick_10 : decode cX5_forgetLatestTick 10 = .ok (.aload_n 0, 1) := by decide +kernel
theorem dX5_forgetLatestTick_11 : decode cX5_forgetLatestTick 11 = .ok (.iconst 0, 1) := by decide +kernel
theorem dX5_forgetLatestTick_12 : decode cX5_forgetLatestTick 12 = .ok (.putfield 66, 3) := by decide +kernel
theorem dX5_forgetLatestTick_15 : decode cX5_forgetLatestTick 15 = .ok (.return_, 1) := by decide +kernel
theorem dX5_hasFrame_0 : decode cX5_hasFrame 0 = .ok (.aload_n 0, 1) := by decide +kernel
theorem dX5_hasFrame_1 : decode cX5_hasFrame 1 = .ok (.getfield 35, 3) := by decide +kernel
theorem dX5_hasFrame_4 : decode cX5_hasFrame 4 = .ok (.getfield 142, 3) := by decide +kernel
theorem dX5_hasFrame_7 : decode cX5_hasFrame 7 = .ok (.iconst 2, 1) := by decide +kernel
theorem dX5_hasFrame_8 : decode cX5_hasFrame 8 = .ok (.if_icmp .ne 14, 3) := by decide +kernel
theorem dX5_hasFrame_22 : decode cX5_hasFrame 22 = .ok (.aload_n 0, 1) := by decide +kernel
theorem dX5_hasFrame_23 : decode cX5_hasFrame 23 = .ok (.getfield 21, 3) := by decide +kernel
theorem dX5_hasFrame_26 : decode cX5_hasFrame 26 = .ok (.iload_n 1, 1) := by decide +kernel
theorem dX5_hasFrame_27 : decode cX5_hasFrame 27 = .ok (.invokevirtual 148, 3) := by decide +kernel
theorem dX5_hasFrame_30 : decode cX5_hasFrame 30 = .ok (.iconst (-1), 1) := by decide +kernel
theorem dX5_hasFrame_31 : decode cX5_hasFrame 31 = .ok (.if_icmp .eq 7, 3) := by decide +kernel
theorem dX5_hasFrame_38 : decode cX5_hasFrame 38 = .ok (.iconst 0, 1) := by decide +kernel
theorem dX5_hasFrame_39 : decode cX5_hasFrame 39 = .ok (.ireturn, 1) := by decide +kernel
theorem dX5_isQuiet_0 : decode cX5_isQuiet 0 = .ok (.aload_n 0, 1) := by decide +kernel
theorem dX5_isQuiet_1 : decode cX5_isQuiet 1 = .ok (.getfield 35, 3) := by decide +kernel
theorem dX5_isQuiet_4 : decode cX5_isQuiet 4 = .ok (.getfield 142, 3) := by decide +kernel
theorem dX5_isQuiet_7 : decode cX5_isQuiet 7 = .ok (.iconst 2, 1) := by decide +kernel
theorem dX5_isQuiet_8 : decode cX5_isQuiet 8 = .ok (.if_icmp .ne 5, 3) := by decide +kernel
theorem dX5_isQuiet_13 : decode cX5_isQuiet 13 = .ok (.iconst 0, 1) := by decide +kernel
theorem dX5_isQuiet_14 : decode cX5_isQuiet 14 = .ok (.istore_n 1, 1) := by decide +kernel
theorem dX5_isQuiet_15 : decode cX5_isQuiet 15 = .ok (.iload_n 1, 1) := by decide +kernel
theorem dX5_isQuiet_16 : decode cX5_isQuiet 16 = .ok (.aload_n 0, 1) := by decide +kernel
theorem dX5_isQuiet_17 : decode cX5_isQuiet 17 = .ok (.getfield 12, 3) := by decide +kernel
theorem dX5_isQuiet_20 : decode cX5_isQuiet 20 = .ok (.getfield 151, 3) := by decide +kernel
theorem dX5_isQuiet_23 : decode cX5_isQuiet 23 = .ok (.if_icmp .ge 33, 3) := by decide +kernel
theorem dX5_isQuiet_56 : decode cX5_isQuiet 56 = .ok (.iconst 1, 1) := by decide +kernel
theorem dX5_isQuiet_57 : decode cX5_isQuiet 57 = .ok (.ireturn, 1) := by decide +kernel
theorem dX5_nextDraw_0 : decode cX5_nextDraw 0 = .ok (.iload_n 1, 1) := by decide +kernel
theorem dX5_nextDraw_1 : decode cX5_nextDraw 1 = .ok (.sipush 3877, 3) := by decide +kernel
theorem dX5_nextDraw_4 : decode cX5_nextDraw 4 = .ok (.imul, 1) := by decide +kernel
theorem dX5_nextDraw_5 : decode cX5_nextDraw 5 = .ok (.sipush 29573, 3) := by decide +kernel
theorem dX5_nextDraw_8 : decode cX5_nextDraw 8 = .ok (.iadd, 1) := by decide +kernel
theorem dX5_nextDraw_9 : decode cX5_nextDraw 9 = .ok (.ldc 165, 2) := by decide +kernel
theorem dX5_nextDraw_11 : decode cX5_nextDraw 11 = .ok (.irem, 1) := by decide +kernel
theorem dX5_nextDraw_12 : decode cX5_nextDraw 12 = .ok (.ireturn, 1) := by decide +kernel
theorem dX5_passSilentTick_0 : decode cX5_passSilentTick 0 = .ok (.aload_n 0, 1) := by decide +kernel
theorem dX5_passSilentTick_1 : decode cX5_passSilentTick 1 = .ok (.getfield 42, 3) := by decide +kernel
theorem dX5_passSilentTick_4 : decode cX5_passSilentTick 4 = .ok (.dup, 1) := by decide +kernel
theorem dX5_passSilentTick_5 : decode cX5_passSilentTick 5 = .ok (.getfield 284, 3) := by decide +kernel
theorem dX5_passSilentTick_8 : decode cX5_passSilentTick 8 = .ok (.iconst 1, 1) := by decide +kernel
theorem dX5_passSilentTick_9 : decode cX5_passSilentTick 9 = .ok (.iadd, 1) := by decide +kernel
theorem dX5_passSilentTick_10 : decode cX5_passSilentTick 10 = .ok (.putfield 284, 3) := by decide +kernel
theorem dX5_passSilentTick_13 : decode cX5_passSilentTick 13 = .ok (.aload_n 0, 1) := by decide +kernel
theorem dX5_passSilentTick_14 : decode cX5_passSilentTick 14 = .ok (.getfield 12, 3) := by decide +kernel
theorem dX5_passSilentTick_17 : decode cX5_passSilentTick 17 = .ok (.invokevirtual 285, 3) := by decide +kernel
theorem dX5_passSilentTick_20 : decode cX5_passSilentTick 20 = .ok (.istore_n 1, 1) := by decide +kernel
theorem dX5_passSilentTick_21 : decode cX5_passSilentTick 21 = .ok (.iload_n 1, 1) := by decide +kernel
theorem dX5_passSilentTick_22 : decode cX5_passSilentTick 22 = .ok (.ifCond .ne 4, 3) := by decide +kernel
theorem dX5_passSilentTick_25 : decode cX5_passSilentTick 25 = .ok (.return_, 1) := by decide +kernel
theorem dX5_passTick_0 : decode cX5_passTick 0 = .ok (.aload_n 0, 1) := by decide +kernel
theorem dX5_passTick_1 : decode cX5_passTick 1 = .ok (.dup, 1) := by decide +kernel
theorem dX5_passTick_2 : decode cX5_passTick 2 = .ok (.getfield 53, 3) := by decide +kernel
theorem dX5_passTick_5 : decode cX5_passTick 5 = .ok (.iconst 1, 1) := by decide +kernel
theorem dX5_passTick_6 : decode cX5_passTick 6 = .ok (.iadd, 1) := by decide +kernel
theorem dX5_passTick_7 : decode cX5_passTick 7 = .ok (.putfield 53, 3) := by decide +kernel
theorem dX5_passTick_10 : decode cX5_passTick 10 = .ok (.aload_n 0, 1) := by decide +kernel
theorem dX5_passTick_11 : decode cX5_passTick 11 = .ok (.invokevirtual 99, 3) := by decide +kernel
theorem dX5_passTick_14 : decode cX5_passTick 14 = .ok (.aload_n 0, 1) := by decide +kernel
theorem dX5_passTick_15 : decode cX5_passTick 15 = .ok (.getfield 35, 3) := by decide +kernel
theorem dX5_passTick_18 : decode cX5_passTick 18 = .ok (.getfield 142, 3) := by decide +kernel
theorem dX5_passTick_21 : decode cX5_passTick 21 = .ok (.ifCond .ne 10, 3) := by decide +kernel
theorem dX5_passTick_24 : decode cX5_passTick 24 = .ok (.aload_n 0, 1) := by decide +kernel
theorem dX5_passTick_25 : decode cX5_passTick 25 = .ok (.invokevirtual 195, 3) := by decide +kernel
theorem dX5_passTick_28 : decode cX5_passTick 28 = .ok (.goto 8, 3) := by decide +kernel
theorem dX5_passTick_36 : decode cX5_passTick 36 = .ok (.return_, 1) := by decide +kernel
theorem dX5_startSilence_0 : decode cX5_startSilence 0 = .ok (.aload_n 0, 1) := by decide +kernel
theorem dX5_startSilence_1 : decode cX5_startSilence 1 = .ok (.getfield 35, 3) := by decide +kernel
theorem dX5_startSilence_4 : decode cX5_startSilence 4 = .ok (.getfield 142, 3) := by decide +kernel
theorem dX5_startSilence_7 : decode cX5_startSilence 7 = .ok (.ifCond .ne 10, 3) := by decide +kernel
theorem dX5_startSilence_10 : decode cX5_startSilence 10 = .ok (.aload_n 0, 1) := by decide +kernel
theorem dX5_startSilence_11 : decode cX5_startSilence 11 = .ok (.getfield 42, 3) := by decide +kernel
theorem dX5_startSilence_14 : decode cX5_startSilence 14 = .ok (.invokevirtual 76, 3) := by decide +kernel
theorem dX5_startSilence_17 : decode cX5_startSilence 17 = .ok (.return_, 1) := by decide +kernel
theorem dX6_copyFrom_0 : decode cX6_copyFrom 0 = .ok (.aload_n 0, 1) := by decide +kernel
theorem dX6_copyFrom_1 : decode cX6_copyFrom 1 = .ok (.aload_n 1, 1) := by decide +kernel
theorem dX6_copyFrom_2 : decode cX6_copyFrom 2 = .ok (.getfield 9, 3) := by decide +kernel
theorem dX6_copyFrom_5 : decode cX6_copyFrom 5 = .ok (.putfield 9, 3) := by decide +kernel
theorem dX6_copyFrom_8 : decode cX6_copyFrom 8 = .ok (.aload_n 0, 1) := by decide +kernel
theorem dX6_copyFrom_9 : decode cX6_copyFrom 9 = .ok (.aload_n 1, 1) := by decide +kernel
theorem dX6_copyFrom_10 : decode cX6_copyFrom 10 = .ok (.getfield 15, 3) := by decide +kernel
theorem dX6_copyFrom_13 : decode cX6_copyFrom 13 = .ok (.putfield 15, 3) := by decide +kernel
theorem dX6_copyFrom_16 : decode cX6_copyFrom 16 = .ok (.aload_n 0, 1) := by decide +kernel
theorem dX6_copyFrom_17 : decode cX6_copyFrom 17 = .ok (.aload_n 1, 1) := by decide +kernel
theorem dX6_copyFrom_18 : decode cX6_copyFrom 18 = .ok (.getfield 18, 3) := by decide +kernel
theorem dX6_copyFrom_21 : decode cX6_copyFrom 21 = .ok (.putfield 18, 3) := by decide +kernel
theorem dX6_copyFrom_24 : decode cX6_copyFrom 24 = .ok (.aload_n 0, 1) := by decide +kernel
theorem dX6_copyFrom_25 : decode cX6_copyFrom 25 = .ok (.aload_n 1, 1) := by decide +kernel
theorem dX6_copyFrom_26 : decode cX6_copyFrom 26 = .ok (.getfield 21, 3) := by decide +kernel
theorem dX6_copyFrom_29 : decode cX6_copyFrom 29 = .ok (.putfield 21, 3) := by decide +kernel
theorem dX6_copyFrom_32 : decode cX6_copyFrom 32 = .ok (.return_, 1) := by decide +kernel
theorem dX6_restart_0 : decode cX6_restart 0 = .ok (.aload_n 0, 1) := by decide +kernel
theorem dX6_restart_1 : decode cX6_restart 1 = .ok (.iconst 0, 1) := by decide +kernel
theorem dX6_restart_2 : decode cX6_restart 2 = .ok (.putfield 9, 3) := by decide +kernel
theorem dX6_restart_5 : decode cX6_restart 5 = .ok (.aload_n 0, 1) := by decide +kernel
theorem dX6_restart_6 : decode cX6_restart 6 = .ok (.iconst 0, 1) := by decide +kernel
theorem dX6_restart_7 : decode cX6_restart 7 = .ok (.putfield 15, 3) := by decide +kernel
theorem dX6_restart_10 : decode cX6_restart 10 = .ok (.aload_n 0, 1) := by decide +kernel
theorem dX6_restart_11 : decode cX6_restart 11 = .ok (.iconst (-1), 1) := by decide +kernel
theorem dX6_restart_12 : decode cX6_restart 12 = .ok (.putfield 18, 3) := by decide +kernel
theorem dX6_restart_15 : decode cX6_restart 15 = .ok (.aload_n 0, 1) := by decide +kernel
theorem dX6_restart_16 : decode cX6_restart 16 = .ok (.iconst (-1), 1) := by decide +kernel
theorem dX6_restart_17 : decode cX6_restart 17 = .ok (.putfield 21, 3) := by decide +kernel
theorem dX6_restart_20 : decode cX6_restart 20 = .ok (.return_, 1) := by decide +kernel
theorem dX7_append_0 : decode cX7_append 0 = .ok (.aload_n 0, 1) := by decide +kernel
theorem dX7_append_1 : decode cX7_append 1 = .ok (.getfield 28, 3) := by decide +kernel
theorem dX7_append_4 : decode cX7_append 4 = .ok (.ifCond .lt 12, 3) := by decide +kernel
theorem dX7_append_7 : decode cX7_append 7 = .ok (.aload_n 0, 1) := by decide +kernel
theorem dX7_append_8 : decode cX7_append 8 = .ok (.getfield 28, 3) := by decide +kernel
theorem dX7_append_11 : decode cX7_append 11 = .ok (.bipush 8, 2) := by decide +kernel
theorem dX7_append_13 : decode cX7_append 13 = .ok (.if_icmp .lt 4, 3) := by decide +kernel
theorem dX7_append_17 : decode cX7_append 17 = .ok (.aload_n 0, 1) := by decide +kernel
theorem dX7_append_18 : decode cX7_append 18 = .ok (.getfield 9, 3) := by decide +kernel
theorem dX7_append_21 : decode cX7_append 21 = .ok (.aload_n 0, 1) := by decide +kernel
theorem dX7_append_22 : decode cX7_append 22 = .ok (.getfield 28, 3) := by decide +kernel
theorem dX7_append_25 : decode cX7_append 25 = .ok (.iload_n 1, 1) := by decide +kernel
theorem dX7_append_26 : decode cX7_append 26 = .ok (.iastore, 1) := by decide +kernel
theorem dX7_append_27 : decode cX7_append 27 = .ok (.aload_n 0, 1) := by decide +kernel
theorem dX7_append_28 : decode cX7_append 28 = .ok (.getfield 15, 3) := by decide +kernel
theorem dX7_append_31 : decode cX7_append 31 = .ok (.aload_n 0, 1) := by decide +kernel
theorem dX7_append_32 : decode cX7_append 32 = .ok (.getfield 28, 3) := by decide +kernel
theorem dX7_append_35 : decode cX7_append 35 = .ok (.iconst 1, 1) := by decide +kernel
theorem dX7_append_36 : decode cX7_append 36 = .ok (.bastore, 1) := by decide +kernel
theorem dX7_append_37 : decode cX7_append 37 = .ok (.aload_n 0, 1) := by decide +kernel
theorem dX7_append_38 : decode cX7_append 38 = .ok (.getfield 19, 3) := by decide +kernel
theorem dX7_append_41 : decode cX7_append 41 = .ok (.aload_n 0, 1) := by decide +kernel
theorem dX7_append_42 : decode cX7_append 42 = .ok (.getfield 28, 3) := by decide +kernel
theorem dX7_append_45 : decode cX7_append 45 = .ok (.iconst (-1), 1) := by decide +kernel
theorem dX7_append_46 : decode cX7_append 46 = .ok (.iastore, 1) := by decide +kernel
theorem dX7_append_47 : decode cX7_append 47 = .ok (.aload_n 0, 1) := by decide +kernel
theorem dX7_append_48 : decode cX7_append 48 = .ok (.getfield 22, 3) := by decide +kernel
theorem dX7_append_51 : decode cX7_append 51 = .ok (.aload_n 0, 1) := by decide +kernel
theorem dX7_append_52 : decode cX7_append 52 = .ok (.getfield 28, 3) := by decide +kernel
theorem dX7_append_55 : decode cX7_append 55 = .ok (.iconst 0, 1) := by decide +kernel
theorem dX7_append_56 : decode cX7_append 56 = .ok (.iastore, 1) := by decide +kernel
theorem dX7_append_57 : decode cX7_append 57 = .ok (.aload_n 0, 1) := by decide +kernel
theorem dX7_append_58 : decode cX7_append 58 = .ok (.getfield 25, 3) := by decide +kernel
theorem dX7_append_61 : decode cX7_append 61 = .ok (.aload_n 0, 1) := by decide +kernel
theorem dX7_append_62 : decode cX7_append 62 = .ok (.getfield 28, 3) := by decide +kernel
theorem dX7_append_65 : decode cX7_append 65 = .ok (.iconst 0, 1) := by decide +kernel
theorem dX7_append_66 : decode cX7_append 66 = .ok (.iastore, 1) := by decide +kernel
theorem dX7_append_67 : decode cX7_append 67 = .ok (.aload_n 0, 1) := by decide +kernel
theorem dX7_append_68 : decode cX7_append 68 = .ok (.dup, 1) := by decide +kernel
theorem dX7_append_69 : decode cX7_append 69 = .ok (.getfield 28, 3) := by decide +kernel
theorem dX7_append_72 : decode cX7_append 72 = .ok (.iconst 1, 1) := by decide +kernel
theorem dX7_append_73 : decode cX7_append 73 = .ok (.iadd, 1) := by decide +kernel
theorem dX7_append_74 : decode cX7_append 74 = .ok (.putfield 28, 3) := by decide +kernel
theorem dX7_append_77 : decode cX7_append 77 = .ok (.return_, 1) := by decide +kernel
theorem dX7_breakCounts_0 : decode cX7_breakCounts 0 = .ok (.aload_n 0, 1) := by decide +kernel
theorem dX7_breakCounts_1 : decode cX7_breakCounts 1 = .ok (.iconst (-1), 1) := by decide +kernel
theorem dX7_breakCounts_2 : decode cX7_breakCounts 2 = .ok (.invokevirtual 74, 3) := by decide +kernel
theorem dX7_breakCounts_5 : decode cX7_breakCounts 5 = .ok (.ireturn, 1) := by decide +kernel
theorem dX7_breakCountsWithout_0 : decode cX7_breakCountsWithout 0 = .ok (.aload_n 0, 1) := by decide +kernel
theorem dX7_breakCountsWithout_1 : decode cX7_breakCountsWithout 1 = .ok (.aload_n 0, 1) := by decide +kernel
theorem dX7_breakCountsWithout_2 : decode cX7_breakCountsWithout 2 = .ok (.getfield 35, 3) := by decide +kernel
theorem dX7_breakCountsWithout_5 : decode cX7_breakCountsWithout 5 = .ok (.invokevirtual 51, 3) := by decide +kernel
theorem dX7_breakCountsWithout_8 : decode cX7_breakCountsWithout 8 = .ok (.ifCond .ne 5, 3) := by decide +kernel
theorem dX7_breakCountsWithout_11 : decode cX7_breakCountsWithout 11 = .ok (.iconst 0, 1) := by decide +kernel
theorem dX7_breakCountsWithout_12 : decode cX7_breakCountsWithout 12 = .ok (.ireturn, 1) := by decide +kernel
theorem dX7_chiefIsOn_0 : decode cX7_chiefIsOn 0 = .ok (.aload_n 0, 1) := by decide +kernel
theorem dX7_chiefIsOn_1 : decode cX7_chiefIsOn 1 = .ok (.aload_n 0, 1) := by decide +kernel
theorem dX7_chiefIsOn_2 : decode cX7_chiefIsOn 2 = .ok (.getfield 32, 3) := by decide +kernel
theorem dX7_chiefIsOn_5 : decode cX7_chiefIsOn 5 = .ok (.invokevirtual 65, 3) := by decide +kernel
theorem dX7_chiefIsOn_8 : decode cX7_chiefIsOn 8 = .ok (.ireturn, 1) := by decide +kernel
theorem dX7_clear_0 : decode cX7_clear 0 = .ok (.aload_n 0, 1) := by decide +kernel
theorem dX7_clear_1 : decode cX7_clear 1 = .ok (.iconst 0, 1) := by decide +kernel
theorem dX7_clear_2 : decode cX7_clear 2 = .ok (.putfield 28, 3) := by decide +kernel
theorem dX7_clear_5 : decode cX7_clear 5 = .ok (.aload_n 0, 1) := by decide +kernel
theorem dX7_clear_6 : decode cX7_clear 6 = .ok (.iconst (-1), 1) := by decide +kernel
theorem dX7_clear_7 : decode cX7_clear 7 = .ok (.putfield 32, 3) := by decide +kernel
theorem dX7_clear_10 : decode cX7_clear 10 = .ok (.aload_n 0, 1) := by decide +kernel
theorem dX7_clear_11 : decode cX7_clear 11 = .ok (.iconst (-1), 1) := by decide +kernel
theorem dX7_clear_12 : decode cX7_clear 12 = .ok (.iconst (-1), 1) := by decide +kernel
theorem dX7_clear_13 : decode cX7_clear 13 = .ok (.invokevirtual 41, 3) := by decide +kernel
theorem dX7_clear_16 : decode cX7_clear 16 = .ok (.return_, 1) := by decide +kernel
theorem dX7_copyFrom_0 : decode cX7_copyFrom 0 = .ok (.aload_n 1, 1) := by decide +kernel
theorem dX7_copyFrom_1 : decode cX7_copyFrom 1 = .ok (.getfield 9, 3) := by decide +kernel
theorem dX7_copyFrom_4 : decode cX7_copyFrom 4 = .ok (.iconst 0, 1) := by decide +kernel
theorem dX7_copyFrom_5 : decode cX7_copyFrom 5 = .ok (.aload_n 0, 1) := by decide +kernel
theorem dX7_copyFrom_6 : decode cX7_copyFrom 6 = .ok (.getfield 9, 3) := by decide +kernel
theorem dX7_copyFrom_9 : decode cX7_copyFrom 9 = .ok (.iconst 0, 1) := by decide +kernel
theorem dX7_copyFrom_10 : decode cX7_copyFrom 10 = .ok (.bipush 8, 2) := by decide +kernel
theorem dX7_copyFrom_12 : decode cX7_copyFrom 12 = .ok (.invokestatic 45, 3) := by decide +kernel
theorem dX7_copyFrom_15 : decode cX7_copyFrom 15 = .ok (.aload_n 1, 1) := by decide +kernel
theorem dX7_copyFrom_16 : decode cX7_copyFrom 16 = .ok (.getfield 15, 3) := by decide +kernel
theorem dX7_copyFrom_19 : decode cX7_copyFrom 19 = .ok (.iconst 0, 1) := by decide +kernel
theorem dX7_copyFrom_20 : decode cX7_copyFrom 20 = .ok (.aload_n 0, 1) := by decide +kernel
theorem dX7_copyFrom_21 : decode cX7_copyFrom 21 = .ok (.getfield 15, 3) := by decide +kernel
theorem dX7_copyFrom_24 : decode cX7_copyFrom 24 = .ok (.iconst 0, 1) := by decide +kernel
theorem dX7_copyFrom_25 : decode cX7_copyFrom 25 = .ok (.bipush 8, 2) := by decide +kernel
theorem dX7_copyFrom_27 : decode cX7_copyFrom 27 = .ok (.invokestatic 45, 3) := by decide +kernel
theorem dX7_copyFrom_30 : decode cX7_copyFrom 30 = .ok (.aload_n 1, 1) := by decide +kernel
theorem dX7_copyFrom_31 : decode cX7_copyFrom 31 = .ok (.getfield 19, 3) := by decide +kernel
theorem dX7_copyFrom_34 : decode cX7_copyFrom 34 = .ok (.iconst 0, 1) := by decide +kernel
theorem dX7_copyFrom_35 : decode cX7_copyFrom 35 = .ok (.aload_n 0, 1) := by decide +kernel
theorem dX7_copyFrom_36 : decode cX7_copyFrom 36 = .ok (.getfield 19, 3) := by decide +kernel
theorem dX7_copyFrom_39 : decode cX7_copyFrom 39 = .ok (.iconst 0, 1) := by decide +kernel
theorem dX7_copyFrom_40 : decode cX7_copyFrom 40 = .ok (.bipush 8, 2) := by decide +kernel
theorem dX7_copyFrom_42 : decode cX7_copyFrom 42 = .ok (.invokestatic 45, 3) := by decide +kernel
theorem dX7_copyFrom_45 : decode cX7_copyFrom 45 = .ok (.aload_n 1, 1) := by decide +kernel
theorem dX7_copyFrom_46 : decode cX7_copyFrom 46 = .ok (.getfield 22, 3) := by decide +kernel
theorem dX7_copyFrom_49 : decode cX7_copyFrom 49 = .ok (.iconst 0, 1) := by decide +kernel
theorem dX7_copyFrom_50 : decode cX7_copyFrom 50 = .ok (.aload_n 0, 1) := by decide +kernel
theorem dX7_copyFrom_51 : decode cX7_copyFrom 51 = .ok (.getfield 22, 3) := by decide +kernel
theorem dX7_copyFrom_54 : decode cX7_copyFrom 54 = .ok (.iconst 0, 1) := by decide +kernel
theorem dX7_copyFrom_55 : decode cX7_copyFrom 55 = .ok (.bipush 8, 2) := by decide +kernel
theorem dX7_copyFrom_57 : decode cX7_copyFrom 57 = .ok (.invokestatic 45, 3) := by decide +kernel
theorem dX7_copyFrom_60 : decode cX7_copyFrom 60 = .ok (.aload_n 1, 1) := by decide +kernel
theorem dX7_copyFrom_61 : decode cX7_copyFrom 61 = .ok (.getfield 25, 3) := by decide +kernel
theorem dX7_copyFrom_64 : decode cX7_copyFrom 64 = .ok (.iconst 0, 1) := by decide +kernel
theorem dX7_copyFrom_65 : decode cX7_copyFrom 65 = .ok (.aload_n 0, 1) := by decide +kernel
theorem dX7_copyFrom_66 : decode cX7_copyFrom 66 = .ok (.getfield 25, 3) := by decide +kernel
theorem dX7_copyFrom_69 : decode cX7_copyFrom 69 = .ok (.iconst 0, 1) := by decide +kernel
theorem dX7_copyFrom_70 : decode cX7_copyFrom 70 = .ok (.bipush 8, 2) := by decide +kernel
theorem dX7_copyFrom_72 : decode cX7_copyFrom 72 = .ok (.invokestatic 45, 3) := by decide +kernel
theorem dX7_copyFrom_75 : decode cX7_copyFrom 75 = .ok (.aload_n 0, 1) := by decide +kernel
theorem dX7_copyFrom_76 : decode cX7_copyFrom 76 = .ok (.aload_n 1, 1) := by decide +kernel
theorem dX7_copyFrom_77 : decode cX7_copyFrom 77 = .ok (.getfield 28, 3) := by decide +kernel
theorem dX7_copyFrom_80 : decode cX7_copyFrom 80 = .ok (.putfield 28, 3) := by decide +kernel
theorem dX7_copyFrom_83 : decode cX7_copyFrom 83 = .ok (.aload_n 0, 1) := by decide +kernel
theorem dX7_copyFrom_84 : decode cX7_copyFrom 84 = .ok (.aload_n 1, 1) := by decide +kernel
theorem dX7_copyFrom_85 : decode cX7_copyFrom 85 = .ok (.getfield 32, 3) := by decide +kernel
theorem dX7_copyFrom_88 : decode cX7_copyFrom 88 = .ok (.putfield 32, 3) := by decide +kernel
theorem dX7_copyFrom_91 : decode cX7_copyFrom 91 = .ok (.aload_n 0, 1) := by decide +kernel
theorem dX7_copyFrom_92 : decode cX7_copyFrom 92 = .ok (.aload_n 1, 1) := by decide +kernel
theorem dX7_copyFrom_93 : decode cX7_copyFrom 93 = .ok (.getfield 35, 3) := by decide +kernel
theorem dX7_copyFrom_96 : decode cX7_copyFrom 96 = .ok (.putfield 35, 3) := by decide +kernel
theorem dX7_copyFrom_99 : decode cX7_copyFrom 99 = .ok (.aload_n 0, 1) := by decide +kernel
theorem dX7_copyFrom_100 : decode cX7_copyFrom 100 = .ok (.aload_n 1, 1) := by decide +kernel
theorem dX7_copyFrom_101 : decode cX7_copyFrom 101 = .ok (.getfield 38, 3) := by decide +kernel
theorem dX7_copyFrom_104 : decode cX7_copyFrom 104 = .ok (.putfield 38, 3) := by decide +kernel
theorem dX7_copyFrom_107 : decode cX7_copyFrom 107 = .ok (.return_, 1) := by decide +kernel
theorem dX7_exists_0 : decode cX7_exists 0 = .ok (.iload_n 1, 1) := by decide +kernel
theorem dX7_exists_1 : decode cX7_exists 1 = .ok (.ifCond .lt 21, 3) := by decide +kernel
theorem dX7_exists_4 : decode cX7_exists 4 = .ok (.iload_n 1, 1) := by decide +kernel
theorem dX7_exists_5 : decode cX7_exists 5 = .ok (.aload_n 0, 1) := by decide +kernel
theorem dX7_exists_6 : decode cX7_exists 6 = .ok (.getfield 28, 3) := by decide +kernel
theorem dX7_exists_9 : decode cX7_exists 9 = .ok (.if_icmp .ge 13, 3) := by decide +kernel
theorem dX7_exists_22 : decode cX7_exists 22 = .ok (.iconst 0, 1) := by decide +kernel
theorem dX7_exists_23 : decode cX7_exists 23 = .ok (.ireturn, 1) := by decide +kernel
theorem dX7_greatestOn_0 : decode cX7_greatestOn 0 = .ok (.iconst (-1), 1) := by decide +kernel
theorem dX7_greatestOn_1 : decode cX7_greatestOn 1 = .ok (.istore_n 1, 1) := by decide +kernel
theorem dX7_greatestOn_2 : decode cX7_greatestOn 2 = .ok (.iconst (-1), 1) := by decide +kernel
theorem dX7_greatestOn_3 : decode cX7_greatestOn 3 = .ok (.istore_n 2, 1) := by decide +kernel
theorem dX7_greatestOn_4 : decode cX7_greatestOn 4 = .ok (.iconst 0, 1) := by decide +kernel
theorem dX7_greatestOn_5 : decode cX7_greatestOn 5 = .ok (.istore_n 3, 1) := by decide +kernel
theorem dX7_greatestOn_6 : decode cX7_greatestOn 6 = .ok (.iload_n 3, 1) := by decide +kernel
theorem dX7_greatestOn_7 : decode cX7_greatestOn 7 = .ok (.aload_n 0, 1) := by decide +kernel
theorem dX7_greatestOn_8 : decode cX7_greatestOn 8 = .ok (.getfield 28, 3) := by decide +kernel
theorem dX7_greatestOn_11 : decode cX7_greatestOn 11 = .ok (.if_icmp .ge 36, 3) := by decide +kernel
theorem dX7_greatestOn_47 : decode cX7_greatestOn 47 = .ok (.iload_n 1, 1) := by decide +kernel
theorem dX7_greatestOn_48 : decode cX7_greatestOn 48 = .ok (.ireturn, 1) := by decide +kernel
theorem dX7_hasAddress_0 : decode cX7_hasAddress 0 = .ok (.iconst 0, 1) := by decide +kernel
theorem dX7_hasAddress_1 : decode cX7_hasAddress 1 = .ok (.istore_n 2, 1) := by decide +kernel
theorem dX7_hasAddress_2 : decode cX7_hasAddress 2 = .ok (.iload_n 2, 1) := by decide +kernel
theorem dX7_hasAddress_3 : decode cX7_hasAddress 3 = .ok (.aload_n 0, 1) := by decide +kernel
theorem dX7_hasAddress_4 : decode cX7_hasAddress 4 = .ok (.getfield 28, 3) := by decide +kernel
theorem dX7_hasAddress_7 : decode cX7_hasAddress 7 = .ok (.if_icmp .ge 29, 3) := by decide +kernel
theorem dX7_hasAddress_36 : decode cX7_hasAddress 36 = .ok (.iconst 0, 1) := by decide +kernel
theorem dX7_hasAddress_37 : decode cX7_hasAddress 37 = .ok (.ireturn, 1) := by decide +kernel
theorem dX7_isOn_0 : decode cX7_isOn 0 = .ok (.iload_n 1, 1) := by decide +kernel
theorem dX7_isOn_1 : decode cX7_isOn 1 = .ok (.ifCond .lt 30, 3) := by decide +kernel
theorem dX7_isOn_4 : decode cX7_isOn 4 = .ok (.iload_n 1, 1) := by decide +kernel
theorem dX7_isOn_5 : decode cX7_isOn 5 = .ok (.aload_n 0, 1) := by decide +kernel
theorem dX7_isOn_6 : decode cX7_isOn 6 = .ok (.getfield 28, 3) := by decide +kernel
theorem dX7_isOn_9 : decode cX7_isOn 9 = .ok (.if_icmp .ge 22, 3) := by decide +kernel
theorem dX7_isOn_31 : decode cX7_isOn 31 = .ok (.iconst 0, 1) := by decide +kernel
theorem dX7_isOn_32 : decode cX7_isOn 32 = .ok (.ireturn, 1) := by decide +kernel
theorem dX7_onBits_0 : decode cX7_onBits 0 = .ok (.iconst 0, 1) := by decide +kernel
theorem dX7_onBits_1 : decode cX7_onBits 1 = .ok (.istore_n 1, 1) := by decide +kernel
theorem dX7_onBits_2 : decode cX7_onBits 2 = .ok (.iconst 0, 1) := by decide +kernel
theorem dX7_onBits_3 : decode cX7_onBits 3 = .ok (.istore_n 2, 1) := by decide +kernel
theorem dX7_onBits_4 : decode cX7_onBits 4 = .ok (.iload_n 2, 1) := by decide +kernel
theorem dX7_onBits_5 : decode cX7_onBits 5 = .ok (.aload_n 0, 1) := by decide +kernel
theorem dX7_onBits_6 : decode cX7_onBits 6 = .ok (.getfield 28, 3) := by decide +kernel
theorem dX7_onBits_9 : decode cX7_onBits 9 = .ok (.if_icmp .ge 23, 3) := by decide +kernel
theorem dX7_onBits_32 : decode cX7_onBits 32 = .ok (.iload_n 1, 1) := by decide +kernel
theorem dX7_onBits_33 : decode cX7_onBits 33 = .ok (.ireturn, 1) := by decide +kernel
theorem dX7_onCount_0 : decode cX7_onCount 0 = .ok (.aload_n 0, 1) := by decide +kernel
theorem dX7_onCount_1 : decode cX7_onCount 1 = .ok (.invokevirtual 55, 3) := by decide +kernel
theorem dX7_onCount_4 : decode cX7_onCount 4 = .ok (.invokestatic 59, 3) := by decide +kernel
theorem dX7_onCount_7 : decode cX7_onCount 7 = .ok (.ireturn, 1) := by decide +kernel
theorem dX7_setBreak_0 : decode cX7_setBreak 0 = .ok (.aload_n 0, 1) := by decide +kernel
theorem dX7_setBreak_1 : decode cX7_setBreak 1 = .ok (.iload_n 1, 1) := by decide +kernel
theorem dX7_setBreak_2 : decode cX7_setBreak 2 = .ok (.putfield 35, 3) := by decide +kernel
theorem dX7_setBreak_5 : decode cX7_setBreak 5 = .ok (.aload_n 0, 1) := by decide +kernel
theorem dX7_setBreak_6 : decode cX7_setBreak 6 = .ok (.iload_n 2, 1) := by decide +kernel
theorem dX7_setBreak_7 : decode cX7_setBreak 7 = .ok (.putfield 38, 3) := by decide +kernel
theorem dX7_setBreak_10 : decode cX7_setBreak 10 = .ok (.return_, 1) := by decide +kernel
theorem dX7_staleBits_0 : decode cX7_staleBits 0 = .ok (.iconst 0, 1) := by decide +kernel
theorem dX7_staleBits_1 : decode cX7_staleBits 1 = .ok (.istore_n 1, 1) := by decide +kernel
theorem dX7_staleBits_2 : decode cX7_staleBits 2 = .ok (.iconst 0, 1) := by decide +kernel
theorem dX7_staleBits_3 : decode cX7_staleBits 3 = .ok (.istore_n 2, 1) := by decide +kernel
theorem dX7_staleBits_4 : decode cX7_staleBits 4 = .ok (.iload_n 2, 1) := by decide +kernel
theorem dX7_staleBits_5 : decode cX7_staleBits 5 = .ok (.aload_n 0, 1) := by decide +kernel
theorem dX7_staleBits_6 : decode cX7_staleBits 6 = .ok (.getfield 28, 3) := by decide +kernel
theorem dX7_staleBits_9 : decode cX7_staleBits 9 = .ok (.if_icmp .ge 37, 3) := by decide +kernel
theorem dX7_staleBits_46 : decode cX7_staleBits 46 = .ok (.iload_n 1, 1) := by decide +kernel
theorem dX7_staleBits_47 : decode cX7_staleBits 47 = .ok (.ireturn, 1) := by decide +kernel
theorem dX8_append_0 : decode cX8_append 0 = .ok (.bipush 24, 2) := by decide +kernel
theorem dX8_append_2 : decode cX8_append 2 = .ok (.istore_n 2, 1) := by decide +kernel
theorem dX8_append_3 : decode cX8_append 3 = .ok (.iload_n 2, 1) := by decide +kernel
theorem dX8_append_4 : decode cX8_append 4 = .ok (.ifCond .lt 49, 3) := by decide +kernel
theorem dX8_append_7 : decode cX8_append 7 = .ok (.aload_n 0, 1) := by decide +kernel
theorem dX8_append_8 : decode cX8_append 8 = .ok (.getfield 15, 3) := by decide +kernel
theorem dX8_append_11 : decode cX8_append 11 = .ok (.ifCond .lt 36, 3) := by decide +kernel
theorem dX8_append_14 : decode cX8_append 14 = .ok (.aload_n 0, 1) := by decide +kernel
theorem dX8_append_15 : decode cX8_append 15 = .ok (.getfield 15, 3) := by decide +kernel
theorem dX8_append_18 : decode cX8_append 18 = .ok (.sipush 500, 3) := by decide +kernel
theorem dX8_append_21 : decode cX8_append 21 = .ok (.if_icmp .ge 26, 3) := by decide +kernel
theorem dX8_append_24 : decode cX8_append 24 = .ok (.aload_n 0, 1) := by decide +kernel
theorem dX8_append_25 : decode cX8_append 25 = .ok (.getfield 9, 3) := by decide +kernel
theorem dX8_append_28 : decode cX8_append 28 = .ok (.aload_n 0, 1) := by decide +kernel
theorem dX8_append_29 : decode cX8_append 29 = .ok (.getfield 15, 3) := by decide +kernel
theorem dX8_append_32 : decode cX8_append 32 = .ok (.iload_n 1, 1) := by decide +kernel
theorem dX8_append_33 : decode cX8_append 33 = .ok (.iload_n 2, 1) := by decide +kernel
theorem dX8_append_34 : decode cX8_append 34 = .ok (.ishr, 1) := by decide +kernel
theorem dX8_append_35 : decode cX8_append 35 = .ok (.i2b, 1) := by decide +kernel
theorem dX8_append_36 : decode cX8_append 36 = .ok (.bastore, 1) := by decide +kernel
theorem dX8_append_37 : decode cX8_append 37 = .ok (.aload_n 0, 1) := by decide +kernel
theorem dX8_append_38 : decode cX8_append 38 = .ok (.dup, 1) := by decide +kernel
theorem dX8_append_39 : decode cX8_append 39 = .ok (.getfield 15, 3) := by decide +kernel
theorem dX8_append_42 : decode cX8_append 42 = .ok (.iconst 1, 1) := by decide +kernel
theorem dX8_append_43 : decode cX8_append 43 = .ok (.iadd, 1) := by decide +kernel
theorem dX8_append_44 : decode cX8_append 44 = .ok (.putfield 15, 3) := by decide +kernel
theorem dX8_append_47 : decode cX8_append 47 = .ok (.iinc 2 (-8), 3) := by decide +kernel
theorem dX8_append_50 : decode cX8_append 50 = .ok (.goto (-47), 3) := by decide +kernel
theorem dX8_append_53 : decode cX8_append 53 = .ok (.return_, 1) := by decide +kernel
theorem dX8_copyFrom_0 : decode cX8_copyFrom 0 = .ok (.aload_n 1, 1) := by decide +kernel
theorem dX8_copyFrom_1 : decode cX8_copyFrom 1 = .ok (.getfield 9, 3) := by decide +kernel
theorem dX8_copyFrom_4 : decode cX8_copyFrom 4 = .ok (.iconst 0, 1) := by decide +kernel
theorem dX8_copyFrom_5 : decode cX8_copyFrom 5 = .ok (.aload_n 0, 1) := by decide +kernel
theorem dX8_copyFrom_6 : decode cX8_copyFrom 6 = .ok (.getfield 9, 3) := by decide +kernel
theorem dX8_copyFrom_9 : decode cX8_copyFrom 9 = .ok (.iconst 0, 1) := by decide +kernel
theorem dX8_copyFrom_10 : decode cX8_copyFrom 10 = .ok (.sipush 500, 3) := by decide +kernel
theorem dX8_copyFrom_13 : decode cX8_copyFrom 13 = .ok (.invokestatic 25, 3) := by decide +kernel
theorem dX8_copyFrom_16 : decode cX8_copyFrom 16 = .ok (.aload_n 0, 1) := by decide +kernel
theorem dX8_copyFrom_17 : decode cX8_copyFrom 17 = .ok (.aload_n 1, 1) := by decide +kernel
theorem dX8_copyFrom_18 : decode cX8_copyFrom 18 = .ok (.getfield 15, 3) := by decide +kernel
theorem dX8_copyFrom_21 : decode cX8_copyFrom 21 = .ok (.putfield 15, 3) := by decide +kernel
theorem dX8_copyFrom_24 : decode cX8_copyFrom 24 = .ok (.aload_n 0, 1) := by decide +kernel
theorem dX8_copyFrom_25 : decode cX8_copyFrom 25 = .ok (.aload_n 1, 1) := by decide +kernel
theorem dX8_copyFrom_26 : decode cX8_copyFrom 26 = .ok (.getfield 19, 3) := by decide +kernel
theorem dX8_copyFrom_29 : decode cX8_copyFrom 29 = .ok (.putfield 19, 3) := by decide +kernel
theorem dX8_copyFrom_32 : decode cX8_copyFrom 32 = .ok (.aload_n 0, 1) := by decide +kernel
theorem dX8_copyFrom_33 : decode cX8_copyFrom 33 = .ok (.aload_n 1, 1) := by decide +kernel
theorem dX8_copyFrom_34 : decode cX8_copyFrom 34 = .ok (.getfield 22, 3) := by decide +kernel
theorem dX8_copyFrom_37 : decode cX8_copyFrom 37 = .ok (.putfield 22, 3) := by decide +kernel
theorem dX8_copyFrom_40 : decode cX8_copyFrom 40 = .ok (.return_, 1) := by decide +kernel
theorem dX9_clear_0 : decode cX9_clear 0 = .ok (.aload_n 0, 1) := by decide +kernel
theorem dX9_clear_1 : decode cX9_clear 1 = .ok (.iconst 0, 1) := by decide +kernel
theorem dX9_clear_2 : decode cX9_clear 2 = .ok (.putfield 9, 3) := by decide +kernel
theorem dX9_clear_5 : decode cX9_clear 5 = .ok (.aload_n 0, 1) := by decide +kernel
theorem dX9_clear_6 : decode cX9_clear 6 = .ok (.iconst (-1), 1) := by decide +kernel
theorem dX9_clear_7 : decode cX9_clear 7 = .ok (.putfield 15, 3) := by decide +kernel
theorem dX9_clear_10 : decode cX9_clear 10 = .ok (.aload_n 0, 1) := by decide +kernel
theorem dX9_clear_11 : decode cX9_clear 11 = .ok (.iconst 0, 1) := by decide +kernel
theorem dX9_clear_12 : decode cX9_clear 12 = .ok (.putfield 18, 3) := by decide +kernel
theorem dX9_clear_15 : decode cX9_clear 15 = .ok (.aload_n 0, 1) := by decide +kernel
theorem dX9_clear_16 : decode cX9_clear 16 = .ok (.iconst 0, 1) := by decide +kernel
theorem dX9_clear_17 : decode cX9_clear 17 = .ok (.putfield 21, 3) := by decide +kernel
theorem dX9_clear_20 : decode cX9_clear 20 = .ok (.aload_n 0, 1) := by decide +kernel
theorem dX9_clear_21 : decode cX9_clear 21 = .ok (.iconst 0, 1) := by decide +kernel
theorem dX9_clear_22 : decode cX9_clear 22 = .ok (.putfield 24, 3) := by decide +kernel
theorem dX9_clear_25 : decode cX9_clear 25 = .ok (.return_, 1) := by decide +kernel
theorem dX9_copyFrom_0 : decode cX9_copyFrom 0 = .ok (.aload_n 0, 1) := by decide +kernel
theorem dX9_copyFrom_1 : decode cX9_copyFrom 1 = .ok (.aload_n 1, 1) := by decide +kernel
theorem dX9_copyFrom_2 : decode cX9_copyFrom 2 = .ok (.getfield 9, 3) := by decide +kernel
theorem dX9_copyFrom_5 : decode cX9_copyFrom 5 = .ok (.putfield 9, 3) := by decide +kernel
theorem dX9_copyFrom_8 : decode cX9_copyFrom 8 = .ok (.aload_n 0, 1) := by decide +kernel
theorem dX9_copyFrom_9 : decode cX9_copyFrom 9 = .ok (.aload_n 1, 1) := by decide +kernel
theorem dX9_copyFrom_10 : decode cX9_copyFrom 10 = .ok (.getfield 15, 3) := by decide +kernel
theorem dX9_copyFrom_13 : decode cX9_copyFrom 13 = .ok (.putfield 15, 3) := by decide +kernel
theorem dX9_copyFrom_16 : decode cX9_copyFrom 16 = .ok (.aload_n 0, 1) := by decide +kernel
theorem dX9_copyFrom_17 : decode cX9_copyFrom 17 = .ok (.aload_n 1, 1) := by decide +kernel
theorem dX9_copyFrom_18 : decode cX9_copyFrom 18 = .ok (.getfield 18, 3) := by decide +kernel
theorem dX9_copyFrom_21 : decode cX9_copyFrom 21 = .ok (.putfield 18, 3) := by decide +kernel
theorem dX9_copyFrom_24 : decode cX9_copyFrom 24 = .ok (.aload_n 0, 1) := by decide +kernel
theorem dX9_copyFrom_25 : decode cX9_copyFrom 25 = .ok (.aload_n 1, 1) := by decide +kernel
theorem dX9_copyFrom_26 : decode cX9_copyFrom 26 = .ok (.getfield 21, 3) := by decide +kernel
theorem dX9_copyFrom_29 : decode cX9_copyFrom 29 = .ok (.putfield 21, 3) := by decide +kernel
theorem dX9_copyFrom_32 : decode cX9_copyFrom 32 = .ok (.aload_n 0, 1) := by decide +kernel
theorem dX9_copyFrom_33 : decode cX9_copyFrom 33 = .ok (.aload_n 1, 1) := by decide +kernel
theorem dX9_copyFrom_34 : decode cX9_copyFrom 34 = .ok (.getfield 24, 3) := by decide +kernel
theorem dX9_copyFrom_37 : decode cX9_copyFrom 37 = .ok (.putfield 24, 3) := by decide +kernel
theorem dX9_copyFrom_40 : decode cX9_copyFrom 40 = .ok (.aload_n 0, 1) := by decide +kernel
theorem dX9_copyFrom_41 : decode cX9_copyFrom 41 = .ok (.aload_n 1, 1) := by decide +kernel
theorem dX9_copyFrom_42 : decode cX9_copyFrom 42 = .ok (.getfield 28, 3) := by decide +kernel
theorem dX9_copyFrom_45 : decode cX9_copyFrom 45 = .ok (.putfield 28, 3) := by decide +kernel
theorem dX9_copyFrom_48 : decode cX9_copyFrom 48 = .ok (.aload_n 0, 1) := by decide +kernel
theorem dX9_copyFrom_49 : decode cX9_copyFrom 49 = .ok (.aload_n 1, 1) := by decide +kernel
theorem dX9_copyFrom_50 : decode cX9_copyFrom 50 = .ok (.getfield 31, 3) := by decide +kernel
theorem dX9_copyFrom_53 : decode cX9_copyFrom 53 = .ok (.putfield 31, 3) := by decide +kernel
theorem dX9_copyFrom_56 : decode cX9_copyFrom 56 = .ok (.aload_n 0, 1) := by decide +kernel
theorem dX9_copyFrom_57 : decode cX9_copyFrom 57 = .ok (.aload_n 1, 1) := by decide +kernel
theorem dX9_copyFrom_58 : decode cX9_copyFrom 58 = .ok (.getfield 34, 3) := by decide +kernel
theorem dX9_copyFrom_61 : decode cX9_copyFrom 61 = .ok (.putfield 34, 3) := by decide +kernel
theorem dX9_copyFrom_64 : decode cX9_copyFrom 64 = .ok (.aload_n 0, 1) := by decide +kernel
theorem dX9_copyFrom_65 : decode cX9_copyFrom 65 = .ok (.aload_n 1, 1) := by decide +kernel
theorem dX9_copyFrom_66 : decode cX9_copyFrom 66 = .ok (.getfield 37, 3) := by decide +kernel
theorem dX9_copyFrom_69 : decode cX9_copyFrom 69 = .ok (.putfield 37, 3) := by decide +kernel
theorem dX9_copyFrom_72 : decode cX9_copyFrom 72 = .ok (.aload_n 0, 1) := by decide +kernel
theorem dX9_copyFrom_73 : decode cX9_copyFrom 73 = .ok (.aload_n 1, 1) := by decide +kernel
theorem dX9_copyFrom_74 : decode cX9_copyFrom 74 = .ok (.getfield 40, 3) := by decide +kernel
theorem dX9_copyFrom_77 : decode cX9_copyFrom 77 = .ok (.putfield 40, 3) := by decide +kernel
theorem dX9_copyFrom_80 : decode cX9_copyFrom 80 = .ok (.aload_n 0, 1) := by decide +kernel
theorem dX9_copyFrom_81 : decode cX9_copyFrom 81 = .ok (.aload_n 1, 1) := by decide +kernel
theorem dX9_copyFrom_82 : decode cX9_copyFrom 82 = .ok (.getfield 43, 3) := by decide +kernel
theorem dX9_copyFrom_85 : decode cX9_copyFrom 85 = .ok (.putfield 43, 3) := by decide +kernel
theorem dX9_copyFrom_88 : decode cX9_copyFrom 88 = .ok (.return_, 1) := by decide +kernel
theorem dX9_tell_0 : decode cX9_tell 0 = .ok (.iload_n 1, 1) := by decide +kernel
theorem dX9_tell_1 : decode cX9_tell 1 = .ok (.tableswitch 121 0 9 #[55, 60, 65, 70, 75, 88, 93, 98, 103, 116], 55) := by decide +kernel
theorem dX9_tell_56 : decode cX9_tell 56 = .ok (.aload_n 0, 1) := by decide +kernel
theorem dX9_tell_57 : decode cX9_tell 57 = .ok (.getfield 9, 3) := by decide +kernel
theorem dX9_tell_60 : decode cX9_tell 60 = .ok (.ireturn, 1) := by decide +kernel
theorem dX9_tell_61 : decode cX9_tell 61 = .ok (.aload_n 0, 1) := by decide +kernel
theorem dX9_tell_62 : decode cX9_tell 62 = .ok (.getfield 15, 3) := by decide +kernel
theorem dX9_tell_65 : decode cX9_tell 65 = .ok (.ireturn, 1) := by decide +kernel
theorem dX9_tell_66 : decode cX9_tell 66 = .ok (.aload_n 0, 1) := by decide +kernel
theorem dX9_tell_67 : decode cX9_tell 67 = .ok (.getfield 18, 3) := by decide +kernel
theorem dX9_tell_70 : decode cX9_tell 70 = .ok (.ireturn, 1) := by decide +kernel
theorem dX9_tell_71 : decode cX9_tell 71 = .ok (.aload_n 0, 1) := by decide +kernel
theorem dX9_tell_72 : decode cX9_tell 72 = .ok (.getfield 21, 3) := by decide +kernel
theorem dX9_tell_75 : decode cX9_tell 75 = .ok (.ireturn, 1) := by decide +kernel
theorem dX9_tell_76 : decode cX9_tell 76 = .ok (.aload_n 0, 1) := by decide +kernel
theorem dX9_tell_77 : decode cX9_tell 77 = .ok (.getfield 24, 3) := by decide +kernel
theorem dX9_tell_80 : decode cX9_tell 80 = .ok (.ifCond .eq 7, 3) := by decide +kernel
theorem dX9_tell_87 : decode cX9_tell 87 = .ok (.iconst 0, 1) := by decide +kernel
theorem dX9_tell_88 : decode cX9_tell 88 = .ok (.ireturn, 1) := by decide +kernel
theorem dX9_tell_89 : decode cX9_tell 89 = .ok (.aload_n 0, 1) := by decide +kernel
theorem dX9_tell_90 : decode cX9_tell 90 = .ok (.getfield 28, 3) := by decide +kernel
theorem dX9_tell_93 : decode cX9_tell 93 = .ok (.ireturn, 1) := by decide +kernel
theorem dX9_tell_94 : decode cX9_tell 94 = .ok (.aload_n 0, 1) := by decide +kernel
theorem dX9_tell_95 : decode cX9_tell 95 = .ok (.getfield 31, 3) := by decide +kernel
theorem dX9_tell_98 : decode cX9_tell 98 = .ok (.ireturn, 1) := by decide +kernel
theorem dX9_tell_99 : decode cX9_tell 99 = .ok (.aload_n 0, 1) := by decide +kernel
theorem dX9_tell_100 : decode cX9_tell 100 = .ok (.getfield 34, 3) := by decide +kernel
theorem dX9_tell_103 : decode cX9_tell 103 = .ok (.ireturn, 1) := by decide +kernel
theorem dX9_tell_104 : decode cX9_tell 104 = .ok (.aload_n 0, 1) := by decide +kernel
theorem dX9_tell_105 : decode cX9_tell 105 = .ok (.getfield 37, 3) := by decide +kernel
theorem dX9_tell_108 : decode cX9_tell 108 = .ok (.ifCond .eq 7, 3) := by decide +kernel
theorem dX9_tell_115 : decode cX9_tell 115 = .ok (.iconst 0, 1) := by decide +kernel
theorem dX9_tell_116 : decode cX9_tell 116 = .ok (.ireturn, 1) := by decide +kernel
theorem dX9_tell_117 : decode cX9_tell 117 = .ok (.aload_n 0, 1) := by decide +kernel
theorem dX9_tell_118 : decode cX9_tell 118 = .ok (.getfield 40, 3) := by decide +kernel
theorem dX9_tell_121 : decode cX9_tell 121 = .ok (.ireturn, 1) := by decide +kernel
theorem dX9_tell_122 : decode cX9_tell 122 = .ok (.iconst (-1), 1) := by decide +kernel
theorem dX9_tell_123 : decode cX9_tell 123 = .ok (.ireturn, 1) := by decide +kernel
end
section
def tF : hTb := (fun ci k => match ci, k with
  | 0, 5 => fun x => x = 0
  | 5, 7 => fun x => x = 0
  | 5, 8 => fun x => x = (-1)
  | 5, 9 => fun x => x = (-1)
  | 5, 10 => fun x => x = 0
  | 6, 1 => fun x => x = 0
  | 6, 2 => fun x => x = (-1)
  | 6, 3 => fun x => x = (-1)
  | 7, 5 => fun x => x = 0
  | 7, 6 => fun x => x = (-1)
  | 7, 7 => fun x => x = (-1)
  | 7, 8 => fun x => x = (-1)
  | 9, 0 => fun x => x = 0
  | 9, 4 => fun x => x = 0
  | 9, 8 => fun x => x = 0
  | 11, 5 => fun x => x = 0 ∨ x = 1
  | 11, 6 => fun x => x = 0 ∨ x = 1
  | _, _ => fun _ => True, fun r => match r with
  | 0 => fun _ x => x = 0
  | 1 => fun _ x => x = 0
  | 2 => fun _ x => x = 0
  | 204 => fun _ x => x = 0
  | 302 => fun _ x => x = 0
  | 102 => fun _ x => x = 0 ∨ x = -1
  | 103 => fun _ x => x = 0 ∨ x = -1
  | 1100 => fun j x => j < 600 → j ≠ 3 → j ≠ 4 → x = if j = 1 ∨ j = 16 then -1 else 0
  | _ => fun _ _ => True)
end
section
set_option maxHeartbeats 4000000 in
set_option maxRecDepth 100000 in
theorem c_X7_exists (l : Launch) (G : hG) (Y : hW) (o : Nat) (hY : h_On Y o (stE tF o)) (u1 : Int32) : hMi l yX7_exists cX7_exists 2 (some .boolean) 0 0 G Y [.ref (o), .int u1] (fun H => True) (fun H r H1 => r = 0 ∧ H1 = H) := by
  refine h_ofz (by decide +kernel) (Nat.le_of_ble_eq_true rfl) ?_
  intro p e s m args below meth c H0 ls Q hx hb hts hown hml hK hT0 hpr hS0 hl hret
  have hl : lv_has ls 2 [(0, .ref (o)), (1, .int u1)] := hl
  refine lv_iload_n hx hb dX7_exists_0 rfl (lv_at hl 1 rfl) ?_
  refine lv_if_lt (tgt := 22) hx hb dX7_exists_1 (by decide) (fun c1 => ?_) (fun c1 => ?_)
  · skip
    refine lv_iconst (v := 0) hx hb dX7_exists_22 (by decide) ?_
    exact hret _ _ _ _ _ hT0 hS0 ⟨by decide, rfl, rfl⟩ dX7_exists_23
  · skip
    refine lv_iload_n hx hb dX7_exists_4 rfl (lv_at hl 1 rfl) ?_
    refine lv_aload_n hx hb dX7_exists_5 rfl (lv_at hl 0 rfl) ?_
    refine h_getc (v := 0) (C := RX7) (T := TX7) (N := 9) hx hb hts inX7 hown hK hT0 (hY.o rfl) rfl 5 rfl wF_X7_28 rfl (fun _ h => h) dX7_exists_6 ?_
    refine lv_icmp_ge (tgt := 22) hx hb dX7_exists_9 (by decide) (fun _ => ?_) (fun h => absurd (by simp only [Int32.lt_iff_toInt_lt, Int32.le_iff_toInt_le, ← Int32.toInt_inj, Int32.reduceToInt, (show (-1 : Int32).toInt = -1 from rfl)] at c1 ⊢; omega) h)
    refine lv_iconst (v := 0) hx hb dX7_exists_22 (by decide) ?_
    exact hret _ _ _ _ _ hT0 hS0 ⟨by decide, rfl, rfl⟩ dX7_exists_23
set_option maxHeartbeats 4000000 in
set_option maxRecDepth 100000 in
theorem c_X7_isOn (l : Launch) (G : hG) (Y : hW) (o : Nat) (hY : h_On Y o (stE tF o)) (u1 : Int32) : hMi l yX7_isOn cX7_isOn 2 (some .boolean) 0 0 G Y [.ref (o), .int u1] (fun H => True) (fun H r H1 => r = 0 ∧ H1 = H) := by
  refine h_ofz (by decide +kernel) (Nat.le_of_ble_eq_true rfl) ?_
  intro p e s m args below meth c H0 ls Q hx hb hts hown hml hK hT0 hpr hS0 hl hret
  have hl : lv_has ls 2 [(0, .ref (o)), (1, .int u1)] := hl
  refine lv_iload_n hx hb dX7_isOn_0 rfl (lv_at hl 1 rfl) ?_
  refine lv_if_lt (tgt := 31) hx hb dX7_isOn_1 (by decide) (fun c1 => ?_) (fun c1 => ?_)
  · skip
    refine lv_iconst (v := 0) hx hb dX7_isOn_31 (by decide) ?_
    exact hret _ _ _ _ _ hT0 hS0 ⟨by decide, rfl, rfl⟩ dX7_isOn_32
  · skip
    refine lv_iload_n hx hb dX7_isOn_4 rfl (lv_at hl 1 rfl) ?_
    refine lv_aload_n hx hb dX7_isOn_5 rfl (lv_at hl 0 rfl) ?_
    refine h_getc (v := 0) (C := RX7) (T := TX7) (N := 9) hx hb hts inX7 hown hK hT0 (hY.o rfl) rfl 5 rfl wF_X7_28 rfl (fun _ h => h) dX7_isOn_6 ?_
    refine lv_icmp_ge (tgt := 31) hx hb dX7_isOn_9 (by decide) (fun _ => ?_) (fun h => absurd (by simp only [Int32.lt_iff_toInt_lt, Int32.le_iff_toInt_le, ← Int32.toInt_inj, Int32.reduceToInt, (show (-1 : Int32).toInt = -1 from rfl)] at c1 ⊢; omega) h)
    refine lv_iconst (v := 0) hx hb dX7_isOn_31 (by decide) ?_
    exact hret _ _ _ _ _ hT0 hS0 ⟨by decide, rfl, rfl⟩ dX7_isOn_32
set_option maxHeartbeats 4000000 in
set_option maxRecDepth 100000 in
theorem c_X7_onBits (l : Launch) (G : hG) (Y : hW) (o : Nat) (hY : h_On Y o (stE tF o)) : hMi l yX7_onBits cX7_onBits 3 (some .int) 0 0 G Y [.ref (o)] (fun H => True) (fun H r H1 => r = 0 ∧ H1 = H) := by
  refine h_ofi (by decide +kernel) (Nat.le_of_ble_eq_true rfl) ?_
  intro p e s m args below meth c H0 ls Q hx hb hts hown hml hK hT0 hpr hS0 hl hret
  have hl : lv_has ls 3 [(0, .ref (o))] := hl
  refine lv_iconst (v := 0) hx hb dX7_onBits_0 (by decide) ?_
  refine lv_istore_n (lv' := [(1, .int 0), (0, .ref (o))]) hx hb dX7_onBits_1 rfl hl (by decide) rfl (fun ls hl => ?_)
  refine lv_iconst (v := 0) hx hb dX7_onBits_2 (by decide) ?_
  refine lv_istore_n (lv' := [(2, .int 0), (1, .int 0), (0, .ref (o))]) hx hb dX7_onBits_3 rfl hl (by decide) rfl (fun ls hl => ?_)
  refine lv_iload_n hx hb dX7_onBits_4 rfl (lv_at hl 0 rfl) ?_
  refine lv_aload_n hx hb dX7_onBits_5 rfl (lv_at hl 2 rfl) ?_
  refine h_getc (v := 0) (C := RX7) (T := TX7) (N := 9) hx hb hts inX7 hown hK hT0 (hY.o rfl) rfl 5 rfl wF_X7_28 rfl (fun _ h => h) dX7_onBits_6 ?_
  refine lv_icmp_ge (tgt := 32) hx hb dX7_onBits_9 (by decide) (fun _ => ?_) (fun h => absurd (by decide) h)
  refine lv_iload_n hx hb dX7_onBits_32 rfl (lv_at hl 1 rfl) ?_
  exact hret _ _ _ _ _ hT0 hS0 ⟨rfl, rfl⟩ dX7_onBits_33
set_option maxHeartbeats 4000000 in
set_option maxRecDepth 100000 in
theorem c_bitCount (l : Launch) (G : hG) (Y : hW)  : hMi l yJ6_bitCount_0f7a4 cJ6_bitCount_0f7a4 1 (some .int) 0 0 G Y [.int 0] (fun H => True) (fun H r H1 => r = 0 ∧ H1 = H) := by
  refine h_ofi (by decide +kernel) (Nat.le_of_ble_eq_true rfl) ?_
  intro p e s m args below meth c H0 ls Q hx hb hts hown hml hK hT0 hpr hS0 hl hret
  have hl : lv_has ls 1 [(0, .int 0)] := hl
  refine lv_iload_n hx hb dJ6_bitCount_0f7a4_0 rfl (lv_at hl 0 rfl) ?_
  refine lv_iload_n hx hb dJ6_bitCount_0f7a4_1 rfl (lv_at hl 0 rfl) ?_
  refine lv_iconst (v := 1) hx hb dJ6_bitCount_0f7a4_2 (by decide) ?_
  refine lv_iushr hx hb dJ6_bitCount_0f7a4_3 rfl ?_
  refine h_top (v := 0) (by decide) ?_
  refine lv_ldcw (v := 1431655765) hx hb hown (hts _ wC_J6_265) dJ6_bitCount_0f7a4_4 ?_
  refine lv_iand hx hb dJ6_bitCount_0f7a4_7 ?_
  refine h_top (v := 0) (by decide) ?_
  refine lv_isub hx hb dJ6_bitCount_0f7a4_8 ?_
  refine h_top (v := 0) (by decide) ?_
  refine lv_istore_n (lv' := [(0, .int 0)]) hx hb dJ6_bitCount_0f7a4_9 rfl hl (by decide) rfl (fun ls hl => ?_)
  refine lv_iload_n hx hb dJ6_bitCount_0f7a4_10 rfl (lv_at hl 0 rfl) ?_
  refine lv_ldcw (v := 858993459) hx hb hown (hts _ wC_J6_266) dJ6_bitCount_0f7a4_11 ?_
  refine lv_iand hx hb dJ6_bitCount_0f7a4_14 ?_
  refine h_top (v := 0) (by decide) ?_
  refine lv_iload_n hx hb dJ6_bitCount_0f7a4_15 rfl (lv_at hl 0 rfl) ?_
  refine lv_iconst (v := 2) hx hb dJ6_bitCount_0f7a4_16 (by decide) ?_
  refine lv_iushr hx hb dJ6_bitCount_0f7a4_17 rfl ?_
  refine h_top (v := 0) (by decide) ?_
  refine lv_ldcw (v := 858993459) hx hb hown (hts _ wC_J6_266) dJ6_bitCount_0f7a4_18 ?_
  refine lv_iand hx hb dJ6_bitCount_0f7a4_21 ?_
  refine h_top (v := 0) (by decide) ?_
  refine lv_iadd hx hb dJ6_bitCount_0f7a4_22 ?_
  refine h_top (v := 0) (by decide) ?_
  refine lv_istore_n (lv' := [(0, .int 0)]) hx hb dJ6_bitCount_0f7a4_23 rfl hl (by decide) rfl (fun ls hl => ?_)
  refine lv_iload_n hx hb dJ6_bitCount_0f7a4_24 rfl (lv_at hl 0 rfl) ?_
  refine lv_iload_n hx hb dJ6_bitCount_0f7a4_25 rfl (lv_at hl 0 rfl) ?_
  refine lv_iconst (v := 4) hx hb dJ6_bitCount_0f7a4_26 (by decide) ?_
  refine lv_iushr hx hb dJ6_bitCount_0f7a4_27 rfl ?_
  refine h_top (v := 0) (by decide) ?_
  refine lv_iadd hx hb dJ6_bitCount_0f7a4_28 ?_
  refine h_top (v := 0) (by decide) ?_
  refine lv_ldcw (v := 252645135) hx hb hown (hts _ wC_J6_267) dJ6_bitCount_0f7a4_29 ?_
  refine lv_iand hx hb dJ6_bitCount_0f7a4_32 ?_
  refine h_top (v := 0) (by decide) ?_
  refine lv_istore_n (lv' := [(0, .int 0)]) hx hb dJ6_bitCount_0f7a4_33 rfl hl (by decide) rfl (fun ls hl => ?_)
  refine lv_iload_n hx hb dJ6_bitCount_0f7a4_34 rfl (lv_at hl 0 rfl) ?_
  refine lv_iload_n hx hb dJ6_bitCount_0f7a4_35 rfl (lv_at hl 0 rfl) ?_
  refine lv_bipush (v := 8) hx hb dJ6_bitCount_0f7a4_36 (by decide) ?_
  refine lv_iushr hx hb dJ6_bitCount_0f7a4_38 rfl ?_
  refine h_top (v := 0) (by decide) ?_
  refine lv_iadd hx hb dJ6_bitCount_0f7a4_39 ?_
  refine h_top (v := 0) (by decide) ?_
  refine lv_istore_n (lv' := [(0, .int 0)]) hx hb dJ6_bitCount_0f7a4_40 rfl hl (by decide) rfl (fun ls hl => ?_)
  refine lv_iload_n hx hb dJ6_bitCount_0f7a4_41 rfl (lv_at hl 0 rfl) ?_
  refine lv_iload_n hx hb dJ6_bitCount_0f7a4_42 rfl (lv_at hl 0 rfl) ?_
  refine lv_bipush (v := 16) hx hb dJ6_bitCount_0f7a4_43 (by decide) ?_
  refine lv_iushr hx hb dJ6_bitCount_0f7a4_45 rfl ?_
  refine h_top (v := 0) (by decide) ?_
  refine lv_iadd hx hb dJ6_bitCount_0f7a4_46 ?_
  refine h_top (v := 0) (by decide) ?_
  refine lv_istore_n (lv' := [(0, .int 0)]) hx hb dJ6_bitCount_0f7a4_47 rfl hl (by decide) rfl (fun ls hl => ?_)
  refine lv_iload_n hx hb dJ6_bitCount_0f7a4_48 rfl (lv_at hl 0 rfl) ?_
  refine lv_bipush (v := 63) hx hb dJ6_bitCount_0f7a4_49 (by decide) ?_
  refine lv_iand hx hb dJ6_bitCount_0f7a4_51 ?_
  refine h_top (v := 0) (by decide) ?_
  exact hret _ _ _ _ _ hT0 hS0 ⟨rfl, rfl⟩ dJ6_bitCount_0f7a4_52
set_option maxHeartbeats 4000000 in
set_option maxRecDepth 100000 in
theorem c_X7_onCount (l : Launch) (G : hG) (Y : hW) (o : Nat) (hY : h_On Y o (stE tF o)) : hMi l yX7_onCount cX7_onCount 1 (some .int) 1 22 G Y [.ref (o)] (fun H => True) (fun H r H1 => r = 0 ∧ H1 = H) := by
  refine h_ofi (by decide +kernel) (Nat.le_of_ble_eq_true rfl) ?_
  intro p e s m args below meth c H0 ls Q hx hb hts hown hml hK hT0 hpr hS0 hl hret
  have hl : lv_has ls 1 [(0, .ref (o))] := hl
  refine lv_aload_n hx hb dX7_onCount_0 rfl (lv_at hl 0 rfl) ?_
  refine h_callVi (T := TX7) (rest := []) (As := []) hx hb hml hown hts hK hT0 (fun _ h => h) hS0 (c_X7_onBits l G Y (o) hY) trivial wd_X7_onBits wV_X7_onBits wL_X7_55 (hY.o rfl) rfl rfl hl.1 rfl (Nat.le_of_ble_eq_true rfl) dX7_onCount_1 ⟨Nat.le_of_ble_eq_true rfl, Nat.le_of_ble_eq_true rfl⟩ ⟨Nat.zero_le _, Nat.zero_le _⟩ (fun r1 H1 locs hp1 hT1 hS1 hk1 => ?_)
  obtain ⟨hp1, he⟩ := hp1
  have he := he.symm
  subst he
  have hp1 : r1 = 0 := hp1
  subst hp1
  refine h_callSi (rest := []) (As := [.int 0]) hx hb hml hown hts hK hT0 (fun _ h => h) hS1 (c_bitCount l G Y) trivial wd_J6_bitCount_0f7a4 wS_J6_bitCount_0f7a4 wL_X7_59 rfl hl.1 rfl (Nat.le_of_ble_eq_true rfl) dX7_onCount_4 ⟨Nat.le_of_ble_eq_true rfl, Nat.le_of_ble_eq_true rfl⟩ ⟨Nat.zero_le _, Nat.zero_le _⟩ (fun r2 H2 locs hp2 hT2 hS2 hk2 => ?_)
  obtain ⟨hp2, he⟩ := hp2
  have he := he.symm
  subst he
  have hp2 : r2 = 0 := hp2
  subst hp2
  exact hret _ _ _ _ _ hT0 hS2 ⟨rfl, rfl⟩ dX7_onCount_7
set_option maxHeartbeats 4000000 in
set_option maxRecDepth 100000 in
theorem c_X7_greatestOn (l : Launch) (G : hG) (Y : hW) (o : Nat) (hY : h_On Y o (stE tF o)) : hMi l yX7_greatestOn cX7_greatestOn 4 (some .int) 0 0 G Y [.ref (o)] (fun H => True) (fun H r H1 => r = (-1) ∧ H1 = H) := by
  refine h_ofi (by decide +kernel) (Nat.le_of_ble_eq_true rfl) ?_
  intro p e s m args below meth c H0 ls Q hx hb hts hown hml hK hT0 hpr hS0 hl hret
  have hl : lv_has ls 4 [(0, .ref (o))] := hl
  refine lv_iconst (v := (-1)) hx hb dX7_greatestOn_0 (by decide) ?_
  refine lv_istore_n (lv' := [(1, .int (-1)), (0, .ref (o))]) hx hb dX7_greatestOn_1 rfl hl (by decide) rfl (fun ls hl => ?_)
  refine lv_iconst (v := (-1)) hx hb dX7_greatestOn_2 (by decide) ?_
  refine lv_istore_n (lv' := [(2, .int (-1)), (1, .int (-1)), (0, .ref (o))]) hx hb dX7_greatestOn_3 rfl hl (by decide) rfl (fun ls hl => ?_)
  refine lv_iconst (v := 0) hx hb dX7_greatestOn_4 (by decide) ?_
  refine lv_istore_n (lv' := [(3, .int 0), (2, .int (-1)), (1, .int (-1)), (0, .ref (o))]) hx hb dX7_greatestOn_5 rfl hl (by decide) rfl (fun ls hl => ?_)
  refine lv_iload_n hx hb dX7_greatestOn_6 rfl (lv_at hl 0 rfl) ?_
  refine lv_aload_n hx hb dX7_greatestOn_7 rfl (lv_at hl 3 rfl) ?_
  refine h_getc (v := 0) (C := RX7) (T := TX7) (N := 9) hx hb hts inX7 hown hK hT0 (hY.o rfl) rfl 5 rfl wF_X7_28 rfl (fun _ h => h) dX7_greatestOn_8 ?_
  refine lv_icmp_ge (tgt := 47) hx hb dX7_greatestOn_11 (by decide) (fun _ => ?_) (fun h => absurd (by decide) h)
  refine lv_iload_n hx hb dX7_greatestOn_47 rfl (lv_at hl 2 rfl) ?_
  exact hret _ _ _ _ _ hT0 hS0 ⟨rfl, rfl⟩ dX7_greatestOn_48
set_option maxHeartbeats 4000000 in
set_option maxRecDepth 100000 in
theorem c_X7_chiefIsOn (l : Launch) (G : hG) (Y : hW) (o : Nat) (hY : h_On Y o (stE tF o)) : hMi l yX7_chiefIsOn cX7_chiefIsOn 1 (some .boolean) 1 21 G Y [.ref (o)] (fun H => True) (fun H r H1 => r = 0 ∧ H1 = H) := by
  refine h_ofz (by decide +kernel) (Nat.le_of_ble_eq_true rfl) ?_
  intro p e s m args below meth c H0 ls Q hx hb hts hown hml hK hT0 hpr hS0 hl hret
  have hl : lv_has ls 1 [(0, .ref (o))] := hl
  refine lv_aload_n hx hb dX7_chiefIsOn_0 rfl (lv_at hl 0 rfl) ?_
  refine lv_aload_n hx hb dX7_chiefIsOn_1 rfl (lv_at hl 0 rfl) ?_
  refine h_getc (v := (-1)) (C := RX7) (T := TX7) (N := 9) hx hb hts inX7 hown hK hT0 (hY.o rfl) rfl 6 rfl wF_X7_32 rfl (fun _ h => h) dX7_chiefIsOn_2 ?_
  refine h_callVi (T := TX7) (rest := []) (As := [.int (-1)]) hx hb hml hown hts hK hT0 (fun _ h => h) hS0 (c_X7_isOn l G Y (o) hY (-1)) trivial wd_X7_isOn wV_X7_isOn wL_X7_65 (hY.o rfl) rfl rfl hl.1 rfl (Nat.le_of_ble_eq_true rfl) dX7_chiefIsOn_5 ⟨Nat.le_of_ble_eq_true rfl, Nat.le_of_ble_eq_true rfl⟩ ⟨Nat.zero_le _, Nat.zero_le _⟩ (fun r1 H1 locs hp1 hT1 hS1 hk1 => ?_)
  obtain ⟨hp1, he⟩ := hp1
  have he := he.symm
  subst he
  have hp1 : r1 = 0 := hp1
  subst hp1
  exact hret _ _ _ _ _ hT0 hS1 ⟨by decide, rfl, rfl⟩ dX7_chiefIsOn_8
set_option maxHeartbeats 4000000 in
set_option maxRecDepth 100000 in
theorem c_X7_breakCountsWithout (l : Launch) (G : hG) (Y : hW) (o : Nat) (hY : h_On Y o (stE tF o)) (u1 : Int32) : hMi l yX7_breakCountsWithout cX7_breakCountsWithout 3 (some .boolean) 1 21 G Y [.ref (o), .int u1] (fun H => True) (fun H r H1 => r = 0 ∧ H1 = H) := by
  refine h_ofz (by decide +kernel) (Nat.le_of_ble_eq_true rfl) ?_
  intro p e s m args below meth c H0 ls Q hx hb hts hown hml hK hT0 hpr hS0 hl hret
  have hl : lv_has ls 3 [(0, .ref (o)), (1, .int u1)] := hl
  refine lv_aload_n hx hb dX7_breakCountsWithout_0 rfl (lv_at hl 0 rfl) ?_
  refine lv_aload_n hx hb dX7_breakCountsWithout_1 rfl (lv_at hl 0 rfl) ?_
  refine h_getc (v := (-1)) (C := RX7) (T := TX7) (N := 9) hx hb hts inX7 hown hK hT0 (hY.o rfl) rfl 7 rfl wF_X7_35 rfl (fun _ h => h) dX7_breakCountsWithout_2 ?_
  refine h_callVi (T := TX7) (rest := []) (As := [.int (-1)]) hx hb hml hown hts hK hT0 (fun _ h => h) hS0 (c_X7_exists l G Y (o) hY (-1)) trivial wd_X7_exists wV_X7_exists wL_X7_51 (hY.o rfl) rfl rfl hl.1 rfl (Nat.le_of_ble_eq_true rfl) dX7_breakCountsWithout_5 ⟨Nat.le_of_ble_eq_true rfl, Nat.le_of_ble_eq_true rfl⟩ ⟨Nat.zero_le _, Nat.zero_le _⟩ (fun r1 H1 locs hp1 hT1 hS1 hk1 => ?_)
  obtain ⟨hp1, he⟩ := hp1
  have he := he.symm
  subst he
  have hp1 : r1 = 0 := hp1
  subst hp1
  refine lv_if_ne (tgt := 13) hx hb dX7_breakCountsWithout_8 (by decide) (fun h => absurd (by decide) h) (fun _ => ?_)
  refine lv_iconst (v := 0) hx hb dX7_breakCountsWithout_11 (by decide) ?_
  exact hret _ _ _ _ _ hT0 hS1 ⟨by decide, rfl, rfl⟩ dX7_breakCountsWithout_12
set_option maxHeartbeats 4000000 in
set_option maxRecDepth 100000 in
theorem c_X7_breakCounts (l : Launch) (G : hG) (Y : hW) (o : Nat) (hY : h_On Y o (stE tF o)) : hMi l yX7_breakCounts cX7_breakCounts 1 (some .boolean) 2 43 G Y [.ref (o)] (fun H => True) (fun H r H1 => r = 0 ∧ H1 = H) := by
  refine h_ofz (by decide +kernel) (Nat.le_of_ble_eq_true rfl) ?_
  intro p e s m args below meth c H0 ls Q hx hb hts hown hml hK hT0 hpr hS0 hl hret
  have hl : lv_has ls 1 [(0, .ref (o))] := hl
  refine lv_aload_n hx hb dX7_breakCounts_0 rfl (lv_at hl 0 rfl) ?_
  refine lv_iconst (v := (-1)) hx hb dX7_breakCounts_1 (by decide) ?_
  refine h_callVi (T := TX7) (rest := []) (As := [.int (-1)]) hx hb hml hown hts hK hT0 (fun _ h => h) hS0 (c_X7_breakCountsWithout l G Y (o) hY (-1)) trivial wd_X7_breakCountsWithout wV_X7_breakCountsWithout wL_X7_74 (hY.o rfl) rfl rfl hl.1 rfl (Nat.le_of_ble_eq_true rfl) dX7_breakCounts_2 ⟨Nat.le_of_ble_eq_true rfl, Nat.le_of_ble_eq_true rfl⟩ ⟨Nat.zero_le _, Nat.zero_le _⟩ (fun r1 H1 locs hp1 hT1 hS1 hk1 => ?_)
  obtain ⟨hp1, he⟩ := hp1
  have he := he.symm
  subst he
  have hp1 : r1 = 0 := hp1
  subst hp1
  exact hret _ _ _ _ _ hT0 hS1 ⟨by decide, rfl, rfl⟩ dX7_breakCounts_5
set_option maxHeartbeats 4000000 in
set_option maxRecDepth 100000 in
theorem c_X7_staleBits (l : Launch) (G : hG) (Y : hW) (o : Nat) (hY : h_On Y o (stE tF o)) : hMi l yX7_staleBits cX7_staleBits 3 (some .int) 0 0 G Y [.ref (o)] (fun H => True) (fun H r H1 => r = 0 ∧ H1 = H) := by
  refine h_ofi (by decide +kernel) (Nat.le_of_ble_eq_true rfl) ?_
  intro p e s m args below meth c H0 ls Q hx hb hts hown hml hK hT0 hpr hS0 hl hret
  have hl : lv_has ls 3 [(0, .ref (o))] := hl
  refine lv_iconst (v := 0) hx hb dX7_staleBits_0 (by decide) ?_
  refine lv_istore_n (lv' := [(1, .int 0), (0, .ref (o))]) hx hb dX7_staleBits_1 rfl hl (by decide) rfl (fun ls hl => ?_)
  refine lv_iconst (v := 0) hx hb dX7_staleBits_2 (by decide) ?_
  refine lv_istore_n (lv' := [(2, .int 0), (1, .int 0), (0, .ref (o))]) hx hb dX7_staleBits_3 rfl hl (by decide) rfl (fun ls hl => ?_)
  refine lv_iload_n hx hb dX7_staleBits_4 rfl (lv_at hl 0 rfl) ?_
  refine lv_aload_n hx hb dX7_staleBits_5 rfl (lv_at hl 2 rfl) ?_
  refine h_getc (v := 0) (C := RX7) (T := TX7) (N := 9) hx hb hts inX7 hown hK hT0 (hY.o rfl) rfl 5 rfl wF_X7_28 rfl (fun _ h => h) dX7_staleBits_6 ?_
  refine lv_icmp_ge (tgt := 46) hx hb dX7_staleBits_9 (by decide) (fun _ => ?_) (fun h => absurd (by decide) h)
  refine lv_iload_n hx hb dX7_staleBits_46 rfl (lv_at hl 1 rfl) ?_
  exact hret _ _ _ _ _ hT0 hS0 ⟨rfl, rfl⟩ dX7_staleBits_47
set_option maxHeartbeats 4000000 in
set_option maxRecDepth 100000 in
theorem c_fill (l : Launch) (G : hG) (Y : hW) (o n : Nat) (P : Nat → Int32 → Prop) (u1 : Int32) (hY : Y o = some (.inr (0, n, .inl P))) (hn : n < 100) (hP : ∀ j, j < n → P j u1) : hMv l yJ7_fill_53178 cJ7_fill_53178 4 none 0 0 G Y [.ref (o), .int u1] (fun H => True) (fun H H1 => ∀ j, j < n → h_ai H1 o j = u1) := by
  refine h_ofv (by decide +kernel) (Nat.le_of_ble_eq_true rfl) ?_
  intro p e s m args below meth c H0 ls Q hx hb hts hown hml hK hT0 hpr hS0 hl hret
  have hl : lv_has ls 4 [(0, .ref (o)), (1, .int u1)] := hl
  refine lv_iconst (v := 0) hx hb dJ7_fill_53178_0 (by decide) ?_
  refine lv_istore_n (lv' := [(2, .int 0), (0, .ref (o)), (1, .int u1)]) hx hb dJ7_fill_53178_1 rfl hl (by decide) rfl (fun ls hl => ?_)
  refine lv_aload_n hx hb dJ7_fill_53178_2 rfl (lv_at hl 1 rfl) ?_
  refine h_alen (v := nI n) hx hb hK hT0 (by decide) hY rfl dJ7_fill_53178_3 ?_
  refine lv_istore_n (lv' := [(3, .int (nI n)), (2, .int 0), (0, .ref (o)), (1, .int u1)]) hx hb dJ7_fill_53178_4 rfl hl (by decide) rfl (fun ls hl => ?_)
  have LP : ∀ (q k : Nat), q + k = n → ∀ (H0 : Heap) (locs : List Loc) (ls : Array Slot), hT G Y H0 → va_S (h_A Y) s.heap H0 locs → (∀ j, j < k → h_ai H0 o j = u1) → lv_has ls 4 [(2, .int (nI k)), (3, .int (nI n)), (0, .ref (o)), (1, .int u1)] → W p l e (h_rm 0 0) s m args below meth c H0 locs 0 0 Q (F0 m 5 ls []) := by
    intro q
    induction q with
    | zero =>
      intro k hk H0 locs ls hT0 hS0 hi hl
      obtain rfl : k = n := by omega
      refine lv_iload_n hx hb dJ7_fill_53178_5 rfl (lv_at hl 0 rfl) ?_
      refine lv_iload_n hx hb dJ7_fill_53178_6 rfl (lv_at hl 1 rfl) ?_
      refine lv_icmp_ge (tgt := 20) hx hb dJ7_fill_53178_7 (by decide) (fun _ => ?_) (fun h => absurd (Int32.le_refl _) h)
      exact hret _ _ _ _ hT0 hS0 hi dJ7_fill_53178_20
    | succ q ih =>
      intro k hk H0 locs ls hT0 hS0 hi hl
      refine lv_iload_n hx hb dJ7_fill_53178_5 rfl (lv_at hl 0 rfl) ?_
      refine lv_iload_n hx hb dJ7_fill_53178_6 rfl (lv_at hl 1 rfl) ?_
      refine lv_icmp_ge (tgt := 20) hx hb dJ7_fill_53178_7 (by decide) (fun h => absurd h (nI_ge (by omega) (by omega))) (fun _ => ?_)
      refine lv_aload_n hx hb dJ7_fill_53178_10 rfl (lv_at hl 2 rfl) ?_
      refine lv_iload_n hx hb dJ7_fill_53178_11 rfl (lv_at hl 0 rfl) ?_
      refine lv_iload_n hx hb dJ7_fill_53178_12 rfl (lv_at hl 3 rfl) ?_
      refine h_iast hx hb hK hT0 (fun _ h => h) hS0 hY (vp_in_nI (by omega) (by omega)) (by rw [nI_clamp (by omega)]; exact hP k (by omega)) dJ7_fill_53178_13 (fun H1 locs hT1 hS1 hu1 => ?_)
      refine lv_iinc (v := (nI (k + 1))) (lv' := [(2, .int (nI (k + 1))), (3, .int (nI n)), (0, .ref (o)), (1, .int u1)]) hx hb dJ7_fill_53178_14 hl (k := 0) rfl (nI_1 k) (by decide) rfl (fun ls hl => ?_)
      refine lv_goto (tgt := 5) hx hb dJ7_fill_53178_17 (by decide) ?_
      exact ih (k + 1) (by omega) _ _ _ hT1 hS1 (fun j hj => (Classical.em (j = k)).elim (fun h => by subst h; unfold h_ai; have e := hu1.2.2.1; rw [nI_clamp (by omega)] at e; rw [e]; rfl) (fun h => by rw [show h_ai H1 o j = h_ai H0 o j from by unfold h_ai; rw [hu1.2.2.2 j (by rw [nI_clamp (by omega)]; exact h)]]; exact hi j (by omega))) (lv_sub hl [0, 1, 2, 3] rfl)
  exact LP n 0 (by omega) _ _ _ hT0 hS0 (fun j hj => absurd hj (by omega)) (lv_sub hl [1, 0, 2, 3] rfl)
set_option maxHeartbeats 4000000 in
set_option maxRecDepth 100000 in
theorem c_X7_copyFrom (l : Launch) (G : hG) (Y : hW) (o o2 : Nat) (hY : h_On Y o (stE tF o)) (hY2 : h_On Y o2 (stE tF o2)) : hMv l yX7_copyFrom cX7_copyFrom 2 none 1 60 G Y [.ref (o), .ref (o2)] (fun H => True) (fun H H1 => ∀ q : Nat, (q < o ∨ o + 6 ≤ q) → H1[q]? = H[q]?) := by
  refine h_ofv (by decide +kernel) (Nat.le_of_ble_eq_true rfl) ?_
  intro p e s m args below meth c H0 ls Q hx hb hts hown hml hK hT0 hpr hS0 hl hret
  have hl : lv_has ls 2 [(0, .ref (o)), (1, .ref (o2))] := hl
  refine lv_aload_n hx hb dX7_copyFrom_0 rfl (lv_at hl 1 rfl) ?_
  refine h_getr (C := RX7) (T := TX7) (N := 9) hx hb hts inX7 hown hK hT0 (hY2.o rfl) rfl 0 rfl wF_X7_9 rfl dX7_copyFrom_1 ?_
  refine lv_iconst (v := 0) hx hb dX7_copyFrom_4 (by decide) ?_
  refine lv_aload_n hx hb dX7_copyFrom_5 rfl (lv_at hl 0 rfl) ?_
  refine h_getr (C := RX7) (T := TX7) (N := 9) hx hb hts inX7 hown hK hT0 (hY.o rfl) rfl 0 rfl wF_X7_9 rfl dX7_copyFrom_6 ?_
  refine lv_iconst (v := 0) hx hb dX7_copyFrom_9 (by decide) ?_
  refine lv_bipush (v := 8) hx hb dX7_copyFrom_10 (by decide) ?_
  refine h_copy (rest := []) hx hb hts (hml.trans hl.1.symm) hown wL_X7_45 wA_nat wA_sta wA_ini hK hT0 (fun _ h => h) hS0 (by decide) (hY2.at 1 rfl) (hY.at 1 rfl) (fun _ _ _ h => h) (by decide) (by decide) (Nat.le_of_ble_eq_true rfl) (Nat.le_of_ble_eq_true rfl) dX7_copyFrom_12 (fun H1 locs hT1 hS1 hu1 => ?_)
  refine lv_aload_n hx hb dX7_copyFrom_15 rfl (lv_at hl 1 rfl) ?_
  refine h_getr (C := RX7) (T := TX7) (N := 9) hx hb hts inX7 hown hK hT1 (hY2.o rfl) rfl 1 rfl wF_X7_15 rfl dX7_copyFrom_16 ?_
  refine lv_iconst (v := 0) hx hb dX7_copyFrom_19 (by decide) ?_
  refine lv_aload_n hx hb dX7_copyFrom_20 rfl (lv_at hl 0 rfl) ?_
  refine h_getr (C := RX7) (T := TX7) (N := 9) hx hb hts inX7 hown hK hT1 (hY.o rfl) rfl 1 rfl wF_X7_15 rfl dX7_copyFrom_21 ?_
  refine lv_iconst (v := 0) hx hb dX7_copyFrom_24 (by decide) ?_
  refine lv_bipush (v := 8) hx hb dX7_copyFrom_25 (by decide) ?_
  refine h_copy (rest := []) hx hb hts (hml.trans hl.1.symm) hown wL_X7_45 wA_nat wA_sta wA_ini hK hT1 (fun _ h => h) hS1 (by decide) (hY2.at 2 rfl) (hY.at 2 rfl) (fun _ _ _ h => h) (by decide) (by decide) (Nat.le_of_ble_eq_true rfl) (Nat.le_of_ble_eq_true rfl) dX7_copyFrom_27 (fun H2 locs hT2 hS2 hu2 => ?_)
  refine lv_aload_n hx hb dX7_copyFrom_30 rfl (lv_at hl 1 rfl) ?_
  refine h_getr (C := RX7) (T := TX7) (N := 9) hx hb hts inX7 hown hK hT2 (hY2.o rfl) rfl 2 rfl wF_X7_19 rfl dX7_copyFrom_31 ?_
  refine lv_iconst (v := 0) hx hb dX7_copyFrom_34 (by decide) ?_
  refine lv_aload_n hx hb dX7_copyFrom_35 rfl (lv_at hl 0 rfl) ?_
  refine h_getr (C := RX7) (T := TX7) (N := 9) hx hb hts inX7 hown hK hT2 (hY.o rfl) rfl 2 rfl wF_X7_19 rfl dX7_copyFrom_36 ?_
  refine lv_iconst (v := 0) hx hb dX7_copyFrom_39 (by decide) ?_
  refine lv_bipush (v := 8) hx hb dX7_copyFrom_40 (by decide) ?_
  refine h_copy (rest := []) hx hb hts (hml.trans hl.1.symm) hown wL_X7_45 wA_nat wA_sta wA_ini hK hT2 (fun _ h => h) hS2 (by decide) (hY2.at 3 rfl) (hY.at 3 rfl) (fun _ _ _ h => h) (by decide) (by decide) (Nat.le_of_ble_eq_true rfl) (Nat.le_of_ble_eq_true rfl) dX7_copyFrom_42 (fun H3 locs hT3 hS3 hu3 => ?_)
  refine lv_aload_n hx hb dX7_copyFrom_45 rfl (lv_at hl 1 rfl) ?_
  refine h_getr (C := RX7) (T := TX7) (N := 9) hx hb hts inX7 hown hK hT3 (hY2.o rfl) rfl 3 rfl wF_X7_22 rfl dX7_copyFrom_46 ?_
  refine lv_iconst (v := 0) hx hb dX7_copyFrom_49 (by decide) ?_
  refine lv_aload_n hx hb dX7_copyFrom_50 rfl (lv_at hl 0 rfl) ?_
  refine h_getr (C := RX7) (T := TX7) (N := 9) hx hb hts inX7 hown hK hT3 (hY.o rfl) rfl 3 rfl wF_X7_22 rfl dX7_copyFrom_51 ?_
  refine lv_iconst (v := 0) hx hb dX7_copyFrom_54 (by decide) ?_
  refine lv_bipush (v := 8) hx hb dX7_copyFrom_55 (by decide) ?_
  refine h_copy (rest := []) hx hb hts (hml.trans hl.1.symm) hown wL_X7_45 wA_nat wA_sta wA_ini hK hT3 (fun _ h => h) hS3 (by decide) (hY2.at 4 rfl) (hY.at 4 rfl) (fun _ _ _ h => h) (by decide) (by decide) (Nat.le_of_ble_eq_true rfl) (Nat.le_of_ble_eq_true rfl) dX7_copyFrom_57 (fun H4 locs hT4 hS4 hu4 => ?_)
  refine lv_aload_n hx hb dX7_copyFrom_60 rfl (lv_at hl 1 rfl) ?_
  refine h_getr (C := RX7) (T := TX7) (N := 9) hx hb hts inX7 hown hK hT4 (hY2.o rfl) rfl 4 rfl wF_X7_25 rfl dX7_copyFrom_61 ?_
  refine lv_iconst (v := 0) hx hb dX7_copyFrom_64 (by decide) ?_
  refine lv_aload_n hx hb dX7_copyFrom_65 rfl (lv_at hl 0 rfl) ?_
  refine h_getr (C := RX7) (T := TX7) (N := 9) hx hb hts inX7 hown hK hT4 (hY.o rfl) rfl 4 rfl wF_X7_25 rfl dX7_copyFrom_66 ?_
  refine lv_iconst (v := 0) hx hb dX7_copyFrom_69 (by decide) ?_
  refine lv_bipush (v := 8) hx hb dX7_copyFrom_70 (by decide) ?_
  refine h_copy (rest := []) hx hb hts (hml.trans hl.1.symm) hown wL_X7_45 wA_nat wA_sta wA_ini hK hT4 (fun _ h => h) hS4 (by decide) (hY2.at 5 rfl) (hY.at 5 rfl) (fun _ _ _ h => h) (by decide) (by decide) (Nat.le_of_ble_eq_true rfl) (Nat.le_of_ble_eq_true rfl) dX7_copyFrom_72 (fun H5 locs hT5 hS5 hu5 => ?_)
  refine lv_aload_n hx hb dX7_copyFrom_75 rfl (lv_at hl 0 rfl) ?_
  refine lv_aload_n hx hb dX7_copyFrom_76 rfl (lv_at hl 1 rfl) ?_
  refine h_getc (v := 0) (C := RX7) (T := TX7) (N := 9) hx hb hts inX7 hown hK hT5 (hY2.o rfl) rfl 5 rfl wF_X7_28 rfl (fun _ h => h) dX7_copyFrom_77 ?_
  refine h_puti (C := RX7) (T := TX7) (N := 9) hx hb hts inX7 tyX7 tyX7_ok nmX7 hown hK hT5 (fun _ h => h) hS5 (hY.o rfl) rfl 5 rfl wF_X7_28 rfl rfl rfl rfl rfl dX7_copyFrom_80 (fun H6 locs hT6 hS6 hu6 => ?_)
  refine lv_aload_n hx hb dX7_copyFrom_83 rfl (lv_at hl 0 rfl) ?_
  refine lv_aload_n hx hb dX7_copyFrom_84 rfl (lv_at hl 1 rfl) ?_
  refine h_getc (v := (-1)) (C := RX7) (T := TX7) (N := 9) hx hb hts inX7 hown hK hT6 (hY2.o rfl) rfl 6 rfl wF_X7_32 rfl (fun _ h => h) dX7_copyFrom_85 ?_
  refine h_puti (C := RX7) (T := TX7) (N := 9) hx hb hts inX7 tyX7 tyX7_ok nmX7 hown hK hT6 (fun _ h => h) hS6 (hY.o rfl) rfl 6 rfl wF_X7_32 rfl rfl rfl rfl rfl dX7_copyFrom_88 (fun H7 locs hT7 hS7 hu7 => ?_)
  refine lv_aload_n hx hb dX7_copyFrom_91 rfl (lv_at hl 0 rfl) ?_
  refine lv_aload_n hx hb dX7_copyFrom_92 rfl (lv_at hl 1 rfl) ?_
  refine h_getc (v := (-1)) (C := RX7) (T := TX7) (N := 9) hx hb hts inX7 hown hK hT7 (hY2.o rfl) rfl 7 rfl wF_X7_35 rfl (fun _ h => h) dX7_copyFrom_93 ?_
  refine h_puti (C := RX7) (T := TX7) (N := 9) hx hb hts inX7 tyX7 tyX7_ok nmX7 hown hK hT7 (fun _ h => h) hS7 (hY.o rfl) rfl 7 rfl wF_X7_35 rfl rfl rfl rfl rfl dX7_copyFrom_96 (fun H8 locs hT8 hS8 hu8 => ?_)
  refine lv_aload_n hx hb dX7_copyFrom_99 rfl (lv_at hl 0 rfl) ?_
  refine lv_aload_n hx hb dX7_copyFrom_100 rfl (lv_at hl 1 rfl) ?_
  refine h_getc (v := (-1)) (C := RX7) (T := TX7) (N := 9) hx hb hts inX7 hown hK hT8 (hY2.o rfl) rfl 8 rfl wF_X7_38 rfl (fun _ h => h) dX7_copyFrom_101 ?_
  refine h_puti (C := RX7) (T := TX7) (N := 9) hx hb hts inX7 tyX7 tyX7_ok nmX7 hown hK hT8 (fun _ h => h) hS8 (hY.o rfl) rfl 8 rfl wF_X7_38 rfl rfl rfl rfl rfl dX7_copyFrom_104 (fun H9 locs hT9 hS9 hu9 => ?_)
  exact hret _ _ _ _ hT9 hS9 (fun q hq => ((hu9.2.1 q (by omega)).trans ((hu8.2.1 q (by omega)).trans ((hu7.2.1 q (by omega)).trans ((hu6.2.1 q (by omega)).trans ((hu5.2.1 q (by omega)).trans ((hu4.2.1 q (by omega)).trans ((hu3.2.1 q (by omega)).trans ((hu2.2.1 q (by omega)).trans (hu1.2.1 q (by omega))))))))))) dX7_copyFrom_107
set_option maxHeartbeats 4000000 in
set_option maxRecDepth 100000 in
theorem c_X2_copyFrom (l : Launch) (G : hG) (Y : hW) (o o2 : Nat) (hY : h_On Y o (quE tF o)) (hY2 : h_On Y o2 (quE tF o2)) : hMv l yX2_copyFrom cX2_copyFrom 2 none 1 60 G Y [.ref (o), .ref (o2)] (fun H => True) (fun H H1 => ∀ q : Nat, (q < o ∨ o + 6 ≤ q) → H1[q]? = H[q]?) := by
  refine h_ofv (by decide +kernel) (Nat.le_of_ble_eq_true rfl) ?_
  intro p e s m args below meth c H0 ls Q hx hb hts hown hml hK hT0 hpr hS0 hl hret
  have hl : lv_has ls 2 [(0, .ref (o)), (1, .ref (o2))] := hl
  refine lv_aload_n hx hb dX2_copyFrom_0 rfl (lv_at hl 1 rfl) ?_
  refine h_getr (C := RX2) (T := TX2) (N := 5) hx hb hts inX2 hown hK hT0 (hY2.o rfl) rfl 0 rfl wF_X2_9 rfl dX2_copyFrom_1 ?_
  refine lv_iconst (v := 0) hx hb dX2_copyFrom_4 (by decide) ?_
  refine lv_aload_n hx hb dX2_copyFrom_5 rfl (lv_at hl 0 rfl) ?_
  refine h_getr (C := RX2) (T := TX2) (N := 5) hx hb hts inX2 hown hK hT0 (hY.o rfl) rfl 0 rfl wF_X2_9 rfl dX2_copyFrom_6 ?_
  refine lv_iconst (v := 0) hx hb dX2_copyFrom_9 (by decide) ?_
  refine lv_bipush (v := 48) hx hb dX2_copyFrom_10 (by decide) ?_
  refine h_copy (rest := []) hx hb hts (hml.trans hl.1.symm) hown wL_X2_33 wA_nat wA_sta wA_ini hK hT0 (fun _ h => h) hS0 (by decide) (hY2.at 1 rfl) (hY.at 1 rfl) (fun _ _ _ h => h) (by decide) (by decide) (Nat.le_of_ble_eq_true rfl) (Nat.le_of_ble_eq_true rfl) dX2_copyFrom_12 (fun H1 locs hT1 hS1 hu1 => ?_)
  refine lv_aload_n hx hb dX2_copyFrom_15 rfl (lv_at hl 1 rfl) ?_
  refine h_getr (C := RX2) (T := TX2) (N := 5) hx hb hts inX2 hown hK hT1 (hY2.o rfl) rfl 1 rfl wF_X2_15 rfl dX2_copyFrom_16 ?_
  refine lv_iconst (v := 0) hx hb dX2_copyFrom_19 (by decide) ?_
  refine lv_aload_n hx hb dX2_copyFrom_20 rfl (lv_at hl 0 rfl) ?_
  refine h_getr (C := RX2) (T := TX2) (N := 5) hx hb hts inX2 hown hK hT1 (hY.o rfl) rfl 1 rfl wF_X2_15 rfl dX2_copyFrom_21 ?_
  refine lv_iconst (v := 0) hx hb dX2_copyFrom_24 (by decide) ?_
  refine lv_bipush (v := 48) hx hb dX2_copyFrom_25 (by decide) ?_
  refine h_copy (rest := []) hx hb hts (hml.trans hl.1.symm) hown wL_X2_33 wA_nat wA_sta wA_ini hK hT1 (fun _ h => h) hS1 (by decide) (hY2.at 2 rfl) (hY.at 2 rfl) (fun _ _ _ h => h) (by decide) (by decide) (Nat.le_of_ble_eq_true rfl) (Nat.le_of_ble_eq_true rfl) dX2_copyFrom_27 (fun H2 locs hT2 hS2 hu2 => ?_)
  refine lv_aload_n hx hb dX2_copyFrom_30 rfl (lv_at hl 1 rfl) ?_
  refine h_getr (C := RX2) (T := TX2) (N := 5) hx hb hts inX2 hown hK hT2 (hY2.o rfl) rfl 2 rfl wF_X2_18 rfl dX2_copyFrom_31 ?_
  refine lv_iconst (v := 0) hx hb dX2_copyFrom_34 (by decide) ?_
  refine lv_aload_n hx hb dX2_copyFrom_35 rfl (lv_at hl 0 rfl) ?_
  refine h_getr (C := RX2) (T := TX2) (N := 5) hx hb hts inX2 hown hK hT2 (hY.o rfl) rfl 2 rfl wF_X2_18 rfl dX2_copyFrom_36 ?_
  refine lv_iconst (v := 0) hx hb dX2_copyFrom_39 (by decide) ?_
  refine lv_bipush (v := 48) hx hb dX2_copyFrom_40 (by decide) ?_
  refine h_copy (rest := []) hx hb hts (hml.trans hl.1.symm) hown wL_X2_33 wA_nat wA_sta wA_ini hK hT2 (fun _ h => h) hS2 (by decide) (hY2.at 3 rfl) (hY.at 3 rfl) (fun _ _ _ h => h) (by decide) (by decide) (Nat.le_of_ble_eq_true rfl) (Nat.le_of_ble_eq_true rfl) dX2_copyFrom_42 (fun H3 locs hT3 hS3 hu3 => ?_)
  refine lv_aload_n hx hb dX2_copyFrom_45 rfl (lv_at hl 1 rfl) ?_
  refine h_getr (C := RX2) (T := TX2) (N := 5) hx hb hts inX2 hown hK hT3 (hY2.o rfl) rfl 3 rfl wF_X2_21 rfl dX2_copyFrom_46 ?_
  refine lv_iconst (v := 0) hx hb dX2_copyFrom_49 (by decide) ?_
  refine lv_aload_n hx hb dX2_copyFrom_50 rfl (lv_at hl 0 rfl) ?_
  refine h_getr (C := RX2) (T := TX2) (N := 5) hx hb hts inX2 hown hK hT3 (hY.o rfl) rfl 3 rfl wF_X2_21 rfl dX2_copyFrom_51 ?_
  refine lv_iconst (v := 0) hx hb dX2_copyFrom_54 (by decide) ?_
  refine lv_bipush (v := 48) hx hb dX2_copyFrom_55 (by decide) ?_
  refine h_copy (rest := []) hx hb hts (hml.trans hl.1.symm) hown wL_X2_33 wA_nat wA_sta wA_ini hK hT3 (fun _ h => h) hS3 (by decide) (hY2.at 4 rfl) (hY.at 4 rfl) (fun _ _ _ h => h) (by decide) (by decide) (Nat.le_of_ble_eq_true rfl) (Nat.le_of_ble_eq_true rfl) dX2_copyFrom_57 (fun H4 locs hT4 hS4 hu4 => ?_)
  refine lv_aload_n hx hb dX2_copyFrom_60 rfl (lv_at hl 1 rfl) ?_
  refine h_getr (C := RX2) (T := TX2) (N := 5) hx hb hts inX2 hown hK hT4 (hY2.o rfl) rfl 4 rfl wF_X2_24 rfl dX2_copyFrom_61 ?_
  refine lv_iconst (v := 0) hx hb dX2_copyFrom_64 (by decide) ?_
  refine lv_aload_n hx hb dX2_copyFrom_65 rfl (lv_at hl 0 rfl) ?_
  refine h_getr (C := RX2) (T := TX2) (N := 5) hx hb hts inX2 hown hK hT4 (hY.o rfl) rfl 4 rfl wF_X2_24 rfl dX2_copyFrom_66 ?_
  refine lv_iconst (v := 0) hx hb dX2_copyFrom_69 (by decide) ?_
  refine lv_bipush (v := 8) hx hb dX2_copyFrom_70 (by decide) ?_
  refine h_copy (rest := []) hx hb hts (hml.trans hl.1.symm) hown wL_X2_33 wA_nat wA_sta wA_ini hK hT4 (fun _ h => h) hS4 (by decide) (hY2.at 5 rfl) (hY.at 5 rfl) (fun _ _ _ h => h) (by decide) (by decide) (Nat.le_of_ble_eq_true rfl) (Nat.le_of_ble_eq_true rfl) dX2_copyFrom_72 (fun H5 locs hT5 hS5 hu5 => ?_)
  exact hret _ _ _ _ hT5 hS5 (fun q hq => ((hu5.2.1 q (by omega)).trans ((hu4.2.1 q (by omega)).trans ((hu3.2.1 q (by omega)).trans ((hu2.2.1 q (by omega)).trans (hu1.2.1 q (by omega))))))) dX2_copyFrom_75
set_option maxHeartbeats 4000000 in
set_option maxRecDepth 100000 in
theorem c_X3_copyFrom (l : Launch) (G : hG) (Y : hW) (o o2 : Nat) (hY : h_On Y o (raE tF o)) (hY2 : h_On Y o2 (raE tF o2)) : hMv l yX3_copyFrom cX3_copyFrom 2 none 1 60 G Y [.ref (o), .ref (o2)] (fun H => True) (fun H H1 => ∀ q : Nat, (q < o ∨ o + 4 ≤ q) → H1[q]? = H[q]?) := by
  refine h_ofv (by decide +kernel) (Nat.le_of_ble_eq_true rfl) ?_
  intro p e s m args below meth c H0 ls Q hx hb hts hown hml hK hT0 hpr hS0 hl hret
  have hl : lv_has ls 2 [(0, .ref (o)), (1, .ref (o2))] := hl
  refine lv_aload_n hx hb dX3_copyFrom_0 rfl (lv_at hl 1 rfl) ?_
  refine h_getr (C := RX3) (T := TX3) (N := 3) hx hb hts inX3 hown hK hT0 (hY2.o rfl) rfl 0 rfl wF_X3_9 rfl dX3_copyFrom_1 ?_
  refine lv_iconst (v := 0) hx hb dX3_copyFrom_4 (by decide) ?_
  refine lv_aload_n hx hb dX3_copyFrom_5 rfl (lv_at hl 0 rfl) ?_
  refine h_getr (C := RX3) (T := TX3) (N := 3) hx hb hts inX3 hown hK hT0 (hY.o rfl) rfl 0 rfl wF_X3_9 rfl dX3_copyFrom_6 ?_
  refine lv_iconst (v := 0) hx hb dX3_copyFrom_9 (by decide) ?_
  refine lv_bipush (v := 64) hx hb dX3_copyFrom_10 (by decide) ?_
  refine h_copy (rest := []) hx hb hts (hml.trans hl.1.symm) hown wL_X3_27 wA_nat wA_sta wA_ini hK hT0 (fun _ h => h) hS0 (by decide) (hY2.at 1 rfl) (hY.at 1 rfl) (fun _ _ _ h => h) (by decide) (by decide) (Nat.le_of_ble_eq_true rfl) (Nat.le_of_ble_eq_true rfl) dX3_copyFrom_12 (fun H1 locs hT1 hS1 hu1 => ?_)
  refine lv_aload_n hx hb dX3_copyFrom_15 rfl (lv_at hl 1 rfl) ?_
  refine h_getr (C := RX3) (T := TX3) (N := 3) hx hb hts inX3 hown hK hT1 (hY2.o rfl) rfl 1 rfl wF_X3_15 rfl dX3_copyFrom_16 ?_
  refine lv_iconst (v := 0) hx hb dX3_copyFrom_19 (by decide) ?_
  refine lv_aload_n hx hb dX3_copyFrom_20 rfl (lv_at hl 0 rfl) ?_
  refine h_getr (C := RX3) (T := TX3) (N := 3) hx hb hts inX3 hown hK hT1 (hY.o rfl) rfl 1 rfl wF_X3_15 rfl dX3_copyFrom_21 ?_
  refine lv_iconst (v := 0) hx hb dX3_copyFrom_24 (by decide) ?_
  refine lv_bipush (v := 64) hx hb dX3_copyFrom_25 (by decide) ?_
  refine h_copy (rest := []) hx hb hts (hml.trans hl.1.symm) hown wL_X3_27 wA_nat wA_sta wA_ini hK hT1 (fun _ h => h) hS1 (by decide) (hY2.at 2 rfl) (hY.at 2 rfl) (fun _ _ _ h => h) (by decide) (by decide) (Nat.le_of_ble_eq_true rfl) (Nat.le_of_ble_eq_true rfl) dX3_copyFrom_27 (fun H2 locs hT2 hS2 hu2 => ?_)
  refine lv_aload_n hx hb dX3_copyFrom_30 rfl (lv_at hl 1 rfl) ?_
  refine h_getr (C := RX3) (T := TX3) (N := 3) hx hb hts inX3 hown hK hT2 (hY2.o rfl) rfl 2 rfl wF_X3_18 rfl dX3_copyFrom_31 ?_
  refine lv_iconst (v := 0) hx hb dX3_copyFrom_34 (by decide) ?_
  refine lv_aload_n hx hb dX3_copyFrom_35 rfl (lv_at hl 0 rfl) ?_
  refine h_getr (C := RX3) (T := TX3) (N := 3) hx hb hts inX3 hown hK hT2 (hY.o rfl) rfl 2 rfl wF_X3_18 rfl dX3_copyFrom_36 ?_
  refine lv_iconst (v := 0) hx hb dX3_copyFrom_39 (by decide) ?_
  refine lv_bipush (v := 8) hx hb dX3_copyFrom_40 (by decide) ?_
  refine h_copy (rest := []) hx hb hts (hml.trans hl.1.symm) hown wL_X3_27 wA_nat wA_sta wA_ini hK hT2 (fun _ h => h) hS2 (by decide) (hY2.at 3 rfl) (hY.at 3 rfl) (fun _ _ _ h => h) (by decide) (by decide) (Nat.le_of_ble_eq_true rfl) (Nat.le_of_ble_eq_true rfl) dX3_copyFrom_42 (fun H3 locs hT3 hS3 hu3 => ?_)
  exact hret _ _ _ _ hT3 hS3 (fun q hq => ((hu3.2.1 q (by omega)).trans ((hu2.2.1 q (by omega)).trans (hu1.2.1 q (by omega))))) dX3_copyFrom_45
set_option maxHeartbeats 4000000 in
set_option maxRecDepth 100000 in
theorem c_X9_copyFrom (l : Launch) (G : hG) (Y : hW) (o o2 : Nat) (hY : h_On Y o (waE tF o)) (hY2 : h_On Y o2 (waE tF o2)) : hMv l yX9_copyFrom cX9_copyFrom 2 none 0 0 G Y [.ref (o), .ref (o2)] (fun H => True) (fun H H1 => ∀ q : Nat, (q < o ∨ o + 1 ≤ q) → H1[q]? = H[q]?) := by
  refine h_ofv (by decide +kernel) (Nat.le_of_ble_eq_true rfl) ?_
  intro p e s m args below meth c H0 ls Q hx hb hts hown hml hK hT0 hpr hS0 hl hret
  have hl : lv_has ls 2 [(0, .ref (o)), (1, .ref (o2))] := hl
  refine lv_aload_n hx hb dX9_copyFrom_0 rfl (lv_at hl 0 rfl) ?_
  refine lv_aload_n hx hb dX9_copyFrom_1 rfl (lv_at hl 1 rfl) ?_
  refine h_getc (v := 0) (C := RX9) (T := TX9) (N := 11) hx hb hts inX9 hown hK hT0 (hY2.o rfl) rfl 0 rfl wF_X9_9 rfl (fun _ h => h) dX9_copyFrom_2 ?_
  refine h_puti (C := RX9) (T := TX9) (N := 11) hx hb hts inX9 tyX9 tyX9_ok nmX9 hown hK hT0 (fun _ h => h) hS0 (hY.o rfl) rfl 0 rfl wF_X9_9 rfl rfl rfl rfl rfl dX9_copyFrom_5 (fun H1 locs hT1 hS1 hu1 => ?_)
  refine lv_aload_n hx hb dX9_copyFrom_8 rfl (lv_at hl 0 rfl) ?_
  refine lv_aload_n hx hb dX9_copyFrom_9 rfl (lv_at hl 1 rfl) ?_
  refine h_geti (C := RX9) (T := TX9) (N := 11) hx hb hts inX9 hown hK hT1 (hY2.o rfl) rfl 1 rfl wF_X9_15 rfl dX9_copyFrom_10 (fun p1 => ?_)
  refine lv_topi (fun x2 ex2 => ?_)
  refine h_puti (C := RX9) (T := TX9) (N := 11) hx hb hts inX9 tyX9 tyX9_ok nmX9 hown hK hT1 (fun _ h => h) hS1 (hY.o rfl) rfl 1 rfl wF_X9_15 rfl rfl trivial rfl rfl dX9_copyFrom_13 (fun H2 locs hT2 hS2 hu2 => ?_)
  refine lv_aload_n hx hb dX9_copyFrom_16 rfl (lv_at hl 0 rfl) ?_
  refine lv_aload_n hx hb dX9_copyFrom_17 rfl (lv_at hl 1 rfl) ?_
  refine h_geti (C := RX9) (T := TX9) (N := 11) hx hb hts inX9 hown hK hT2 (hY2.o rfl) rfl 2 rfl wF_X9_18 rfl dX9_copyFrom_18 (fun p3 => ?_)
  refine lv_topi (fun x4 ex4 => ?_)
  refine h_puti (C := RX9) (T := TX9) (N := 11) hx hb hts inX9 tyX9 tyX9_ok nmX9 hown hK hT2 (fun _ h => h) hS2 (hY.o rfl) rfl 2 rfl wF_X9_18 rfl rfl trivial rfl rfl dX9_copyFrom_21 (fun H3 locs hT3 hS3 hu3 => ?_)
  refine lv_aload_n hx hb dX9_copyFrom_24 rfl (lv_at hl 0 rfl) ?_
  refine lv_aload_n hx hb dX9_copyFrom_25 rfl (lv_at hl 1 rfl) ?_
  refine h_geti (C := RX9) (T := TX9) (N := 11) hx hb hts inX9 hown hK hT3 (hY2.o rfl) rfl 3 rfl wF_X9_21 rfl dX9_copyFrom_26 (fun p5 => ?_)
  refine lv_topi (fun x6 ex6 => ?_)
  refine h_puti (C := RX9) (T := TX9) (N := 11) hx hb hts inX9 tyX9 tyX9_ok nmX9 hown hK hT3 (fun _ h => h) hS3 (hY.o rfl) rfl 3 rfl wF_X9_21 rfl rfl trivial rfl rfl dX9_copyFrom_29 (fun H4 locs hT4 hS4 hu4 => ?_)
  refine lv_aload_n hx hb dX9_copyFrom_32 rfl (lv_at hl 0 rfl) ?_
  refine lv_aload_n hx hb dX9_copyFrom_33 rfl (lv_at hl 1 rfl) ?_
  refine h_getc (v := 0) (C := RX9) (T := TX9) (N := 11) hx hb hts inX9 hown hK hT4 (hY2.o rfl) rfl 4 rfl wF_X9_24 rfl (fun _ h => h) dX9_copyFrom_34 ?_
  refine h_puti (C := RX9) (T := TX9) (N := 11) hx hb hts inX9 tyX9 tyX9_ok nmX9 hown hK hT4 (fun _ h => h) hS4 (hY.o rfl) rfl 4 rfl wF_X9_24 rfl rfl rfl rfl rfl dX9_copyFrom_37 (fun H5 locs hT5 hS5 hu5 => ?_)
  refine lv_aload_n hx hb dX9_copyFrom_40 rfl (lv_at hl 0 rfl) ?_
  refine lv_aload_n hx hb dX9_copyFrom_41 rfl (lv_at hl 1 rfl) ?_
  refine h_geti (C := RX9) (T := TX9) (N := 11) hx hb hts inX9 hown hK hT5 (hY2.o rfl) rfl 5 rfl wF_X9_28 rfl dX9_copyFrom_42 (fun p7 => ?_)
  refine lv_topi (fun x8 ex8 => ?_)
  refine h_puti (C := RX9) (T := TX9) (N := 11) hx hb hts inX9 tyX9 tyX9_ok nmX9 hown hK hT5 (fun _ h => h) hS5 (hY.o rfl) rfl 5 rfl wF_X9_28 rfl rfl trivial rfl rfl dX9_copyFrom_45 (fun H6 locs hT6 hS6 hu6 => ?_)
  refine lv_aload_n hx hb dX9_copyFrom_48 rfl (lv_at hl 0 rfl) ?_
  refine lv_aload_n hx hb dX9_copyFrom_49 rfl (lv_at hl 1 rfl) ?_
  refine h_geti (C := RX9) (T := TX9) (N := 11) hx hb hts inX9 hown hK hT6 (hY2.o rfl) rfl 6 rfl wF_X9_31 rfl dX9_copyFrom_50 (fun p9 => ?_)
  refine lv_topi (fun x10 ex10 => ?_)
  refine h_puti (C := RX9) (T := TX9) (N := 11) hx hb hts inX9 tyX9 tyX9_ok nmX9 hown hK hT6 (fun _ h => h) hS6 (hY.o rfl) rfl 6 rfl wF_X9_31 rfl rfl trivial rfl rfl dX9_copyFrom_53 (fun H7 locs hT7 hS7 hu7 => ?_)
  refine lv_aload_n hx hb dX9_copyFrom_56 rfl (lv_at hl 0 rfl) ?_
  refine lv_aload_n hx hb dX9_copyFrom_57 rfl (lv_at hl 1 rfl) ?_
  refine h_geti (C := RX9) (T := TX9) (N := 11) hx hb hts inX9 hown hK hT7 (hY2.o rfl) rfl 7 rfl wF_X9_34 rfl dX9_copyFrom_58 (fun p11 => ?_)
  refine lv_topi (fun x12 ex12 => ?_)
  refine h_puti (C := RX9) (T := TX9) (N := 11) hx hb hts inX9 tyX9 tyX9_ok nmX9 hown hK hT7 (fun _ h => h) hS7 (hY.o rfl) rfl 7 rfl wF_X9_34 rfl rfl trivial rfl rfl dX9_copyFrom_61 (fun H8 locs hT8 hS8 hu8 => ?_)
  refine lv_aload_n hx hb dX9_copyFrom_64 rfl (lv_at hl 0 rfl) ?_
  refine lv_aload_n hx hb dX9_copyFrom_65 rfl (lv_at hl 1 rfl) ?_
  refine h_getc (v := 0) (C := RX9) (T := TX9) (N := 11) hx hb hts inX9 hown hK hT8 (hY2.o rfl) rfl 8 rfl wF_X9_37 rfl (fun _ h => h) dX9_copyFrom_66 ?_
  refine h_puti (C := RX9) (T := TX9) (N := 11) hx hb hts inX9 tyX9 tyX9_ok nmX9 hown hK hT8 (fun _ h => h) hS8 (hY.o rfl) rfl 8 rfl wF_X9_37 rfl rfl rfl rfl rfl dX9_copyFrom_69 (fun H9 locs hT9 hS9 hu9 => ?_)
  refine lv_aload_n hx hb dX9_copyFrom_72 rfl (lv_at hl 0 rfl) ?_
  refine lv_aload_n hx hb dX9_copyFrom_73 rfl (lv_at hl 1 rfl) ?_
  refine h_geti (C := RX9) (T := TX9) (N := 11) hx hb hts inX9 hown hK hT9 (hY2.o rfl) rfl 9 rfl wF_X9_40 rfl dX9_copyFrom_74 (fun p13 => ?_)
  refine lv_topi (fun x14 ex14 => ?_)
  refine h_puti (C := RX9) (T := TX9) (N := 11) hx hb hts inX9 tyX9 tyX9_ok nmX9 hown hK hT9 (fun _ h => h) hS9 (hY.o rfl) rfl 9 rfl wF_X9_40 rfl rfl trivial rfl rfl dX9_copyFrom_77 (fun H10 locs hT10 hS10 hu10 => ?_)
  refine lv_aload_n hx hb dX9_copyFrom_80 rfl (lv_at hl 0 rfl) ?_
  refine lv_aload_n hx hb dX9_copyFrom_81 rfl (lv_at hl 1 rfl) ?_
  refine h_geti (C := RX9) (T := TX9) (N := 11) hx hb hts inX9 hown hK hT10 (hY2.o rfl) rfl 10 rfl wF_X9_43 rfl dX9_copyFrom_82 (fun p15 => ?_)
  refine lv_topi (fun x16 ex16 => ?_)
  refine h_puti (C := RX9) (T := TX9) (N := 11) hx hb hts inX9 tyX9 tyX9_ok nmX9 hown hK hT10 (fun _ h => h) hS10 (hY.o rfl) rfl 10 rfl wF_X9_43 rfl rfl trivial rfl rfl dX9_copyFrom_85 (fun H11 locs hT11 hS11 hu11 => ?_)
  exact hret _ _ _ _ hT11 hS11 (fun q hq => ((hu11.2.1 q (by omega)).trans ((hu10.2.1 q (by omega)).trans ((hu9.2.1 q (by omega)).trans ((hu8.2.1 q (by omega)).trans ((hu7.2.1 q (by omega)).trans ((hu6.2.1 q (by omega)).trans ((hu5.2.1 q (by omega)).trans ((hu4.2.1 q (by omega)).trans ((hu3.2.1 q (by omega)).trans ((hu2.2.1 q (by omega)).trans (hu1.2.1 q (by omega))))))))))))) dX9_copyFrom_88
set_option maxHeartbeats 4000000 in
set_option maxRecDepth 100000 in
theorem c_X6_copyFrom (l : Launch) (G : hG) (Y : hW) (o o2 : Nat) (hY : h_On Y o (siE tF o)) (hY2 : h_On Y o2 (siE tF o2)) : hMv l yX6_copyFrom cX6_copyFrom 2 none 0 0 G Y [.ref (o), .ref (o2)] (fun H => True) (fun H H1 => ∀ q : Nat, (q < o ∨ o + 1 ≤ q) → H1[q]? = H[q]?) := by
  refine h_ofv (by decide +kernel) (Nat.le_of_ble_eq_true rfl) ?_
  intro p e s m args below meth c H0 ls Q hx hb hts hown hml hK hT0 hpr hS0 hl hret
  have hl : lv_has ls 2 [(0, .ref (o)), (1, .ref (o2))] := hl
  refine lv_aload_n hx hb dX6_copyFrom_0 rfl (lv_at hl 0 rfl) ?_
  refine lv_aload_n hx hb dX6_copyFrom_1 rfl (lv_at hl 1 rfl) ?_
  refine h_geti (C := RX6) (T := TX6) (N := 4) hx hb hts inX6 hown hK hT0 (hY2.o rfl) rfl 0 rfl wF_X6_9 rfl dX6_copyFrom_2 (fun p1 => ?_)
  refine lv_topi (fun x2 ex2 => ?_)
  refine h_puti (C := RX6) (T := TX6) (N := 4) hx hb hts inX6 tyX6 tyX6_ok nmX6 hown hK hT0 (fun _ h => h) hS0 (hY.o rfl) rfl 0 rfl wF_X6_9 rfl rfl trivial rfl rfl dX6_copyFrom_5 (fun H1 locs hT1 hS1 hu1 => ?_)
  refine lv_aload_n hx hb dX6_copyFrom_8 rfl (lv_at hl 0 rfl) ?_
  refine lv_aload_n hx hb dX6_copyFrom_9 rfl (lv_at hl 1 rfl) ?_
  refine h_getc (v := 0) (C := RX6) (T := TX6) (N := 4) hx hb hts inX6 hown hK hT1 (hY2.o rfl) rfl 1 rfl wF_X6_15 rfl (fun _ h => h) dX6_copyFrom_10 ?_
  refine h_puti (C := RX6) (T := TX6) (N := 4) hx hb hts inX6 tyX6 tyX6_ok nmX6 hown hK hT1 (fun _ h => h) hS1 (hY.o rfl) rfl 1 rfl wF_X6_15 rfl rfl rfl rfl rfl dX6_copyFrom_13 (fun H2 locs hT2 hS2 hu2 => ?_)
  refine lv_aload_n hx hb dX6_copyFrom_16 rfl (lv_at hl 0 rfl) ?_
  refine lv_aload_n hx hb dX6_copyFrom_17 rfl (lv_at hl 1 rfl) ?_
  refine h_getc (v := (-1)) (C := RX6) (T := TX6) (N := 4) hx hb hts inX6 hown hK hT2 (hY2.o rfl) rfl 2 rfl wF_X6_18 rfl (fun _ h => h) dX6_copyFrom_18 ?_
  refine h_puti (C := RX6) (T := TX6) (N := 4) hx hb hts inX6 tyX6 tyX6_ok nmX6 hown hK hT2 (fun _ h => h) hS2 (hY.o rfl) rfl 2 rfl wF_X6_18 rfl rfl rfl rfl rfl dX6_copyFrom_21 (fun H3 locs hT3 hS3 hu3 => ?_)
  refine lv_aload_n hx hb dX6_copyFrom_24 rfl (lv_at hl 0 rfl) ?_
  refine lv_aload_n hx hb dX6_copyFrom_25 rfl (lv_at hl 1 rfl) ?_
  refine h_getc (v := (-1)) (C := RX6) (T := TX6) (N := 4) hx hb hts inX6 hown hK hT3 (hY2.o rfl) rfl 3 rfl wF_X6_21 rfl (fun _ h => h) dX6_copyFrom_26 ?_
  refine h_puti (C := RX6) (T := TX6) (N := 4) hx hb hts inX6 tyX6 tyX6_ok nmX6 hown hK hT3 (fun _ h => h) hS3 (hY.o rfl) rfl 3 rfl wF_X6_21 rfl rfl rfl rfl rfl dX6_copyFrom_29 (fun H4 locs hT4 hS4 hu4 => ?_)
  exact hret _ _ _ _ hT4 hS4 (fun q hq => ((hu4.2.1 q (by omega)).trans ((hu3.2.1 q (by omega)).trans ((hu2.2.1 q (by omega)).trans (hu1.2.1 q (by omega)))))) dX6_copyFrom_32
set_option maxHeartbeats 4000000 in
set_option maxRecDepth 100000 in
theorem c_X0_copyFrom (l : Launch) (G : hG) (Y : hW) (o o2 : Nat) (hY : h_On Y o (boE tF o)) (hY2 : h_On Y o2 (boE tF o2)) : hMv l yX0_copyFrom cX0_copyFrom 2 none 1 60 G Y [.ref (o), .ref (o2)] (fun H => True) (fun H H1 => ∀ q : Nat, (q < o ∨ o + 6 ≤ q) → H1[q]? = H[q]?) := by
  refine h_ofv (by decide +kernel) (Nat.le_of_ble_eq_true rfl) ?_
  intro p e s m args below meth c H0 ls Q hx hb hts hown hml hK hT0 hpr hS0 hl hret
  have hl : lv_has ls 2 [(0, .ref (o)), (1, .ref (o2))] := hl
  refine lv_aload_n hx hb dX0_copyFrom_0 rfl (lv_at hl 1 rfl) ?_
  refine h_getr (C := RX0) (T := TX0) (N := 6) hx hb hts inX0 hown hK hT0 (hY2.o rfl) rfl 0 rfl wF_X0_9 rfl dX0_copyFrom_1 ?_
  refine lv_iconst (v := 0) hx hb dX0_copyFrom_4 (by decide) ?_
  refine lv_aload_n hx hb dX0_copyFrom_5 rfl (lv_at hl 0 rfl) ?_
  refine h_getr (C := RX0) (T := TX0) (N := 6) hx hb hts inX0 hown hK hT0 (hY.o rfl) rfl 0 rfl wF_X0_9 rfl dX0_copyFrom_6 ?_
  refine lv_iconst (v := 0) hx hb dX0_copyFrom_9 (by decide) ?_
  refine lv_bipush (v := 10) hx hb dX0_copyFrom_10 (by decide) ?_
  refine h_copy (rest := []) hx hb hts (hml.trans hl.1.symm) hown wL_X0_37 wA_nat wA_sta wA_ini hK hT0 (fun _ h => h) hS0 (by decide) (hY2.at 1 rfl) (hY.at 1 rfl) (fun _ _ _ h => h) (by decide) (by decide) (Nat.le_of_ble_eq_true rfl) (Nat.le_of_ble_eq_true rfl) dX0_copyFrom_12 (fun H1 locs hT1 hS1 hu1 => ?_)
  refine lv_aload_n hx hb dX0_copyFrom_15 rfl (lv_at hl 1 rfl) ?_
  refine h_getr (C := RX0) (T := TX0) (N := 6) hx hb hts inX0 hown hK hT1 (hY2.o rfl) rfl 1 rfl wF_X0_15 rfl dX0_copyFrom_16 ?_
  refine lv_iconst (v := 0) hx hb dX0_copyFrom_19 (by decide) ?_
  refine lv_aload_n hx hb dX0_copyFrom_20 rfl (lv_at hl 0 rfl) ?_
  refine h_getr (C := RX0) (T := TX0) (N := 6) hx hb hts inX0 hown hK hT1 (hY.o rfl) rfl 1 rfl wF_X0_15 rfl dX0_copyFrom_21 ?_
  refine lv_iconst (v := 0) hx hb dX0_copyFrom_24 (by decide) ?_
  refine lv_bipush (v := 8) hx hb dX0_copyFrom_25 (by decide) ?_
  refine h_copy (rest := []) hx hb hts (hml.trans hl.1.symm) hown wL_X0_37 wA_nat wA_sta wA_ini hK hT1 (fun _ h => h) hS1 (by decide) (hY2.at 2 rfl) (hY.at 2 rfl) (fun _ _ _ h => h) (by decide) (by decide) (Nat.le_of_ble_eq_true rfl) (Nat.le_of_ble_eq_true rfl) dX0_copyFrom_27 (fun H2 locs hT2 hS2 hu2 => ?_)
  refine lv_aload_n hx hb dX0_copyFrom_30 rfl (lv_at hl 1 rfl) ?_
  refine h_getr (C := RX0) (T := TX0) (N := 6) hx hb hts inX0 hown hK hT2 (hY2.o rfl) rfl 2 rfl wF_X0_18 rfl dX0_copyFrom_31 ?_
  refine lv_iconst (v := 0) hx hb dX0_copyFrom_34 (by decide) ?_
  refine lv_aload_n hx hb dX0_copyFrom_35 rfl (lv_at hl 0 rfl) ?_
  refine h_getr (C := RX0) (T := TX0) (N := 6) hx hb hts inX0 hown hK hT2 (hY.o rfl) rfl 2 rfl wF_X0_18 rfl dX0_copyFrom_36 ?_
  refine lv_iconst (v := 0) hx hb dX0_copyFrom_39 (by decide) ?_
  refine lv_bipush (v := 8) hx hb dX0_copyFrom_40 (by decide) ?_
  refine h_copy (rest := []) hx hb hts (hml.trans hl.1.symm) hown wL_X0_37 wA_nat wA_sta wA_ini hK hT2 (fun _ h => h) hS2 (by decide) (hY2.at 3 rfl) (hY.at 3 rfl) (fun _ _ _ h => h) (by decide) (by decide) (Nat.le_of_ble_eq_true rfl) (Nat.le_of_ble_eq_true rfl) dX0_copyFrom_42 (fun H3 locs hT3 hS3 hu3 => ?_)
  refine lv_aload_n hx hb dX0_copyFrom_45 rfl (lv_at hl 1 rfl) ?_
  refine h_getr (C := RX0) (T := TX0) (N := 6) hx hb hts inX0 hown hK hT3 (hY2.o rfl) rfl 3 rfl wF_X0_21 rfl dX0_copyFrom_46 ?_
  refine lv_iconst (v := 0) hx hb dX0_copyFrom_49 (by decide) ?_
  refine lv_aload_n hx hb dX0_copyFrom_50 rfl (lv_at hl 0 rfl) ?_
  refine h_getr (C := RX0) (T := TX0) (N := 6) hx hb hts inX0 hown hK hT3 (hY.o rfl) rfl 3 rfl wF_X0_21 rfl dX0_copyFrom_51 ?_
  refine lv_iconst (v := 0) hx hb dX0_copyFrom_54 (by decide) ?_
  refine lv_bipush (v := 96) hx hb dX0_copyFrom_55 (by decide) ?_
  refine h_copy (rest := []) hx hb hts (hml.trans hl.1.symm) hown wL_X0_37 wA_nat wA_sta wA_ini hK hT3 (fun _ h => h) hS3 (by decide) (hY2.at 4 rfl) (hY.at 4 rfl) (fun _ _ _ h => h) (by decide) (by decide) (Nat.le_of_ble_eq_true rfl) (Nat.le_of_ble_eq_true rfl) dX0_copyFrom_57 (fun H4 locs hT4 hS4 hu4 => ?_)
  refine lv_aload_n hx hb dX0_copyFrom_60 rfl (lv_at hl 1 rfl) ?_
  refine h_getr (C := RX0) (T := TX0) (N := 6) hx hb hts inX0 hown hK hT4 (hY2.o rfl) rfl 4 rfl wF_X0_24 rfl dX0_copyFrom_61 ?_
  refine lv_iconst (v := 0) hx hb dX0_copyFrom_64 (by decide) ?_
  refine lv_aload_n hx hb dX0_copyFrom_65 rfl (lv_at hl 0 rfl) ?_
  refine h_getr (C := RX0) (T := TX0) (N := 6) hx hb hts inX0 hown hK hT4 (hY.o rfl) rfl 4 rfl wF_X0_24 rfl dX0_copyFrom_66 ?_
  refine lv_iconst (v := 0) hx hb dX0_copyFrom_69 (by decide) ?_
  refine lv_bipush (v := 72) hx hb dX0_copyFrom_70 (by decide) ?_
  refine h_copy (rest := []) hx hb hts (hml.trans hl.1.symm) hown wL_X0_37 wA_nat wA_sta wA_ini hK hT4 (fun _ h => h) hS4 (by decide) (hY2.at 5 rfl) (hY.at 5 rfl) (fun _ _ _ h => h) (by decide) (by decide) (Nat.le_of_ble_eq_true rfl) (Nat.le_of_ble_eq_true rfl) dX0_copyFrom_72 (fun H5 locs hT5 hS5 hu5 => ?_)
  refine lv_aload_n hx hb dX0_copyFrom_75 rfl (lv_at hl 0 rfl) ?_
  refine lv_aload_n hx hb dX0_copyFrom_76 rfl (lv_at hl 1 rfl) ?_
  refine h_getc (v := 0) (C := RX0) (T := TX0) (N := 6) hx hb hts inX0 hown hK hT5 (hY2.o rfl) rfl 5 rfl wF_X0_27 rfl (fun _ h => h) dX0_copyFrom_77 ?_
  refine h_puti (C := RX0) (T := TX0) (N := 6) hx hb hts inX0 tyX0 tyX0_ok nmX0 hown hK hT5 (fun _ h => h) hS5 (hY.o rfl) rfl 5 rfl wF_X0_27 rfl rfl rfl rfl rfl dX0_copyFrom_80 (fun H6 locs hT6 hS6 hu6 => ?_)
  exact hret _ _ _ _ hT6 hS6 (fun q hq => ((hu6.2.1 q (by omega)).trans ((hu5.2.1 q (by omega)).trans ((hu4.2.1 q (by omega)).trans ((hu3.2.1 q (by omega)).trans ((hu2.2.1 q (by omega)).trans (hu1.2.1 q (by omega)))))))) dX0_copyFrom_83
set_option maxHeartbeats 4000000 in
set_option maxRecDepth 100000 in
theorem c_X8_copyFrom (l : Launch) (G : hG) (Y : hW) (o o2 : Nat) (hY : h_On Y o (taE tF o)) (hY2 : h_On Y o2 (taE tF o2)) : hMv l yX8_copyFrom cX8_copyFrom 2 none 1 60 G Y [.ref (o), .ref (o2)] (fun H => True) (fun H H1 => ∀ q : Nat, (q < o ∨ o + 2 ≤ q) → H1[q]? = H[q]?) := by
  refine h_ofv (by decide +kernel) (Nat.le_of_ble_eq_true rfl) ?_
  intro p e s m args below meth c H0 ls Q hx hb hts hown hml hK hT0 hpr hS0 hl hret
  have hl : lv_has ls 2 [(0, .ref (o)), (1, .ref (o2))] := hl
  refine lv_aload_n hx hb dX8_copyFrom_0 rfl (lv_at hl 1 rfl) ?_
  refine h_getr (C := RX8) (T := TX8) (N := 4) hx hb hts inX8 hown hK hT0 (hY2.o rfl) rfl 0 rfl wF_X8_9 rfl dX8_copyFrom_1 ?_
  refine lv_iconst (v := 0) hx hb dX8_copyFrom_4 (by decide) ?_
  refine lv_aload_n hx hb dX8_copyFrom_5 rfl (lv_at hl 0 rfl) ?_
  refine h_getr (C := RX8) (T := TX8) (N := 4) hx hb hts inX8 hown hK hT0 (hY.o rfl) rfl 0 rfl wF_X8_9 rfl dX8_copyFrom_6 ?_
  refine lv_iconst (v := 0) hx hb dX8_copyFrom_9 (by decide) ?_
  refine lv_sipush (v := 500) hx hb dX8_copyFrom_10 (by decide) ?_
  refine h_copy (rest := []) hx hb hts (hml.trans hl.1.symm) hown wL_X8_25 wA_nat wA_sta wA_ini hK hT0 (fun _ h => h) hS0 (by decide) (hY2.at 1 rfl) (hY.at 1 rfl) (fun _ _ _ h => h) (by decide) (by decide) (Nat.le_of_ble_eq_true rfl) (Nat.le_of_ble_eq_true rfl) dX8_copyFrom_13 (fun H1 locs hT1 hS1 hu1 => ?_)
  refine lv_aload_n hx hb dX8_copyFrom_16 rfl (lv_at hl 0 rfl) ?_
  refine lv_aload_n hx hb dX8_copyFrom_17 rfl (lv_at hl 1 rfl) ?_
  refine h_geti (C := RX8) (T := TX8) (N := 4) hx hb hts inX8 hown hK hT1 (hY2.o rfl) rfl 1 rfl wF_X8_15 rfl dX8_copyFrom_18 (fun p1 => ?_)
  refine lv_topi (fun x2 ex2 => ?_)
  refine h_puti (C := RX8) (T := TX8) (N := 4) hx hb hts inX8 tyX8 tyX8_ok nmX8 hown hK hT1 (fun _ h => h) hS1 (hY.o rfl) rfl 1 rfl wF_X8_15 rfl rfl trivial rfl rfl dX8_copyFrom_21 (fun H2 locs hT2 hS2 hu2 => ?_)
  refine lv_aload_n hx hb dX8_copyFrom_24 rfl (lv_at hl 0 rfl) ?_
  refine lv_aload_n hx hb dX8_copyFrom_25 rfl (lv_at hl 1 rfl) ?_
  refine h_geti (C := RX8) (T := TX8) (N := 4) hx hb hts inX8 hown hK hT2 (hY2.o rfl) rfl 2 rfl wF_X8_19 rfl dX8_copyFrom_26 (fun p3 => ?_)
  refine lv_topi (fun x4 ex4 => ?_)
  refine h_puti (C := RX8) (T := TX8) (N := 4) hx hb hts inX8 tyX8 tyX8_ok nmX8 hown hK hT2 (fun _ h => h) hS2 (hY.o rfl) rfl 2 rfl wF_X8_19 rfl rfl trivial rfl rfl dX8_copyFrom_29 (fun H3 locs hT3 hS3 hu3 => ?_)
  refine lv_aload_n hx hb dX8_copyFrom_32 rfl (lv_at hl 0 rfl) ?_
  refine lv_aload_n hx hb dX8_copyFrom_33 rfl (lv_at hl 1 rfl) ?_
  refine h_geti (C := RX8) (T := TX8) (N := 4) hx hb hts inX8 hown hK hT3 (hY2.o rfl) rfl 3 rfl wF_X8_22 rfl dX8_copyFrom_34 (fun p5 => ?_)
  refine lv_topi (fun x6 ex6 => ?_)
  refine h_puti (C := RX8) (T := TX8) (N := 4) hx hb hts inX8 tyX8 tyX8_ok nmX8 hown hK hT3 (fun _ h => h) hS3 (hY.o rfl) rfl 3 rfl wF_X8_22 rfl rfl trivial rfl rfl dX8_copyFrom_37 (fun H4 locs hT4 hS4 hu4 => ?_)
  exact hret _ _ _ _ hT4 hS4 (fun q hq => ((hu4.2.1 q (by omega)).trans ((hu3.2.1 q (by omega)).trans ((hu2.2.1 q (by omega)).trans (hu1.2.1 q (by omega)))))) dX8_copyFrom_40
set_option maxHeartbeats 4000000 in
set_option maxRecDepth 100000 in
theorem c_X7_setBreak (l : Launch) (G : hG) (Y : hW) (o : Nat) (hY : h_On Y o (stE tF o)) : hMv l yX7_setBreak cX7_setBreak 3 none 0 0 G Y [.ref (o), .int (-1), .int (-1)] (fun H => True) (fun H H1 => True) := by
  refine h_ofv (by decide +kernel) (Nat.le_of_ble_eq_true rfl) ?_
  intro p e s m args below meth c H0 ls Q hx hb hts hown hml hK hT0 hpr hS0 hl hret
  have hl : lv_has ls 3 [(0, .ref (o)), (1, .int (-1)), (2, .int (-1))] := hl
  refine lv_aload_n hx hb dX7_setBreak_0 rfl (lv_at hl 0 rfl) ?_
  refine lv_iload_n hx hb dX7_setBreak_1 rfl (lv_at hl 1 rfl) ?_
  refine h_puti (C := RX7) (T := TX7) (N := 9) hx hb hts inX7 tyX7 tyX7_ok nmX7 hown hK hT0 (fun _ h => h) hS0 (hY.o rfl) rfl 7 rfl wF_X7_35 rfl rfl rfl rfl rfl dX7_setBreak_2 (fun H1 locs hT1 hS1 hu1 => ?_)
  refine lv_aload_n hx hb dX7_setBreak_5 rfl (lv_at hl 0 rfl) ?_
  refine lv_iload_n hx hb dX7_setBreak_6 rfl (lv_at hl 2 rfl) ?_
  refine h_puti (C := RX7) (T := TX7) (N := 9) hx hb hts inX7 tyX7 tyX7_ok nmX7 hown hK hT1 (fun _ h => h) hS1 (hY.o rfl) rfl 8 rfl wF_X7_38 rfl rfl rfl rfl rfl dX7_setBreak_7 (fun H2 locs hT2 hS2 hu2 => ?_)
  exact hret _ _ _ _ hT2 hS2 trivial dX7_setBreak_10
set_option maxHeartbeats 4000000 in
set_option maxRecDepth 100000 in
theorem c_X7_clear (l : Launch) (G : hG) (Y : hW) (o : Nat) (hY : h_On Y o (stE tF o)) : hMv l yX7_clear cX7_clear 1 none 1 22 G Y [.ref (o)] (fun H => True) (fun H H1 => True) := by
  refine h_ofv (by decide +kernel) (Nat.le_of_ble_eq_true rfl) ?_
  intro p e s m args below meth c H0 ls Q hx hb hts hown hml hK hT0 hpr hS0 hl hret
  have hl : lv_has ls 1 [(0, .ref (o))] := hl
  refine lv_aload_n hx hb dX7_clear_0 rfl (lv_at hl 0 rfl) ?_
  refine lv_iconst (v := 0) hx hb dX7_clear_1 (by decide) ?_
  refine h_puti (C := RX7) (T := TX7) (N := 9) hx hb hts inX7 tyX7 tyX7_ok nmX7 hown hK hT0 (fun _ h => h) hS0 (hY.o rfl) rfl 5 rfl wF_X7_28 rfl rfl rfl rfl rfl dX7_clear_2 (fun H1 locs hT1 hS1 hu1 => ?_)
  refine lv_aload_n hx hb dX7_clear_5 rfl (lv_at hl 0 rfl) ?_
  refine lv_iconst (v := (-1)) hx hb dX7_clear_6 (by decide) ?_
  refine h_puti (C := RX7) (T := TX7) (N := 9) hx hb hts inX7 tyX7 tyX7_ok nmX7 hown hK hT1 (fun _ h => h) hS1 (hY.o rfl) rfl 6 rfl wF_X7_32 rfl rfl rfl rfl rfl dX7_clear_7 (fun H2 locs hT2 hS2 hu2 => ?_)
  refine lv_aload_n hx hb dX7_clear_10 rfl (lv_at hl 0 rfl) ?_
  refine lv_iconst (v := (-1)) hx hb dX7_clear_11 (by decide) ?_
  refine lv_iconst (v := (-1)) hx hb dX7_clear_12 (by decide) ?_
  refine h_callVv (T := TX7) (rest := []) (As := [.int (-1), .int (-1)]) hx hb hml hown hts hK hT2 (fun _ h => h) hS2 (c_X7_setBreak l G Y (o) hY) trivial wd_X7_setBreak wV_X7_setBreak wL_X7_41 (hY.o rfl) rfl rfl hl.1 rfl (Nat.le_of_ble_eq_true rfl) dX7_clear_13 ⟨Nat.le_of_ble_eq_true rfl, Nat.le_of_ble_eq_true rfl⟩ ⟨Nat.zero_le _, Nat.zero_le _⟩ (fun H3 locs hp3 hT3 hS3 hk3 => ?_)
  exact hret _ _ _ _ hT3 hS3 trivial dX7_clear_16
set_option maxHeartbeats 4000000 in
set_option maxRecDepth 100000 in
theorem c_X2_clear (l : Launch) (G : hG) (Y : hW) (o : Nat) (hY : h_On Y o (quE tF o)) : hMv l yX2_clear cX2_clear 1 none 1 23 G Y [.ref (o)] (fun H => True) (fun H H1 => True) := by
  refine h_ofv (by decide +kernel) (Nat.le_of_ble_eq_true rfl) ?_
  intro p e s m args below meth c H0 ls Q hx hb hts hown hml hK hT0 hpr hS0 hl hret
  have hl : lv_has ls 1 [(0, .ref (o))] := hl
  refine lv_aload_n hx hb dX2_clear_0 rfl (lv_at hl 0 rfl) ?_
  refine h_getr (C := RX2) (T := TX2) (N := 5) hx hb hts inX2 hown hK hT0 (hY.o rfl) rfl 4 rfl wF_X2_24 rfl dX2_clear_1 ?_
  refine lv_iconst (v := 0) hx hb dX2_clear_4 (by decide) ?_
  refine h_callSv (rest := []) (As := [.ref (o + 5), .int 0]) hx hb hml hown hts hK hT0 (fun _ h => h) hS0 (c_fill l G Y (o + 5) 8 _ 0 (hY.at 5 rfl) (by decide) (fun _ _ => rfl)) trivial wd_J7_fill_53178 wS_J7_fill_53178 wL_X2_27 rfl hl.1 rfl (Nat.le_of_ble_eq_true rfl) dX2_clear_5 ⟨Nat.le_of_ble_eq_true rfl, Nat.le_of_ble_eq_true rfl⟩ ⟨Nat.zero_le _, Nat.zero_le _⟩ (fun H1 locs hp1 hT1 hS1 hk1 => ?_)
  exact hret _ _ _ _ hT1 hS1 trivial dX2_clear_8
set_option maxHeartbeats 4000000 in
set_option maxRecDepth 100000 in
theorem c_X3_clear (l : Launch) (G : hG) (Y : hW) (o : Nat) (hY : h_On Y o (raE tF o)) : hMv l yX3_clear cX3_clear 1 none 1 23 G Y [.ref (o)] (fun H => True) (fun H H1 => True) := by
  refine h_ofv (by decide +kernel) (Nat.le_of_ble_eq_true rfl) ?_
  intro p e s m args below meth c H0 ls Q hx hb hts hown hml hK hT0 hpr hS0 hl hret
  have hl : lv_has ls 1 [(0, .ref (o))] := hl
  refine lv_aload_n hx hb dX3_clear_0 rfl (lv_at hl 0 rfl) ?_
  refine h_getr (C := RX3) (T := TX3) (N := 3) hx hb hts inX3 hown hK hT0 (hY.o rfl) rfl 2 rfl wF_X3_18 rfl dX3_clear_1 ?_
  refine lv_iconst (v := 0) hx hb dX3_clear_4 (by decide) ?_
  refine h_callSv (rest := []) (As := [.ref (o + 3), .int 0]) hx hb hml hown hts hK hT0 (fun _ h => h) hS0 (c_fill l G Y (o + 3) 8 _ 0 (hY.at 3 rfl) (by decide) (fun _ _ => rfl)) trivial wd_J7_fill_53178 wS_J7_fill_53178 wL_X3_21 rfl hl.1 rfl (Nat.le_of_ble_eq_true rfl) dX3_clear_5 ⟨Nat.le_of_ble_eq_true rfl, Nat.le_of_ble_eq_true rfl⟩ ⟨Nat.zero_le _, Nat.zero_le _⟩ (fun H1 locs hp1 hT1 hS1 hk1 => ?_)
  exact hret _ _ _ _ hT1 hS1 trivial dX3_clear_8
set_option maxHeartbeats 4000000 in
set_option maxRecDepth 100000 in
theorem c_X9_clear (l : Launch) (G : hG) (Y : hW) (o : Nat) (hY : h_On Y o (waE tF o)) : hMv l yX9_clear cX9_clear 1 none 0 0 G Y [.ref (o)] (fun H => True) (fun H H1 => True) := by
  refine h_ofv (by decide +kernel) (Nat.le_of_ble_eq_true rfl) ?_
  intro p e s m args below meth c H0 ls Q hx hb hts hown hml hK hT0 hpr hS0 hl hret
  have hl : lv_has ls 1 [(0, .ref (o))] := hl
  refine lv_aload_n hx hb dX9_clear_0 rfl (lv_at hl 0 rfl) ?_
  refine lv_iconst (v := 0) hx hb dX9_clear_1 (by decide) ?_
  refine h_puti (C := RX9) (T := TX9) (N := 11) hx hb hts inX9 tyX9 tyX9_ok nmX9 hown hK hT0 (fun _ h => h) hS0 (hY.o rfl) rfl 0 rfl wF_X9_9 rfl rfl rfl rfl rfl dX9_clear_2 (fun H1 locs hT1 hS1 hu1 => ?_)
  refine lv_aload_n hx hb dX9_clear_5 rfl (lv_at hl 0 rfl) ?_
  refine lv_iconst (v := (-1)) hx hb dX9_clear_6 (by decide) ?_
  refine h_puti (C := RX9) (T := TX9) (N := 11) hx hb hts inX9 tyX9 tyX9_ok nmX9 hown hK hT1 (fun _ h => h) hS1 (hY.o rfl) rfl 1 rfl wF_X9_15 rfl rfl trivial rfl rfl dX9_clear_7 (fun H2 locs hT2 hS2 hu2 => ?_)
  refine lv_aload_n hx hb dX9_clear_10 rfl (lv_at hl 0 rfl) ?_
  refine lv_iconst (v := 0) hx hb dX9_clear_11 (by decide) ?_
  refine h_puti (C := RX9) (T := TX9) (N := 11) hx hb hts inX9 tyX9 tyX9_ok nmX9 hown hK hT2 (fun _ h => h) hS2 (hY.o rfl) rfl 2 rfl wF_X9_18 rfl rfl trivial rfl rfl dX9_clear_12 (fun H3 locs hT3 hS3 hu3 => ?_)
  refine lv_aload_n hx hb dX9_clear_15 rfl (lv_at hl 0 rfl) ?_
  refine lv_iconst (v := 0) hx hb dX9_clear_16 (by decide) ?_
  refine h_puti (C := RX9) (T := TX9) (N := 11) hx hb hts inX9 tyX9 tyX9_ok nmX9 hown hK hT3 (fun _ h => h) hS3 (hY.o rfl) rfl 3 rfl wF_X9_21 rfl rfl trivial rfl rfl dX9_clear_17 (fun H4 locs hT4 hS4 hu4 => ?_)
  refine lv_aload_n hx hb dX9_clear_20 rfl (lv_at hl 0 rfl) ?_
  refine lv_iconst (v := 0) hx hb dX9_clear_21 (by decide) ?_
  refine h_puti (C := RX9) (T := TX9) (N := 11) hx hb hts inX9 tyX9 tyX9_ok nmX9 hown hK hT4 (fun _ h => h) hS4 (hY.o rfl) rfl 4 rfl wF_X9_24 rfl rfl rfl rfl rfl dX9_clear_22 (fun H5 locs hT5 hS5 hu5 => ?_)
  exact hret _ _ _ _ hT5 hS5 trivial dX9_clear_25
set_option maxHeartbeats 4000000 in
set_option maxRecDepth 100000 in
theorem c_X6_restart (l : Launch) (G : hG) (Y : hW) (o : Nat) (hY : h_On Y o (siE tF o)) : hMv l yX6_restart cX6_restart 1 none 0 0 G Y [.ref (o)] (fun H => True) (fun H H1 => True) := by
  refine h_ofv (by decide +kernel) (Nat.le_of_ble_eq_true rfl) ?_
  intro p e s m args below meth c H0 ls Q hx hb hts hown hml hK hT0 hpr hS0 hl hret
  have hl : lv_has ls 1 [(0, .ref (o))] := hl
  refine lv_aload_n hx hb dX6_restart_0 rfl (lv_at hl 0 rfl) ?_
  refine lv_iconst (v := 0) hx hb dX6_restart_1 (by decide) ?_
  refine h_puti (C := RX6) (T := TX6) (N := 4) hx hb hts inX6 tyX6 tyX6_ok nmX6 hown hK hT0 (fun _ h => h) hS0 (hY.o rfl) rfl 0 rfl wF_X6_9 rfl rfl trivial rfl rfl dX6_restart_2 (fun H1 locs hT1 hS1 hu1 => ?_)
  refine lv_aload_n hx hb dX6_restart_5 rfl (lv_at hl 0 rfl) ?_
  refine lv_iconst (v := 0) hx hb dX6_restart_6 (by decide) ?_
  refine h_puti (C := RX6) (T := TX6) (N := 4) hx hb hts inX6 tyX6 tyX6_ok nmX6 hown hK hT1 (fun _ h => h) hS1 (hY.o rfl) rfl 1 rfl wF_X6_15 rfl rfl rfl rfl rfl dX6_restart_7 (fun H2 locs hT2 hS2 hu2 => ?_)
  refine lv_aload_n hx hb dX6_restart_10 rfl (lv_at hl 0 rfl) ?_
  refine lv_iconst (v := (-1)) hx hb dX6_restart_11 (by decide) ?_
  refine h_puti (C := RX6) (T := TX6) (N := 4) hx hb hts inX6 tyX6 tyX6_ok nmX6 hown hK hT2 (fun _ h => h) hS2 (hY.o rfl) rfl 2 rfl wF_X6_18 rfl rfl rfl rfl rfl dX6_restart_12 (fun H3 locs hT3 hS3 hu3 => ?_)
  refine lv_aload_n hx hb dX6_restart_15 rfl (lv_at hl 0 rfl) ?_
  refine lv_iconst (v := (-1)) hx hb dX6_restart_16 (by decide) ?_
  refine h_puti (C := RX6) (T := TX6) (N := 4) hx hb hts inX6 tyX6 tyX6_ok nmX6 hown hK hT3 (fun _ h => h) hS3 (hY.o rfl) rfl 3 rfl wF_X6_21 rfl rfl rfl rfl rfl dX6_restart_17 (fun H4 locs hT4 hS4 hu4 => ?_)
  exact hret _ _ _ _ hT4 hS4 trivial dX6_restart_20
set_option maxHeartbeats 4000000 in
set_option maxRecDepth 100000 in
theorem c_X0_clear (l : Launch) (G : hG) (Y : hW) (o : Nat) (hY : h_On Y o (boE tF o)) : hMv l yX0_clear cX0_clear 1 none 1 23 G Y [.ref (o)] (fun H => True) (fun H H1 => True) := by
  refine h_ofv (by decide +kernel) (Nat.le_of_ble_eq_true rfl) ?_
  intro p e s m args below meth c H0 ls Q hx hb hts hown hml hK hT0 hpr hS0 hl hret
  have hl : lv_has ls 1 [(0, .ref (o))] := hl
  refine lv_aload_n hx hb dX0_clear_0 rfl (lv_at hl 0 rfl) ?_
  refine h_getr (C := RX0) (T := TX0) (N := 6) hx hb hts inX0 hown hK hT0 (hY.o rfl) rfl 0 rfl wF_X0_9 rfl dX0_clear_1 ?_
  refine lv_iconst (v := 0) hx hb dX0_clear_4 (by decide) ?_
  refine h_callSv (rest := []) (As := [.ref (o + 1), .int 0]) hx hb hml hown hts hK hT0 (fun _ h => h) hS0 (c_fill l G Y (o + 1) 10 _ 0 (hY.at 1 rfl) (by decide) (fun _ _ => rfl)) trivial wd_J7_fill_53178 wS_J7_fill_53178 wL_X0_31 rfl hl.1 rfl (Nat.le_of_ble_eq_true rfl) dX0_clear_5 ⟨Nat.le_of_ble_eq_true rfl, Nat.le_of_ble_eq_true rfl⟩ ⟨Nat.zero_le _, Nat.zero_le _⟩ (fun H1 locs hp1 hT1 hS1 hk1 => ?_)
  refine lv_aload_n hx hb dX0_clear_8 rfl (lv_at hl 0 rfl) ?_
  refine h_getr (C := RX0) (T := TX0) (N := 6) hx hb hts inX0 hown hK hT1 (hY.o rfl) rfl 1 rfl wF_X0_15 rfl dX0_clear_9 ?_
  refine lv_iconst (v := 0) hx hb dX0_clear_12 (by decide) ?_
  refine h_callSv (rest := []) (As := [.ref (o + 2), .int 0]) hx hb hml hown hts hK hT1 (fun _ h => h) hS1 (c_fill l G Y (o + 2) 8 _ 0 (hY.at 2 rfl) (by decide) (fun _ _ => rfl)) trivial wd_J7_fill_53178 wS_J7_fill_53178 wL_X0_31 rfl hl.1 rfl (Nat.le_of_ble_eq_true rfl) dX0_clear_13 ⟨Nat.le_of_ble_eq_true rfl, Nat.le_of_ble_eq_true rfl⟩ ⟨Nat.zero_le _, Nat.zero_le _⟩ (fun H2 locs hp2 hT2 hS2 hk2 => ?_)
  refine lv_aload_n hx hb dX0_clear_16 rfl (lv_at hl 0 rfl) ?_
  refine h_getr (C := RX0) (T := TX0) (N := 6) hx hb hts inX0 hown hK hT2 (hY.o rfl) rfl 2 rfl wF_X0_18 rfl dX0_clear_17 ?_
  refine lv_iconst (v := 0) hx hb dX0_clear_20 (by decide) ?_
  refine h_callSv (rest := []) (As := [.ref (o + 3), .int 0]) hx hb hml hown hts hK hT2 (fun _ h => h) hS2 (c_fill l G Y (o + 3) 8 _ 0 (hY.at 3 rfl) (by decide) (fun _ _ => rfl)) trivial wd_J7_fill_53178 wS_J7_fill_53178 wL_X0_31 rfl hl.1 rfl (Nat.le_of_ble_eq_true rfl) dX0_clear_21 ⟨Nat.le_of_ble_eq_true rfl, Nat.le_of_ble_eq_true rfl⟩ ⟨Nat.zero_le _, Nat.zero_le _⟩ (fun H3 locs hp3 hT3 hS3 hk3 => ?_)
  refine lv_aload_n hx hb dX0_clear_24 rfl (lv_at hl 0 rfl) ?_
  refine lv_iconst (v := 0) hx hb dX0_clear_25 (by decide) ?_
  refine h_puti (C := RX0) (T := TX0) (N := 6) hx hb hts inX0 tyX0 tyX0_ok nmX0 hown hK hT3 (fun _ h => h) hS3 (hY.o rfl) rfl 5 rfl wF_X0_27 rfl rfl rfl rfl rfl dX0_clear_26 (fun H4 locs hT4 hS4 hu4 => ?_)
  exact hret _ _ _ _ hT4 hS4 trivial dX0_clear_29
set_option maxHeartbeats 4000000 in
set_option maxRecDepth 100000 in
theorem c_X2_slotOf (l : Launch) (G : hG) (Y : hW) (o : Nat) (hY : h_On Y o (quE tF o)) (u1 : Int32) : hMi l yX2_slotOf cX2_slotOf 4 (some .int) 0 0 G Y [.ref (o), .int u1] (fun H => True) (fun H r H1 => r = (-1) ∧ H1 = H) := by
  refine h_ofi (by decide +kernel) (Nat.le_of_ble_eq_true rfl) ?_
  intro p e s m args below meth c H0 ls Q hx hb hts hown hml hK hT0 hpr hS0 hl hret
  have hl : lv_has ls 4 [(0, .ref (o)), (1, .int u1)] := hl
  refine lv_iconst (v := 0) hx hb dX2_slotOf_0 (by decide) ?_
  refine lv_istore_n (lv' := [(2, .int 0), (0, .ref (o)), (1, .int u1)]) hx hb dX2_slotOf_1 rfl hl (by decide) rfl (fun ls hl => ?_)
  refine lv_iload_n hx hb dX2_slotOf_2 rfl (lv_at hl 0 rfl) ?_
  refine lv_bipush (v := 8) hx hb dX2_slotOf_3 (by decide) ?_
  refine lv_icmp_ge (tgt := 53) hx hb dX2_slotOf_5 (by decide) (fun h => absurd h (by decide)) (fun _ => ?_)
  refine lv_iconst (v := 0) hx hb dX2_slotOf_8 (by decide) ?_
  refine lv_istore_n (lv' := [(3, .int 0), (2, .int 0), (0, .ref (o)), (1, .int u1)]) hx hb dX2_slotOf_9 rfl hl (by decide) rfl (fun ls hl => ?_)
  refine lv_iload_n hx hb dX2_slotOf_10 rfl (lv_at hl 0 rfl) ?_
  refine lv_aload_n hx hb dX2_slotOf_11 rfl (lv_at hl 2 rfl) ?_
  refine h_getr (C := RX2) (T := TX2) (N := 5) hx hb hts inX2 hown hK hT0 (hY.o rfl) rfl 4 rfl wF_X2_24 rfl dX2_slotOf_12 ?_
  refine lv_iload_n hx hb dX2_slotOf_15 rfl (lv_at hl 1 rfl) ?_
  refine h_iald hx hb hK hT0 (hY.at 5 rfl) (h_inc (by decide)) dX2_slotOf_16 (fun p2 => ?_)
  refine h_top (v := 0) p2 ?_
  refine lv_icmp_ge (tgt := 47) hx hb dX2_slotOf_17 (by decide) (fun _ => ?_) (fun h => absurd (by decide) h)
  refine lv_iinc (v := 1) (lv' := [(2, .int 1), (3, .int 0), (0, .ref (o)), (1, .int u1)]) hx hb dX2_slotOf_47 hl (k := 1) rfl (by decide) (by decide) rfl (fun ls hl => ?_)
  refine lv_goto (tgt := 2) hx hb dX2_slotOf_50 (by decide) ?_
  refine lv_iload_n hx hb dX2_slotOf_2 rfl (lv_at hl 0 rfl) ?_
  refine lv_bipush (v := 8) hx hb dX2_slotOf_3 (by decide) ?_
  refine lv_icmp_ge (tgt := 53) hx hb dX2_slotOf_5 (by decide) (fun h => absurd h (by decide)) (fun _ => ?_)
  refine lv_iconst (v := 0) hx hb dX2_slotOf_8 (by decide) ?_
  refine lv_istore_n (lv' := [(3, .int 0), (2, .int 1), (0, .ref (o)), (1, .int u1)]) hx hb dX2_slotOf_9 rfl hl (by decide) rfl (fun ls hl => ?_)
  refine lv_iload_n hx hb dX2_slotOf_10 rfl (lv_at hl 0 rfl) ?_
  refine lv_aload_n hx hb dX2_slotOf_11 rfl (lv_at hl 2 rfl) ?_
  refine h_getr (C := RX2) (T := TX2) (N := 5) hx hb hts inX2 hown hK hT0 (hY.o rfl) rfl 4 rfl wF_X2_24 rfl dX2_slotOf_12 ?_
  refine lv_iload_n hx hb dX2_slotOf_15 rfl (lv_at hl 1 rfl) ?_
  refine h_iald hx hb hK hT0 (hY.at 5 rfl) (h_inc (by decide)) dX2_slotOf_16 (fun p5 => ?_)
  refine h_top (v := 0) p5 ?_
  refine lv_icmp_ge (tgt := 47) hx hb dX2_slotOf_17 (by decide) (fun _ => ?_) (fun h => absurd (by decide) h)
  refine lv_iinc (v := 2) (lv' := [(2, .int 2), (3, .int 0), (0, .ref (o)), (1, .int u1)]) hx hb dX2_slotOf_47 hl (k := 1) rfl (by decide) (by decide) rfl (fun ls hl => ?_)
  refine lv_goto (tgt := 2) hx hb dX2_slotOf_50 (by decide) ?_
  refine lv_iload_n hx hb dX2_slotOf_2 rfl (lv_at hl 0 rfl) ?_
  refine lv_bipush (v := 8) hx hb dX2_slotOf_3 (by decide) ?_
  refine lv_icmp_ge (tgt := 53) hx hb dX2_slotOf_5 (by decide) (fun h => absurd h (by decide)) (fun _ => ?_)
  refine lv_iconst (v := 0) hx hb dX2_slotOf_8 (by decide) ?_
  refine lv_istore_n (lv' := [(3, .int 0), (2, .int 2), (0, .ref (o)), (1, .int u1)]) hx hb dX2_slotOf_9 rfl hl (by decide) rfl (fun ls hl => ?_)
  refine lv_iload_n hx hb dX2_slotOf_10 rfl (lv_at hl 0 rfl) ?_
  refine lv_aload_n hx hb dX2_slotOf_11 rfl (lv_at hl 2 rfl) ?_
  refine h_getr (C := RX2) (T := TX2) (N := 5) hx hb hts inX2 hown hK hT0 (hY.o rfl) rfl 4 rfl wF_X2_24 rfl dX2_slotOf_12 ?_
  refine lv_iload_n hx hb dX2_slotOf_15 rfl (lv_at hl 1 rfl) ?_
  refine h_iald hx hb hK hT0 (hY.at 5 rfl) (h_inc (by decide)) dX2_slotOf_16 (fun p8 => ?_)
  refine h_top (v := 0) p8 ?_
  refine lv_icmp_ge (tgt := 47) hx hb dX2_slotOf_17 (by decide) (fun _ => ?_) (fun h => absurd (by decide) h)
  refine lv_iinc (v := 3) (lv' := [(2, .int 3), (3, .int 0), (0, .ref (o)), (1, .int u1)]) hx hb dX2_slotOf_47 hl (k := 1) rfl (by decide) (by decide) rfl (fun ls hl => ?_)
  refine lv_goto (tgt := 2) hx hb dX2_slotOf_50 (by decide) ?_
  refine lv_iload_n hx hb dX2_slotOf_2 rfl (lv_at hl 0 rfl) ?_
  refine lv_bipush (v := 8) hx hb dX2_slotOf_3 (by decide) ?_
  refine lv_icmp_ge (tgt := 53) hx hb dX2_slotOf_5 (by decide) (fun h => absurd h (by decide)) (fun _ => ?_)
  refine lv_iconst (v := 0) hx hb dX2_slotOf_8 (by decide) ?_
  refine lv_istore_n (lv' := [(3, .int 0), (2, .int 3), (0, .ref (o)), (1, .int u1)]) hx hb dX2_slotOf_9 rfl hl (by decide) rfl (fun ls hl => ?_)
  refine lv_iload_n hx hb dX2_slotOf_10 rfl (lv_at hl 0 rfl) ?_
  refine lv_aload_n hx hb dX2_slotOf_11 rfl (lv_at hl 2 rfl) ?_
  refine h_getr (C := RX2) (T := TX2) (N := 5) hx hb hts inX2 hown hK hT0 (hY.o rfl) rfl 4 rfl wF_X2_24 rfl dX2_slotOf_12 ?_
  refine lv_iload_n hx hb dX2_slotOf_15 rfl (lv_at hl 1 rfl) ?_
  refine h_iald hx hb hK hT0 (hY.at 5 rfl) (h_inc (by decide)) dX2_slotOf_16 (fun p11 => ?_)
  refine h_top (v := 0) p11 ?_
  refine lv_icmp_ge (tgt := 47) hx hb dX2_slotOf_17 (by decide) (fun _ => ?_) (fun h => absurd (by decide) h)
  refine lv_iinc (v := 4) (lv' := [(2, .int 4), (3, .int 0), (0, .ref (o)), (1, .int u1)]) hx hb dX2_slotOf_47 hl (k := 1) rfl (by decide) (by decide) rfl (fun ls hl => ?_)
  refine lv_goto (tgt := 2) hx hb dX2_slotOf_50 (by decide) ?_
  refine lv_iload_n hx hb dX2_slotOf_2 rfl (lv_at hl 0 rfl) ?_
  refine lv_bipush (v := 8) hx hb dX2_slotOf_3 (by decide) ?_
  refine lv_icmp_ge (tgt := 53) hx hb dX2_slotOf_5 (by decide) (fun h => absurd h (by decide)) (fun _ => ?_)
  refine lv_iconst (v := 0) hx hb dX2_slotOf_8 (by decide) ?_
  refine lv_istore_n (lv' := [(3, .int 0), (2, .int 4), (0, .ref (o)), (1, .int u1)]) hx hb dX2_slotOf_9 rfl hl (by decide) rfl (fun ls hl => ?_)
  refine lv_iload_n hx hb dX2_slotOf_10 rfl (lv_at hl 0 rfl) ?_
  refine lv_aload_n hx hb dX2_slotOf_11 rfl (lv_at hl 2 rfl) ?_
  refine h_getr (C := RX2) (T := TX2) (N := 5) hx hb hts inX2 hown hK hT0 (hY.o rfl) rfl 4 rfl wF_X2_24 rfl dX2_slotOf_12 ?_
  refine lv_iload_n hx hb dX2_slotOf_15 rfl (lv_at hl 1 rfl) ?_
  refine h_iald hx hb hK hT0 (hY.at 5 rfl) (h_inc (by decide)) dX2_slotOf_16 (fun p14 => ?_)
  refine h_top (v := 0) p14 ?_
  refine lv_icmp_ge (tgt := 47) hx hb dX2_slotOf_17 (by decide) (fun _ => ?_) (fun h => absurd (by decide) h)
  refine lv_iinc (v := 5) (lv' := [(2, .int 5), (3, .int 0), (0, .ref (o)), (1, .int u1)]) hx hb dX2_slotOf_47 hl (k := 1) rfl (by decide) (by decide) rfl (fun ls hl => ?_)
  refine lv_goto (tgt := 2) hx hb dX2_slotOf_50 (by decide) ?_
  refine lv_iload_n hx hb dX2_slotOf_2 rfl (lv_at hl 0 rfl) ?_
  refine lv_bipush (v := 8) hx hb dX2_slotOf_3 (by decide) ?_
  refine lv_icmp_ge (tgt := 53) hx hb dX2_slotOf_5 (by decide) (fun h => absurd h (by decide)) (fun _ => ?_)
  refine lv_iconst (v := 0) hx hb dX2_slotOf_8 (by decide) ?_
  refine lv_istore_n (lv' := [(3, .int 0), (2, .int 5), (0, .ref (o)), (1, .int u1)]) hx hb dX2_slotOf_9 rfl hl (by decide) rfl (fun ls hl => ?_)
  refine lv_iload_n hx hb dX2_slotOf_10 rfl (lv_at hl 0 rfl) ?_
  refine lv_aload_n hx hb dX2_slotOf_11 rfl (lv_at hl 2 rfl) ?_
  refine h_getr (C := RX2) (T := TX2) (N := 5) hx hb hts inX2 hown hK hT0 (hY.o rfl) rfl 4 rfl wF_X2_24 rfl dX2_slotOf_12 ?_
  refine lv_iload_n hx hb dX2_slotOf_15 rfl (lv_at hl 1 rfl) ?_
  refine h_iald hx hb hK hT0 (hY.at 5 rfl) (h_inc (by decide)) dX2_slotOf_16 (fun p17 => ?_)
  refine h_top (v := 0) p17 ?_
  refine lv_icmp_ge (tgt := 47) hx hb dX2_slotOf_17 (by decide) (fun _ => ?_) (fun h => absurd (by decide) h)
  refine lv_iinc (v := 6) (lv' := [(2, .int 6), (3, .int 0), (0, .ref (o)), (1, .int u1)]) hx hb dX2_slotOf_47 hl (k := 1) rfl (by decide) (by decide) rfl (fun ls hl => ?_)
  refine lv_goto (tgt := 2) hx hb dX2_slotOf_50 (by decide) ?_
  refine lv_iload_n hx hb dX2_slotOf_2 rfl (lv_at hl 0 rfl) ?_
  refine lv_bipush (v := 8) hx hb dX2_slotOf_3 (by decide) ?_
  refine lv_icmp_ge (tgt := 53) hx hb dX2_slotOf_5 (by decide) (fun h => absurd h (by decide)) (fun _ => ?_)
  refine lv_iconst (v := 0) hx hb dX2_slotOf_8 (by decide) ?_
  refine lv_istore_n (lv' := [(3, .int 0), (2, .int 6), (0, .ref (o)), (1, .int u1)]) hx hb dX2_slotOf_9 rfl hl (by decide) rfl (fun ls hl => ?_)
  refine lv_iload_n hx hb dX2_slotOf_10 rfl (lv_at hl 0 rfl) ?_
  refine lv_aload_n hx hb dX2_slotOf_11 rfl (lv_at hl 2 rfl) ?_
  refine h_getr (C := RX2) (T := TX2) (N := 5) hx hb hts inX2 hown hK hT0 (hY.o rfl) rfl 4 rfl wF_X2_24 rfl dX2_slotOf_12 ?_
  refine lv_iload_n hx hb dX2_slotOf_15 rfl (lv_at hl 1 rfl) ?_
  refine h_iald hx hb hK hT0 (hY.at 5 rfl) (h_inc (by decide)) dX2_slotOf_16 (fun p20 => ?_)
  refine h_top (v := 0) p20 ?_
  refine lv_icmp_ge (tgt := 47) hx hb dX2_slotOf_17 (by decide) (fun _ => ?_) (fun h => absurd (by decide) h)
  refine lv_iinc (v := 7) (lv' := [(2, .int 7), (3, .int 0), (0, .ref (o)), (1, .int u1)]) hx hb dX2_slotOf_47 hl (k := 1) rfl (by decide) (by decide) rfl (fun ls hl => ?_)
  refine lv_goto (tgt := 2) hx hb dX2_slotOf_50 (by decide) ?_
  refine lv_iload_n hx hb dX2_slotOf_2 rfl (lv_at hl 0 rfl) ?_
  refine lv_bipush (v := 8) hx hb dX2_slotOf_3 (by decide) ?_
  refine lv_icmp_ge (tgt := 53) hx hb dX2_slotOf_5 (by decide) (fun h => absurd h (by decide)) (fun _ => ?_)
  refine lv_iconst (v := 0) hx hb dX2_slotOf_8 (by decide) ?_
  refine lv_istore_n (lv' := [(3, .int 0), (2, .int 7), (0, .ref (o)), (1, .int u1)]) hx hb dX2_slotOf_9 rfl hl (by decide) rfl (fun ls hl => ?_)
  refine lv_iload_n hx hb dX2_slotOf_10 rfl (lv_at hl 0 rfl) ?_
  refine lv_aload_n hx hb dX2_slotOf_11 rfl (lv_at hl 2 rfl) ?_
  refine h_getr (C := RX2) (T := TX2) (N := 5) hx hb hts inX2 hown hK hT0 (hY.o rfl) rfl 4 rfl wF_X2_24 rfl dX2_slotOf_12 ?_
  refine lv_iload_n hx hb dX2_slotOf_15 rfl (lv_at hl 1 rfl) ?_
  refine h_iald hx hb hK hT0 (hY.at 5 rfl) (h_inc (by decide)) dX2_slotOf_16 (fun p23 => ?_)
  refine h_top (v := 0) p23 ?_
  refine lv_icmp_ge (tgt := 47) hx hb dX2_slotOf_17 (by decide) (fun _ => ?_) (fun h => absurd (by decide) h)
  refine lv_iinc (v := 8) (lv' := [(2, .int 8), (3, .int 0), (0, .ref (o)), (1, .int u1)]) hx hb dX2_slotOf_47 hl (k := 1) rfl (by decide) (by decide) rfl (fun ls hl => ?_)
  refine lv_goto (tgt := 2) hx hb dX2_slotOf_50 (by decide) ?_
  refine lv_iload_n hx hb dX2_slotOf_2 rfl (lv_at hl 0 rfl) ?_
  refine lv_bipush (v := 8) hx hb dX2_slotOf_3 (by decide) ?_
  refine lv_icmp_ge (tgt := 53) hx hb dX2_slotOf_5 (by decide) (fun _ => ?_) (fun h => absurd (by decide) h)
  refine lv_iconst (v := (-1)) hx hb dX2_slotOf_53 (by decide) ?_
  exact hret _ _ _ _ _ hT0 hS0 ⟨rfl, rfl⟩ dX2_slotOf_54
set_option maxHeartbeats 4000000 in
set_option maxRecDepth 100000 in
theorem c_X2_total (l : Launch) (G : hG) (Y : hW) (o : Nat) (hY : h_On Y o (quE tF o)) : hMi l yX2_total cX2_total 3 (some .int) 0 0 G Y [.ref (o)] (fun H => True) (fun H r H1 => r = 0 ∧ H1 = H) := by
  refine h_ofi (by decide +kernel) (Nat.le_of_ble_eq_true rfl) ?_
  intro p e s m args below meth c H0 ls Q hx hb hts hown hml hK hT0 hpr hS0 hl hret
  have hl : lv_has ls 3 [(0, .ref (o))] := hl
  refine lv_iconst (v := 0) hx hb dX2_total_0 (by decide) ?_
  refine lv_istore_n (lv' := [(1, .int 0), (0, .ref (o))]) hx hb dX2_total_1 rfl hl (by decide) rfl (fun ls hl => ?_)
  refine lv_iconst (v := 0) hx hb dX2_total_2 (by decide) ?_
  refine lv_istore_n (lv' := [(2, .int 0), (1, .int 0), (0, .ref (o))]) hx hb dX2_total_3 rfl hl (by decide) rfl (fun ls hl => ?_)
  refine lv_iload_n hx hb dX2_total_4 rfl (lv_at hl 0 rfl) ?_
  refine lv_bipush (v := 8) hx hb dX2_total_5 (by decide) ?_
  refine lv_icmp_ge (tgt := 25) hx hb dX2_total_7 (by decide) (fun h => absurd h (by decide)) (fun _ => ?_)
  refine lv_iload_n hx hb dX2_total_10 rfl (lv_at hl 1 rfl) ?_
  refine lv_aload_n hx hb dX2_total_11 rfl (lv_at hl 2 rfl) ?_
  refine h_getr (C := RX2) (T := TX2) (N := 5) hx hb hts inX2 hown hK hT0 (hY.o rfl) rfl 4 rfl wF_X2_24 rfl dX2_total_12 ?_
  refine lv_iload_n hx hb dX2_total_15 rfl (lv_at hl 0 rfl) ?_
  refine h_iald hx hb hK hT0 (hY.at 5 rfl) (h_inc (by decide)) dX2_total_16 (fun p2 => ?_)
  refine h_top (v := 0) p2 ?_
  refine lv_iadd hx hb dX2_total_17 ?_
  refine h_top (v := 0) (by decide) ?_
  refine lv_istore_n (lv' := [(1, .int 0), (2, .int 0), (0, .ref (o))]) hx hb dX2_total_18 rfl hl (by decide) rfl (fun ls hl => ?_)
  refine lv_iinc (v := 1) (lv' := [(2, .int 1), (1, .int 0), (0, .ref (o))]) hx hb dX2_total_19 hl (k := 1) rfl (by decide) (by decide) rfl (fun ls hl => ?_)
  refine lv_goto (tgt := 4) hx hb dX2_total_22 (by decide) ?_
  refine lv_iload_n hx hb dX2_total_4 rfl (lv_at hl 0 rfl) ?_
  refine lv_bipush (v := 8) hx hb dX2_total_5 (by decide) ?_
  refine lv_icmp_ge (tgt := 25) hx hb dX2_total_7 (by decide) (fun h => absurd h (by decide)) (fun _ => ?_)
  refine lv_iload_n hx hb dX2_total_10 rfl (lv_at hl 1 rfl) ?_
  refine lv_aload_n hx hb dX2_total_11 rfl (lv_at hl 2 rfl) ?_
  refine h_getr (C := RX2) (T := TX2) (N := 5) hx hb hts inX2 hown hK hT0 (hY.o rfl) rfl 4 rfl wF_X2_24 rfl dX2_total_12 ?_
  refine lv_iload_n hx hb dX2_total_15 rfl (lv_at hl 0 rfl) ?_
  refine h_iald hx hb hK hT0 (hY.at 5 rfl) (h_inc (by decide)) dX2_total_16 (fun p4 => ?_)
  refine h_top (v := 0) p4 ?_
  refine lv_iadd hx hb dX2_total_17 ?_
  refine h_top (v := 0) (by decide) ?_
  refine lv_istore_n (lv' := [(1, .int 0), (2, .int 1), (0, .ref (o))]) hx hb dX2_total_18 rfl hl (by decide) rfl (fun ls hl => ?_)
  refine lv_iinc (v := 2) (lv' := [(2, .int 2), (1, .int 0), (0, .ref (o))]) hx hb dX2_total_19 hl (k := 1) rfl (by decide) (by decide) rfl (fun ls hl => ?_)
  refine lv_goto (tgt := 4) hx hb dX2_total_22 (by decide) ?_
  refine lv_iload_n hx hb dX2_total_4 rfl (lv_at hl 0 rfl) ?_
  refine lv_bipush (v := 8) hx hb dX2_total_5 (by decide) ?_
  refine lv_icmp_ge (tgt := 25) hx hb dX2_total_7 (by decide) (fun h => absurd h (by decide)) (fun _ => ?_)
  refine lv_iload_n hx hb dX2_total_10 rfl (lv_at hl 1 rfl) ?_
  refine lv_aload_n hx hb dX2_total_11 rfl (lv_at hl 2 rfl) ?_
  refine h_getr (C := RX2) (T := TX2) (N := 5) hx hb hts inX2 hown hK hT0 (hY.o rfl) rfl 4 rfl wF_X2_24 rfl dX2_total_12 ?_
  refine lv_iload_n hx hb dX2_total_15 rfl (lv_at hl 0 rfl) ?_
  refine h_iald hx hb hK hT0 (hY.at 5 rfl) (h_inc (by decide)) dX2_total_16 (fun p6 => ?_)
  refine h_top (v := 0) p6 ?_
  refine lv_iadd hx hb dX2_total_17 ?_
  refine h_top (v := 0) (by decide) ?_
  refine lv_istore_n (lv' := [(1, .int 0), (2, .int 2), (0, .ref (o))]) hx hb dX2_total_18 rfl hl (by decide) rfl (fun ls hl => ?_)
  refine lv_iinc (v := 3) (lv' := [(2, .int 3), (1, .int 0), (0, .ref (o))]) hx hb dX2_total_19 hl (k := 1) rfl (by decide) (by decide) rfl (fun ls hl => ?_)
  refine lv_goto (tgt := 4) hx hb dX2_total_22 (by decide) ?_
  refine lv_iload_n hx hb dX2_total_4 rfl (lv_at hl 0 rfl) ?_
  refine lv_bipush (v := 8) hx hb dX2_total_5 (by decide) ?_
  refine lv_icmp_ge (tgt := 25) hx hb dX2_total_7 (by decide) (fun h => absurd h (by decide)) (fun _ => ?_)
  refine lv_iload_n hx hb dX2_total_10 rfl (lv_at hl 1 rfl) ?_
  refine lv_aload_n hx hb dX2_total_11 rfl (lv_at hl 2 rfl) ?_
  refine h_getr (C := RX2) (T := TX2) (N := 5) hx hb hts inX2 hown hK hT0 (hY.o rfl) rfl 4 rfl wF_X2_24 rfl dX2_total_12 ?_
  refine lv_iload_n hx hb dX2_total_15 rfl (lv_at hl 0 rfl) ?_
  refine h_iald hx hb hK hT0 (hY.at 5 rfl) (h_inc (by decide)) dX2_total_16 (fun p8 => ?_)
  refine h_top (v := 0) p8 ?_
  refine lv_iadd hx hb dX2_total_17 ?_
  refine h_top (v := 0) (by decide) ?_
  refine lv_istore_n (lv' := [(1, .int 0), (2, .int 3), (0, .ref (o))]) hx hb dX2_total_18 rfl hl (by decide) rfl (fun ls hl => ?_)
  refine lv_iinc (v := 4) (lv' := [(2, .int 4), (1, .int 0), (0, .ref (o))]) hx hb dX2_total_19 hl (k := 1) rfl (by decide) (by decide) rfl (fun ls hl => ?_)
  refine lv_goto (tgt := 4) hx hb dX2_total_22 (by decide) ?_
  refine lv_iload_n hx hb dX2_total_4 rfl (lv_at hl 0 rfl) ?_
  refine lv_bipush (v := 8) hx hb dX2_total_5 (by decide) ?_
  refine lv_icmp_ge (tgt := 25) hx hb dX2_total_7 (by decide) (fun h => absurd h (by decide)) (fun _ => ?_)
  refine lv_iload_n hx hb dX2_total_10 rfl (lv_at hl 1 rfl) ?_
  refine lv_aload_n hx hb dX2_total_11 rfl (lv_at hl 2 rfl) ?_
  refine h_getr (C := RX2) (T := TX2) (N := 5) hx hb hts inX2 hown hK hT0 (hY.o rfl) rfl 4 rfl wF_X2_24 rfl dX2_total_12 ?_
  refine lv_iload_n hx hb dX2_total_15 rfl (lv_at hl 0 rfl) ?_
  refine h_iald hx hb hK hT0 (hY.at 5 rfl) (h_inc (by decide)) dX2_total_16 (fun p10 => ?_)
  refine h_top (v := 0) p10 ?_
  refine lv_iadd hx hb dX2_total_17 ?_
  refine h_top (v := 0) (by decide) ?_
  refine lv_istore_n (lv' := [(1, .int 0), (2, .int 4), (0, .ref (o))]) hx hb dX2_total_18 rfl hl (by decide) rfl (fun ls hl => ?_)
  refine lv_iinc (v := 5) (lv' := [(2, .int 5), (1, .int 0), (0, .ref (o))]) hx hb dX2_total_19 hl (k := 1) rfl (by decide) (by decide) rfl (fun ls hl => ?_)
  refine lv_goto (tgt := 4) hx hb dX2_total_22 (by decide) ?_
  refine lv_iload_n hx hb dX2_total_4 rfl (lv_at hl 0 rfl) ?_
  refine lv_bipush (v := 8) hx hb dX2_total_5 (by decide) ?_
  refine lv_icmp_ge (tgt := 25) hx hb dX2_total_7 (by decide) (fun h => absurd h (by decide)) (fun _ => ?_)
  refine lv_iload_n hx hb dX2_total_10 rfl (lv_at hl 1 rfl) ?_
  refine lv_aload_n hx hb dX2_total_11 rfl (lv_at hl 2 rfl) ?_
  refine h_getr (C := RX2) (T := TX2) (N := 5) hx hb hts inX2 hown hK hT0 (hY.o rfl) rfl 4 rfl wF_X2_24 rfl dX2_total_12 ?_
  refine lv_iload_n hx hb dX2_total_15 rfl (lv_at hl 0 rfl) ?_
  refine h_iald hx hb hK hT0 (hY.at 5 rfl) (h_inc (by decide)) dX2_total_16 (fun p12 => ?_)
  refine h_top (v := 0) p12 ?_
  refine lv_iadd hx hb dX2_total_17 ?_
  refine h_top (v := 0) (by decide) ?_
  refine lv_istore_n (lv' := [(1, .int 0), (2, .int 5), (0, .ref (o))]) hx hb dX2_total_18 rfl hl (by decide) rfl (fun ls hl => ?_)
  refine lv_iinc (v := 6) (lv' := [(2, .int 6), (1, .int 0), (0, .ref (o))]) hx hb dX2_total_19 hl (k := 1) rfl (by decide) (by decide) rfl (fun ls hl => ?_)
  refine lv_goto (tgt := 4) hx hb dX2_total_22 (by decide) ?_
  refine lv_iload_n hx hb dX2_total_4 rfl (lv_at hl 0 rfl) ?_
  refine lv_bipush (v := 8) hx hb dX2_total_5 (by decide) ?_
  refine lv_icmp_ge (tgt := 25) hx hb dX2_total_7 (by decide) (fun h => absurd h (by decide)) (fun _ => ?_)
  refine lv_iload_n hx hb dX2_total_10 rfl (lv_at hl 1 rfl) ?_
  refine lv_aload_n hx hb dX2_total_11 rfl (lv_at hl 2 rfl) ?_
  refine h_getr (C := RX2) (T := TX2) (N := 5) hx hb hts inX2 hown hK hT0 (hY.o rfl) rfl 4 rfl wF_X2_24 rfl dX2_total_12 ?_
  refine lv_iload_n hx hb dX2_total_15 rfl (lv_at hl 0 rfl) ?_
  refine h_iald hx hb hK hT0 (hY.at 5 rfl) (h_inc (by decide)) dX2_total_16 (fun p14 => ?_)
  refine h_top (v := 0) p14 ?_
  refine lv_iadd hx hb dX2_total_17 ?_
  refine h_top (v := 0) (by decide) ?_
  refine lv_istore_n (lv' := [(1, .int 0), (2, .int 6), (0, .ref (o))]) hx hb dX2_total_18 rfl hl (by decide) rfl (fun ls hl => ?_)
  refine lv_iinc (v := 7) (lv' := [(2, .int 7), (1, .int 0), (0, .ref (o))]) hx hb dX2_total_19 hl (k := 1) rfl (by decide) (by decide) rfl (fun ls hl => ?_)
  refine lv_goto (tgt := 4) hx hb dX2_total_22 (by decide) ?_
  refine lv_iload_n hx hb dX2_total_4 rfl (lv_at hl 0 rfl) ?_
  refine lv_bipush (v := 8) hx hb dX2_total_5 (by decide) ?_
  refine lv_icmp_ge (tgt := 25) hx hb dX2_total_7 (by decide) (fun h => absurd h (by decide)) (fun _ => ?_)
  refine lv_iload_n hx hb dX2_total_10 rfl (lv_at hl 1 rfl) ?_
  refine lv_aload_n hx hb dX2_total_11 rfl (lv_at hl 2 rfl) ?_
  refine h_getr (C := RX2) (T := TX2) (N := 5) hx hb hts inX2 hown hK hT0 (hY.o rfl) rfl 4 rfl wF_X2_24 rfl dX2_total_12 ?_
  refine lv_iload_n hx hb dX2_total_15 rfl (lv_at hl 0 rfl) ?_
  refine h_iald hx hb hK hT0 (hY.at 5 rfl) (h_inc (by decide)) dX2_total_16 (fun p16 => ?_)
  refine h_top (v := 0) p16 ?_
  refine lv_iadd hx hb dX2_total_17 ?_
  refine h_top (v := 0) (by decide) ?_
  refine lv_istore_n (lv' := [(1, .int 0), (2, .int 7), (0, .ref (o))]) hx hb dX2_total_18 rfl hl (by decide) rfl (fun ls hl => ?_)
  refine lv_iinc (v := 8) (lv' := [(2, .int 8), (1, .int 0), (0, .ref (o))]) hx hb dX2_total_19 hl (k := 1) rfl (by decide) (by decide) rfl (fun ls hl => ?_)
  refine lv_goto (tgt := 4) hx hb dX2_total_22 (by decide) ?_
  refine lv_iload_n hx hb dX2_total_4 rfl (lv_at hl 0 rfl) ?_
  refine lv_bipush (v := 8) hx hb dX2_total_5 (by decide) ?_
  refine lv_icmp_ge (tgt := 25) hx hb dX2_total_7 (by decide) (fun _ => ?_) (fun h => absurd (by decide) h)
  refine lv_iload_n hx hb dX2_total_25 rfl (lv_at hl 1 rfl) ?_
  exact hret _ _ _ _ _ hT0 hS0 ⟨rfl, rfl⟩ dX2_total_26
set_option maxHeartbeats 4000000 in
set_option maxRecDepth 100000 in
theorem c_X2_totalOf (l : Launch) (G : hG) (Y : hW) (o : Nat) (hY : h_On Y o (quE tF o)) (u1 : Int32) : hMi l yX2_totalOf cX2_totalOf 5 (some .int) 0 0 G Y [.ref (o), .int u1] (fun H => True) (fun H r H1 => r = 0 ∧ H1 = H) := by
  refine h_ofi (by decide +kernel) (Nat.le_of_ble_eq_true rfl) ?_
  intro p e s m args below meth c H0 ls Q hx hb hts hown hml hK hT0 hpr hS0 hl hret
  have hl : lv_has ls 5 [(0, .ref (o)), (1, .int u1)] := hl
  refine lv_iconst (v := 0) hx hb dX2_totalOf_0 (by decide) ?_
  refine lv_istore_n (lv' := [(2, .int 0), (0, .ref (o)), (1, .int u1)]) hx hb dX2_totalOf_1 rfl hl (by decide) rfl (fun ls hl => ?_)
  refine lv_iconst (v := 0) hx hb dX2_totalOf_2 (by decide) ?_
  refine lv_istore_n (lv' := [(3, .int 0), (2, .int 0), (0, .ref (o)), (1, .int u1)]) hx hb dX2_totalOf_3 rfl hl (by decide) rfl (fun ls hl => ?_)
  refine lv_iload_n hx hb dX2_totalOf_4 rfl (lv_at hl 0 rfl) ?_
  refine lv_bipush (v := 8) hx hb dX2_totalOf_5 (by decide) ?_
  refine lv_icmp_ge (tgt := 54) hx hb dX2_totalOf_7 (by decide) (fun h => absurd h (by decide)) (fun _ => ?_)
  refine lv_iconst (v := 0) hx hb dX2_totalOf_10 (by decide) ?_
  refine lv_istore (lv' := [(4, .int 0), (3, .int 0), (2, .int 0), (0, .ref (o)), (1, .int u1)]) hx hb dX2_totalOf_11 hl (by decide) rfl (fun ls hl => ?_)
  refine lv_iload hx hb dX2_totalOf_13 (lv_at hl 0 rfl) ?_
  refine lv_aload_n hx hb dX2_totalOf_15 rfl (lv_at hl 3 rfl) ?_
  refine h_getr (C := RX2) (T := TX2) (N := 5) hx hb hts inX2 hown hK hT0 (hY.o rfl) rfl 4 rfl wF_X2_24 rfl dX2_totalOf_16 ?_
  refine lv_iload_n hx hb dX2_totalOf_19 rfl (lv_at hl 1 rfl) ?_
  refine h_iald hx hb hK hT0 (hY.at 5 rfl) (h_inc (by decide)) dX2_totalOf_20 (fun p2 => ?_)
  refine h_top (v := 0) p2 ?_
  refine lv_icmp_ge (tgt := 48) hx hb dX2_totalOf_21 (by decide) (fun _ => ?_) (fun h => absurd (by decide) h)
  refine lv_iinc (v := 1) (lv' := [(3, .int 1), (4, .int 0), (2, .int 0), (0, .ref (o)), (1, .int u1)]) hx hb dX2_totalOf_48 hl (k := 1) rfl (by decide) (by decide) rfl (fun ls hl => ?_)
  refine lv_goto (tgt := 4) hx hb dX2_totalOf_51 (by decide) ?_
  refine lv_iload_n hx hb dX2_totalOf_4 rfl (lv_at hl 0 rfl) ?_
  refine lv_bipush (v := 8) hx hb dX2_totalOf_5 (by decide) ?_
  refine lv_icmp_ge (tgt := 54) hx hb dX2_totalOf_7 (by decide) (fun h => absurd h (by decide)) (fun _ => ?_)
  refine lv_iconst (v := 0) hx hb dX2_totalOf_10 (by decide) ?_
  refine lv_istore (lv' := [(4, .int 0), (3, .int 1), (2, .int 0), (0, .ref (o)), (1, .int u1)]) hx hb dX2_totalOf_11 hl (by decide) rfl (fun ls hl => ?_)
  refine lv_iload hx hb dX2_totalOf_13 (lv_at hl 0 rfl) ?_
  refine lv_aload_n hx hb dX2_totalOf_15 rfl (lv_at hl 3 rfl) ?_
  refine h_getr (C := RX2) (T := TX2) (N := 5) hx hb hts inX2 hown hK hT0 (hY.o rfl) rfl 4 rfl wF_X2_24 rfl dX2_totalOf_16 ?_
  refine lv_iload_n hx hb dX2_totalOf_19 rfl (lv_at hl 1 rfl) ?_
  refine h_iald hx hb hK hT0 (hY.at 5 rfl) (h_inc (by decide)) dX2_totalOf_20 (fun p5 => ?_)
  refine h_top (v := 0) p5 ?_
  refine lv_icmp_ge (tgt := 48) hx hb dX2_totalOf_21 (by decide) (fun _ => ?_) (fun h => absurd (by decide) h)
  refine lv_iinc (v := 2) (lv' := [(3, .int 2), (4, .int 0), (2, .int 0), (0, .ref (o)), (1, .int u1)]) hx hb dX2_totalOf_48 hl (k := 1) rfl (by decide) (by decide) rfl (fun ls hl => ?_)
  refine lv_goto (tgt := 4) hx hb dX2_totalOf_51 (by decide) ?_
  refine lv_iload_n hx hb dX2_totalOf_4 rfl (lv_at hl 0 rfl) ?_
  refine lv_bipush (v := 8) hx hb dX2_totalOf_5 (by decide) ?_
  refine lv_icmp_ge (tgt := 54) hx hb dX2_totalOf_7 (by decide) (fun h => absurd h (by decide)) (fun _ => ?_)
  refine lv_iconst (v := 0) hx hb dX2_totalOf_10 (by decide) ?_
  refine lv_istore (lv' := [(4, .int 0), (3, .int 2), (2, .int 0), (0, .ref (o)), (1, .int u1)]) hx hb dX2_totalOf_11 hl (by decide) rfl (fun ls hl => ?_)
  refine lv_iload hx hb dX2_totalOf_13 (lv_at hl 0 rfl) ?_
  refine lv_aload_n hx hb dX2_totalOf_15 rfl (lv_at hl 3 rfl) ?_
  refine h_getr (C := RX2) (T := TX2) (N := 5) hx hb hts inX2 hown hK hT0 (hY.o rfl) rfl 4 rfl wF_X2_24 rfl dX2_totalOf_16 ?_
  refine lv_iload_n hx hb dX2_totalOf_19 rfl (lv_at hl 1 rfl) ?_
  refine h_iald hx hb hK hT0 (hY.at 5 rfl) (h_inc (by decide)) dX2_totalOf_20 (fun p8 => ?_)
  refine h_top (v := 0) p8 ?_
  refine lv_icmp_ge (tgt := 48) hx hb dX2_totalOf_21 (by decide) (fun _ => ?_) (fun h => absurd (by decide) h)
  refine lv_iinc (v := 3) (lv' := [(3, .int 3), (4, .int 0), (2, .int 0), (0, .ref (o)), (1, .int u1)]) hx hb dX2_totalOf_48 hl (k := 1) rfl (by decide) (by decide) rfl (fun ls hl => ?_)
  refine lv_goto (tgt := 4) hx hb dX2_totalOf_51 (by decide) ?_
  refine lv_iload_n hx hb dX2_totalOf_4 rfl (lv_at hl 0 rfl) ?_
  refine lv_bipush (v := 8) hx hb dX2_totalOf_5 (by decide) ?_
  refine lv_icmp_ge (tgt := 54) hx hb dX2_totalOf_7 (by decide) (fun h => absurd h (by decide)) (fun _ => ?_)
  refine lv_iconst (v := 0) hx hb dX2_totalOf_10 (by decide) ?_
  refine lv_istore (lv' := [(4, .int 0), (3, .int 3), (2, .int 0), (0, .ref (o)), (1, .int u1)]) hx hb dX2_totalOf_11 hl (by decide) rfl (fun ls hl => ?_)
  refine lv_iload hx hb dX2_totalOf_13 (lv_at hl 0 rfl) ?_
  refine lv_aload_n hx hb dX2_totalOf_15 rfl (lv_at hl 3 rfl) ?_
  refine h_getr (C := RX2) (T := TX2) (N := 5) hx hb hts inX2 hown hK hT0 (hY.o rfl) rfl 4 rfl wF_X2_24 rfl dX2_totalOf_16 ?_
  refine lv_iload_n hx hb dX2_totalOf_19 rfl (lv_at hl 1 rfl) ?_
  refine h_iald hx hb hK hT0 (hY.at 5 rfl) (h_inc (by decide)) dX2_totalOf_20 (fun p11 => ?_)
  refine h_top (v := 0) p11 ?_
  refine lv_icmp_ge (tgt := 48) hx hb dX2_totalOf_21 (by decide) (fun _ => ?_) (fun h => absurd (by decide) h)
  refine lv_iinc (v := 4) (lv' := [(3, .int 4), (4, .int 0), (2, .int 0), (0, .ref (o)), (1, .int u1)]) hx hb dX2_totalOf_48 hl (k := 1) rfl (by decide) (by decide) rfl (fun ls hl => ?_)
  refine lv_goto (tgt := 4) hx hb dX2_totalOf_51 (by decide) ?_
  refine lv_iload_n hx hb dX2_totalOf_4 rfl (lv_at hl 0 rfl) ?_
  refine lv_bipush (v := 8) hx hb dX2_totalOf_5 (by decide) ?_
  refine lv_icmp_ge (tgt := 54) hx hb dX2_totalOf_7 (by decide) (fun h => absurd h (by decide)) (fun _ => ?_)
  refine lv_iconst (v := 0) hx hb dX2_totalOf_10 (by decide) ?_
  refine lv_istore (lv' := [(4, .int 0), (3, .int 4), (2, .int 0), (0, .ref (o)), (1, .int u1)]) hx hb dX2_totalOf_11 hl (by decide) rfl (fun ls hl => ?_)
  refine lv_iload hx hb dX2_totalOf_13 (lv_at hl 0 rfl) ?_
  refine lv_aload_n hx hb dX2_totalOf_15 rfl (lv_at hl 3 rfl) ?_
  refine h_getr (C := RX2) (T := TX2) (N := 5) hx hb hts inX2 hown hK hT0 (hY.o rfl) rfl 4 rfl wF_X2_24 rfl dX2_totalOf_16 ?_
  refine lv_iload_n hx hb dX2_totalOf_19 rfl (lv_at hl 1 rfl) ?_
  refine h_iald hx hb hK hT0 (hY.at 5 rfl) (h_inc (by decide)) dX2_totalOf_20 (fun p14 => ?_)
  refine h_top (v := 0) p14 ?_
  refine lv_icmp_ge (tgt := 48) hx hb dX2_totalOf_21 (by decide) (fun _ => ?_) (fun h => absurd (by decide) h)
  refine lv_iinc (v := 5) (lv' := [(3, .int 5), (4, .int 0), (2, .int 0), (0, .ref (o)), (1, .int u1)]) hx hb dX2_totalOf_48 hl (k := 1) rfl (by decide) (by decide) rfl (fun ls hl => ?_)
  refine lv_goto (tgt := 4) hx hb dX2_totalOf_51 (by decide) ?_
  refine lv_iload_n hx hb dX2_totalOf_4 rfl (lv_at hl 0 rfl) ?_
  refine lv_bipush (v := 8) hx hb dX2_totalOf_5 (by decide) ?_
  refine lv_icmp_ge (tgt := 54) hx hb dX2_totalOf_7 (by decide) (fun h => absurd h (by decide)) (fun _ => ?_)
  refine lv_iconst (v := 0) hx hb dX2_totalOf_10 (by decide) ?_
  refine lv_istore (lv' := [(4, .int 0), (3, .int 5), (2, .int 0), (0, .ref (o)), (1, .int u1)]) hx hb dX2_totalOf_11 hl (by decide) rfl (fun ls hl => ?_)
  refine lv_iload hx hb dX2_totalOf_13 (lv_at hl 0 rfl) ?_
  refine lv_aload_n hx hb dX2_totalOf_15 rfl (lv_at hl 3 rfl) ?_
  refine h_getr (C := RX2) (T := TX2) (N := 5) hx hb hts inX2 hown hK hT0 (hY.o rfl) rfl 4 rfl wF_X2_24 rfl dX2_totalOf_16 ?_
  refine lv_iload_n hx hb dX2_totalOf_19 rfl (lv_at hl 1 rfl) ?_
  refine h_iald hx hb hK hT0 (hY.at 5 rfl) (h_inc (by decide)) dX2_totalOf_20 (fun p17 => ?_)
  refine h_top (v := 0) p17 ?_
  refine lv_icmp_ge (tgt := 48) hx hb dX2_totalOf_21 (by decide) (fun _ => ?_) (fun h => absurd (by decide) h)
  refine lv_iinc (v := 6) (lv' := [(3, .int 6), (4, .int 0), (2, .int 0), (0, .ref (o)), (1, .int u1)]) hx hb dX2_totalOf_48 hl (k := 1) rfl (by decide) (by decide) rfl (fun ls hl => ?_)
  refine lv_goto (tgt := 4) hx hb dX2_totalOf_51 (by decide) ?_
  refine lv_iload_n hx hb dX2_totalOf_4 rfl (lv_at hl 0 rfl) ?_
  refine lv_bipush (v := 8) hx hb dX2_totalOf_5 (by decide) ?_
  refine lv_icmp_ge (tgt := 54) hx hb dX2_totalOf_7 (by decide) (fun h => absurd h (by decide)) (fun _ => ?_)
  refine lv_iconst (v := 0) hx hb dX2_totalOf_10 (by decide) ?_
  refine lv_istore (lv' := [(4, .int 0), (3, .int 6), (2, .int 0), (0, .ref (o)), (1, .int u1)]) hx hb dX2_totalOf_11 hl (by decide) rfl (fun ls hl => ?_)
  refine lv_iload hx hb dX2_totalOf_13 (lv_at hl 0 rfl) ?_
  refine lv_aload_n hx hb dX2_totalOf_15 rfl (lv_at hl 3 rfl) ?_
  refine h_getr (C := RX2) (T := TX2) (N := 5) hx hb hts inX2 hown hK hT0 (hY.o rfl) rfl 4 rfl wF_X2_24 rfl dX2_totalOf_16 ?_
  refine lv_iload_n hx hb dX2_totalOf_19 rfl (lv_at hl 1 rfl) ?_
  refine h_iald hx hb hK hT0 (hY.at 5 rfl) (h_inc (by decide)) dX2_totalOf_20 (fun p20 => ?_)
  refine h_top (v := 0) p20 ?_
  refine lv_icmp_ge (tgt := 48) hx hb dX2_totalOf_21 (by decide) (fun _ => ?_) (fun h => absurd (by decide) h)
  refine lv_iinc (v := 7) (lv' := [(3, .int 7), (4, .int 0), (2, .int 0), (0, .ref (o)), (1, .int u1)]) hx hb dX2_totalOf_48 hl (k := 1) rfl (by decide) (by decide) rfl (fun ls hl => ?_)
  refine lv_goto (tgt := 4) hx hb dX2_totalOf_51 (by decide) ?_
  refine lv_iload_n hx hb dX2_totalOf_4 rfl (lv_at hl 0 rfl) ?_
  refine lv_bipush (v := 8) hx hb dX2_totalOf_5 (by decide) ?_
  refine lv_icmp_ge (tgt := 54) hx hb dX2_totalOf_7 (by decide) (fun h => absurd h (by decide)) (fun _ => ?_)
  refine lv_iconst (v := 0) hx hb dX2_totalOf_10 (by decide) ?_
  refine lv_istore (lv' := [(4, .int 0), (3, .int 7), (2, .int 0), (0, .ref (o)), (1, .int u1)]) hx hb dX2_totalOf_11 hl (by decide) rfl (fun ls hl => ?_)
  refine lv_iload hx hb dX2_totalOf_13 (lv_at hl 0 rfl) ?_
  refine lv_aload_n hx hb dX2_totalOf_15 rfl (lv_at hl 3 rfl) ?_
  refine h_getr (C := RX2) (T := TX2) (N := 5) hx hb hts inX2 hown hK hT0 (hY.o rfl) rfl 4 rfl wF_X2_24 rfl dX2_totalOf_16 ?_
  refine lv_iload_n hx hb dX2_totalOf_19 rfl (lv_at hl 1 rfl) ?_
  refine h_iald hx hb hK hT0 (hY.at 5 rfl) (h_inc (by decide)) dX2_totalOf_20 (fun p23 => ?_)
  refine h_top (v := 0) p23 ?_
  refine lv_icmp_ge (tgt := 48) hx hb dX2_totalOf_21 (by decide) (fun _ => ?_) (fun h => absurd (by decide) h)
  refine lv_iinc (v := 8) (lv' := [(3, .int 8), (4, .int 0), (2, .int 0), (0, .ref (o)), (1, .int u1)]) hx hb dX2_totalOf_48 hl (k := 1) rfl (by decide) (by decide) rfl (fun ls hl => ?_)
  refine lv_goto (tgt := 4) hx hb dX2_totalOf_51 (by decide) ?_
  refine lv_iload_n hx hb dX2_totalOf_4 rfl (lv_at hl 0 rfl) ?_
  refine lv_bipush (v := 8) hx hb dX2_totalOf_5 (by decide) ?_
  refine lv_icmp_ge (tgt := 54) hx hb dX2_totalOf_7 (by decide) (fun _ => ?_) (fun h => absurd (by decide) h)
  refine lv_iload_n hx hb dX2_totalOf_54 rfl (lv_at hl 2 rfl) ?_
  exact hret _ _ _ _ _ hT0 hS0 ⟨rfl, rfl⟩ dX2_totalOf_55
set_option maxHeartbeats 4000000 in
set_option maxRecDepth 100000 in
theorem c_X3_isEmpty (l : Launch) (G : hG) (Y : hW) (o : Nat) (hY : h_On Y o (raE tF o)) : hMi l yX3_isEmpty cX3_isEmpty 2 (some .boolean) 0 0 G Y [.ref (o)] (fun H => True) (fun H r H1 => r = 1 ∧ H1 = H) := by
  refine h_ofz (by decide +kernel) (Nat.le_of_ble_eq_true rfl) ?_
  intro p e s m args below meth c H0 ls Q hx hb hts hown hml hK hT0 hpr hS0 hl hret
  have hl : lv_has ls 2 [(0, .ref (o))] := hl
  refine lv_iconst (v := 0) hx hb dX3_isEmpty_0 (by decide) ?_
  refine lv_istore_n (lv' := [(1, .int 0), (0, .ref (o))]) hx hb dX3_isEmpty_1 rfl hl (by decide) rfl (fun ls hl => ?_)
  refine lv_iload_n hx hb dX3_isEmpty_2 rfl (lv_at hl 0 rfl) ?_
  refine lv_bipush (v := 8) hx hb dX3_isEmpty_3 (by decide) ?_
  refine lv_icmp_ge (tgt := 25) hx hb dX3_isEmpty_5 (by decide) (fun h => absurd h (by decide)) (fun _ => ?_)
  refine lv_aload_n hx hb dX3_isEmpty_8 rfl (lv_at hl 1 rfl) ?_
  refine h_getr (C := RX3) (T := TX3) (N := 3) hx hb hts inX3 hown hK hT0 (hY.o rfl) rfl 2 rfl wF_X3_18 rfl dX3_isEmpty_9 ?_
  refine lv_iload_n hx hb dX3_isEmpty_12 rfl (lv_at hl 0 rfl) ?_
  refine h_iald hx hb hK hT0 (hY.at 3 rfl) (h_inc (by decide)) dX3_isEmpty_13 (fun p2 => ?_)
  refine h_top (v := 0) p2 ?_
  refine lv_if_le (tgt := 19) hx hb dX3_isEmpty_14 (by decide) (fun _ => ?_) (fun h => absurd (by decide) h)
  refine lv_iinc (v := 1) (lv' := [(1, .int 1), (0, .ref (o))]) hx hb dX3_isEmpty_19 hl (k := 0) rfl (by decide) (by decide) rfl (fun ls hl => ?_)
  refine lv_goto (tgt := 2) hx hb dX3_isEmpty_22 (by decide) ?_
  refine lv_iload_n hx hb dX3_isEmpty_2 rfl (lv_at hl 0 rfl) ?_
  refine lv_bipush (v := 8) hx hb dX3_isEmpty_3 (by decide) ?_
  refine lv_icmp_ge (tgt := 25) hx hb dX3_isEmpty_5 (by decide) (fun h => absurd h (by decide)) (fun _ => ?_)
  refine lv_aload_n hx hb dX3_isEmpty_8 rfl (lv_at hl 1 rfl) ?_
  refine h_getr (C := RX3) (T := TX3) (N := 3) hx hb hts inX3 hown hK hT0 (hY.o rfl) rfl 2 rfl wF_X3_18 rfl dX3_isEmpty_9 ?_
  refine lv_iload_n hx hb dX3_isEmpty_12 rfl (lv_at hl 0 rfl) ?_
  refine h_iald hx hb hK hT0 (hY.at 3 rfl) (h_inc (by decide)) dX3_isEmpty_13 (fun p5 => ?_)
  refine h_top (v := 0) p5 ?_
  refine lv_if_le (tgt := 19) hx hb dX3_isEmpty_14 (by decide) (fun _ => ?_) (fun h => absurd (by decide) h)
  refine lv_iinc (v := 2) (lv' := [(1, .int 2), (0, .ref (o))]) hx hb dX3_isEmpty_19 hl (k := 0) rfl (by decide) (by decide) rfl (fun ls hl => ?_)
  refine lv_goto (tgt := 2) hx hb dX3_isEmpty_22 (by decide) ?_
  refine lv_iload_n hx hb dX3_isEmpty_2 rfl (lv_at hl 0 rfl) ?_
  refine lv_bipush (v := 8) hx hb dX3_isEmpty_3 (by decide) ?_
  refine lv_icmp_ge (tgt := 25) hx hb dX3_isEmpty_5 (by decide) (fun h => absurd h (by decide)) (fun _ => ?_)
  refine lv_aload_n hx hb dX3_isEmpty_8 rfl (lv_at hl 1 rfl) ?_
  refine h_getr (C := RX3) (T := TX3) (N := 3) hx hb hts inX3 hown hK hT0 (hY.o rfl) rfl 2 rfl wF_X3_18 rfl dX3_isEmpty_9 ?_
  refine lv_iload_n hx hb dX3_isEmpty_12 rfl (lv_at hl 0 rfl) ?_
  refine h_iald hx hb hK hT0 (hY.at 3 rfl) (h_inc (by decide)) dX3_isEmpty_13 (fun p8 => ?_)
  refine h_top (v := 0) p8 ?_
  refine lv_if_le (tgt := 19) hx hb dX3_isEmpty_14 (by decide) (fun _ => ?_) (fun h => absurd (by decide) h)
  refine lv_iinc (v := 3) (lv' := [(1, .int 3), (0, .ref (o))]) hx hb dX3_isEmpty_19 hl (k := 0) rfl (by decide) (by decide) rfl (fun ls hl => ?_)
  refine lv_goto (tgt := 2) hx hb dX3_isEmpty_22 (by decide) ?_
  refine lv_iload_n hx hb dX3_isEmpty_2 rfl (lv_at hl 0 rfl) ?_
  refine lv_bipush (v := 8) hx hb dX3_isEmpty_3 (by decide) ?_
  refine lv_icmp_ge (tgt := 25) hx hb dX3_isEmpty_5 (by decide) (fun h => absurd h (by decide)) (fun _ => ?_)
  refine lv_aload_n hx hb dX3_isEmpty_8 rfl (lv_at hl 1 rfl) ?_
  refine h_getr (C := RX3) (T := TX3) (N := 3) hx hb hts inX3 hown hK hT0 (hY.o rfl) rfl 2 rfl wF_X3_18 rfl dX3_isEmpty_9 ?_
  refine lv_iload_n hx hb dX3_isEmpty_12 rfl (lv_at hl 0 rfl) ?_
  refine h_iald hx hb hK hT0 (hY.at 3 rfl) (h_inc (by decide)) dX3_isEmpty_13 (fun p11 => ?_)
  refine h_top (v := 0) p11 ?_
  refine lv_if_le (tgt := 19) hx hb dX3_isEmpty_14 (by decide) (fun _ => ?_) (fun h => absurd (by decide) h)
  refine lv_iinc (v := 4) (lv' := [(1, .int 4), (0, .ref (o))]) hx hb dX3_isEmpty_19 hl (k := 0) rfl (by decide) (by decide) rfl (fun ls hl => ?_)
  refine lv_goto (tgt := 2) hx hb dX3_isEmpty_22 (by decide) ?_
  refine lv_iload_n hx hb dX3_isEmpty_2 rfl (lv_at hl 0 rfl) ?_
  refine lv_bipush (v := 8) hx hb dX3_isEmpty_3 (by decide) ?_
  refine lv_icmp_ge (tgt := 25) hx hb dX3_isEmpty_5 (by decide) (fun h => absurd h (by decide)) (fun _ => ?_)
  refine lv_aload_n hx hb dX3_isEmpty_8 rfl (lv_at hl 1 rfl) ?_
  refine h_getr (C := RX3) (T := TX3) (N := 3) hx hb hts inX3 hown hK hT0 (hY.o rfl) rfl 2 rfl wF_X3_18 rfl dX3_isEmpty_9 ?_
  refine lv_iload_n hx hb dX3_isEmpty_12 rfl (lv_at hl 0 rfl) ?_
  refine h_iald hx hb hK hT0 (hY.at 3 rfl) (h_inc (by decide)) dX3_isEmpty_13 (fun p14 => ?_)
  refine h_top (v := 0) p14 ?_
  refine lv_if_le (tgt := 19) hx hb dX3_isEmpty_14 (by decide) (fun _ => ?_) (fun h => absurd (by decide) h)
  refine lv_iinc (v := 5) (lv' := [(1, .int 5), (0, .ref (o))]) hx hb dX3_isEmpty_19 hl (k := 0) rfl (by decide) (by decide) rfl (fun ls hl => ?_)
  refine lv_goto (tgt := 2) hx hb dX3_isEmpty_22 (by decide) ?_
  refine lv_iload_n hx hb dX3_isEmpty_2 rfl (lv_at hl 0 rfl) ?_
  refine lv_bipush (v := 8) hx hb dX3_isEmpty_3 (by decide) ?_
  refine lv_icmp_ge (tgt := 25) hx hb dX3_isEmpty_5 (by decide) (fun h => absurd h (by decide)) (fun _ => ?_)
  refine lv_aload_n hx hb dX3_isEmpty_8 rfl (lv_at hl 1 rfl) ?_
  refine h_getr (C := RX3) (T := TX3) (N := 3) hx hb hts inX3 hown hK hT0 (hY.o rfl) rfl 2 rfl wF_X3_18 rfl dX3_isEmpty_9 ?_
  refine lv_iload_n hx hb dX3_isEmpty_12 rfl (lv_at hl 0 rfl) ?_
  refine h_iald hx hb hK hT0 (hY.at 3 rfl) (h_inc (by decide)) dX3_isEmpty_13 (fun p17 => ?_)
  refine h_top (v := 0) p17 ?_
  refine lv_if_le (tgt := 19) hx hb dX3_isEmpty_14 (by decide) (fun _ => ?_) (fun h => absurd (by decide) h)
  refine lv_iinc (v := 6) (lv' := [(1, .int 6), (0, .ref (o))]) hx hb dX3_isEmpty_19 hl (k := 0) rfl (by decide) (by decide) rfl (fun ls hl => ?_)
  refine lv_goto (tgt := 2) hx hb dX3_isEmpty_22 (by decide) ?_
  refine lv_iload_n hx hb dX3_isEmpty_2 rfl (lv_at hl 0 rfl) ?_
  refine lv_bipush (v := 8) hx hb dX3_isEmpty_3 (by decide) ?_
  refine lv_icmp_ge (tgt := 25) hx hb dX3_isEmpty_5 (by decide) (fun h => absurd h (by decide)) (fun _ => ?_)
  refine lv_aload_n hx hb dX3_isEmpty_8 rfl (lv_at hl 1 rfl) ?_
  refine h_getr (C := RX3) (T := TX3) (N := 3) hx hb hts inX3 hown hK hT0 (hY.o rfl) rfl 2 rfl wF_X3_18 rfl dX3_isEmpty_9 ?_
  refine lv_iload_n hx hb dX3_isEmpty_12 rfl (lv_at hl 0 rfl) ?_
  refine h_iald hx hb hK hT0 (hY.at 3 rfl) (h_inc (by decide)) dX3_isEmpty_13 (fun p20 => ?_)
  refine h_top (v := 0) p20 ?_
  refine lv_if_le (tgt := 19) hx hb dX3_isEmpty_14 (by decide) (fun _ => ?_) (fun h => absurd (by decide) h)
  refine lv_iinc (v := 7) (lv' := [(1, .int 7), (0, .ref (o))]) hx hb dX3_isEmpty_19 hl (k := 0) rfl (by decide) (by decide) rfl (fun ls hl => ?_)
  refine lv_goto (tgt := 2) hx hb dX3_isEmpty_22 (by decide) ?_
  refine lv_iload_n hx hb dX3_isEmpty_2 rfl (lv_at hl 0 rfl) ?_
  refine lv_bipush (v := 8) hx hb dX3_isEmpty_3 (by decide) ?_
  refine lv_icmp_ge (tgt := 25) hx hb dX3_isEmpty_5 (by decide) (fun h => absurd h (by decide)) (fun _ => ?_)
  refine lv_aload_n hx hb dX3_isEmpty_8 rfl (lv_at hl 1 rfl) ?_
  refine h_getr (C := RX3) (T := TX3) (N := 3) hx hb hts inX3 hown hK hT0 (hY.o rfl) rfl 2 rfl wF_X3_18 rfl dX3_isEmpty_9 ?_
  refine lv_iload_n hx hb dX3_isEmpty_12 rfl (lv_at hl 0 rfl) ?_
  refine h_iald hx hb hK hT0 (hY.at 3 rfl) (h_inc (by decide)) dX3_isEmpty_13 (fun p23 => ?_)
  refine h_top (v := 0) p23 ?_
  refine lv_if_le (tgt := 19) hx hb dX3_isEmpty_14 (by decide) (fun _ => ?_) (fun h => absurd (by decide) h)
  refine lv_iinc (v := 8) (lv' := [(1, .int 8), (0, .ref (o))]) hx hb dX3_isEmpty_19 hl (k := 0) rfl (by decide) (by decide) rfl (fun ls hl => ?_)
  refine lv_goto (tgt := 2) hx hb dX3_isEmpty_22 (by decide) ?_
  refine lv_iload_n hx hb dX3_isEmpty_2 rfl (lv_at hl 0 rfl) ?_
  refine lv_bipush (v := 8) hx hb dX3_isEmpty_3 (by decide) ?_
  refine lv_icmp_ge (tgt := 25) hx hb dX3_isEmpty_5 (by decide) (fun _ => ?_) (fun h => absurd (by decide) h)
  refine lv_iconst (v := 1) hx hb dX3_isEmpty_25 (by decide) ?_
  exact hret _ _ _ _ _ hT0 hS0 ⟨by decide, rfl, rfl⟩ dX3_isEmpty_26
set_option maxHeartbeats 4000000 in
set_option maxRecDepth 100000 in
theorem c_X9_tell (l : Launch) (G : hG) (Y : hW) (o : Nat) (hY : h_On Y o (waE tF o)) (u1 : Int32) : hMi l yX9_tell cX9_tell 2 (some .int) 0 0 G Y [.ref (o), .int u1] (fun H => True) (fun H r H1 => (u1.toInt = 0 → r = 0) ∧ H1 = H) := by
  refine h_ofi (by decide +kernel) (Nat.le_of_ble_eq_true rfl) ?_
  intro p e s m args below meth c H0 ls Q hx hb hts hown hml hK hT0 hpr hS0 hl hret
  have hl : lv_has ls 2 [(0, .ref (o)), (1, .int u1)] := hl
  refine lv_iload_n hx hb dX9_tell_0 rfl (lv_at hl 1 rfl) ?_
  rcases h_sw10 u1 with c1 | c1 | c1 | c1 | c1 | c1 | c1 | c1 | c1 | c1 | c1
  · skip
    refine lv_tableOut (tgt := 122) hx hb dX9_tell_1 c1 (by decide) ?_
    refine lv_iconst (v := (-1)) hx hb dX9_tell_122 (by decide) ?_
    exact hret _ _ _ _ _ hT0 hS0 ⟨(fun h => by first | rfl | exact absurd h (by decide) | (exfalso; omega)), rfl⟩ dX9_tell_123
  · subst c1
    refine lv_tableIn (tgt := 56) hx hb dX9_tell_1 (by decide) (by decide) rfl (by decide) ?_
    refine lv_aload_n hx hb dX9_tell_56 rfl (lv_at hl 0 rfl) ?_
    refine h_getc (v := 0) (C := RX9) (T := TX9) (N := 11) hx hb hts inX9 hown hK hT0 (hY.o rfl) rfl 0 rfl wF_X9_9 rfl (fun _ h => h) dX9_tell_57 ?_
    exact hret _ _ _ _ _ hT0 hS0 ⟨(fun h => by first | rfl | exact absurd h (by decide) | (exfalso; omega)), rfl⟩ dX9_tell_60
  · subst c1
    refine lv_tableIn (tgt := 61) hx hb dX9_tell_1 (by decide) (by decide) rfl (by decide) ?_
    refine lv_aload_n hx hb dX9_tell_61 rfl (lv_at hl 0 rfl) ?_
    refine h_geti (C := RX9) (T := TX9) (N := 11) hx hb hts inX9 hown hK hT0 (hY.o rfl) rfl 1 rfl wF_X9_15 rfl dX9_tell_62 (fun p2 => ?_)
    refine lv_topi (fun x3 ex3 => ?_)
    exact hret _ _ _ _ _ hT0 hS0 ⟨(fun h => by first | rfl | exact absurd h (by decide) | (exfalso; omega)), rfl⟩ dX9_tell_65
  · subst c1
    refine lv_tableIn (tgt := 66) hx hb dX9_tell_1 (by decide) (by decide) rfl (by decide) ?_
    refine lv_aload_n hx hb dX9_tell_66 rfl (lv_at hl 0 rfl) ?_
    refine h_geti (C := RX9) (T := TX9) (N := 11) hx hb hts inX9 hown hK hT0 (hY.o rfl) rfl 2 rfl wF_X9_18 rfl dX9_tell_67 (fun p4 => ?_)
    refine lv_topi (fun x5 ex5 => ?_)
    exact hret _ _ _ _ _ hT0 hS0 ⟨(fun h => by first | rfl | exact absurd h (by decide) | (exfalso; omega)), rfl⟩ dX9_tell_70
  · subst c1
    refine lv_tableIn (tgt := 71) hx hb dX9_tell_1 (by decide) (by decide) rfl (by decide) ?_
    refine lv_aload_n hx hb dX9_tell_71 rfl (lv_at hl 0 rfl) ?_
    refine h_geti (C := RX9) (T := TX9) (N := 11) hx hb hts inX9 hown hK hT0 (hY.o rfl) rfl 3 rfl wF_X9_21 rfl dX9_tell_72 (fun p6 => ?_)
    refine lv_topi (fun x7 ex7 => ?_)
    exact hret _ _ _ _ _ hT0 hS0 ⟨(fun h => by first | rfl | exact absurd h (by decide) | (exfalso; omega)), rfl⟩ dX9_tell_75
  · subst c1
    refine lv_tableIn (tgt := 76) hx hb dX9_tell_1 (by decide) (by decide) rfl (by decide) ?_
    refine lv_aload_n hx hb dX9_tell_76 rfl (lv_at hl 0 rfl) ?_
    refine h_getc (v := 0) (C := RX9) (T := TX9) (N := 11) hx hb hts inX9 hown hK hT0 (hY.o rfl) rfl 4 rfl wF_X9_24 rfl (fun _ h => h) dX9_tell_77 ?_
    refine lv_if_eq (tgt := 87) hx hb dX9_tell_80 (by decide) (fun _ => ?_) (fun h => absurd (by decide) h)
    refine lv_iconst (v := 0) hx hb dX9_tell_87 (by decide) ?_
    exact hret _ _ _ _ _ hT0 hS0 ⟨(fun h => by first | rfl | exact absurd h (by decide) | (exfalso; omega)), rfl⟩ dX9_tell_88
  · subst c1
    refine lv_tableIn (tgt := 89) hx hb dX9_tell_1 (by decide) (by decide) rfl (by decide) ?_
    refine lv_aload_n hx hb dX9_tell_89 rfl (lv_at hl 0 rfl) ?_
    refine h_geti (C := RX9) (T := TX9) (N := 11) hx hb hts inX9 hown hK hT0 (hY.o rfl) rfl 5 rfl wF_X9_28 rfl dX9_tell_90 (fun p9 => ?_)
    refine lv_topi (fun x10 ex10 => ?_)
    exact hret _ _ _ _ _ hT0 hS0 ⟨(fun h => by first | rfl | exact absurd h (by decide) | (exfalso; omega)), rfl⟩ dX9_tell_93
  · subst c1
    refine lv_tableIn (tgt := 94) hx hb dX9_tell_1 (by decide) (by decide) rfl (by decide) ?_
    refine lv_aload_n hx hb dX9_tell_94 rfl (lv_at hl 0 rfl) ?_
    refine h_geti (C := RX9) (T := TX9) (N := 11) hx hb hts inX9 hown hK hT0 (hY.o rfl) rfl 6 rfl wF_X9_31 rfl dX9_tell_95 (fun p11 => ?_)
    refine lv_topi (fun x12 ex12 => ?_)
    exact hret _ _ _ _ _ hT0 hS0 ⟨(fun h => by first | rfl | exact absurd h (by decide) | (exfalso; omega)), rfl⟩ dX9_tell_98
  · subst c1
    refine lv_tableIn (tgt := 99) hx hb dX9_tell_1 (by decide) (by decide) rfl (by decide) ?_
    refine lv_aload_n hx hb dX9_tell_99 rfl (lv_at hl 0 rfl) ?_
    refine h_geti (C := RX9) (T := TX9) (N := 11) hx hb hts inX9 hown hK hT0 (hY.o rfl) rfl 7 rfl wF_X9_34 rfl dX9_tell_100 (fun p13 => ?_)
    refine lv_topi (fun x14 ex14 => ?_)
    exact hret _ _ _ _ _ hT0 hS0 ⟨(fun h => by first | rfl | exact absurd h (by decide) | (exfalso; omega)), rfl⟩ dX9_tell_103
  · subst c1
    refine lv_tableIn (tgt := 104) hx hb dX9_tell_1 (by decide) (by decide) rfl (by decide) ?_
    refine lv_aload_n hx hb dX9_tell_104 rfl (lv_at hl 0 rfl) ?_
    refine h_getc (v := 0) (C := RX9) (T := TX9) (N := 11) hx hb hts inX9 hown hK hT0 (hY.o rfl) rfl 8 rfl wF_X9_37 rfl (fun _ h => h) dX9_tell_105 ?_
    refine lv_if_eq (tgt := 115) hx hb dX9_tell_108 (by decide) (fun _ => ?_) (fun h => absurd (by decide) h)
    refine lv_iconst (v := 0) hx hb dX9_tell_115 (by decide) ?_
    exact hret _ _ _ _ _ hT0 hS0 ⟨(fun h => by first | rfl | exact absurd h (by decide) | (exfalso; omega)), rfl⟩ dX9_tell_116
  · subst c1
    refine lv_tableIn (tgt := 117) hx hb dX9_tell_1 (by decide) (by decide) rfl (by decide) ?_
    refine lv_aload_n hx hb dX9_tell_117 rfl (lv_at hl 0 rfl) ?_
    refine h_geti (C := RX9) (T := TX9) (N := 11) hx hb hts inX9 hown hK hT0 (hY.o rfl) rfl 9 rfl wF_X9_40 rfl dX9_tell_118 (fun p16 => ?_)
    refine lv_topi (fun x17 ex17 => ?_)
    exact hret _ _ _ _ _ hT0 hS0 ⟨(fun h => by first | rfl | exact absurd h (by decide) | (exfalso; omega)), rfl⟩ dX9_tell_121
set_option maxHeartbeats 4000000 in
set_option maxRecDepth 100000 in
theorem c_X0_counted (l : Launch) (G : hG) (Y : hW) (o : Nat) (hY : h_On Y o (boE tF o)) (u1 : Int32) : hMi l yX0_counted cX0_counted 2 (some .int) 0 0 G Y [.ref (o), .int u1] (fun H => True) (fun H r H1 => r = 0 ∧ H1 = H) := by
  refine h_ofi (by decide +kernel) (Nat.le_of_ble_eq_true rfl) ?_
  intro p e s m args below meth c H0 ls Q hx hb hts hown hml hK hT0 hpr hS0 hl hret
  have hl : lv_has ls 2 [(0, .ref (o)), (1, .int u1)] := hl
  refine lv_iload_n hx hb dX0_counted_0 rfl (lv_at hl 1 rfl) ?_
  refine lv_if_lt (tgt := 19) hx hb dX0_counted_1 (by decide) (fun c1 => ?_) (fun c1 => ?_)
  · skip
    refine lv_iconst (v := 0) hx hb dX0_counted_19 (by decide) ?_
    exact hret _ _ _ _ _ hT0 hS0 ⟨rfl, rfl⟩ dX0_counted_20
  · skip
    refine lv_iload_n hx hb dX0_counted_4 rfl (lv_at hl 1 rfl) ?_
    refine lv_bipush (v := 10) hx hb dX0_counted_5 (by decide) ?_
    refine lv_icmp_ge (tgt := 19) hx hb dX0_counted_7 (by decide) (fun c2 => ?_) (fun c2 => ?_)
    · skip
      refine lv_iconst (v := 0) hx hb dX0_counted_19 (by decide) ?_
      exact hret _ _ _ _ _ hT0 hS0 ⟨rfl, rfl⟩ dX0_counted_20
    · skip
      refine lv_aload_n hx hb dX0_counted_10 rfl (lv_at hl 0 rfl) ?_
      refine h_getr (C := RX0) (T := TX0) (N := 6) hx hb hts inX0 hown hK hT0 (hY.o rfl) rfl 0 rfl wF_X0_9 rfl dX0_counted_11 ?_
      refine lv_iload_n hx hb dX0_counted_14 rfl (lv_at hl 1 rfl) ?_
      refine h_iald hx hb hK hT0 (hY.at 1 rfl) (vp_in_iff.mpr (by simp only [Int32.lt_iff_toInt_lt, Int32.le_iff_toInt_le, ← Int32.toInt_inj, Int32.reduceToInt, (show (-1 : Int32).toInt = -1 from rfl)] at c1 c2 ⊢; omega)) dX0_counted_15 (fun p3 => ?_)
      refine h_top (v := 0) p3 ?_
      refine lv_goto (tgt := 20) hx hb dX0_counted_16 (by decide) ?_
      exact hret _ _ _ _ _ hT0 hS0 ⟨rfl, rfl⟩ dX0_counted_20
set_option maxHeartbeats 4000000 in
set_option maxRecDepth 100000 in
theorem c_X0_gotOf (l : Launch) (G : hG) (Y : hW) (o : Nat) (hY : h_On Y o (boE tF o)) (u1 : Int32) : hMi l yX0_gotOf cX0_gotOf 2 (some .int) 0 0 G Y [.ref (o), .int u1] (fun H => True) (fun H r H1 => r = 0 ∧ H1 = H) := by
  refine h_ofi (by decide +kernel) (Nat.le_of_ble_eq_true rfl) ?_
  intro p e s m args below meth c H0 ls Q hx hb hts hown hml hK hT0 hpr hS0 hl hret
  have hl : lv_has ls 2 [(0, .ref (o)), (1, .int u1)] := hl
  refine lv_iload_n hx hb dX0_gotOf_0 rfl (lv_at hl 1 rfl) ?_
  refine lv_if_lt (tgt := 19) hx hb dX0_gotOf_1 (by decide) (fun c1 => ?_) (fun c1 => ?_)
  · skip
    refine lv_iconst (v := 0) hx hb dX0_gotOf_19 (by decide) ?_
    exact hret _ _ _ _ _ hT0 hS0 ⟨rfl, rfl⟩ dX0_gotOf_20
  · skip
    refine lv_iload_n hx hb dX0_gotOf_4 rfl (lv_at hl 1 rfl) ?_
    refine lv_bipush (v := 8) hx hb dX0_gotOf_5 (by decide) ?_
    refine lv_icmp_ge (tgt := 19) hx hb dX0_gotOf_7 (by decide) (fun c2 => ?_) (fun c2 => ?_)
    · skip
      refine lv_iconst (v := 0) hx hb dX0_gotOf_19 (by decide) ?_
      exact hret _ _ _ _ _ hT0 hS0 ⟨rfl, rfl⟩ dX0_gotOf_20
    · skip
      refine lv_aload_n hx hb dX0_gotOf_10 rfl (lv_at hl 0 rfl) ?_
      refine h_getr (C := RX0) (T := TX0) (N := 6) hx hb hts inX0 hown hK hT0 (hY.o rfl) rfl 1 rfl wF_X0_15 rfl dX0_gotOf_11 ?_
      refine lv_iload_n hx hb dX0_gotOf_14 rfl (lv_at hl 1 rfl) ?_
      refine h_iald hx hb hK hT0 (hY.at 2 rfl) (vp_in_iff.mpr (by simp only [Int32.lt_iff_toInt_lt, Int32.le_iff_toInt_le, ← Int32.toInt_inj, Int32.reduceToInt, (show (-1 : Int32).toInt = -1 from rfl)] at c1 c2 ⊢; omega)) dX0_gotOf_15 (fun p3 => ?_)
      refine h_top (v := 0) p3 ?_
      refine lv_goto (tgt := 20) hx hb dX0_gotOf_16 (by decide) ?_
      exact hret _ _ _ _ _ hT0 hS0 ⟨rfl, rfl⟩ dX0_gotOf_20
set_option maxHeartbeats 4000000 in
set_option maxRecDepth 100000 in
theorem c_X0_agesOf (l : Launch) (G : hG) (Y : hW) (o : Nat) (hY : h_On Y o (boE tF o)) (u1 : Int32) : hMi l yX0_agesOf cX0_agesOf 2 (some .int) 0 0 G Y [.ref (o), .int u1] (fun H => True) (fun H r H1 => r = 0 ∧ H1 = H) := by
  refine h_ofi (by decide +kernel) (Nat.le_of_ble_eq_true rfl) ?_
  intro p e s m args below meth c H0 ls Q hx hb hts hown hml hK hT0 hpr hS0 hl hret
  have hl : lv_has ls 2 [(0, .ref (o)), (1, .int u1)] := hl
  refine lv_iload_n hx hb dX0_agesOf_0 rfl (lv_at hl 1 rfl) ?_
  refine lv_if_lt (tgt := 19) hx hb dX0_agesOf_1 (by decide) (fun c1 => ?_) (fun c1 => ?_)
  · skip
    refine lv_iconst (v := 0) hx hb dX0_agesOf_19 (by decide) ?_
    exact hret _ _ _ _ _ hT0 hS0 ⟨rfl, rfl⟩ dX0_agesOf_20
  · skip
    refine lv_iload_n hx hb dX0_agesOf_4 rfl (lv_at hl 1 rfl) ?_
    refine lv_bipush (v := 8) hx hb dX0_agesOf_5 (by decide) ?_
    refine lv_icmp_ge (tgt := 19) hx hb dX0_agesOf_7 (by decide) (fun c2 => ?_) (fun c2 => ?_)
    · skip
      refine lv_iconst (v := 0) hx hb dX0_agesOf_19 (by decide) ?_
      exact hret _ _ _ _ _ hT0 hS0 ⟨rfl, rfl⟩ dX0_agesOf_20
    · skip
      refine lv_aload_n hx hb dX0_agesOf_10 rfl (lv_at hl 0 rfl) ?_
      refine h_getr (C := RX0) (T := TX0) (N := 6) hx hb hts inX0 hown hK hT0 (hY.o rfl) rfl 2 rfl wF_X0_18 rfl dX0_agesOf_11 ?_
      refine lv_iload_n hx hb dX0_agesOf_14 rfl (lv_at hl 1 rfl) ?_
      refine h_iald hx hb hK hT0 (hY.at 3 rfl) (vp_in_iff.mpr (by simp only [Int32.lt_iff_toInt_lt, Int32.le_iff_toInt_le, ← Int32.toInt_inj, Int32.reduceToInt, (show (-1 : Int32).toInt = -1 from rfl)] at c1 c2 ⊢; omega)) dX0_agesOf_15 (fun p3 => ?_)
      refine h_top (v := 0) p3 ?_
      refine lv_goto (tgt := 20) hx hb dX0_agesOf_16 (by decide) ?_
      exact hret _ _ _ _ _ hT0 hS0 ⟨rfl, rfl⟩ dX0_agesOf_20
end
section
set_option maxHeartbeats 4000000 in
set_option maxRecDepth 100000 in
theorem c_X5_forgetLatestTick (l : Launch) (G : hG) (Y : hW) (o : Nat) (hY : h_On Y o (ringE tF o)) (z : Int32) : hMv l yX5_forgetLatestTick cX5_forgetLatestTick 1 none 0 0 G Y [.ref (o)] (fun H => h_gi G H 5 o 6 = z) (fun H H1 => h_gi G H1 5 o 6 = z ∧ ∀ q : Nat, q ≠ o → H1[q]? = H[q]?) := by
  refine h_ofv (by decide +kernel) (Nat.le_of_ble_eq_true rfl) ?_
  intro p e s m args below meth c H0 ls Q hx hb hts hown hml hK hT0 hpr hS0 hl hret
  have hl : lv_has ls 1 [(0, .ref (o))] := hl
  refine lv_aload_n hx hb dX5_forgetLatestTick_0 rfl (lv_at hl 0 rfl) ?_
  refine lv_iconst (v := (-1)) hx hb dX5_forgetLatestTick_1 (by decide) ?_
  refine h_puti (C := RX5) (T := TX5) (N := 11) hx hb hts inX5 tyX5 tyX5_ok nmX5 hown hK hT0 (fun _ h => h) hS0 (on_rg hY) rfl 8 rfl wF_X5_60 rfl rfl rfl rfl rfl dX5_forgetLatestTick_2 (fun H1 locs hT1 hS1 hu1 => ?_)
  refine lv_aload_n hx hb dX5_forgetLatestTick_5 rfl (lv_at hl 0 rfl) ?_
  refine lv_iconst (v := (-1)) hx hb dX5_forgetLatestTick_6 (by decide) ?_
  refine h_puti (C := RX5) (T := TX5) (N := 11) hx hb hts inX5 tyX5 tyX5_ok nmX5 hown hK hT1 (fun _ h => h) hS1 (on_rg hY) rfl 9 rfl wF_X5_63 rfl rfl rfl rfl rfl dX5_forgetLatestTick_7 (fun H2 locs hT2 hS2 hu2 => ?_)
  refine lv_aload_n hx hb dX5_forgetLatestTick_10 rfl (lv_at hl 0 rfl) ?_
  refine lv_iconst (v := 0) hx hb dX5_forgetLatestTick_11 (by decide) ?_
  refine h_puti (C := RX5) (T := TX5) (N := 11) hx hb hts inX5 tyX5 tyX5_ok nmX5 hown hK hT2 (fun _ h => h) hS2 (on_rg hY) rfl 10 rfl wF_X5_66 rfl rfl rfl rfl rfl dX5_forgetLatestTick_12 (fun H3 locs hT3 hS3 hu3 => ?_)
  exact hret _ _ _ _ hT3 hS3 ⟨((h_ps hu3 rfl (by decide) (by decide)).trans ((h_ps hu2 rfl (by decide) (by decide)).trans ((h_ps hu1 rfl (by decide) (by decide)).trans hpr))), (fun q hq => ((hu3.2.1 q hq).trans ((hu2.2.1 q hq).trans (hu1.2.1 q hq))))⟩ dX5_forgetLatestTick_15
set_option maxHeartbeats 4000000 in
set_option maxRecDepth 100000 in
theorem c_X5_copyFrom (l : Launch) (G : hG) (Y : hW) (o o2 : Nat) (hY : h_On Y o (ringE tF o)) (hY2 : h_On Y o2 (ringE tF o2)) : hMv l yX5_copyFrom cX5_copyFrom 2 none 2 81 G Y [.ref (o), .ref (o2)] (fun H => True) (fun H H1 => ∀ q : Nat, (q < o ∨ o + 25 ≤ q) → H1[q]? = H[q]?) := by
  refine h_ofv (by decide +kernel) (Nat.le_of_ble_eq_true rfl) ?_
  intro p e s m args below meth c H0 ls Q hx hb hts hown hml hK hT0 hpr hS0 hl hret
  have hl : lv_has ls 2 [(0, .ref (o)), (1, .ref (o2))] := hl
  refine lv_aload_n hx hb dX5_copyFrom_0 rfl (lv_at hl 0 rfl) ?_
  refine h_getr (C := RX5) (T := TX5) (N := 11) hx hb hts inX5 hown hK hT0 (on_rg hY) rfl 0 rfl wF_X5_12 rfl dX5_copyFrom_1 ?_
  refine lv_aload_n hx hb dX5_copyFrom_4 rfl (lv_at hl 1 rfl) ?_
  refine h_getr (C := RX5) (T := TX5) (N := 11) hx hb hts inX5 hown hK hT0 (on_rg hY2) rfl 0 rfl wF_X5_12 rfl dX5_copyFrom_5 ?_
  refine h_callVv (T := TX7) (rest := []) (As := [.ref (o2 + 1)]) hx hb hml hown hts hK hT0 (fun _ h => h) hS0 (c_X7_copyFrom l G Y (o + 1) (o2 + 1) (on_st hY) (on_st hY2)) trivial wd_X7_copyFrom wV_X7_copyFrom wL_X5_80 ((on_st hY).o rfl) rfl rfl hl.1 rfl (Nat.le_of_ble_eq_true rfl) dX5_copyFrom_8 ⟨Nat.le_of_ble_eq_true rfl, Nat.le_of_ble_eq_true rfl⟩ ⟨Nat.zero_le _, Nat.zero_le _⟩ (fun H1 locs hp1 hT1 hS1 hk1 => ?_)
  refine lv_aload_n hx hb dX5_copyFrom_11 rfl (lv_at hl 0 rfl) ?_
  refine h_getr (C := RX5) (T := TX5) (N := 11) hx hb hts inX5 hown hK hT1 (on_rg hY) rfl 1 rfl wF_X5_21 rfl dX5_copyFrom_12 ?_
  refine lv_aload_n hx hb dX5_copyFrom_15 rfl (lv_at hl 1 rfl) ?_
  refine h_getr (C := RX5) (T := TX5) (N := 11) hx hb hts inX5 hown hK hT1 (on_rg hY2) rfl 1 rfl wF_X5_21 rfl dX5_copyFrom_16 ?_
  refine h_callVv (T := TX2) (rest := []) (As := [.ref (o2 + 7)]) hx hb hml hown hts hK hT1 (fun _ h => h) hS1 (c_X2_copyFrom l G Y (o + 7) (o2 + 7) (on_qu hY) (on_qu hY2)) trivial wd_X2_copyFrom wV_X2_copyFrom wL_X5_84 ((on_qu hY).o rfl) rfl rfl hl.1 rfl (Nat.le_of_ble_eq_true rfl) dX5_copyFrom_19 ⟨Nat.le_of_ble_eq_true rfl, Nat.le_of_ble_eq_true rfl⟩ ⟨Nat.zero_le _, Nat.zero_le _⟩ (fun H2 locs hp2 hT2 hS2 hk2 => ?_)
  refine lv_aload_n hx hb dX5_copyFrom_22 rfl (lv_at hl 0 rfl) ?_
  refine h_getr (C := RX5) (T := TX5) (N := 11) hx hb hts inX5 hown hK hT2 (on_rg hY) rfl 2 rfl wF_X5_28 rfl dX5_copyFrom_23 ?_
  refine lv_aload_n hx hb dX5_copyFrom_26 rfl (lv_at hl 1 rfl) ?_
  refine h_getr (C := RX5) (T := TX5) (N := 11) hx hb hts inX5 hown hK hT2 (on_rg hY2) rfl 2 rfl wF_X5_28 rfl dX5_copyFrom_27 ?_
  refine h_callVv (T := TX3) (rest := []) (As := [.ref (o2 + 13)]) hx hb hml hown hts hK hT2 (fun _ h => h) hS2 (c_X3_copyFrom l G Y (o + 13) (o2 + 13) (on_ra hY) (on_ra hY2)) trivial wd_X3_copyFrom wV_X3_copyFrom wL_X5_87 ((on_ra hY).o rfl) rfl rfl hl.1 rfl (Nat.le_of_ble_eq_true rfl) dX5_copyFrom_30 ⟨Nat.le_of_ble_eq_true rfl, Nat.le_of_ble_eq_true rfl⟩ ⟨Nat.zero_le _, Nat.zero_le _⟩ (fun H3 locs hp3 hT3 hS3 hk3 => ?_)
  refine lv_aload_n hx hb dX5_copyFrom_33 rfl (lv_at hl 0 rfl) ?_
  refine h_getr (C := RX5) (T := TX5) (N := 11) hx hb hts inX5 hown hK hT3 (on_rg hY) rfl 3 rfl wF_X5_35 rfl dX5_copyFrom_34 ?_
  refine lv_aload_n hx hb dX5_copyFrom_37 rfl (lv_at hl 1 rfl) ?_
  refine h_getr (C := RX5) (T := TX5) (N := 11) hx hb hts inX5 hown hK hT3 (on_rg hY2) rfl 3 rfl wF_X5_35 rfl dX5_copyFrom_38 ?_
  refine h_callVv (T := TX9) (rest := []) (As := [.ref (o2 + 17)]) hx hb hml hown hts hK hT3 (fun _ h => h) hS3 (c_X9_copyFrom l G Y (o + 17) (o2 + 17) (on_wa hY) (on_wa hY2)) trivial wd_X9_copyFrom wV_X9_copyFrom wL_X5_90 ((on_wa hY).o rfl) rfl rfl hl.1 rfl (Nat.le_of_ble_eq_true rfl) dX5_copyFrom_41 ⟨Nat.le_of_ble_eq_true rfl, Nat.le_of_ble_eq_true rfl⟩ ⟨Nat.zero_le _, Nat.zero_le _⟩ (fun H4 locs hp4 hT4 hS4 hk4 => ?_)
  refine lv_aload_n hx hb dX5_copyFrom_44 rfl (lv_at hl 0 rfl) ?_
  refine h_getr (C := RX5) (T := TX5) (N := 11) hx hb hts inX5 hown hK hT4 (on_rg hY) rfl 4 rfl wF_X5_42 rfl dX5_copyFrom_45 ?_
  refine lv_aload_n hx hb dX5_copyFrom_48 rfl (lv_at hl 1 rfl) ?_
  refine h_getr (C := RX5) (T := TX5) (N := 11) hx hb hts inX5 hown hK hT4 (on_rg hY2) rfl 4 rfl wF_X5_42 rfl dX5_copyFrom_49 ?_
  refine h_callVv (T := TX6) (rest := []) (As := [.ref (o2 + 18)]) hx hb hml hown hts hK hT4 (fun _ h => h) hS4 (c_X6_copyFrom l G Y (o + 18) (o2 + 18) (on_si hY) (on_si hY2)) trivial wd_X6_copyFrom wV_X6_copyFrom wL_X5_93 ((on_si hY).o rfl) rfl rfl hl.1 rfl (Nat.le_of_ble_eq_true rfl) dX5_copyFrom_52 ⟨Nat.le_of_ble_eq_true rfl, Nat.le_of_ble_eq_true rfl⟩ ⟨Nat.zero_le _, Nat.zero_le _⟩ (fun H5 locs hp5 hT5 hS5 hk5 => ?_)
  refine lv_aload_n hx hb dX5_copyFrom_55 rfl (lv_at hl 0 rfl) ?_
  refine h_getr (C := RX5) (T := TX5) (N := 11) hx hb hts inX5 hown hK hT5 (on_rg hY) rfl 5 rfl wF_X5_49 rfl dX5_copyFrom_56 ?_
  refine lv_aload_n hx hb dX5_copyFrom_59 rfl (lv_at hl 1 rfl) ?_
  refine h_getr (C := RX5) (T := TX5) (N := 11) hx hb hts inX5 hown hK hT5 (on_rg hY2) rfl 5 rfl wF_X5_49 rfl dX5_copyFrom_60 ?_
  refine h_callVv (T := TX0) (rest := []) (As := [.ref (o2 + 19)]) hx hb hml hown hts hK hT5 (fun _ h => h) hS5 (c_X0_copyFrom l G Y (o + 19) (o2 + 19) (on_bo hY) (on_bo hY2)) trivial wd_X0_copyFrom wV_X0_copyFrom wL_X5_96 ((on_bo hY).o rfl) rfl rfl hl.1 rfl (Nat.le_of_ble_eq_true rfl) dX5_copyFrom_63 ⟨Nat.le_of_ble_eq_true rfl, Nat.le_of_ble_eq_true rfl⟩ ⟨Nat.zero_le _, Nat.zero_le _⟩ (fun H6 locs hp6 hT6 hS6 hk6 => ?_)
  refine lv_aload_n hx hb dX5_copyFrom_66 rfl (lv_at hl 0 rfl) ?_
  refine lv_aload_n hx hb dX5_copyFrom_67 rfl (lv_at hl 1 rfl) ?_
  refine h_geti (C := RX5) (T := TX5) (N := 11) hx hb hts inX5 hown hK hT6 (on_rg hY2) rfl 6 rfl wF_X5_53 rfl dX5_copyFrom_68 (fun p1 => ?_)
  refine lv_topi (fun x2 ex2 => ?_)
  refine h_puti (C := RX5) (T := TX5) (N := 11) hx hb hts inX5 tyX5 tyX5_ok nmX5 hown hK hT6 (fun _ h => h) hS6 (on_rg hY) rfl 6 rfl wF_X5_53 rfl rfl trivial rfl rfl dX5_copyFrom_71 (fun H7 locs hT7 hS7 hu7 => ?_)
  refine lv_aload_n hx hb dX5_copyFrom_74 rfl (lv_at hl 0 rfl) ?_
  refine lv_aload_n hx hb dX5_copyFrom_75 rfl (lv_at hl 1 rfl) ?_
  refine h_getc (v := 0) (C := RX5) (T := TX5) (N := 11) hx hb hts inX5 hown hK hT7 (on_rg hY2) rfl 7 rfl wF_X5_57 rfl (fun _ h => h) dX5_copyFrom_76 ?_
  refine h_puti (C := RX5) (T := TX5) (N := 11) hx hb hts inX5 tyX5 tyX5_ok nmX5 hown hK hT7 (fun _ h => h) hS7 (on_rg hY) rfl 7 rfl wF_X5_57 rfl rfl rfl rfl rfl dX5_copyFrom_79 (fun H8 locs hT8 hS8 hu8 => ?_)
  refine lv_aload_n hx hb dX5_copyFrom_82 rfl (lv_at hl 0 rfl) ?_
  refine h_callVv (T := TX5) (rest := []) (As := []) hx hb hml hown hts hK hT8 (fun _ h => h) hS8 (c_X5_forgetLatestTick l G Y (o) hY _) rfl wd_X5_forgetLatestTick wV_X5_forgetLatestTick wL_X5_99 (on_rg hY) rfl rfl hl.1 rfl (Nat.le_of_ble_eq_true rfl) dX5_copyFrom_83 ⟨Nat.le_of_ble_eq_true rfl, Nat.le_of_ble_eq_true rfl⟩ ⟨Nat.zero_le _, Nat.zero_le _⟩ (fun H9 locs hp9 hT9 hS9 hk9 => ?_)
  exact hret _ _ _ _ hT9 hS9 (fun q hq => ((hp9.2 q (by omega)).trans ((hu8.2.1 q (by omega)).trans ((hu7.2.1 q (by omega)).trans ((hp6 q (by omega)).trans ((hp5 q (by omega)).trans ((hp4 q (by omega)).trans ((hp3 q (by omega)).trans ((hp2 q (by omega)).trans (hp1 q (by omega))))))))))) dX5_copyFrom_86
set_option maxHeartbeats 4000000 in
set_option maxRecDepth 100000 in
theorem c_X5_clear (l : Launch) (G : hG) (Y : hW) (o : Nat) (hY : h_On Y o (ringE tF o)) : hMv l yX5_clear cX5_clear 1 none 2 43 G Y [.ref (o)] (fun H => True) (fun H H1 => True) := by
  refine h_ofv (by decide +kernel) (Nat.le_of_ble_eq_true rfl) ?_
  intro p e s m args below meth c H0 ls Q hx hb hts hown hml hK hT0 hpr hS0 hl hret
  have hl : lv_has ls 1 [(0, .ref (o))] := hl
  refine lv_aload_n hx hb dX5_clear_0 rfl (lv_at hl 0 rfl) ?_
  refine h_getr (C := RX5) (T := TX5) (N := 11) hx hb hts inX5 hown hK hT0 (on_rg hY) rfl 0 rfl wF_X5_12 rfl dX5_clear_1 ?_
  refine h_callVv (T := TX7) (rest := []) (As := []) hx hb hml hown hts hK hT0 (fun _ h => h) hS0 (c_X7_clear l G Y (o + 1) (on_st hY)) trivial wd_X7_clear wV_X7_clear wL_X5_70 ((on_st hY).o rfl) rfl rfl hl.1 rfl (Nat.le_of_ble_eq_true rfl) dX5_clear_4 ⟨Nat.le_of_ble_eq_true rfl, Nat.le_of_ble_eq_true rfl⟩ ⟨Nat.zero_le _, Nat.zero_le _⟩ (fun H1 locs hp1 hT1 hS1 hk1 => ?_)
  refine lv_aload_n hx hb dX5_clear_7 rfl (lv_at hl 0 rfl) ?_
  refine h_getr (C := RX5) (T := TX5) (N := 11) hx hb hts inX5 hown hK hT1 (on_rg hY) rfl 1 rfl wF_X5_21 rfl dX5_clear_8 ?_
  refine h_callVv (T := TX2) (rest := []) (As := []) hx hb hml hown hts hK hT1 (fun _ h => h) hS1 (c_X2_clear l G Y (o + 7) (on_qu hY)) trivial wd_X2_clear wV_X2_clear wL_X5_73 ((on_qu hY).o rfl) rfl rfl hl.1 rfl (Nat.le_of_ble_eq_true rfl) dX5_clear_11 ⟨Nat.le_of_ble_eq_true rfl, Nat.le_of_ble_eq_true rfl⟩ ⟨Nat.zero_le _, Nat.zero_le _⟩ (fun H2 locs hp2 hT2 hS2 hk2 => ?_)
  refine lv_aload_n hx hb dX5_clear_14 rfl (lv_at hl 0 rfl) ?_
  refine h_getr (C := RX5) (T := TX5) (N := 11) hx hb hts inX5 hown hK hT2 (on_rg hY) rfl 2 rfl wF_X5_28 rfl dX5_clear_15 ?_
  refine h_callVv (T := TX3) (rest := []) (As := []) hx hb hml hown hts hK hT2 (fun _ h => h) hS2 (c_X3_clear l G Y (o + 13) (on_ra hY)) trivial wd_X3_clear wV_X3_clear wL_X5_74 ((on_ra hY).o rfl) rfl rfl hl.1 rfl (Nat.le_of_ble_eq_true rfl) dX5_clear_18 ⟨Nat.le_of_ble_eq_true rfl, Nat.le_of_ble_eq_true rfl⟩ ⟨Nat.zero_le _, Nat.zero_le _⟩ (fun H3 locs hp3 hT3 hS3 hk3 => ?_)
  refine lv_aload_n hx hb dX5_clear_21 rfl (lv_at hl 0 rfl) ?_
  refine h_getr (C := RX5) (T := TX5) (N := 11) hx hb hts inX5 hown hK hT3 (on_rg hY) rfl 3 rfl wF_X5_35 rfl dX5_clear_22 ?_
  refine h_callVv (T := TX9) (rest := []) (As := []) hx hb hml hown hts hK hT3 (fun _ h => h) hS3 (c_X9_clear l G Y (o + 17) (on_wa hY)) trivial wd_X9_clear wV_X9_clear wL_X5_75 ((on_wa hY).o rfl) rfl rfl hl.1 rfl (Nat.le_of_ble_eq_true rfl) dX5_clear_25 ⟨Nat.le_of_ble_eq_true rfl, Nat.le_of_ble_eq_true rfl⟩ ⟨Nat.zero_le _, Nat.zero_le _⟩ (fun H4 locs hp4 hT4 hS4 hk4 => ?_)
  refine lv_aload_n hx hb dX5_clear_28 rfl (lv_at hl 0 rfl) ?_
  refine h_getr (C := RX5) (T := TX5) (N := 11) hx hb hts inX5 hown hK hT4 (on_rg hY) rfl 4 rfl wF_X5_42 rfl dX5_clear_29 ?_
  refine h_callVv (T := TX6) (rest := []) (As := []) hx hb hml hown hts hK hT4 (fun _ h => h) hS4 (c_X6_restart l G Y (o + 18) (on_si hY)) trivial wd_X6_restart wV_X6_restart wL_X5_76 ((on_si hY).o rfl) rfl rfl hl.1 rfl (Nat.le_of_ble_eq_true rfl) dX5_clear_32 ⟨Nat.le_of_ble_eq_true rfl, Nat.le_of_ble_eq_true rfl⟩ ⟨Nat.zero_le _, Nat.zero_le _⟩ (fun H5 locs hp5 hT5 hS5 hk5 => ?_)
  refine lv_aload_n hx hb dX5_clear_35 rfl (lv_at hl 0 rfl) ?_
  refine h_getr (C := RX5) (T := TX5) (N := 11) hx hb hts inX5 hown hK hT5 (on_rg hY) rfl 5 rfl wF_X5_49 rfl dX5_clear_36 ?_
  refine h_callVv (T := TX0) (rest := []) (As := []) hx hb hml hown hts hK hT5 (fun _ h => h) hS5 (c_X0_clear l G Y (o + 19) (on_bo hY)) trivial wd_X0_clear wV_X0_clear wL_X5_79 ((on_bo hY).o rfl) rfl rfl hl.1 rfl (Nat.le_of_ble_eq_true rfl) dX5_clear_39 ⟨Nat.le_of_ble_eq_true rfl, Nat.le_of_ble_eq_true rfl⟩ ⟨Nat.zero_le _, Nat.zero_le _⟩ (fun H6 locs hp6 hT6 hS6 hk6 => ?_)
  refine lv_aload_n hx hb dX5_clear_42 rfl (lv_at hl 0 rfl) ?_
  refine lv_iconst (v := 0) hx hb dX5_clear_43 (by decide) ?_
  refine h_puti (C := RX5) (T := TX5) (N := 11) hx hb hts inX5 tyX5 tyX5_ok nmX5 hown hK hT6 (fun _ h => h) hS6 (on_rg hY) rfl 6 rfl wF_X5_53 rfl rfl trivial rfl rfl dX5_clear_44 (fun H7 locs hT7 hS7 hu7 => ?_)
  refine lv_aload_n hx hb dX5_clear_47 rfl (lv_at hl 0 rfl) ?_
  refine lv_iconst (v := 0) hx hb dX5_clear_48 (by decide) ?_
  refine h_puti (C := RX5) (T := TX5) (N := 11) hx hb hts inX5 tyX5 tyX5_ok nmX5 hown hK hT7 (fun _ h => h) hS7 (on_rg hY) rfl 7 rfl wF_X5_57 rfl rfl rfl rfl rfl dX5_clear_49 (fun H8 locs hT8 hS8 hu8 => ?_)
  exact hret _ _ _ _ hT8 hS8 trivial dX5_clear_52
set_option maxHeartbeats 4000000 in
set_option maxRecDepth 100000 in
theorem c_X5_hasFrame (l : Launch) (G : hG) (Y : hW) (o : Nat) (hY : h_On Y o (ringE tF o)) (u1 : Int32) : hMi l yX5_hasFrame cX5_hasFrame 2 (some .boolean) 1 23 G Y [.ref (o), .int u1] (fun H => True) (fun H r H1 => r = 0 ∧ H1 = H) := by
  refine h_ofz (by decide +kernel) (Nat.le_of_ble_eq_true rfl) ?_
  intro p e s m args below meth c H0 ls Q hx hb hts hown hml hK hT0 hpr hS0 hl hret
  have hl : lv_has ls 2 [(0, .ref (o)), (1, .int u1)] := hl
  refine lv_aload_n hx hb dX5_hasFrame_0 rfl (lv_at hl 0 rfl) ?_
  refine h_getr (C := RX5) (T := TX5) (N := 11) hx hb hts inX5 hown hK hT0 (on_rg hY) rfl 3 rfl wF_X5_35 rfl dX5_hasFrame_1 ?_
  refine h_getc (v := 0) (C := RX9) (T := TX9) (N := 11) hx hb hts inX9 hown hK hT0 ((on_wa hY).o rfl) rfl 0 rfl wF_X5_142 rfl (fun _ h => h) dX5_hasFrame_4 ?_
  refine lv_iconst (v := 2) hx hb dX5_hasFrame_7 (by decide) ?_
  refine lv_icmp_ne (tgt := 22) hx hb dX5_hasFrame_8 (by decide) (fun _ => ?_) (fun h => absurd h (by decide))
  refine lv_aload_n hx hb dX5_hasFrame_22 rfl (lv_at hl 0 rfl) ?_
  refine h_getr (C := RX5) (T := TX5) (N := 11) hx hb hts inX5 hown hK hT0 (on_rg hY) rfl 1 rfl wF_X5_21 rfl dX5_hasFrame_23 ?_
  refine lv_iload_n hx hb dX5_hasFrame_26 rfl (lv_at hl 1 rfl) ?_
  refine h_callVi (T := TX2) (rest := []) (As := [.int u1]) hx hb hml hown hts hK hT0 (fun _ h => h) hS0 (c_X2_slotOf l G Y (o + 7) (on_qu hY) u1) trivial wd_X2_slotOf wV_X2_slotOf wL_X5_148 ((on_qu hY).o rfl) rfl rfl hl.1 rfl (Nat.le_of_ble_eq_true rfl) dX5_hasFrame_27 ⟨Nat.le_of_ble_eq_true rfl, Nat.le_of_ble_eq_true rfl⟩ ⟨Nat.zero_le _, Nat.zero_le _⟩ (fun r2 H1 locs hp1 hT1 hS1 hk1 => ?_)
  obtain ⟨hp1, he⟩ := hp1
  have he := he.symm
  subst he
  have hp1 : r2 = (-1) := hp1
  subst hp1
  refine lv_iconst (v := (-1)) hx hb dX5_hasFrame_30 (by decide) ?_
  refine lv_icmp_eq (tgt := 38) hx hb dX5_hasFrame_31 (by decide) (fun _ => ?_) (fun h => absurd (by decide) h)
  refine lv_iconst (v := 0) hx hb dX5_hasFrame_38 (by decide) ?_
  exact hret _ _ _ _ _ hT0 hS1 ⟨by decide, rfl, rfl⟩ dX5_hasFrame_39
set_option maxHeartbeats 4000000 in
set_option maxRecDepth 100000 in
theorem c_X5_isQuiet (l : Launch) (G : hG) (Y : hW) (o : Nat) (hY : h_On Y o (ringE tF o)) : hMi l yX5_isQuiet cX5_isQuiet 2 (some .boolean) 0 0 G Y [.ref (o)] (fun H => True) (fun H r H1 => r = 1 ∧ H1 = H) := by
  refine h_ofz (by decide +kernel) (Nat.le_of_ble_eq_true rfl) ?_
  intro p e s m args below meth c H0 ls Q hx hb hts hown hml hK hT0 hpr hS0 hl hret
  have hl : lv_has ls 2 [(0, .ref (o))] := hl
  refine lv_aload_n hx hb dX5_isQuiet_0 rfl (lv_at hl 0 rfl) ?_
  refine h_getr (C := RX5) (T := TX5) (N := 11) hx hb hts inX5 hown hK hT0 (on_rg hY) rfl 3 rfl wF_X5_35 rfl dX5_isQuiet_1 ?_
  refine h_getc (v := 0) (C := RX9) (T := TX9) (N := 11) hx hb hts inX9 hown hK hT0 ((on_wa hY).o rfl) rfl 0 rfl wF_X5_142 rfl (fun _ h => h) dX5_isQuiet_4 ?_
  refine lv_iconst (v := 2) hx hb dX5_isQuiet_7 (by decide) ?_
  refine lv_icmp_ne (tgt := 13) hx hb dX5_isQuiet_8 (by decide) (fun _ => ?_) (fun h => absurd h (by decide))
  refine lv_iconst (v := 0) hx hb dX5_isQuiet_13 (by decide) ?_
  refine lv_istore_n (lv' := [(1, .int 0), (0, .ref (o))]) hx hb dX5_isQuiet_14 rfl hl (by decide) rfl (fun ls hl => ?_)
  refine lv_iload_n hx hb dX5_isQuiet_15 rfl (lv_at hl 0 rfl) ?_
  refine lv_aload_n hx hb dX5_isQuiet_16 rfl (lv_at hl 1 rfl) ?_
  refine h_getr (C := RX5) (T := TX5) (N := 11) hx hb hts inX5 hown hK hT0 (on_rg hY) rfl 0 rfl wF_X5_12 rfl dX5_isQuiet_17 ?_
  refine h_getc (v := 0) (C := RX7) (T := TX7) (N := 9) hx hb hts inX7 hown hK hT0 ((on_st hY).o rfl) rfl 5 rfl wF_X5_151 rfl (fun _ h => h) dX5_isQuiet_20 ?_
  refine lv_icmp_ge (tgt := 56) hx hb dX5_isQuiet_23 (by decide) (fun _ => ?_) (fun h => absurd (by decide) h)
  refine lv_iconst (v := 1) hx hb dX5_isQuiet_56 (by decide) ?_
  exact hret _ _ _ _ _ hT0 hS0 ⟨by decide, rfl, rfl⟩ dX5_isQuiet_57
set_option maxHeartbeats 4000000 in
set_option maxRecDepth 100000 in
theorem c_X5_passSilentTick (l : Launch) (G : hG) (Y : hW) (o : Nat) (hY : h_On Y o (ringE tF o)) (z : Int32) : hMv l yX5_passSilentTick cX5_passSilentTick 2 none 2 42 G Y [.ref (o)] (fun H => h_gi G H 5 o 6 = z) (fun H H1 => h_gi G H1 5 o 6 = z) := by
  refine h_ofv (by decide +kernel) (Nat.le_of_ble_eq_true rfl) ?_
  intro p e s m args below meth c H0 ls Q hx hb hts hown hml hK hT0 hpr hS0 hl hret
  have hl : lv_has ls 2 [(0, .ref (o))] := hl
  refine lv_aload_n hx hb dX5_passSilentTick_0 rfl (lv_at hl 0 rfl) ?_
  refine h_getr (C := RX5) (T := TX5) (N := 11) hx hb hts inX5 hown hK hT0 (on_rg hY) rfl 4 rfl wF_X5_42 rfl dX5_passSilentTick_1 ?_
  refine lv_dup hx hb dX5_passSilentTick_4 rfl ?_
  refine h_geti (C := RX6) (T := TX6) (N := 4) hx hb hts inX6 hown hK hT0 ((on_si hY).o rfl) rfl 0 rfl wF_X5_284 rfl dX5_passSilentTick_5 (fun p1 => ?_)
  refine lv_topi (fun x2 ex2 => ?_)
  refine lv_iconst (v := 1) hx hb dX5_passSilentTick_8 (by decide) ?_
  refine lv_iadd hx hb dX5_passSilentTick_9 ?_
  refine lv_topi (fun x3 ex3 => ?_)
  refine h_puti (C := RX6) (T := TX6) (N := 4) hx hb hts inX6 tyX6 tyX6_ok nmX6 hown hK hT0 (fun _ h => h) hS0 ((on_si hY).o rfl) rfl 0 rfl wF_X5_284 rfl rfl trivial rfl rfl dX5_passSilentTick_10 (fun H1 locs hT1 hS1 hu1 => ?_)
  refine lv_aload_n hx hb dX5_passSilentTick_13 rfl (lv_at hl 0 rfl) ?_
  refine h_getr (C := RX5) (T := TX5) (N := 11) hx hb hts inX5 hown hK hT1 (on_rg hY) rfl 0 rfl wF_X5_12 rfl dX5_passSilentTick_14 ?_
  refine h_callVi (T := TX7) (rest := []) (As := []) hx hb hml hown hts hK hT1 (fun _ h => h) hS1 (c_X7_onCount l G Y (o + 1) (on_st hY)) trivial wd_X7_onCount wV_X7_onCount wL_X5_285 ((on_st hY).o rfl) rfl rfl hl.1 rfl (Nat.le_of_ble_eq_true rfl) dX5_passSilentTick_17 ⟨Nat.le_of_ble_eq_true rfl, Nat.le_of_ble_eq_true rfl⟩ ⟨Nat.zero_le _, Nat.zero_le _⟩ (fun r4 H2 locs hp2 hT2 hS2 hk2 => ?_)
  obtain ⟨hp2, he⟩ := hp2
  have he := he.symm
  subst he
  have hp2 : r4 = 0 := hp2
  subst hp2
  refine lv_istore_n (lv' := [(1, .int 0), (0, .ref (o))]) hx hb dX5_passSilentTick_20 rfl hl (by decide) rfl (fun ls hl => ?_)
  refine lv_iload_n hx hb dX5_passSilentTick_21 rfl (lv_at hl 0 rfl) ?_
  refine lv_if_ne (tgt := 26) hx hb dX5_passSilentTick_22 (by decide) (fun h => absurd (by decide) h) (fun _ => ?_)
  exact hret _ _ _ _ hT1 hS2 ((h_po hu1 (by omega)).trans hpr) dX5_passSilentTick_25
set_option maxHeartbeats 4000000 in
set_option maxRecDepth 100000 in
theorem c_X5_passTick (l : Launch) (G : hG) (Y : hW) (o : Nat) (hY : h_On Y o (ringE tF o)) (u1 z : Int32) : hMv l yX5_passTick cX5_passTick 2 none 3 63 G Y [.ref (o), .int u1] (fun H => h_gi G H 5 o 6 = z) (fun H H1 => h_gi G H1 5 o 6 = z + 1) := by
  refine h_ofv (by decide +kernel) (Nat.le_of_ble_eq_true rfl) ?_
  intro p e s m args below meth c H0 ls Q hx hb hts hown hml hK hT0 hpr hS0 hl hret
  have hl : lv_has ls 2 [(0, .ref (o)), (1, .int u1)] := hl
  refine lv_aload_n hx hb dX5_passTick_0 rfl (lv_at hl 0 rfl) ?_
  refine lv_dup hx hb dX5_passTick_1 rfl ?_
  refine h_geti (C := RX5) (T := TX5) (N := 11) hx hb hts inX5 hown hK hT0 (on_rg hY) rfl 6 rfl wF_X5_53 rfl dX5_passTick_2 (fun p1 => ?_)
  refine h_top (v := z) hpr ?_
  refine lv_iconst (v := 1) hx hb dX5_passTick_5 (by decide) ?_
  refine lv_iadd hx hb dX5_passTick_6 ?_
  refine lv_topi (fun x2 ex2 => ?_)
  refine h_puti (C := RX5) (T := TX5) (N := 11) hx hb hts inX5 tyX5 tyX5_ok nmX5 hown hK hT0 (fun _ h => h) hS0 (on_rg hY) rfl 6 rfl wF_X5_53 rfl rfl trivial rfl rfl dX5_passTick_7 (fun H1 locs hT1 hS1 hu1 => ?_)
  refine lv_aload_n hx hb dX5_passTick_10 rfl (lv_at hl 0 rfl) ?_
  refine h_callVv (T := TX5) (rest := []) (As := []) hx hb hml hown hts hK hT1 (fun _ h => h) hS1 (c_X5_forgetLatestTick l G Y (o) hY x2) (h_pu hu1) wd_X5_forgetLatestTick wV_X5_forgetLatestTick wL_X5_99 (on_rg hY) rfl rfl hl.1 rfl (Nat.le_of_ble_eq_true rfl) dX5_passTick_11 ⟨Nat.le_of_ble_eq_true rfl, Nat.le_of_ble_eq_true rfl⟩ ⟨Nat.zero_le _, Nat.zero_le _⟩ (fun H2 locs hp2 hT2 hS2 hk2 => ?_)
  refine lv_aload_n hx hb dX5_passTick_14 rfl (lv_at hl 0 rfl) ?_
  refine h_getr (C := RX5) (T := TX5) (N := 11) hx hb hts inX5 hown hK hT2 (on_rg hY) rfl 3 rfl wF_X5_35 rfl dX5_passTick_15 ?_
  refine h_getc (v := 0) (C := RX9) (T := TX9) (N := 11) hx hb hts inX9 hown hK hT2 ((on_wa hY).o rfl) rfl 0 rfl wF_X5_142 rfl (fun _ h => h) dX5_passTick_18 ?_
  refine lv_if_ne (tgt := 31) hx hb dX5_passTick_21 (by decide) (fun h => absurd (by decide) h) (fun _ => ?_)
  refine lv_aload_n hx hb dX5_passTick_24 rfl (lv_at hl 0 rfl) ?_
  refine h_callVv (T := TX5) (rest := []) (As := []) hx hb hml hown hts hK hT2 (fun _ h => h) hS2 (c_X5_passSilentTick l G Y (o) hY x2) hp2.1 wd_X5_passSilentTick wV_X5_passSilentTick wL_X5_195 (on_rg hY) rfl rfl hl.1 rfl (Nat.le_of_ble_eq_true rfl) dX5_passTick_25 ⟨Nat.le_of_ble_eq_true rfl, Nat.le_of_ble_eq_true rfl⟩ ⟨Nat.zero_le _, Nat.zero_le _⟩ (fun H3 locs hp3 hT3 hS3 hk3 => ?_)
  refine lv_goto (tgt := 36) hx hb dX5_passTick_28 (by decide) ?_
  exact hret _ _ _ _ hT3 hS3 (hp3.trans ex2) dX5_passTick_36
set_option maxHeartbeats 4000000 in
set_option maxRecDepth 100000 in
theorem c_X5_nextDraw (l : Launch) (G : hG) (Y : hW) (o : Nat) (hY : h_On Y o (ringE tF o)) (u1 : Int32) : hMi l yX5_nextDraw cX5_nextDraw 2 (some .int) 0 0 G Y [.ref (o), .int u1] (fun H => True) (fun H r H1 => True ∧ H1 = H) := by
  refine h_ofi (by decide +kernel) (Nat.le_of_ble_eq_true rfl) ?_
  intro p e s m args below meth c H0 ls Q hx hb hts hown hml hK hT0 hpr hS0 hl hret
  have hl : lv_has ls 2 [(0, .ref (o)), (1, .int u1)] := hl
  refine lv_iload_n hx hb dX5_nextDraw_0 rfl (lv_at hl 1 rfl) ?_
  refine lv_sipush (v := 3877) hx hb dX5_nextDraw_1 (by decide) ?_
  refine lv_imul hx hb dX5_nextDraw_4 ?_
  refine lv_topi (fun x1 ex1 => ?_)
  refine lv_sipush (v := 29573) hx hb dX5_nextDraw_5 (by decide) ?_
  refine lv_iadd hx hb dX5_nextDraw_8 ?_
  refine lv_topi (fun x2 ex2 => ?_)
  refine lv_ldc (v := 139968) hx hb hown (hts _ wC_X5_165) dX5_nextDraw_9 ?_
  refine lv_irem hx hb dX5_nextDraw_11 (by decide) ?_
  refine lv_topi (fun x3 ex3 => ?_)
  exact hret _ _ _ _ _ hT0 hS0 ⟨trivial, rfl⟩ dX5_nextDraw_12
set_option maxHeartbeats 4000000 in
set_option maxRecDepth 100000 in
theorem c_X5_drawn (l : Launch) (G : hG) (Y : hW) (o : Nat) (hY : h_On Y o (ringE tF o)) (u1 u2 : Int32) : hMi l yX5_drawn cX5_drawn 3 (some .int) 0 0 G Y [.ref (o), .int u1, .int u2] (fun H => True) (fun H r H1 => True ∧ H1 = H) := by
  refine h_ofi (by decide +kernel) (Nat.le_of_ble_eq_true rfl) ?_
  intro p e s m args below meth c H0 ls Q hx hb hts hown hml hK hT0 hpr hS0 hl hret
  have hl : lv_has ls 3 [(0, .ref (o)), (1, .int u1), (2, .int u2)] := hl
  refine lv_iload_n hx hb dX5_drawn_0 rfl (lv_at hl 1 rfl) ?_
  refine lv_iload_n hx hb dX5_drawn_1 rfl (lv_at hl 2 rfl) ?_
  refine lv_imul hx hb dX5_drawn_2 ?_
  refine lv_topi (fun x1 ex1 => ?_)
  refine lv_ldc (v := 139968) hx hb hown (hts _ wC_X5_165) dX5_drawn_3 ?_
  refine lv_idiv hx hb dX5_drawn_5 (by decide) ?_
  refine lv_topi (fun x2 ex2 => ?_)
  exact hret _ _ _ _ _ hT0 hS0 ⟨trivial, rfl⟩ dX5_drawn_6
set_option maxHeartbeats 4000000 in
set_option maxRecDepth 100000 in
theorem c_X5_drawFrame (l : Launch) (G : hG) (Y : hW) (o : Nat) (hY : h_On Y o (ringE tF o)) (u1 u2 : Int32) : hMi l yX5_drawFrame cX5_drawFrame 7 (some .int) 1 22 G Y [.ref (o), .int u1, .int u2] (fun H => True) (fun H r H1 => True) := by
  refine h_ofi (by decide +kernel) (Nat.le_of_ble_eq_true rfl) ?_
  intro p e s m args below meth c H0 ls Q hx hb hts hown hml hK hT0 hpr hS0 hl hret
  have hl : lv_has ls 7 [(0, .ref (o)), (1, .int u1), (2, .int u2)] := hl
  refine lv_aload_n hx hb dX5_drawFrame_0 rfl (lv_at hl 0 rfl) ?_
  refine lv_iload_n hx hb dX5_drawFrame_1 rfl (lv_at hl 1 rfl) ?_
  refine h_callVi (T := TX5) (rest := []) (As := [.int u1]) hx hb hml hown hts hK hT0 (fun _ h => h) hS0 (c_X5_nextDraw l G Y (o) hY u1) trivial wd_X5_nextDraw wV_X5_nextDraw wL_X5_166 (on_rg hY) rfl rfl hl.1 rfl (Nat.le_of_ble_eq_true rfl) dX5_drawFrame_2 ⟨Nat.le_of_ble_eq_true rfl, Nat.le_of_ble_eq_true rfl⟩ ⟨Nat.zero_le _, Nat.zero_le _⟩ (fun r1 H1 locs hp1 hT1 hS1 hk1 => ?_)
  obtain ⟨hp1, he⟩ := hp1
  have he := he.symm
  subst he
  refine lv_istore_n (lv' := [(3, .int r1), (0, .ref (o)), (1, .int u1), (2, .int u2)]) hx hb dX5_drawFrame_5 rfl hl (by decide) rfl (fun ls hl => ?_)
  refine lv_aload_n hx hb dX5_drawFrame_6 rfl (lv_at hl 1 rfl) ?_
  refine lv_iload_n hx hb dX5_drawFrame_7 rfl (lv_at hl 0 rfl) ?_
  refine lv_bipush (v := 16) hx hb dX5_drawFrame_8 (by decide) ?_
  refine h_callVi (T := TX5) (rest := []) (As := [.int r1, .int 16]) hx hb hml hown hts hK hT0 (fun _ h => h) hS1 (c_X5_drawn l G Y (o) hY r1 16) trivial wd_X5_drawn wV_X5_drawn wL_X5_169 (on_rg hY) rfl rfl hl.1 rfl (Nat.le_of_ble_eq_true rfl) dX5_drawFrame_10 ⟨Nat.le_of_ble_eq_true rfl, Nat.le_of_ble_eq_true rfl⟩ ⟨Nat.zero_le _, Nat.zero_le _⟩ (fun r2 H2 locs hp2 hT2 hS2 hk2 => ?_)
  obtain ⟨hp2, he⟩ := hp2
  have he := he.symm
  subst he
  refine lv_iload_n hx hb dX5_drawFrame_13 rfl (lv_at hl 3 rfl) ?_
  refine lv_icmp_ge (tgt := 27) hx hb dX5_drawFrame_14 (by decide) (fun c3 => ?_) (fun c3 => ?_)
  · skip
    refine lv_iload_n hx hb dX5_drawFrame_27 rfl (lv_at hl 0 rfl) ?_
    exact hret _ _ _ _ _ hT0 hS2 trivial dX5_drawFrame_28
  · skip
    refine lv_aload_n hx hb dX5_drawFrame_17 rfl (lv_at hl 1 rfl) ?_
    refine h_getr (C := RX5) (T := TX5) (N := 11) hx hb hts inX5 hown hK hT0 (on_rg hY) rfl 0 rfl wF_X5_12 rfl dX5_drawFrame_18 ?_
    refine h_getc (v := 0) (C := RX7) (T := TX7) (N := 9) hx hb hts inX7 hown hK hT0 ((on_st hY).o rfl) rfl 5 rfl wF_X5_151 rfl (fun _ h => h) dX5_drawFrame_21 ?_
    refine lv_if_ne (tgt := 29) hx hb dX5_drawFrame_24 (by decide) (fun h => absurd (by decide) h) (fun _ => ?_)
    refine lv_iload_n hx hb dX5_drawFrame_27 rfl (lv_at hl 0 rfl) ?_
    exact hret _ _ _ _ _ hT0 hS2 trivial dX5_drawFrame_28
set_option maxHeartbeats 4000000 in
set_option maxRecDepth 100000 in
theorem c_X5_startSilence (l : Launch) (G : hG) (Y : hW) (o : Nat) (hY : h_On Y o (ringE tF o)) : hMv l yX5_startSilence cX5_startSilence 1 none 1 20 G Y [.ref (o)] (fun H => True) (fun H H1 => True) := by
  refine h_ofv (by decide +kernel) (Nat.le_of_ble_eq_true rfl) ?_
  intro p e s m args below meth c H0 ls Q hx hb hts hown hml hK hT0 hpr hS0 hl hret
  have hl : lv_has ls 1 [(0, .ref (o))] := hl
  refine lv_aload_n hx hb dX5_startSilence_0 rfl (lv_at hl 0 rfl) ?_
  refine h_getr (C := RX5) (T := TX5) (N := 11) hx hb hts inX5 hown hK hT0 (on_rg hY) rfl 3 rfl wF_X5_35 rfl dX5_startSilence_1 ?_
  refine h_getc (v := 0) (C := RX9) (T := TX9) (N := 11) hx hb hts inX9 hown hK hT0 ((on_wa hY).o rfl) rfl 0 rfl wF_X5_142 rfl (fun _ h => h) dX5_startSilence_4 ?_
  refine lv_if_ne (tgt := 17) hx hb dX5_startSilence_7 (by decide) (fun h => absurd (by decide) h) (fun _ => ?_)
  refine lv_aload_n hx hb dX5_startSilence_10 rfl (lv_at hl 0 rfl) ?_
  refine h_getr (C := RX5) (T := TX5) (N := 11) hx hb hts inX5 hown hK hT0 (on_rg hY) rfl 4 rfl wF_X5_42 rfl dX5_startSilence_11 ?_
  refine h_callVv (T := TX6) (rest := []) (As := []) hx hb hml hown hts hK hT0 (fun _ h => h) hS0 (c_X6_restart l G Y (o + 18) (on_si hY)) trivial wd_X6_restart wV_X6_restart wL_X5_76 ((on_si hY).o rfl) rfl rfl hl.1 rfl (Nat.le_of_ble_eq_true rfl) dX5_startSilence_14 ⟨Nat.le_of_ble_eq_true rfl, Nat.le_of_ble_eq_true rfl⟩ ⟨Nat.zero_le _, Nat.zero_le _⟩ (fun H1 locs hp1 hT1 hS1 hk1 => ?_)
  exact hret _ _ _ _ hT1 hS1 trivial dX5_startSilence_17
end
section
set_option maxHeartbeats 4000000 in
set_option maxRecDepth 100000 in
theorem c_hasCome_0 (l : Launch) (G : hG) (Y : hW) (pa o c0 : Nat) (hP : h_On Y pa (paE tF pa o c0)) (hY : h_On Y o (ringE tF o)) (hC : h_On Y c0 (ringE tF c0)) (u1 : Int32) : hMi l yX1_hasCome cX1_hasCome 3 (some .boolean) 1 21 G Y [.ref (pa), .int 0, .int u1] (fun H => True) (fun H r H1 => r = 1 ∧ H1 = H) := by
  refine h_ofz (by decide +kernel) (Nat.le_of_ble_eq_true rfl) ?_
  intro p e s m args below meth c H0 ls Q hx hb hts hown hml hK hT0 hpr hS0 hl hret
  have hl : lv_has ls 3 [(0, .ref (pa)), (1, .int 0), (2, .int u1)] := hl
  refine lv_iload_n hx hb dX1_hasCome_0 rfl (lv_at hl 1 rfl) ?_
  refine lv_tableIn (tgt := 40) hx hb dX1_hasCome_1 (by decide) (by decide) rfl (by decide) ?_
  refine lv_aload_n hx hb dX1_hasCome_40 rfl (lv_at hl 0 rfl) ?_
  refine h_getr (C := RX1) (T := TX1) (N := 4) hx hb hts inX1 hown hK hT0 (hP.o rfl) rfl 1 rfl wF_X1_22 rfl dX1_hasCome_41 ?_
  refine h_callVi (T := TX5) (rest := []) (As := []) hx hb hml hown hts hK hT0 (fun _ h => h) hS0 (c_X5_isQuiet l G Y (c0) hC) trivial wd_X5_isQuiet wV_X5_isQuiet wL_X1_39 (on_rg hC) rfl rfl hl.1 rfl (Nat.le_of_ble_eq_true rfl) dX1_hasCome_44 ⟨Nat.le_of_ble_eq_true rfl, Nat.le_of_ble_eq_true rfl⟩ ⟨Nat.zero_le _, Nat.zero_le _⟩ (fun r1 H1 locs hp1 hT1 hS1 hk1 => ?_)
  obtain ⟨hp1, he⟩ := hp1
  have he := he.symm
  subst he
  have hp1 : r1 = 1 := hp1
  subst hp1
  exact hret _ _ _ _ _ hT0 hS1 ⟨by decide, rfl, rfl⟩ dX1_hasCome_47
set_option maxHeartbeats 4000000 in
set_option maxRecDepth 100000 in
theorem c_hasCome_2 (l : Launch) (G : hG) (Y : hW) (pa o c0 : Nat) (hP : h_On Y pa (paE tF pa o c0)) (hY : h_On Y o (ringE tF o)) (hC : h_On Y c0 (ringE tF c0)) (u1 : Int32) : hMi l yX1_hasCome cX1_hasCome 3 (some .boolean) 1 21 G Y [.ref (pa), .int 2, .int u1] (fun H => True) (fun H r H1 => r = 1 ∧ H1 = H) := by
  refine h_ofz (by decide +kernel) (Nat.le_of_ble_eq_true rfl) ?_
  intro p e s m args below meth c H0 ls Q hx hb hts hown hml hK hT0 hpr hS0 hl hret
  have hl : lv_has ls 3 [(0, .ref (pa)), (1, .int 2), (2, .int u1)] := hl
  refine lv_iload_n hx hb dX1_hasCome_0 rfl (lv_at hl 1 rfl) ?_
  refine lv_tableIn (tgt := 65) hx hb dX1_hasCome_1 (by decide) (by decide) rfl (by decide) ?_
  refine lv_aload_n hx hb dX1_hasCome_65 rfl (lv_at hl 0 rfl) ?_
  refine h_getr (C := RX1) (T := TX1) (N := 4) hx hb hts inX1 hown hK hT0 (hP.o rfl) rfl 1 rfl wF_X1_22 rfl dX1_hasCome_66 ?_
  refine h_getr (C := RX5) (T := TX5) (N := 11) hx hb hts inX5 hown hK hT0 (on_rg hC) rfl 2 rfl wF_X1_47 rfl dX1_hasCome_69 ?_
  refine h_callVi (T := TX3) (rest := []) (As := []) hx hb hml hown hts hK hT0 (fun _ h => h) hS0 (c_X3_isEmpty l G Y (c0 + 13) (on_ra hC)) trivial wd_X3_isEmpty wV_X3_isEmpty wL_X1_51 ((on_ra hC).o rfl) rfl rfl hl.1 rfl (Nat.le_of_ble_eq_true rfl) dX1_hasCome_72 ⟨Nat.le_of_ble_eq_true rfl, Nat.le_of_ble_eq_true rfl⟩ ⟨Nat.zero_le _, Nat.zero_le _⟩ (fun r1 H1 locs hp1 hT1 hS1 hk1 => ?_)
  obtain ⟨hp1, he⟩ := hp1
  have he := he.symm
  subst he
  have hp1 : r1 = 1 := hp1
  subst hp1
  exact hret _ _ _ _ _ hT0 hS1 ⟨by decide, rfl, rfl⟩ dX1_hasCome_75
set_option maxHeartbeats 4000000 in
set_option maxRecDepth 100000 in
theorem c_hasCome_3 (l : Launch) (G : hG) (Y : hW) (pa o c0 : Nat) (hP : h_On Y pa (paE tF pa o c0)) (hY : h_On Y o (ringE tF o)) (hC : h_On Y c0 (ringE tF c0)) (u1 : Int32) : hMi l yX1_hasCome cX1_hasCome 3 (some .boolean) 0 0 G Y [.ref (pa), .int 3, .int u1] (fun H => True) (fun H r H1 => r = 0 ∧ H1 = H) := by
  refine h_ofz (by decide +kernel) (Nat.le_of_ble_eq_true rfl) ?_
  intro p e s m args below meth c H0 ls Q hx hb hts hown hml hK hT0 hpr hS0 hl hret
  have hl : lv_has ls 3 [(0, .ref (pa)), (1, .int 3), (2, .int u1)] := hl
  refine lv_iload_n hx hb dX1_hasCome_0 rfl (lv_at hl 1 rfl) ?_
  refine lv_tableIn (tgt := 76) hx hb dX1_hasCome_1 (by decide) (by decide) rfl (by decide) ?_
  refine lv_aload_n hx hb dX1_hasCome_76 rfl (lv_at hl 0 rfl) ?_
  refine h_getr (C := RX1) (T := TX1) (N := 4) hx hb hts inX1 hown hK hT0 (hP.o rfl) rfl 1 rfl wF_X1_22 rfl dX1_hasCome_77 ?_
  refine h_getr (C := RX5) (T := TX5) (N := 11) hx hb hts inX5 hown hK hT0 (on_rg hC) rfl 3 rfl wF_X1_56 rfl dX1_hasCome_80 ?_
  refine h_getc (v := 0) (C := RX9) (T := TX9) (N := 11) hx hb hts inX9 hown hK hT0 ((on_wa hC).o rfl) rfl 0 rfl wF_X1_60 rfl (fun _ h => h) dX1_hasCome_83 ?_
  refine lv_iconst (v := 1) hx hb dX1_hasCome_86 (by decide) ?_
  refine lv_icmp_ne (tgt := 94) hx hb dX1_hasCome_87 (by decide) (fun _ => ?_) (fun h => absurd h (by decide))
  refine lv_iconst (v := 0) hx hb dX1_hasCome_94 (by decide) ?_
  exact hret _ _ _ _ _ hT0 hS0 ⟨by decide, rfl, rfl⟩ dX1_hasCome_95
set_option maxHeartbeats 4000000 in
set_option maxRecDepth 100000 in
theorem c_hasCome_4 (l : Launch) (G : hG) (Y : hW) (pa o c0 : Nat) (hP : h_On Y pa (paE tF pa o c0)) (hY : h_On Y o (ringE tF o)) (hC : h_On Y c0 (ringE tF c0)) (u1 : Int32) : hMi l yX1_hasCome cX1_hasCome 3 (some .boolean) 0 0 G Y [.ref (pa), .int 4, .int u1] (fun H => True) (fun H r H1 => r = 0 ∧ H1 = H) := by
  refine h_ofz (by decide +kernel) (Nat.le_of_ble_eq_true rfl) ?_
  intro p e s m args below meth c H0 ls Q hx hb hts hown hml hK hT0 hpr hS0 hl hret
  have hl : lv_has ls 3 [(0, .ref (pa)), (1, .int 4), (2, .int u1)] := hl
  refine lv_iload_n hx hb dX1_hasCome_0 rfl (lv_at hl 1 rfl) ?_
  refine lv_tableIn (tgt := 96) hx hb dX1_hasCome_1 (by decide) (by decide) rfl (by decide) ?_
  refine lv_aload_n hx hb dX1_hasCome_96 rfl (lv_at hl 0 rfl) ?_
  refine h_getr (C := RX1) (T := TX1) (N := 4) hx hb hts inX1 hown hK hT0 (hP.o rfl) rfl 1 rfl wF_X1_22 rfl dX1_hasCome_97 ?_
  refine h_getc (v := 0) (C := RX5) (T := TX5) (N := 11) hx hb hts inX5 hown hK hT0 (on_rg hC) rfl 10 rfl wF_X1_65 rfl (fun _ h => h) dX1_hasCome_100 ?_
  exact hret _ _ _ _ _ hT0 hS0 ⟨by decide, rfl, rfl⟩ dX1_hasCome_103
set_option maxHeartbeats 4000000 in
set_option maxRecDepth 100000 in
theorem c_hasCome_5 (l : Launch) (G : hG) (Y : hW) (pa o c0 : Nat) (hP : h_On Y pa (paE tF pa o c0)) (hY : h_On Y o (ringE tF o)) (hC : h_On Y c0 (ringE tF c0)) (u1 : Int32) : hMi l yX1_hasCome cX1_hasCome 3 (some .boolean) 0 0 G Y [.ref (pa), .int 5, .int u1] (fun H => True) (fun H r H1 => r = 0 ∧ H1 = H) := by
  refine h_ofz (by decide +kernel) (Nat.le_of_ble_eq_true rfl) ?_
  intro p e s m args below meth c H0 ls Q hx hb hts hown hml hK hT0 hpr hS0 hl hret
  have hl : lv_has ls 3 [(0, .ref (pa)), (1, .int 5), (2, .int u1)] := hl
  refine lv_iload_n hx hb dX1_hasCome_0 rfl (lv_at hl 1 rfl) ?_
  refine lv_tableIn (tgt := 104) hx hb dX1_hasCome_1 (by decide) (by decide) rfl (by decide) ?_
  refine lv_aload_n hx hb dX1_hasCome_104 rfl (lv_at hl 0 rfl) ?_
  refine h_getr (C := RX1) (T := TX1) (N := 4) hx hb hts inX1 hown hK hT0 (hP.o rfl) rfl 1 rfl wF_X1_22 rfl dX1_hasCome_105 ?_
  refine h_getc (v := (-1)) (C := RX5) (T := TX5) (N := 11) hx hb hts inX5 hown hK hT0 (on_rg hC) rfl 9 rfl wF_X1_69 rfl (fun _ h => h) dX1_hasCome_108 ?_
  refine lv_iconst (v := (-1)) hx hb dX1_hasCome_111 (by decide) ?_
  refine lv_icmp_eq (tgt := 119) hx hb dX1_hasCome_112 (by decide) (fun _ => ?_) (fun h => absurd (by decide) h)
  refine lv_iconst (v := 0) hx hb dX1_hasCome_119 (by decide) ?_
  exact hret _ _ _ _ _ hT0 hS0 ⟨by decide, rfl, rfl⟩ dX1_hasCome_120
set_option maxHeartbeats 4000000 in
set_option maxRecDepth 100000 in
theorem c_ticksTill_0 (l : Launch) (G : hG) (Y : hW) (pa o c0 : Nat) (hP : h_On Y pa (paE tF pa o c0)) (hY : h_On Y o (ringE tF o)) (hC : h_On Y c0 (ringE tF c0)) (u1 u2 : Int32) : hMi l yX1_ticksTill cX1_ticksTill 5 (some .int) 3 102 G Y [.ref (pa), .int 0, .int u1, .int u2] (fun H => True) (fun H r H1 => r = 0) := by
  refine h_ofi (by decide +kernel) (Nat.le_of_ble_eq_true rfl) ?_
  intro p e s m args below meth c H0 ls Q hx hb hts hown hml hK hT0 hpr hS0 hl hret
  have hl : lv_has ls 5 [(0, .ref (pa)), (1, .int 0), (2, .int u1), (3, .int u2)] := hl
  refine lv_aload_n hx hb dX1_ticksTill_0 rfl (lv_at hl 0 rfl) ?_
  refine h_getr (C := RX1) (T := TX1) (N := 4) hx hb hts inX1 hown hK hT0 (hP.o rfl) rfl 1 rfl wF_X1_22 rfl dX1_ticksTill_1 ?_
  refine lv_aload_n hx hb dX1_ticksTill_4 rfl (lv_at hl 0 rfl) ?_
  refine h_getr (C := RX1) (T := TX1) (N := 4) hx hb hts inX1 hown hK hT0 (hP.o rfl) rfl 0 rfl wF_X1_18 rfl dX1_ticksTill_5 ?_
  refine h_callVv (T := TX5) (rest := []) (As := [.ref (o)]) hx hb hml hown hts hK hT0 (fun _ h => h) hS0 (c_X5_copyFrom l G Y (c0) (o) hC hY) trivial wd_X5_copyFrom wV_X5_copyFrom wL_X1_25 (on_rg hC) rfl rfl hl.1 rfl (Nat.le_of_ble_eq_true rfl) dX1_ticksTill_8 ⟨Nat.le_of_ble_eq_true rfl, Nat.le_of_ble_eq_true rfl⟩ ⟨Nat.zero_le _, Nat.zero_le _⟩ (fun H1 locs hp1 hT1 hS1 hk1 => ?_)
  refine lv_iconst (v := 0) hx hb dX1_ticksTill_11 (by decide) ?_
  refine lv_istore (lv' := [(4, .int 0), (0, .ref (pa)), (1, .int 0), (2, .int u1), (3, .int u2)]) hx hb dX1_ticksTill_12 hl (by decide) rfl (fun ls hl => ?_)
  refine lv_iload hx hb dX1_ticksTill_14 (lv_at hl 0 rfl) ?_
  refine lv_sipush (v := 3000) hx hb dX1_ticksTill_16 (by decide) ?_
  refine lv_icmp_gt (tgt := 48) hx hb dX1_ticksTill_19 (by decide) (fun h => absurd h (by decide)) (fun _ => ?_)
  refine lv_aload_n hx hb dX1_ticksTill_22 rfl (lv_at hl 1 rfl) ?_
  refine lv_iload_n hx hb dX1_ticksTill_23 rfl (lv_at hl 2 rfl) ?_
  refine lv_iload_n hx hb dX1_ticksTill_24 rfl (lv_at hl 3 rfl) ?_
  refine h_callVi (T := TX1) (rest := []) (As := [.int 0, .int u1]) hx hb hml hown hts hK hT1 (fun _ h => h) hS1 (c_hasCome_0 l G Y (pa) (o) (c0) hP hY hC u1) trivial wd_X1_hasCome wV_X1_hasCome wL_X1_31 (hP.o rfl) rfl rfl hl.1 rfl (Nat.le_of_ble_eq_true rfl) dX1_ticksTill_25 ⟨Nat.le_of_ble_eq_true rfl, Nat.le_of_ble_eq_true rfl⟩ ⟨Nat.zero_le _, Nat.zero_le _⟩ (fun r2 H2 locs hp2 hT2 hS2 hk2 => ?_)
  obtain ⟨hp2, he⟩ := hp2
  have he := he.symm
  subst he
  have hp2 : r2 = 1 := hp2
  subst hp2
  refine lv_if_eq (tgt := 34) hx hb dX1_ticksTill_28 (by decide) (fun h => absurd h (by decide)) (fun _ => ?_)
  refine lv_iload hx hb dX1_ticksTill_31 (lv_at hl 0 rfl) ?_
  exact hret _ _ _ _ _ hT1 hS2 rfl dX1_ticksTill_33
set_option maxHeartbeats 4000000 in
set_option maxRecDepth 100000 in
theorem c_ticksTill_2 (l : Launch) (G : hG) (Y : hW) (pa o c0 : Nat) (hP : h_On Y pa (paE tF pa o c0)) (hY : h_On Y o (ringE tF o)) (hC : h_On Y c0 (ringE tF c0)) (u1 u2 : Int32) : hMi l yX1_ticksTill cX1_ticksTill 5 (some .int) 3 102 G Y [.ref (pa), .int 2, .int u1, .int u2] (fun H => True) (fun H r H1 => r = 0) := by
  refine h_ofi (by decide +kernel) (Nat.le_of_ble_eq_true rfl) ?_
  intro p e s m args below meth c H0 ls Q hx hb hts hown hml hK hT0 hpr hS0 hl hret
  have hl : lv_has ls 5 [(0, .ref (pa)), (1, .int 2), (2, .int u1), (3, .int u2)] := hl
  refine lv_aload_n hx hb dX1_ticksTill_0 rfl (lv_at hl 0 rfl) ?_
  refine h_getr (C := RX1) (T := TX1) (N := 4) hx hb hts inX1 hown hK hT0 (hP.o rfl) rfl 1 rfl wF_X1_22 rfl dX1_ticksTill_1 ?_
  refine lv_aload_n hx hb dX1_ticksTill_4 rfl (lv_at hl 0 rfl) ?_
  refine h_getr (C := RX1) (T := TX1) (N := 4) hx hb hts inX1 hown hK hT0 (hP.o rfl) rfl 0 rfl wF_X1_18 rfl dX1_ticksTill_5 ?_
  refine h_callVv (T := TX5) (rest := []) (As := [.ref (o)]) hx hb hml hown hts hK hT0 (fun _ h => h) hS0 (c_X5_copyFrom l G Y (c0) (o) hC hY) trivial wd_X5_copyFrom wV_X5_copyFrom wL_X1_25 (on_rg hC) rfl rfl hl.1 rfl (Nat.le_of_ble_eq_true rfl) dX1_ticksTill_8 ⟨Nat.le_of_ble_eq_true rfl, Nat.le_of_ble_eq_true rfl⟩ ⟨Nat.zero_le _, Nat.zero_le _⟩ (fun H1 locs hp1 hT1 hS1 hk1 => ?_)
  refine lv_iconst (v := 0) hx hb dX1_ticksTill_11 (by decide) ?_
  refine lv_istore (lv' := [(4, .int 0), (0, .ref (pa)), (1, .int 2), (2, .int u1), (3, .int u2)]) hx hb dX1_ticksTill_12 hl (by decide) rfl (fun ls hl => ?_)
  refine lv_iload hx hb dX1_ticksTill_14 (lv_at hl 0 rfl) ?_
  refine lv_sipush (v := 3000) hx hb dX1_ticksTill_16 (by decide) ?_
  refine lv_icmp_gt (tgt := 48) hx hb dX1_ticksTill_19 (by decide) (fun h => absurd h (by decide)) (fun _ => ?_)
  refine lv_aload_n hx hb dX1_ticksTill_22 rfl (lv_at hl 1 rfl) ?_
  refine lv_iload_n hx hb dX1_ticksTill_23 rfl (lv_at hl 2 rfl) ?_
  refine lv_iload_n hx hb dX1_ticksTill_24 rfl (lv_at hl 3 rfl) ?_
  refine h_callVi (T := TX1) (rest := []) (As := [.int 2, .int u1]) hx hb hml hown hts hK hT1 (fun _ h => h) hS1 (c_hasCome_2 l G Y (pa) (o) (c0) hP hY hC u1) trivial wd_X1_hasCome wV_X1_hasCome wL_X1_31 (hP.o rfl) rfl rfl hl.1 rfl (Nat.le_of_ble_eq_true rfl) dX1_ticksTill_25 ⟨Nat.le_of_ble_eq_true rfl, Nat.le_of_ble_eq_true rfl⟩ ⟨Nat.zero_le _, Nat.zero_le _⟩ (fun r2 H2 locs hp2 hT2 hS2 hk2 => ?_)
  obtain ⟨hp2, he⟩ := hp2
  have he := he.symm
  subst he
  have hp2 : r2 = 1 := hp2
  subst hp2
  refine lv_if_eq (tgt := 34) hx hb dX1_ticksTill_28 (by decide) (fun h => absurd h (by decide)) (fun _ => ?_)
  refine lv_iload hx hb dX1_ticksTill_31 (lv_at hl 0 rfl) ?_
  exact hret _ _ _ _ _ hT1 hS2 rfl dX1_ticksTill_33
set_option maxHeartbeats 4000000 in
set_option maxRecDepth 100000 in
theorem c_ticksTill_3 (l : Launch) (G : hG) (Y : hW) (pa o c0 : Nat) (hP : h_On Y pa (paE tF pa o c0)) (hY : h_On Y o (ringE tF o)) (hC : h_On Y c0 (ringE tF c0)) (u1 u2 : Int32) : hMi l yX1_ticksTill cX1_ticksTill 5 (some .int) 4 102 G Y [.ref (pa), .int 3, .int u1, .int u2] (fun H => True) (fun H r H1 => r = (-1)) := by
  refine h_ofi (by decide +kernel) (Nat.le_of_ble_eq_true rfl) ?_
  intro p e s m args below meth c H0 ls Q hx hb hts hown hml hK hT0 hpr hS0 hl hret
  have hl : lv_has ls 5 [(0, .ref (pa)), (1, .int 3), (2, .int u1), (3, .int u2)] := hl
  refine lv_aload_n hx hb dX1_ticksTill_0 rfl (lv_at hl 0 rfl) ?_
  refine h_getr (C := RX1) (T := TX1) (N := 4) hx hb hts inX1 hown hK hT0 (hP.o rfl) rfl 1 rfl wF_X1_22 rfl dX1_ticksTill_1 ?_
  refine lv_aload_n hx hb dX1_ticksTill_4 rfl (lv_at hl 0 rfl) ?_
  refine h_getr (C := RX1) (T := TX1) (N := 4) hx hb hts inX1 hown hK hT0 (hP.o rfl) rfl 0 rfl wF_X1_18 rfl dX1_ticksTill_5 ?_
  refine h_callVv (T := TX5) (rest := []) (As := [.ref (o)]) hx hb hml hown hts hK hT0 (fun _ h => h) hS0 (c_X5_copyFrom l G Y (c0) (o) hC hY) trivial wd_X5_copyFrom wV_X5_copyFrom wL_X1_25 (on_rg hC) rfl rfl hl.1 rfl (Nat.le_of_ble_eq_true rfl) dX1_ticksTill_8 ⟨Nat.le_of_ble_eq_true rfl, Nat.le_of_ble_eq_true rfl⟩ ⟨Nat.zero_le _, Nat.zero_le _⟩ (fun H1 locs hp1 hT1 hS1 hk1 => ?_)
  refine lv_iconst (v := 0) hx hb dX1_ticksTill_11 (by decide) ?_
  refine lv_istore (lv' := [(4, .int 0), (0, .ref (pa)), (1, .int 3), (2, .int u1), (3, .int u2)]) hx hb dX1_ticksTill_12 hl (by decide) rfl (fun ls hl => ?_)
  have LP : ∀ (q k : Nat), q + k = 3001 → ∀ (H0 : Heap) (locs : List Loc) (ls : Array Slot), hT G Y H0 → va_S (h_A Y) s.heap H0 locs → lv_has ls 5 [(4, .int (nI k)), (0, .ref (pa)), (1, .int 3), (2, .int u1), (3, .int u2)] → W p l e (h_rm 4 102) s m args below meth c H0 locs 0 0 Q (F0 m 14 ls []) := by
    intro q
    induction q with
    | zero =>
      intro k hk H0 locs ls  hT0 hS0  hl
      obtain rfl : k = 3001 := by omega
      refine lv_iload hx hb dX1_ticksTill_14 (lv_at hl 0 rfl) ?_
      refine lv_sipush (v := 3000) hx hb dX1_ticksTill_16 (by decide) ?_
      refine lv_icmp_gt (tgt := 48) hx hb dX1_ticksTill_19 (by decide) (fun _ => ?_) (fun h => absurd (by decide) h)
      refine lv_iconst (v := (-1)) hx hb dX1_ticksTill_48 (by decide) ?_
      exact hret _ _ _ _ _ hT0 hS0 rfl dX1_ticksTill_49
    | succ q ih =>
      intro k hk H0 locs ls  hT0 hS0  hl
      refine lv_iload hx hb dX1_ticksTill_14 (lv_at hl 0 rfl) ?_
      refine lv_sipush (v := 3000) hx hb dX1_ticksTill_16 (by decide) ?_
      refine lv_icmp_gt (tgt := 48) hx hb dX1_ticksTill_19 (by decide) (fun h => absurd h (by have h9 := nI_toInt (n := k) (by omega); have h8 : (3000 : Int32).toInt = 3000 := rfl; simp only [Int32.lt_iff_toInt_lt, Int32.le_iff_toInt_le, h9, h8]; omega)) (fun _ => ?_)
      refine lv_aload_n hx hb dX1_ticksTill_22 rfl (lv_at hl 1 rfl) ?_
      refine lv_iload_n hx hb dX1_ticksTill_23 rfl (lv_at hl 2 rfl) ?_
      refine lv_iload_n hx hb dX1_ticksTill_24 rfl (lv_at hl 3 rfl) ?_
      refine h_callVi (T := TX1) (rest := []) (As := [.int 3, .int u1]) hx hb hml hown hts hK hT0 (fun _ h => h) hS0 (c_hasCome_3 l G Y (pa) (o) (c0) hP hY hC u1) trivial wd_X1_hasCome wV_X1_hasCome wL_X1_31 (hP.o rfl) rfl rfl hl.1 rfl (Nat.le_of_ble_eq_true rfl) dX1_ticksTill_25 ⟨Nat.le_of_ble_eq_true rfl, Nat.le_of_ble_eq_true rfl⟩ ⟨Nat.zero_le _, Nat.zero_le _⟩ (fun r1 H1 locs hp1 hT1 hS1 hk1 => ?_)
      obtain ⟨hp1, he⟩ := hp1
      have he := he.symm
      subst he
      have hp1 : r1 = 0 := hp1
      subst hp1
      refine lv_if_eq (tgt := 34) hx hb dX1_ticksTill_28 (by decide) (fun _ => ?_) (fun h => absurd (by decide) h)
      refine lv_aload_n hx hb dX1_ticksTill_34 rfl (lv_at hl 1 rfl) ?_
      refine h_getr (C := RX1) (T := TX1) (N := 4) hx hb hts inX1 hown hK hT0 (hP.o rfl) rfl 1 rfl wF_X1_22 rfl dX1_ticksTill_35 ?_
      refine lv_iload_n hx hb dX1_ticksTill_38 rfl (lv_at hl 4 rfl) ?_
      refine h_callVv (T := TX5) (rest := []) (As := [.int u2]) hx hb hml hown hts hK hT0 (fun _ h => h) hS1 (c_X5_passTick l G Y (c0) hC u2 _) rfl wd_X5_passTick wV_X5_passTick wL_X1_35 (on_rg hC) rfl rfl hl.1 rfl (Nat.le_of_ble_eq_true rfl) dX1_ticksTill_39 ⟨Nat.le_of_ble_eq_true rfl, Nat.le_of_ble_eq_true rfl⟩ ⟨Nat.zero_le _, Nat.zero_le _⟩ (fun H2 locs hp2 hT2 hS2 hk2 => ?_)
      refine lv_iinc (v := (nI (k + 1))) (lv' := [(4, .int (nI (k + 1))), (0, .ref (pa)), (1, .int 3), (2, .int u1), (3, .int u2)]) hx hb dX1_ticksTill_42 hl (k := 0) rfl (nI_1 k) (by decide) rfl (fun ls hl => ?_)
      refine lv_goto (tgt := 14) hx hb dX1_ticksTill_45 (by decide) ?_
      exact ih (k + 1) (by omega) _ _ _  hT2 hS2 (lv_sub hl [0, 1, 2, 3, 4] rfl)
  exact LP 3001 0 (by omega) _ _ _  hT1 hS1 (lv_sub hl [0, 1, 2, 3, 4] rfl)
set_option maxHeartbeats 4000000 in
set_option maxRecDepth 100000 in
theorem c_ticksTill_4 (l : Launch) (G : hG) (Y : hW) (pa o c0 : Nat) (hP : h_On Y pa (paE tF pa o c0)) (hY : h_On Y o (ringE tF o)) (hC : h_On Y c0 (ringE tF c0)) (u1 u2 : Int32) : hMi l yX1_ticksTill cX1_ticksTill 5 (some .int) 4 102 G Y [.ref (pa), .int 4, .int u1, .int u2] (fun H => True) (fun H r H1 => r = (-1)) := by
  refine h_ofi (by decide +kernel) (Nat.le_of_ble_eq_true rfl) ?_
  intro p e s m args below meth c H0 ls Q hx hb hts hown hml hK hT0 hpr hS0 hl hret
  have hl : lv_has ls 5 [(0, .ref (pa)), (1, .int 4), (2, .int u1), (3, .int u2)] := hl
  refine lv_aload_n hx hb dX1_ticksTill_0 rfl (lv_at hl 0 rfl) ?_
  refine h_getr (C := RX1) (T := TX1) (N := 4) hx hb hts inX1 hown hK hT0 (hP.o rfl) rfl 1 rfl wF_X1_22 rfl dX1_ticksTill_1 ?_
  refine lv_aload_n hx hb dX1_ticksTill_4 rfl (lv_at hl 0 rfl) ?_
  refine h_getr (C := RX1) (T := TX1) (N := 4) hx hb hts inX1 hown hK hT0 (hP.o rfl) rfl 0 rfl wF_X1_18 rfl dX1_ticksTill_5 ?_
  refine h_callVv (T := TX5) (rest := []) (As := [.ref (o)]) hx hb hml hown hts hK hT0 (fun _ h => h) hS0 (c_X5_copyFrom l G Y (c0) (o) hC hY) trivial wd_X5_copyFrom wV_X5_copyFrom wL_X1_25 (on_rg hC) rfl rfl hl.1 rfl (Nat.le_of_ble_eq_true rfl) dX1_ticksTill_8 ⟨Nat.le_of_ble_eq_true rfl, Nat.le_of_ble_eq_true rfl⟩ ⟨Nat.zero_le _, Nat.zero_le _⟩ (fun H1 locs hp1 hT1 hS1 hk1 => ?_)
  refine lv_iconst (v := 0) hx hb dX1_ticksTill_11 (by decide) ?_
  refine lv_istore (lv' := [(4, .int 0), (0, .ref (pa)), (1, .int 4), (2, .int u1), (3, .int u2)]) hx hb dX1_ticksTill_12 hl (by decide) rfl (fun ls hl => ?_)
  have LP : ∀ (q k : Nat), q + k = 3001 → ∀ (H0 : Heap) (locs : List Loc) (ls : Array Slot), hT G Y H0 → va_S (h_A Y) s.heap H0 locs → lv_has ls 5 [(4, .int (nI k)), (0, .ref (pa)), (1, .int 4), (2, .int u1), (3, .int u2)] → W p l e (h_rm 4 102) s m args below meth c H0 locs 0 0 Q (F0 m 14 ls []) := by
    intro q
    induction q with
    | zero =>
      intro k hk H0 locs ls  hT0 hS0  hl
      obtain rfl : k = 3001 := by omega
      refine lv_iload hx hb dX1_ticksTill_14 (lv_at hl 0 rfl) ?_
      refine lv_sipush (v := 3000) hx hb dX1_ticksTill_16 (by decide) ?_
      refine lv_icmp_gt (tgt := 48) hx hb dX1_ticksTill_19 (by decide) (fun _ => ?_) (fun h => absurd (by decide) h)
      refine lv_iconst (v := (-1)) hx hb dX1_ticksTill_48 (by decide) ?_
      exact hret _ _ _ _ _ hT0 hS0 rfl dX1_ticksTill_49
    | succ q ih =>
      intro k hk H0 locs ls  hT0 hS0  hl
      refine lv_iload hx hb dX1_ticksTill_14 (lv_at hl 0 rfl) ?_
      refine lv_sipush (v := 3000) hx hb dX1_ticksTill_16 (by decide) ?_
      refine lv_icmp_gt (tgt := 48) hx hb dX1_ticksTill_19 (by decide) (fun h => absurd h (by have h9 := nI_toInt (n := k) (by omega); have h8 : (3000 : Int32).toInt = 3000 := rfl; simp only [Int32.lt_iff_toInt_lt, Int32.le_iff_toInt_le, h9, h8]; omega)) (fun _ => ?_)
      refine lv_aload_n hx hb dX1_ticksTill_22 rfl (lv_at hl 1 rfl) ?_
      refine lv_iload_n hx hb dX1_ticksTill_23 rfl (lv_at hl 2 rfl) ?_
      refine lv_iload_n hx hb dX1_ticksTill_24 rfl (lv_at hl 3 rfl) ?_
      refine h_callVi (T := TX1) (rest := []) (As := [.int 4, .int u1]) hx hb hml hown hts hK hT0 (fun _ h => h) hS0 (c_hasCome_4 l G Y (pa) (o) (c0) hP hY hC u1) trivial wd_X1_hasCome wV_X1_hasCome wL_X1_31 (hP.o rfl) rfl rfl hl.1 rfl (Nat.le_of_ble_eq_true rfl) dX1_ticksTill_25 ⟨Nat.le_of_ble_eq_true rfl, Nat.le_of_ble_eq_true rfl⟩ ⟨Nat.zero_le _, Nat.zero_le _⟩ (fun r1 H1 locs hp1 hT1 hS1 hk1 => ?_)
      obtain ⟨hp1, he⟩ := hp1
      have he := he.symm
      subst he
      have hp1 : r1 = 0 := hp1
      subst hp1
      refine lv_if_eq (tgt := 34) hx hb dX1_ticksTill_28 (by decide) (fun _ => ?_) (fun h => absurd (by decide) h)
      refine lv_aload_n hx hb dX1_ticksTill_34 rfl (lv_at hl 1 rfl) ?_
      refine h_getr (C := RX1) (T := TX1) (N := 4) hx hb hts inX1 hown hK hT0 (hP.o rfl) rfl 1 rfl wF_X1_22 rfl dX1_ticksTill_35 ?_
      refine lv_iload_n hx hb dX1_ticksTill_38 rfl (lv_at hl 4 rfl) ?_
      refine h_callVv (T := TX5) (rest := []) (As := [.int u2]) hx hb hml hown hts hK hT0 (fun _ h => h) hS1 (c_X5_passTick l G Y (c0) hC u2 _) rfl wd_X5_passTick wV_X5_passTick wL_X1_35 (on_rg hC) rfl rfl hl.1 rfl (Nat.le_of_ble_eq_true rfl) dX1_ticksTill_39 ⟨Nat.le_of_ble_eq_true rfl, Nat.le_of_ble_eq_true rfl⟩ ⟨Nat.zero_le _, Nat.zero_le _⟩ (fun H2 locs hp2 hT2 hS2 hk2 => ?_)
      refine lv_iinc (v := (nI (k + 1))) (lv' := [(4, .int (nI (k + 1))), (0, .ref (pa)), (1, .int 4), (2, .int u1), (3, .int u2)]) hx hb dX1_ticksTill_42 hl (k := 0) rfl (nI_1 k) (by decide) rfl (fun ls hl => ?_)
      refine lv_goto (tgt := 14) hx hb dX1_ticksTill_45 (by decide) ?_
      exact ih (k + 1) (by omega) _ _ _  hT2 hS2 (lv_sub hl [0, 1, 2, 3, 4] rfl)
  exact LP 3001 0 (by omega) _ _ _  hT1 hS1 (lv_sub hl [0, 1, 2, 3, 4] rfl)
set_option maxHeartbeats 4000000 in
set_option maxRecDepth 100000 in
theorem c_ticksTill_5 (l : Launch) (G : hG) (Y : hW) (pa o c0 : Nat) (hP : h_On Y pa (paE tF pa o c0)) (hY : h_On Y o (ringE tF o)) (hC : h_On Y c0 (ringE tF c0)) (u1 u2 : Int32) : hMi l yX1_ticksTill cX1_ticksTill 5 (some .int) 4 102 G Y [.ref (pa), .int 5, .int u1, .int u2] (fun H => True) (fun H r H1 => r = (-1)) := by
  refine h_ofi (by decide +kernel) (Nat.le_of_ble_eq_true rfl) ?_
  intro p e s m args below meth c H0 ls Q hx hb hts hown hml hK hT0 hpr hS0 hl hret
  have hl : lv_has ls 5 [(0, .ref (pa)), (1, .int 5), (2, .int u1), (3, .int u2)] := hl
  refine lv_aload_n hx hb dX1_ticksTill_0 rfl (lv_at hl 0 rfl) ?_
  refine h_getr (C := RX1) (T := TX1) (N := 4) hx hb hts inX1 hown hK hT0 (hP.o rfl) rfl 1 rfl wF_X1_22 rfl dX1_ticksTill_1 ?_
  refine lv_aload_n hx hb dX1_ticksTill_4 rfl (lv_at hl 0 rfl) ?_
  refine h_getr (C := RX1) (T := TX1) (N := 4) hx hb hts inX1 hown hK hT0 (hP.o rfl) rfl 0 rfl wF_X1_18 rfl dX1_ticksTill_5 ?_
  refine h_callVv (T := TX5) (rest := []) (As := [.ref (o)]) hx hb hml hown hts hK hT0 (fun _ h => h) hS0 (c_X5_copyFrom l G Y (c0) (o) hC hY) trivial wd_X5_copyFrom wV_X5_copyFrom wL_X1_25 (on_rg hC) rfl rfl hl.1 rfl (Nat.le_of_ble_eq_true rfl) dX1_ticksTill_8 ⟨Nat.le_of_ble_eq_true rfl, Nat.le_of_ble_eq_true rfl⟩ ⟨Nat.zero_le _, Nat.zero_le _⟩ (fun H1 locs hp1 hT1 hS1 hk1 => ?_)
  refine lv_iconst (v := 0) hx hb dX1_ticksTill_11 (by decide) ?_
  refine lv_istore (lv' := [(4, .int 0), (0, .ref (pa)), (1, .int 5), (2, .int u1), (3, .int u2)]) hx hb dX1_ticksTill_12 hl (by decide) rfl (fun ls hl => ?_)
  have LP : ∀ (q k : Nat), q + k = 3001 → ∀ (H0 : Heap) (locs : List Loc) (ls : Array Slot), hT G Y H0 → va_S (h_A Y) s.heap H0 locs → lv_has ls 5 [(4, .int (nI k)), (0, .ref (pa)), (1, .int 5), (2, .int u1), (3, .int u2)] → W p l e (h_rm 4 102) s m args below meth c H0 locs 0 0 Q (F0 m 14 ls []) := by
    intro q
    induction q with
    | zero =>
      intro k hk H0 locs ls  hT0 hS0  hl
      obtain rfl : k = 3001 := by omega
      refine lv_iload hx hb dX1_ticksTill_14 (lv_at hl 0 rfl) ?_
      refine lv_sipush (v := 3000) hx hb dX1_ticksTill_16 (by decide) ?_
      refine lv_icmp_gt (tgt := 48) hx hb dX1_ticksTill_19 (by decide) (fun _ => ?_) (fun h => absurd (by decide) h)
      refine lv_iconst (v := (-1)) hx hb dX1_ticksTill_48 (by decide) ?_
      exact hret _ _ _ _ _ hT0 hS0 rfl dX1_ticksTill_49
    | succ q ih =>
      intro k hk H0 locs ls  hT0 hS0  hl
      refine lv_iload hx hb dX1_ticksTill_14 (lv_at hl 0 rfl) ?_
      refine lv_sipush (v := 3000) hx hb dX1_ticksTill_16 (by decide) ?_
      refine lv_icmp_gt (tgt := 48) hx hb dX1_ticksTill_19 (by decide) (fun h => absurd h (by have h9 := nI_toInt (n := k) (by omega); have h8 : (3000 : Int32).toInt = 3000 := rfl; simp only [Int32.lt_iff_toInt_lt, Int32.le_iff_toInt_le, h9, h8]; omega)) (fun _ => ?_)
      refine lv_aload_n hx hb dX1_ticksTill_22 rfl (lv_at hl 1 rfl) ?_
      refine lv_iload_n hx hb dX1_ticksTill_23 rfl (lv_at hl 2 rfl) ?_
      refine lv_iload_n hx hb dX1_ticksTill_24 rfl (lv_at hl 3 rfl) ?_
      refine h_callVi (T := TX1) (rest := []) (As := [.int 5, .int u1]) hx hb hml hown hts hK hT0 (fun _ h => h) hS0 (c_hasCome_5 l G Y (pa) (o) (c0) hP hY hC u1) trivial wd_X1_hasCome wV_X1_hasCome wL_X1_31 (hP.o rfl) rfl rfl hl.1 rfl (Nat.le_of_ble_eq_true rfl) dX1_ticksTill_25 ⟨Nat.le_of_ble_eq_true rfl, Nat.le_of_ble_eq_true rfl⟩ ⟨Nat.zero_le _, Nat.zero_le _⟩ (fun r1 H1 locs hp1 hT1 hS1 hk1 => ?_)
      obtain ⟨hp1, he⟩ := hp1
      have he := he.symm
      subst he
      have hp1 : r1 = 0 := hp1
      subst hp1
      refine lv_if_eq (tgt := 34) hx hb dX1_ticksTill_28 (by decide) (fun _ => ?_) (fun h => absurd (by decide) h)
      refine lv_aload_n hx hb dX1_ticksTill_34 rfl (lv_at hl 1 rfl) ?_
      refine h_getr (C := RX1) (T := TX1) (N := 4) hx hb hts inX1 hown hK hT0 (hP.o rfl) rfl 1 rfl wF_X1_22 rfl dX1_ticksTill_35 ?_
      refine lv_iload_n hx hb dX1_ticksTill_38 rfl (lv_at hl 4 rfl) ?_
      refine h_callVv (T := TX5) (rest := []) (As := [.int u2]) hx hb hml hown hts hK hT0 (fun _ h => h) hS1 (c_X5_passTick l G Y (c0) hC u2 _) rfl wd_X5_passTick wV_X5_passTick wL_X1_35 (on_rg hC) rfl rfl hl.1 rfl (Nat.le_of_ble_eq_true rfl) dX1_ticksTill_39 ⟨Nat.le_of_ble_eq_true rfl, Nat.le_of_ble_eq_true rfl⟩ ⟨Nat.zero_le _, Nat.zero_le _⟩ (fun H2 locs hp2 hT2 hS2 hk2 => ?_)
      refine lv_iinc (v := (nI (k + 1))) (lv' := [(4, .int (nI (k + 1))), (0, .ref (pa)), (1, .int 5), (2, .int u1), (3, .int u2)]) hx hb dX1_ticksTill_42 hl (k := 0) rfl (nI_1 k) (by decide) rfl (fun ls hl => ?_)
      refine lv_goto (tgt := 14) hx hb dX1_ticksTill_45 (by decide) ?_
      exact ih (k + 1) (by omega) _ _ _  hT2 hS2 (lv_sub hl [0, 1, 2, 3, 4] rfl)
  exact LP 3001 0 (by omega) _ _ _  hT1 hS1 (lv_sub hl [0, 1, 2, 3, 4] rfl)
set_option maxHeartbeats 4000000 in
set_option maxRecDepth 100000 in
theorem c_X1_numberGot (l : Launch) (G : hG) (Y : hW) (pa o c0 : Nat) (hP : h_On Y pa (paE tF pa o c0)) (hY : h_On Y o (ringE tF o)) (hC : h_On Y c0 (ringE tF c0)) (u1 u2 : Int32) : hMi l yX1_numberGot cX1_numberGot 5 (some .int) 4 102 G Y [.ref (pa), .int u1, .int u2] (fun H => True) (fun H r H1 => r = (-1)) := by
  refine h_ofi (by decide +kernel) (Nat.le_of_ble_eq_true rfl) ?_
  intro p e s m args below meth c H0 ls Q hx hb hts hown hml hK hT0 hpr hS0 hl hret
  have hl : lv_has ls 5 [(0, .ref (pa)), (1, .int u1), (2, .int u2)] := hl
  refine lv_aload_n hx hb dX1_numberGot_0 rfl (lv_at hl 0 rfl) ?_
  refine h_getr (C := RX1) (T := TX1) (N := 4) hx hb hts inX1 hown hK hT0 (hP.o rfl) rfl 1 rfl wF_X1_22 rfl dX1_numberGot_1 ?_
  refine lv_aload_n hx hb dX1_numberGot_4 rfl (lv_at hl 0 rfl) ?_
  refine h_getr (C := RX1) (T := TX1) (N := 4) hx hb hts inX1 hown hK hT0 (hP.o rfl) rfl 0 rfl wF_X1_18 rfl dX1_numberGot_5 ?_
  refine h_callVv (T := TX5) (rest := []) (As := [.ref (o)]) hx hb hml hown hts hK hT0 (fun _ h => h) hS0 (c_X5_copyFrom l G Y (c0) (o) hC hY) trivial wd_X5_copyFrom wV_X5_copyFrom wL_X1_25 (on_rg hC) rfl rfl hl.1 rfl (Nat.le_of_ble_eq_true rfl) dX1_numberGot_8 ⟨Nat.le_of_ble_eq_true rfl, Nat.le_of_ble_eq_true rfl⟩ ⟨Nat.zero_le _, Nat.zero_le _⟩ (fun H1 locs hp1 hT1 hS1 hk1 => ?_)
  refine lv_iconst (v := 0) hx hb dX1_numberGot_11 (by decide) ?_
  refine lv_istore_n (lv' := [(3, .int 0), (0, .ref (pa)), (1, .int u1), (2, .int u2)]) hx hb dX1_numberGot_12 rfl hl (by decide) rfl (fun ls hl => ?_)
  refine lv_iconst (v := 1) hx hb dX1_numberGot_13 (by decide) ?_
  refine lv_istore (lv' := [(4, .int 1), (3, .int 0), (0, .ref (pa)), (1, .int u1), (2, .int u2)]) hx hb dX1_numberGot_14 hl (by decide) rfl (fun ls hl => ?_)
  have LP : ∀ (q k : Nat), q + k = 3001 → ∀ (H0 : Heap) (locs : List Loc) (ls : Array Slot), hT G Y H0 → va_S (h_A Y) s.heap H0 locs → lv_has ls 5 [(4, .int (nI k)), (0, .ref (pa)), (1, .int u1), (2, .int u2), (3, .int 0)] → W p l e (h_rm 4 102) s m args below meth c H0 locs 0 0 Q (F0 m 16 ls []) := by
    intro q
    induction q with
    | zero =>
      intro k hk H0 locs ls  hT0 hS0  hl
      obtain rfl : k = 3001 := by omega
      refine lv_iload hx hb dX1_numberGot_16 (lv_at hl 0 rfl) ?_
      refine lv_sipush (v := 3000) hx hb dX1_numberGot_18 (by decide) ?_
      refine lv_icmp_gt (tgt := 65) hx hb dX1_numberGot_21 (by decide) (fun _ => ?_) (fun h => absurd (by decide) h)
      refine lv_iconst (v := (-1)) hx hb dX1_numberGot_65 (by decide) ?_
      exact hret _ _ _ _ _ hT0 hS0 rfl dX1_numberGot_66
    | succ q ih =>
      intro k hk H0 locs ls  hT0 hS0  hl
      refine lv_iload hx hb dX1_numberGot_16 (lv_at hl 0 rfl) ?_
      refine lv_sipush (v := 3000) hx hb dX1_numberGot_18 (by decide) ?_
      refine lv_icmp_gt (tgt := 65) hx hb dX1_numberGot_21 (by decide) (fun h => absurd h (by have h9 := nI_toInt (n := k) (by omega); have h8 : (3000 : Int32).toInt = 3000 := rfl; simp only [Int32.lt_iff_toInt_lt, Int32.le_iff_toInt_le, h9, h8]; omega)) (fun _ => ?_)
      refine lv_aload_n hx hb dX1_numberGot_24 rfl (lv_at hl 1 rfl) ?_
      refine h_getr (C := RX1) (T := TX1) (N := 4) hx hb hts inX1 hown hK hT0 (hP.o rfl) rfl 1 rfl wF_X1_22 rfl dX1_numberGot_25 ?_
      refine lv_iload_n hx hb dX1_numberGot_28 rfl (lv_at hl 3 rfl) ?_
      refine h_callVv (T := TX5) (rest := []) (As := [.int u2]) hx hb hml hown hts hK hT0 (fun _ h => h) hS0 (c_X5_passTick l G Y (c0) hC u2 _) rfl wd_X5_passTick wV_X5_passTick wL_X1_35 (on_rg hC) rfl rfl hl.1 rfl (Nat.le_of_ble_eq_true rfl) dX1_numberGot_29 ⟨Nat.le_of_ble_eq_true rfl, Nat.le_of_ble_eq_true rfl⟩ ⟨Nat.zero_le _, Nat.zero_le _⟩ (fun H1 locs hp1 hT1 hS1 hk1 => ?_)
      refine lv_aload_n hx hb dX1_numberGot_32 rfl (lv_at hl 1 rfl) ?_
      refine h_getr (C := RX1) (T := TX1) (N := 4) hx hb hts inX1 hown hK hT1 (hP.o rfl) rfl 1 rfl wF_X1_22 rfl dX1_numberGot_33 ?_
      refine h_getc (v := (-1)) (C := RX5) (T := TX5) (N := 11) hx hb hts inX5 hown hK hT1 (on_rg hC) rfl 8 rfl wF_X1_43 rfl (fun _ h => h) dX1_numberGot_36 ?_
      refine lv_iconst (v := (-1)) hx hb dX1_numberGot_39 (by decide) ?_
      refine lv_icmp_eq (tgt := 59) hx hb dX1_numberGot_40 (by decide) (fun _ => ?_) (fun h => absurd (by decide) h)
      refine lv_iinc (v := (nI (k + 1))) (lv' := [(4, .int (nI (k + 1))), (0, .ref (pa)), (1, .int u1), (2, .int u2), (3, .int 0)]) hx hb dX1_numberGot_59 hl (k := 0) rfl (nI_1 k) (by decide) rfl (fun ls hl => ?_)
      refine lv_goto (tgt := 16) hx hb dX1_numberGot_62 (by decide) ?_
      exact ih (k + 1) (by omega) _ _ _  hT1 hS1 (lv_sub hl [0, 1, 2, 3, 4] rfl)
  exact LP 3000 1 (by omega) _ _ _  hT1 hS1 (lv_sub hl [0, 2, 3, 4, 1] rfl)
set_option maxHeartbeats 4000000 in
set_option maxRecDepth 100000 in
theorem c_X1_greatestLevel (l : Launch) (G : hG) (Y : hW) (pa o c0 : Nat) (hP : h_On Y pa (paE tF pa o c0)) (hY : h_On Y o (ringE tF o)) (hC : h_On Y c0 (ringE tF c0)) : hMi l yX1_greatestLevel cX1_greatestLevel 3 (some .int) 3 102 G Y [.ref (pa)] (fun H => True) (fun H r H1 => r = 0) := by
  refine h_ofi (by decide +kernel) (Nat.le_of_ble_eq_true rfl) ?_
  intro p e s m args below meth c H0 ls Q hx hb hts hown hml hK hT0 hpr hS0 hl hret
  have hl : lv_has ls 3 [(0, .ref (pa))] := hl
  refine lv_aload_n hx hb dX1_greatestLevel_0 rfl (lv_at hl 0 rfl) ?_
  refine h_getr (C := RX1) (T := TX1) (N := 4) hx hb hts inX1 hown hK hT0 (hP.o rfl) rfl 1 rfl wF_X1_22 rfl dX1_greatestLevel_1 ?_
  refine lv_aload_n hx hb dX1_greatestLevel_4 rfl (lv_at hl 0 rfl) ?_
  refine h_getr (C := RX1) (T := TX1) (N := 4) hx hb hts inX1 hown hK hT0 (hP.o rfl) rfl 0 rfl wF_X1_18 rfl dX1_greatestLevel_5 ?_
  refine h_callVv (T := TX5) (rest := []) (As := [.ref (o)]) hx hb hml hown hts hK hT0 (fun _ h => h) hS0 (c_X5_copyFrom l G Y (c0) (o) hC hY) trivial wd_X5_copyFrom wV_X5_copyFrom wL_X1_25 (on_rg hC) rfl rfl hl.1 rfl (Nat.le_of_ble_eq_true rfl) dX1_greatestLevel_8 ⟨Nat.le_of_ble_eq_true rfl, Nat.le_of_ble_eq_true rfl⟩ ⟨Nat.zero_le _, Nat.zero_le _⟩ (fun H1 locs hp1 hT1 hS1 hk1 => ?_)
  refine lv_iconst (v := 0) hx hb dX1_greatestLevel_11 (by decide) ?_
  refine lv_istore_n (lv' := [(1, .int 0), (0, .ref (pa))]) hx hb dX1_greatestLevel_12 rfl hl (by decide) rfl (fun ls hl => ?_)
  refine lv_iconst (v := 0) hx hb dX1_greatestLevel_13 (by decide) ?_
  refine lv_istore_n (lv' := [(2, .int 0), (1, .int 0), (0, .ref (pa))]) hx hb dX1_greatestLevel_14 rfl hl (by decide) rfl (fun ls hl => ?_)
  refine lv_iload_n hx hb dX1_greatestLevel_15 rfl (lv_at hl 0 rfl) ?_
  refine lv_sipush (v := 3000) hx hb dX1_greatestLevel_16 (by decide) ?_
  refine lv_icmp_gt (tgt := 76) hx hb dX1_greatestLevel_19 (by decide) (fun h => absurd h (by decide)) (fun _ => ?_)
  refine lv_aload_n hx hb dX1_greatestLevel_22 rfl (lv_at hl 2 rfl) ?_
  refine h_getr (C := RX1) (T := TX1) (N := 4) hx hb hts inX1 hown hK hT1 (hP.o rfl) rfl 1 rfl wF_X1_22 rfl dX1_greatestLevel_23 ?_
  refine h_getr (C := RX5) (T := TX5) (N := 11) hx hb hts inX5 hown hK hT1 (on_rg hC) rfl 3 rfl wF_X1_56 rfl dX1_greatestLevel_26 ?_
  refine h_getc (v := 0) (C := RX9) (T := TX9) (N := 11) hx hb hts inX9 hown hK hT1 ((on_wa hC).o rfl) rfl 0 rfl wF_X1_60 rfl (fun _ h => h) dX1_greatestLevel_29 ?_
  refine lv_if_eq (tgt := 50) hx hb dX1_greatestLevel_32 (by decide) (fun _ => ?_) (fun h => absurd (by decide) h)
  refine lv_aload_n hx hb dX1_greatestLevel_50 rfl (lv_at hl 2 rfl) ?_
  refine h_getr (C := RX1) (T := TX1) (N := 4) hx hb hts inX1 hown hK hT1 (hP.o rfl) rfl 1 rfl wF_X1_22 rfl dX1_greatestLevel_51 ?_
  refine h_callVi (T := TX5) (rest := []) (As := []) hx hb hml hown hts hK hT1 (fun _ h => h) hS1 (c_X5_isQuiet l G Y (c0) hC) trivial wd_X5_isQuiet wV_X5_isQuiet wL_X1_39 (on_rg hC) rfl rfl hl.1 rfl (Nat.le_of_ble_eq_true rfl) dX1_greatestLevel_54 ⟨Nat.le_of_ble_eq_true rfl, Nat.le_of_ble_eq_true rfl⟩ ⟨Nat.zero_le _, Nat.zero_le _⟩ (fun r3 H2 locs hp2 hT2 hS2 hk2 => ?_)
  obtain ⟨hp2, he⟩ := hp2
  have he := he.symm
  subst he
  have hp2 : r3 = 1 := hp2
  subst hp2
  refine lv_if_eq (tgt := 62) hx hb dX1_greatestLevel_57 (by decide) (fun h => absurd h (by decide)) (fun _ => ?_)
  refine lv_iload_n hx hb dX1_greatestLevel_60 rfl (lv_at hl 1 rfl) ?_
  exact hret _ _ _ _ _ hT1 hS2 rfl dX1_greatestLevel_61
set_option maxHeartbeats 4000000 in
set_option maxRecDepth 100000 in
theorem c_X1_noteGot (l : Launch) (G : hG) (Y : hW) (pa o c0 : Nat) (hP : h_On Y pa (paE tF pa o c0)) (hY : h_On Y o (ringE tF o)) (hC : h_On Y c0 (ringE tF c0)) (u1 : Int32) : hMv l yX1_noteGot cX1_noteGot 5 none 4 102 G Y [.ref (pa), .int u1] (fun H => True) (fun H H1 => True) := by
  refine h_ofv (by decide +kernel) (Nat.le_of_ble_eq_true rfl) ?_
  intro p e s m args below meth c H0 ls Q hx hb hts hown hml hK hT0 hpr hS0 hl hret
  have hl : lv_has ls 5 [(0, .ref (pa)), (1, .int u1)] := hl
  refine lv_iload_n hx hb dX1_noteGot_0 rfl (lv_at hl 1 rfl) ?_
  refine lv_if_eq (tgt := 11) hx hb dX1_noteGot_1 (by decide) (fun c1 => ?_) (fun c1 => ?_)
  · skip
    refine lv_aload_n hx hb dX1_noteGot_11 rfl (lv_at hl 0 rfl) ?_
    refine h_getr (C := RX1) (T := TX1) (N := 4) hx hb hts inX1 hown hK hT0 (hP.o rfl) rfl 2 rfl wF_X1_9 rfl dX1_noteGot_12 ?_
    refine lv_astore_n (lv' := [(2, .ref (pa + 1)), (0, .ref (pa)), (1, .int u1)]) hx hb dX1_noteGot_15 rfl hl (by decide) rfl (fun ls hl => ?_)
    refine lv_aload_n hx hb dX1_noteGot_16 rfl (lv_at hl 0 rfl) ?_
    refine lv_iconst (v := (-1)) hx hb dX1_noteGot_17 (by decide) ?_
    refine h_callSv (rest := []) (As := [.ref (pa + 1), .int (-1)]) hx hb hml hown hts hK hT0 (fun _ h => h) hS0 (c_fill l G Y (pa + 1) 48 _ (-1) (hP.at 1 rfl) (by decide) (fun _ _ => (Or.inr rfl))) trivial wd_J7_fill_53178 wS_J7_fill_53178 wL_X1_81 rfl hl.1 rfl (Nat.le_of_ble_eq_true rfl) dX1_noteGot_18 ⟨Nat.le_of_ble_eq_true rfl, Nat.le_of_ble_eq_true rfl⟩ ⟨Nat.zero_le _, Nat.zero_le _⟩ (fun H1 locs hp1 hT1 hS1 hk1 => ?_)
    refine lv_aload_n hx hb dX1_noteGot_21 rfl (lv_at hl 1 rfl) ?_
    refine h_getr (C := RX1) (T := TX1) (N := 4) hx hb hts inX1 hown hK hT1 (hP.o rfl) rfl 1 rfl wF_X1_22 rfl dX1_noteGot_22 ?_
    refine lv_aload_n hx hb dX1_noteGot_25 rfl (lv_at hl 1 rfl) ?_
    refine h_getr (C := RX1) (T := TX1) (N := 4) hx hb hts inX1 hown hK hT1 (hP.o rfl) rfl 0 rfl wF_X1_18 rfl dX1_noteGot_26 ?_
    refine h_callVv (T := TX5) (rest := []) (As := [.ref (o)]) hx hb hml hown hts hK hT1 (fun _ h => h) hS1 (c_X5_copyFrom l G Y (c0) (o) hC hY) trivial wd_X5_copyFrom wV_X5_copyFrom wL_X1_25 (on_rg hC) rfl rfl hl.1 rfl (Nat.le_of_ble_eq_true rfl) dX1_noteGot_29 ⟨Nat.le_of_ble_eq_true rfl, Nat.le_of_ble_eq_true rfl⟩ ⟨Nat.zero_le _, Nat.zero_le _⟩ (fun H2 locs hp2 hT2 hS2 hk2 => ?_)
    refine lv_iconst (v := 1) hx hb dX1_noteGot_32 (by decide) ?_
    refine lv_istore_n (lv' := [(3, .int 1), (2, .ref (pa + 1)), (0, .ref (pa)), (1, .int u1)]) hx hb dX1_noteGot_33 rfl hl (by decide) rfl (fun ls hl => ?_)
    have LP : ∀ (q k : Nat), q + k = 3001 → ∀ (H0 : Heap) (locs : List Loc) (ls : Array Slot), hT G Y H0 → va_S (h_A Y) s.heap H0 locs → lv_has ls 5 [(3, .int (nI k)), (0, .ref (pa)), (1, .int u1), (2, .ref (pa + 1))] → W p l e (h_rm 4 102) s m args below meth c H0 locs 0 0 Q (F0 m 34 ls []) := by
      intro q
      induction q with
      | zero =>
        intro k hk H0 locs ls  hT0 hS0  hl
        obtain rfl : k = 3001 := by omega
        refine lv_iload_n hx hb dX1_noteGot_34 rfl (lv_at hl 0 rfl) ?_
        refine lv_sipush (v := 3000) hx hb dX1_noteGot_35 (by decide) ?_
        refine lv_icmp_gt (tgt := 106) hx hb dX1_noteGot_38 (by decide) (fun _ => ?_) (fun h => absurd (by decide) h)
        exact hret _ _ _ _ hT0 hS0 trivial dX1_noteGot_106
      | succ q ih =>
        intro k hk H0 locs ls  hT0 hS0  hl
        refine lv_iload_n hx hb dX1_noteGot_34 rfl (lv_at hl 0 rfl) ?_
        refine lv_sipush (v := 3000) hx hb dX1_noteGot_35 (by decide) ?_
        refine lv_icmp_gt (tgt := 106) hx hb dX1_noteGot_38 (by decide) (fun h => absurd h (by have h9 := nI_toInt (n := k) (by omega); have h8 : (3000 : Int32).toInt = 3000 := rfl; simp only [Int32.lt_iff_toInt_lt, Int32.le_iff_toInt_le, h9, h8]; omega)) (fun _ => ?_)
        refine lv_aload_n hx hb dX1_noteGot_41 rfl (lv_at hl 1 rfl) ?_
        refine h_getr (C := RX1) (T := TX1) (N := 4) hx hb hts inX1 hown hK hT0 (hP.o rfl) rfl 1 rfl wF_X1_22 rfl dX1_noteGot_42 ?_
        refine lv_iload_n hx hb dX1_noteGot_45 rfl (lv_at hl 2 rfl) ?_
        refine h_callVv (T := TX5) (rest := []) (As := [.int u1]) hx hb hml hown hts hK hT0 (fun _ h => h) hS0 (c_X5_passTick l G Y (c0) hC u1 _) rfl wd_X5_passTick wV_X5_passTick wL_X1_35 (on_rg hC) rfl rfl hl.1 rfl (Nat.le_of_ble_eq_true rfl) dX1_noteGot_46 ⟨Nat.le_of_ble_eq_true rfl, Nat.le_of_ble_eq_true rfl⟩ ⟨Nat.zero_le _, Nat.zero_le _⟩ (fun H1 locs hp1 hT1 hS1 hk1 => ?_)
        refine lv_aload_n hx hb dX1_noteGot_49 rfl (lv_at hl 1 rfl) ?_
        refine h_getr (C := RX1) (T := TX1) (N := 4) hx hb hts inX1 hown hK hT1 (hP.o rfl) rfl 1 rfl wF_X1_22 rfl dX1_noteGot_50 ?_
        refine h_getc (v := (-1)) (C := RX5) (T := TX5) (N := 11) hx hb hts inX5 hown hK hT1 (on_rg hC) rfl 8 rfl wF_X1_43 rfl (fun _ h => h) dX1_noteGot_53 ?_
        refine lv_iconst (v := (-1)) hx hb dX1_noteGot_56 (by decide) ?_
        refine lv_icmp_ne (tgt := 64) hx hb dX1_noteGot_57 (by decide) (fun h => absurd (by decide) h) (fun _ => ?_)
        refine lv_iconst (v := (-1)) hx hb dX1_noteGot_60 (by decide) ?_
        refine lv_goto (tgt := 81) hx hb dX1_noteGot_61 (by decide) ?_
        refine lv_istore (lv' := [(4, .int (-1)), (3, .int (nI k)), (0, .ref (pa)), (1, .int u1), (2, .ref (pa + 1))]) hx hb dX1_noteGot_81 hl (by decide) rfl (fun ls hl => ?_)
        refine lv_iload hx hb dX1_noteGot_83 (lv_at hl 0 rfl) ?_
        refine lv_if_lt (tgt := 100) hx hb dX1_noteGot_85 (by decide) (fun _ => ?_) (fun h => absurd (by decide) h)
        refine lv_iinc (v := (nI (k + 1))) (lv' := [(3, .int (nI (k + 1))), (4, .int (-1)), (0, .ref (pa)), (1, .int u1), (2, .ref (pa + 1))]) hx hb dX1_noteGot_100 hl (k := 1) rfl (nI_1 k) (by decide) rfl (fun ls hl => ?_)
        refine lv_goto (tgt := 34) hx hb dX1_noteGot_103 (by decide) ?_
        exact ih (k + 1) (by omega) _ _ _  hT1 hS1 (lv_sub hl [0, 2, 3, 4] rfl)
    exact LP 3000 1 (by omega) _ _ _  hT2 hS2 (lv_sub hl [0, 2, 3, 1] rfl)
  · skip
    refine lv_aload_n hx hb dX1_noteGot_4 rfl (lv_at hl 0 rfl) ?_
    refine h_getr (C := RX1) (T := TX1) (N := 4) hx hb hts inX1 hown hK hT0 (hP.o rfl) rfl 3 rfl wF_X1_15 rfl dX1_noteGot_5 ?_
    refine lv_goto (tgt := 15) hx hb dX1_noteGot_8 (by decide) ?_
    refine lv_astore_n (lv' := [(2, .ref (pa + 2)), (0, .ref (pa)), (1, .int u1)]) hx hb dX1_noteGot_15 rfl hl (by decide) rfl (fun ls hl => ?_)
    refine lv_aload_n hx hb dX1_noteGot_16 rfl (lv_at hl 0 rfl) ?_
    refine lv_iconst (v := (-1)) hx hb dX1_noteGot_17 (by decide) ?_
    refine h_callSv (rest := []) (As := [.ref (pa + 2), .int (-1)]) hx hb hml hown hts hK hT0 (fun _ h => h) hS0 (c_fill l G Y (pa + 2) 48 _ (-1) (hP.at 2 rfl) (by decide) (fun _ _ => (Or.inr rfl))) trivial wd_J7_fill_53178 wS_J7_fill_53178 wL_X1_81 rfl hl.1 rfl (Nat.le_of_ble_eq_true rfl) dX1_noteGot_18 ⟨Nat.le_of_ble_eq_true rfl, Nat.le_of_ble_eq_true rfl⟩ ⟨Nat.zero_le _, Nat.zero_le _⟩ (fun H3 locs hp3 hT3 hS3 hk3 => ?_)
    refine lv_aload_n hx hb dX1_noteGot_21 rfl (lv_at hl 1 rfl) ?_
    refine h_getr (C := RX1) (T := TX1) (N := 4) hx hb hts inX1 hown hK hT3 (hP.o rfl) rfl 1 rfl wF_X1_22 rfl dX1_noteGot_22 ?_
    refine lv_aload_n hx hb dX1_noteGot_25 rfl (lv_at hl 1 rfl) ?_
    refine h_getr (C := RX1) (T := TX1) (N := 4) hx hb hts inX1 hown hK hT3 (hP.o rfl) rfl 0 rfl wF_X1_18 rfl dX1_noteGot_26 ?_
    refine h_callVv (T := TX5) (rest := []) (As := [.ref (o)]) hx hb hml hown hts hK hT3 (fun _ h => h) hS3 (c_X5_copyFrom l G Y (c0) (o) hC hY) trivial wd_X5_copyFrom wV_X5_copyFrom wL_X1_25 (on_rg hC) rfl rfl hl.1 rfl (Nat.le_of_ble_eq_true rfl) dX1_noteGot_29 ⟨Nat.le_of_ble_eq_true rfl, Nat.le_of_ble_eq_true rfl⟩ ⟨Nat.zero_le _, Nat.zero_le _⟩ (fun H4 locs hp4 hT4 hS4 hk4 => ?_)
    refine lv_iconst (v := 1) hx hb dX1_noteGot_32 (by decide) ?_
    refine lv_istore_n (lv' := [(3, .int 1), (2, .ref (pa + 2)), (0, .ref (pa)), (1, .int u1)]) hx hb dX1_noteGot_33 rfl hl (by decide) rfl (fun ls hl => ?_)
    have LP : ∀ (q k : Nat), q + k = 3001 → ∀ (H0 : Heap) (locs : List Loc) (ls : Array Slot), hT G Y H0 → va_S (h_A Y) s.heap H0 locs → lv_has ls 5 [(3, .int (nI k)), (0, .ref (pa)), (1, .int u1), (2, .ref (pa + 2))] → W p l e (h_rm 4 102) s m args below meth c H0 locs 0 0 Q (F0 m 34 ls []) := by
      intro q
      induction q with
      | zero =>
        intro k hk H0 locs ls  hT0 hS0  hl
        obtain rfl : k = 3001 := by omega
        refine lv_iload_n hx hb dX1_noteGot_34 rfl (lv_at hl 0 rfl) ?_
        refine lv_sipush (v := 3000) hx hb dX1_noteGot_35 (by decide) ?_
        refine lv_icmp_gt (tgt := 106) hx hb dX1_noteGot_38 (by decide) (fun _ => ?_) (fun h => absurd (by decide) h)
        exact hret _ _ _ _ hT0 hS0 trivial dX1_noteGot_106
      | succ q ih =>
        intro k hk H0 locs ls  hT0 hS0  hl
        refine lv_iload_n hx hb dX1_noteGot_34 rfl (lv_at hl 0 rfl) ?_
        refine lv_sipush (v := 3000) hx hb dX1_noteGot_35 (by decide) ?_
        refine lv_icmp_gt (tgt := 106) hx hb dX1_noteGot_38 (by decide) (fun h => absurd h (by have h9 := nI_toInt (n := k) (by omega); have h8 : (3000 : Int32).toInt = 3000 := rfl; simp only [Int32.lt_iff_toInt_lt, Int32.le_iff_toInt_le, h9, h8]; omega)) (fun _ => ?_)
        refine lv_aload_n hx hb dX1_noteGot_41 rfl (lv_at hl 1 rfl) ?_
        refine h_getr (C := RX1) (T := TX1) (N := 4) hx hb hts inX1 hown hK hT0 (hP.o rfl) rfl 1 rfl wF_X1_22 rfl dX1_noteGot_42 ?_
        refine lv_iload_n hx hb dX1_noteGot_45 rfl (lv_at hl 2 rfl) ?_
        refine h_callVv (T := TX5) (rest := []) (As := [.int u1]) hx hb hml hown hts hK hT0 (fun _ h => h) hS0 (c_X5_passTick l G Y (c0) hC u1 _) rfl wd_X5_passTick wV_X5_passTick wL_X1_35 (on_rg hC) rfl rfl hl.1 rfl (Nat.le_of_ble_eq_true rfl) dX1_noteGot_46 ⟨Nat.le_of_ble_eq_true rfl, Nat.le_of_ble_eq_true rfl⟩ ⟨Nat.zero_le _, Nat.zero_le _⟩ (fun H1 locs hp1 hT1 hS1 hk1 => ?_)
        refine lv_aload_n hx hb dX1_noteGot_49 rfl (lv_at hl 1 rfl) ?_
        refine h_getr (C := RX1) (T := TX1) (N := 4) hx hb hts inX1 hown hK hT1 (hP.o rfl) rfl 1 rfl wF_X1_22 rfl dX1_noteGot_50 ?_
        refine h_getc (v := (-1)) (C := RX5) (T := TX5) (N := 11) hx hb hts inX5 hown hK hT1 (on_rg hC) rfl 8 rfl wF_X1_43 rfl (fun _ h => h) dX1_noteGot_53 ?_
        refine lv_iconst (v := (-1)) hx hb dX1_noteGot_56 (by decide) ?_
        refine lv_icmp_ne (tgt := 64) hx hb dX1_noteGot_57 (by decide) (fun h => absurd (by decide) h) (fun _ => ?_)
        refine lv_iconst (v := (-1)) hx hb dX1_noteGot_60 (by decide) ?_
        refine lv_goto (tgt := 81) hx hb dX1_noteGot_61 (by decide) ?_
        refine lv_istore (lv' := [(4, .int (-1)), (3, .int (nI k)), (0, .ref (pa)), (1, .int u1), (2, .ref (pa + 2))]) hx hb dX1_noteGot_81 hl (by decide) rfl (fun ls hl => ?_)
        refine lv_iload hx hb dX1_noteGot_83 (lv_at hl 0 rfl) ?_
        refine lv_if_lt (tgt := 100) hx hb dX1_noteGot_85 (by decide) (fun _ => ?_) (fun h => absurd (by decide) h)
        refine lv_iinc (v := (nI (k + 1))) (lv' := [(3, .int (nI (k + 1))), (4, .int (-1)), (0, .ref (pa)), (1, .int u1), (2, .ref (pa + 2))]) hx hb dX1_noteGot_100 hl (k := 1) rfl (nI_1 k) (by decide) rfl (fun ls hl => ?_)
        refine lv_goto (tgt := 34) hx hb dX1_noteGot_103 (by decide) ?_
        exact ih (k + 1) (by omega) _ _ _  hT1 hS1 (lv_sub hl [0, 2, 3, 4] rfl)
    exact LP 3000 1 (by omega) _ _ _  hT4 hS4 (lv_sub hl [0, 2, 3, 1] rfl)
set_option maxHeartbeats 4000000 in
set_option maxRecDepth 100000 in
theorem c_X1_ticksGained (l : Launch) (G : hG) (Y : hW) (pa o c0 : Nat) (hP : h_On Y pa (paE tF pa o c0)) (hY : h_On Y o (ringE tF o)) (hC : h_On Y c0 (ringE tF c0)) : hMi l yX1_ticksGained cX1_ticksGained 3 (some .int) 0 0 G Y [.ref (pa)] (fun H => True) (fun H r H1 => r = 0) := by
  refine h_ofi (by decide +kernel) (Nat.le_of_ble_eq_true rfl) ?_
  intro p e s m args below meth c H0 ls Q hx hb hts hown hml hK hT0 hpr hS0 hl hret
  have hl : lv_has ls 3 [(0, .ref (pa))] := hl
  refine lv_iconst (v := 0) hx hb dX1_ticksGained_0 (by decide) ?_
  refine lv_istore_n (lv' := [(1, .int 0), (0, .ref (pa))]) hx hb dX1_ticksGained_1 rfl hl (by decide) rfl (fun ls hl => ?_)
  refine lv_iconst (v := 0) hx hb dX1_ticksGained_2 (by decide) ?_
  refine lv_istore_n (lv' := [(2, .int 0), (1, .int 0), (0, .ref (pa))]) hx hb dX1_ticksGained_3 rfl hl (by decide) rfl (fun ls hl => ?_)
  have LP : ∀ (q k : Nat), q + k = 48 → ∀ (H0 : Heap) (locs : List Loc) (ls : Array Slot), hT G Y H0 → va_S (h_A Y) s.heap H0 locs → lv_has ls 3 [(2, .int (nI k)), (0, .ref (pa)), (1, .int 0)] → W p l e (h_rm 0 0) s m args below meth c H0 locs 0 0 Q (F0 m 4 ls []) := by
    intro q
    induction q with
    | zero =>
      intro k hk H0 locs ls  hT0 hS0  hl
      obtain rfl : k = 48 := by omega
      refine lv_iload_n hx hb dX1_ticksGained_4 rfl (lv_at hl 0 rfl) ?_
      refine lv_bipush (v := 48) hx hb dX1_ticksGained_5 (by decide) ?_
      refine lv_icmp_ge (tgt := 52) hx hb dX1_ticksGained_7 (by decide) (fun _ => ?_) (fun h => absurd (by decide) h)
      refine lv_iload_n hx hb dX1_ticksGained_52 rfl (lv_at hl 2 rfl) ?_
      exact hret _ _ _ _ _ hT0 hS0 rfl dX1_ticksGained_53
    | succ q ih =>
      intro k hk H0 locs ls  hT0 hS0  hl
      refine lv_iload_n hx hb dX1_ticksGained_4 rfl (lv_at hl 0 rfl) ?_
      refine lv_bipush (v := 48) hx hb dX1_ticksGained_5 (by decide) ?_
      refine lv_icmp_ge (tgt := 52) hx hb dX1_ticksGained_7 (by decide) (fun h => absurd h (by have h9 := nI_toInt (n := k) (by omega); have h8 : (48 : Int32).toInt = 48 := rfl; simp only [Int32.lt_iff_toInt_lt, Int32.le_iff_toInt_le, h9, h8]; omega)) (fun _ => ?_)
      refine lv_aload_n hx hb dX1_ticksGained_10 rfl (lv_at hl 1 rfl) ?_
      refine h_getr (C := RX1) (T := TX1) (N := 4) hx hb hts inX1 hown hK hT0 (hP.o rfl) rfl 2 rfl wF_X1_9 rfl dX1_ticksGained_11 ?_
      refine lv_iload_n hx hb dX1_ticksGained_14 rfl (lv_at hl 0 rfl) ?_
      refine h_iald hx hb hK hT0 (hP.at 1 rfl) (vp_in_nI (by omega) (by decide)) dX1_ticksGained_15 (fun p1 => ?_)
      refine lv_topi (fun x2 ex2 => ?_)
      refine lv_iconst (v := (-1)) hx hb dX1_ticksGained_16 (by decide) ?_
      refine lv_icmp_eq (tgt := 46) hx hb dX1_ticksGained_17 (by decide) (fun c3 => ?_) (fun c3 => ?_)
      · skip
        refine lv_iinc (v := (nI (k + 1))) (lv' := [(2, .int (nI (k + 1))), (0, .ref (pa)), (1, .int 0)]) hx hb dX1_ticksGained_46 hl (k := 0) rfl (nI_1 k) (by decide) rfl (fun ls hl => ?_)
        refine lv_goto (tgt := 4) hx hb dX1_ticksGained_49 (by decide) ?_
        exact ih (k + 1) (by omega) _ _ _  hT0 hS0 (lv_sub hl [0, 1, 2] rfl)
      · skip
        refine lv_aload_n hx hb dX1_ticksGained_20 rfl (lv_at hl 1 rfl) ?_
        refine h_getr (C := RX1) (T := TX1) (N := 4) hx hb hts inX1 hown hK hT0 (hP.o rfl) rfl 3 rfl wF_X1_15 rfl dX1_ticksGained_21 ?_
        refine lv_iload_n hx hb dX1_ticksGained_24 rfl (lv_at hl 0 rfl) ?_
        refine h_iald hx hb hK hT0 (hP.at 2 rfl) (vp_in_nI (by omega) (by decide)) dX1_ticksGained_25 (fun p4 => ?_)
        refine lv_topi (fun x5 ex5 => ?_)
        refine lv_iconst (v := (-1)) hx hb dX1_ticksGained_26 (by decide) ?_
        refine lv_icmp_eq (tgt := 46) hx hb dX1_ticksGained_27 (by decide) (fun c6 => ?_) (fun c6 => ?_)
        · skip
          refine lv_iinc (v := (nI (k + 1))) (lv' := [(2, .int (nI (k + 1))), (0, .ref (pa)), (1, .int 0)]) hx hb dX1_ticksGained_46 hl (k := 0) rfl (nI_1 k) (by decide) rfl (fun ls hl => ?_)
          refine lv_goto (tgt := 4) hx hb dX1_ticksGained_49 (by decide) ?_
          exact ih (k + 1) (by omega) _ _ _  hT0 hS0 (lv_sub hl [0, 1, 2] rfl)
        · skip
          refine lv_iload_n hx hb dX1_ticksGained_30 rfl (lv_at hl 2 rfl) ?_
          refine lv_aload_n hx hb dX1_ticksGained_31 rfl (lv_at hl 1 rfl) ?_
          refine h_getr (C := RX1) (T := TX1) (N := 4) hx hb hts inX1 hown hK hT0 (hP.o rfl) rfl 3 rfl wF_X1_15 rfl dX1_ticksGained_32 ?_
          refine lv_iload_n hx hb dX1_ticksGained_35 rfl (lv_at hl 0 rfl) ?_
          refine h_iald hx hb hK hT0 (hP.at 2 rfl) (vp_in_nI (by omega) (by decide)) dX1_ticksGained_36 (fun p7 => ?_)
          refine lv_topi (fun x8 ex8 => ?_)
          refine lv_aload_n hx hb dX1_ticksGained_37 rfl (lv_at hl 1 rfl) ?_
          refine h_getr (C := RX1) (T := TX1) (N := 4) hx hb hts inX1 hown hK hT0 (hP.o rfl) rfl 2 rfl wF_X1_9 rfl dX1_ticksGained_38 ?_
          refine lv_iload_n hx hb dX1_ticksGained_41 rfl (lv_at hl 0 rfl) ?_
          refine h_iald hx hb hK hT0 (hP.at 1 rfl) (vp_in_nI (by omega) (by decide)) dX1_ticksGained_42 (fun p9 => ?_)
          refine lv_topi (fun x10 ex10 => ?_)
          refine lv_isub hx hb dX1_ticksGained_43 ?_
          refine lv_topi (fun x11 ex11 => ?_)
          refine lv_iadd hx hb dX1_ticksGained_44 ?_
          have g1 : x2 = 0 := ex2.trans (p1.resolve_right (fun h => c3 (ex2.trans h)))
          have g2 : x5 = 0 := ex5.trans (p4.resolve_right (fun h => c6 (ex5.trans h)))
          have g3 : x8 = 0 := ex8.trans (ex5.symm.trans g2)
          have g4 : x10 = 0 := ex10.trans (ex2.symm.trans g1)
          refine h_top (v := 0) (by rw [ex11, g3, g4]; rfl) ?_
          refine lv_istore_n (lv' := [(1, .int 0), (2, .int (nI k)), (0, .ref (pa))]) hx hb dX1_ticksGained_45 rfl hl (by decide) rfl (fun ls hl => ?_)
          refine lv_iinc (v := (nI (k + 1))) (lv' := [(2, .int (nI (k + 1))), (1, .int 0), (0, .ref (pa))]) hx hb dX1_ticksGained_46 hl (k := 1) rfl (nI_1 k) (by decide) rfl (fun ls hl => ?_)
          refine lv_goto (tgt := 4) hx hb dX1_ticksGained_49 (by decide) ?_
          exact ih (k + 1) (by omega) _ _ _  hT0 hS0 (lv_sub hl [0, 2, 1] rfl)
  exact LP 48 0 (by omega) _ _ _  hT0 hS0 (lv_sub hl [0, 2, 1] rfl)
end
section
set_option maxHeartbeats 4000000 in
set_option maxRecDepth 100000 in
theorem c_append_0 (l : Launch) (G : hG) (Y : hW) (o : Nat) (hY : h_On Y o (taE tF o)) (u1 : Int32) : hMv l yX8_append cX8_append 3 none 0 0 G Y [.ref (o), .int u1] (fun H => h_gi G H 8 o 1 = 0) (fun H H1 => h_gi G H1 8 o 1 = 4) := by
  refine h_ofv (by decide +kernel) (Nat.le_of_ble_eq_true rfl) ?_
  intro p e s m args below meth c H0 ls Q hx hb hts hown hml hK hT0 hpr hS0 hl hret
  have hl : lv_has ls 3 [(0, .ref (o)), (1, .int u1)] := hl
  refine lv_bipush (v := 24) hx hb dX8_append_0 (by decide) ?_
  refine lv_istore_n (lv' := [(2, .int 24), (0, .ref (o)), (1, .int u1)]) hx hb dX8_append_2 rfl hl (by decide) rfl (fun ls hl => ?_)
  refine lv_iload_n hx hb dX8_append_3 rfl (lv_at hl 0 rfl) ?_
  refine lv_if_lt (tgt := 53) hx hb dX8_append_4 (by decide) (fun h => absurd h (by decide)) (fun _ => ?_)
  refine lv_aload_n hx hb dX8_append_7 rfl (lv_at hl 1 rfl) ?_
  refine h_geti (C := RX8) (T := TX8) (N := 4) hx hb hts inX8 hown hK hT0 (hY.o rfl) rfl 1 rfl wF_X8_15 rfl dX8_append_8 (fun p2 => ?_)
  refine h_top (v := 0) hpr ?_
  refine lv_if_lt (tgt := 47) hx hb dX8_append_11 (by decide) (fun h => absurd h (by decide)) (fun _ => ?_)
  refine lv_aload_n hx hb dX8_append_14 rfl (lv_at hl 1 rfl) ?_
  refine h_geti (C := RX8) (T := TX8) (N := 4) hx hb hts inX8 hown hK hT0 (hY.o rfl) rfl 1 rfl wF_X8_15 rfl dX8_append_15 (fun p4 => ?_)
  refine h_top (v := 0) hpr ?_
  refine lv_sipush (v := 500) hx hb dX8_append_18 (by decide) ?_
  refine lv_icmp_ge (tgt := 47) hx hb dX8_append_21 (by decide) (fun h => absurd h (by decide)) (fun _ => ?_)
  refine lv_aload_n hx hb dX8_append_24 rfl (lv_at hl 1 rfl) ?_
  refine h_getr (C := RX8) (T := TX8) (N := 4) hx hb hts inX8 hown hK hT0 (hY.o rfl) rfl 0 rfl wF_X8_9 rfl dX8_append_25 ?_
  refine lv_aload_n hx hb dX8_append_28 rfl (lv_at hl 1 rfl) ?_
  refine h_geti (C := RX8) (T := TX8) (N := 4) hx hb hts inX8 hown hK hT0 (hY.o rfl) rfl 1 rfl wF_X8_15 rfl dX8_append_29 (fun p6 => ?_)
  refine h_top (v := 0) hpr ?_
  refine lv_iload_n hx hb dX8_append_32 rfl (lv_at hl 2 rfl) ?_
  refine lv_iload_n hx hb dX8_append_33 rfl (lv_at hl 0 rfl) ?_
  refine lv_ishr hx hb dX8_append_34 ?_
  refine lv_topi (fun x7 ex7 => ?_)
  refine lv_i2b hx hb dX8_append_35 rfl ?_
  refine lv_topi (fun x8 ex8 => ?_)
  refine h_bast hx hb hK hT0 (fun _ h => h) hS0 (hY.at 1 rfl) (h_inc (by decide)) trivial dX8_append_36 (fun H1 locs hT1 hS1 hu1 => ?_)
  refine lv_aload_n hx hb dX8_append_37 rfl (lv_at hl 1 rfl) ?_
  refine lv_dup hx hb dX8_append_38 rfl ?_
  refine h_geti (C := RX8) (T := TX8) (N := 4) hx hb hts inX8 hown hK hT1 (hY.o rfl) rfl 1 rfl wF_X8_15 rfl dX8_append_39 (fun p9 => ?_)
  refine h_top (v := 0) ((h_gi_same (hu1.2.1 _ (by omega))).trans hpr) ?_
  refine lv_iconst (v := 1) hx hb dX8_append_42 (by decide) ?_
  refine lv_iadd hx hb dX8_append_43 ?_
  refine h_top (v := 1) (by decide) ?_
  refine h_puti (C := RX8) (T := TX8) (N := 4) hx hb hts inX8 tyX8 tyX8_ok nmX8 hown hK hT1 (fun _ h => h) hS1 (hY.o rfl) rfl 1 rfl wF_X8_15 rfl rfl trivial rfl rfl dX8_append_44 (fun H2 locs hT2 hS2 hu2 => ?_)
  refine lv_iinc (v := 16) (lv' := [(2, .int 16), (0, .ref (o)), (1, .int u1)]) hx hb dX8_append_47 hl (k := 0) rfl (by decide) (by decide) rfl (fun ls hl => ?_)
  refine lv_goto (tgt := 3) hx hb dX8_append_50 (by decide) ?_
  refine lv_iload_n hx hb dX8_append_3 rfl (lv_at hl 0 rfl) ?_
  refine lv_if_lt (tgt := 53) hx hb dX8_append_4 (by decide) (fun h => absurd h (by decide)) (fun _ => ?_)
  refine lv_aload_n hx hb dX8_append_7 rfl (lv_at hl 1 rfl) ?_
  refine h_geti (C := RX8) (T := TX8) (N := 4) hx hb hts inX8 hown hK hT2 (hY.o rfl) rfl 1 rfl wF_X8_15 rfl dX8_append_8 (fun p11 => ?_)
  refine h_top (v := 1) (h_pu hu2) ?_
  refine lv_if_lt (tgt := 47) hx hb dX8_append_11 (by decide) (fun h => absurd h (by decide)) (fun _ => ?_)
  refine lv_aload_n hx hb dX8_append_14 rfl (lv_at hl 1 rfl) ?_
  refine h_geti (C := RX8) (T := TX8) (N := 4) hx hb hts inX8 hown hK hT2 (hY.o rfl) rfl 1 rfl wF_X8_15 rfl dX8_append_15 (fun p13 => ?_)
  refine h_top (v := 1) (h_pu hu2) ?_
  refine lv_sipush (v := 500) hx hb dX8_append_18 (by decide) ?_
  refine lv_icmp_ge (tgt := 47) hx hb dX8_append_21 (by decide) (fun h => absurd h (by decide)) (fun _ => ?_)
  refine lv_aload_n hx hb dX8_append_24 rfl (lv_at hl 1 rfl) ?_
  refine h_getr (C := RX8) (T := TX8) (N := 4) hx hb hts inX8 hown hK hT2 (hY.o rfl) rfl 0 rfl wF_X8_9 rfl dX8_append_25 ?_
  refine lv_aload_n hx hb dX8_append_28 rfl (lv_at hl 1 rfl) ?_
  refine h_geti (C := RX8) (T := TX8) (N := 4) hx hb hts inX8 hown hK hT2 (hY.o rfl) rfl 1 rfl wF_X8_15 rfl dX8_append_29 (fun p15 => ?_)
  refine h_top (v := 1) (h_pu hu2) ?_
  refine lv_iload_n hx hb dX8_append_32 rfl (lv_at hl 2 rfl) ?_
  refine lv_iload_n hx hb dX8_append_33 rfl (lv_at hl 0 rfl) ?_
  refine lv_ishr hx hb dX8_append_34 ?_
  refine lv_topi (fun x16 ex16 => ?_)
  refine lv_i2b hx hb dX8_append_35 rfl ?_
  refine lv_topi (fun x17 ex17 => ?_)
  refine h_bast hx hb hK hT2 (fun _ h => h) hS2 (hY.at 1 rfl) (h_inc (by decide)) trivial dX8_append_36 (fun H3 locs hT3 hS3 hu3 => ?_)
  refine lv_aload_n hx hb dX8_append_37 rfl (lv_at hl 1 rfl) ?_
  refine lv_dup hx hb dX8_append_38 rfl ?_
  refine h_geti (C := RX8) (T := TX8) (N := 4) hx hb hts inX8 hown hK hT3 (hY.o rfl) rfl 1 rfl wF_X8_15 rfl dX8_append_39 (fun p18 => ?_)
  refine h_top (v := 1) ((h_gi_same (hu3.2.1 _ (by omega))).trans (h_pu hu2)) ?_
  refine lv_iconst (v := 1) hx hb dX8_append_42 (by decide) ?_
  refine lv_iadd hx hb dX8_append_43 ?_
  refine h_top (v := 2) (by decide) ?_
  refine h_puti (C := RX8) (T := TX8) (N := 4) hx hb hts inX8 tyX8 tyX8_ok nmX8 hown hK hT3 (fun _ h => h) hS3 (hY.o rfl) rfl 1 rfl wF_X8_15 rfl rfl trivial rfl rfl dX8_append_44 (fun H4 locs hT4 hS4 hu4 => ?_)
  refine lv_iinc (v := 8) (lv' := [(2, .int 8), (0, .ref (o)), (1, .int u1)]) hx hb dX8_append_47 hl (k := 0) rfl (by decide) (by decide) rfl (fun ls hl => ?_)
  refine lv_goto (tgt := 3) hx hb dX8_append_50 (by decide) ?_
  refine lv_iload_n hx hb dX8_append_3 rfl (lv_at hl 0 rfl) ?_
  refine lv_if_lt (tgt := 53) hx hb dX8_append_4 (by decide) (fun h => absurd h (by decide)) (fun _ => ?_)
  refine lv_aload_n hx hb dX8_append_7 rfl (lv_at hl 1 rfl) ?_
  refine h_geti (C := RX8) (T := TX8) (N := 4) hx hb hts inX8 hown hK hT4 (hY.o rfl) rfl 1 rfl wF_X8_15 rfl dX8_append_8 (fun p20 => ?_)
  refine h_top (v := 2) (h_pu hu4) ?_
  refine lv_if_lt (tgt := 47) hx hb dX8_append_11 (by decide) (fun h => absurd h (by decide)) (fun _ => ?_)
  refine lv_aload_n hx hb dX8_append_14 rfl (lv_at hl 1 rfl) ?_
  refine h_geti (C := RX8) (T := TX8) (N := 4) hx hb hts inX8 hown hK hT4 (hY.o rfl) rfl 1 rfl wF_X8_15 rfl dX8_append_15 (fun p22 => ?_)
  refine h_top (v := 2) (h_pu hu4) ?_
  refine lv_sipush (v := 500) hx hb dX8_append_18 (by decide) ?_
  refine lv_icmp_ge (tgt := 47) hx hb dX8_append_21 (by decide) (fun h => absurd h (by decide)) (fun _ => ?_)
  refine lv_aload_n hx hb dX8_append_24 rfl (lv_at hl 1 rfl) ?_
  refine h_getr (C := RX8) (T := TX8) (N := 4) hx hb hts inX8 hown hK hT4 (hY.o rfl) rfl 0 rfl wF_X8_9 rfl dX8_append_25 ?_
  refine lv_aload_n hx hb dX8_append_28 rfl (lv_at hl 1 rfl) ?_
  refine h_geti (C := RX8) (T := TX8) (N := 4) hx hb hts inX8 hown hK hT4 (hY.o rfl) rfl 1 rfl wF_X8_15 rfl dX8_append_29 (fun p24 => ?_)
  refine h_top (v := 2) (h_pu hu4) ?_
  refine lv_iload_n hx hb dX8_append_32 rfl (lv_at hl 2 rfl) ?_
  refine lv_iload_n hx hb dX8_append_33 rfl (lv_at hl 0 rfl) ?_
  refine lv_ishr hx hb dX8_append_34 ?_
  refine lv_topi (fun x25 ex25 => ?_)
  refine lv_i2b hx hb dX8_append_35 rfl ?_
  refine lv_topi (fun x26 ex26 => ?_)
  refine h_bast hx hb hK hT4 (fun _ h => h) hS4 (hY.at 1 rfl) (h_inc (by decide)) trivial dX8_append_36 (fun H5 locs hT5 hS5 hu5 => ?_)
  refine lv_aload_n hx hb dX8_append_37 rfl (lv_at hl 1 rfl) ?_
  refine lv_dup hx hb dX8_append_38 rfl ?_
  refine h_geti (C := RX8) (T := TX8) (N := 4) hx hb hts inX8 hown hK hT5 (hY.o rfl) rfl 1 rfl wF_X8_15 rfl dX8_append_39 (fun p27 => ?_)
  refine h_top (v := 2) ((h_gi_same (hu5.2.1 _ (by omega))).trans (h_pu hu4)) ?_
  refine lv_iconst (v := 1) hx hb dX8_append_42 (by decide) ?_
  refine lv_iadd hx hb dX8_append_43 ?_
  refine h_top (v := 3) (by decide) ?_
  refine h_puti (C := RX8) (T := TX8) (N := 4) hx hb hts inX8 tyX8 tyX8_ok nmX8 hown hK hT5 (fun _ h => h) hS5 (hY.o rfl) rfl 1 rfl wF_X8_15 rfl rfl trivial rfl rfl dX8_append_44 (fun H6 locs hT6 hS6 hu6 => ?_)
  refine lv_iinc (v := 0) (lv' := [(2, .int 0), (0, .ref (o)), (1, .int u1)]) hx hb dX8_append_47 hl (k := 0) rfl (by decide) (by decide) rfl (fun ls hl => ?_)
  refine lv_goto (tgt := 3) hx hb dX8_append_50 (by decide) ?_
  refine lv_iload_n hx hb dX8_append_3 rfl (lv_at hl 0 rfl) ?_
  refine lv_if_lt (tgt := 53) hx hb dX8_append_4 (by decide) (fun h => absurd h (by decide)) (fun _ => ?_)
  refine lv_aload_n hx hb dX8_append_7 rfl (lv_at hl 1 rfl) ?_
  refine h_geti (C := RX8) (T := TX8) (N := 4) hx hb hts inX8 hown hK hT6 (hY.o rfl) rfl 1 rfl wF_X8_15 rfl dX8_append_8 (fun p29 => ?_)
  refine h_top (v := 3) (h_pu hu6) ?_
  refine lv_if_lt (tgt := 47) hx hb dX8_append_11 (by decide) (fun h => absurd h (by decide)) (fun _ => ?_)
  refine lv_aload_n hx hb dX8_append_14 rfl (lv_at hl 1 rfl) ?_
  refine h_geti (C := RX8) (T := TX8) (N := 4) hx hb hts inX8 hown hK hT6 (hY.o rfl) rfl 1 rfl wF_X8_15 rfl dX8_append_15 (fun p31 => ?_)
  refine h_top (v := 3) (h_pu hu6) ?_
  refine lv_sipush (v := 500) hx hb dX8_append_18 (by decide) ?_
  refine lv_icmp_ge (tgt := 47) hx hb dX8_append_21 (by decide) (fun h => absurd h (by decide)) (fun _ => ?_)
  refine lv_aload_n hx hb dX8_append_24 rfl (lv_at hl 1 rfl) ?_
  refine h_getr (C := RX8) (T := TX8) (N := 4) hx hb hts inX8 hown hK hT6 (hY.o rfl) rfl 0 rfl wF_X8_9 rfl dX8_append_25 ?_
  refine lv_aload_n hx hb dX8_append_28 rfl (lv_at hl 1 rfl) ?_
  refine h_geti (C := RX8) (T := TX8) (N := 4) hx hb hts inX8 hown hK hT6 (hY.o rfl) rfl 1 rfl wF_X8_15 rfl dX8_append_29 (fun p33 => ?_)
  refine h_top (v := 3) (h_pu hu6) ?_
  refine lv_iload_n hx hb dX8_append_32 rfl (lv_at hl 2 rfl) ?_
  refine lv_iload_n hx hb dX8_append_33 rfl (lv_at hl 0 rfl) ?_
  refine lv_ishr hx hb dX8_append_34 ?_
  refine lv_topi (fun x34 ex34 => ?_)
  refine lv_i2b hx hb dX8_append_35 rfl ?_
  refine lv_topi (fun x35 ex35 => ?_)
  refine h_bast hx hb hK hT6 (fun _ h => h) hS6 (hY.at 1 rfl) (h_inc (by decide)) trivial dX8_append_36 (fun H7 locs hT7 hS7 hu7 => ?_)
  refine lv_aload_n hx hb dX8_append_37 rfl (lv_at hl 1 rfl) ?_
  refine lv_dup hx hb dX8_append_38 rfl ?_
  refine h_geti (C := RX8) (T := TX8) (N := 4) hx hb hts inX8 hown hK hT7 (hY.o rfl) rfl 1 rfl wF_X8_15 rfl dX8_append_39 (fun p36 => ?_)
  refine h_top (v := 3) ((h_gi_same (hu7.2.1 _ (by omega))).trans (h_pu hu6)) ?_
  refine lv_iconst (v := 1) hx hb dX8_append_42 (by decide) ?_
  refine lv_iadd hx hb dX8_append_43 ?_
  refine h_top (v := 4) (by decide) ?_
  refine h_puti (C := RX8) (T := TX8) (N := 4) hx hb hts inX8 tyX8 tyX8_ok nmX8 hown hK hT7 (fun _ h => h) hS7 (hY.o rfl) rfl 1 rfl wF_X8_15 rfl rfl trivial rfl rfl dX8_append_44 (fun H8 locs hT8 hS8 hu8 => ?_)
  refine lv_iinc (v := (-8)) (lv' := [(2, .int (-8)), (0, .ref (o)), (1, .int u1)]) hx hb dX8_append_47 hl (k := 0) rfl (by decide) (by decide) rfl (fun ls hl => ?_)
  refine lv_goto (tgt := 3) hx hb dX8_append_50 (by decide) ?_
  refine lv_iload_n hx hb dX8_append_3 rfl (lv_at hl 0 rfl) ?_
  refine lv_if_lt (tgt := 53) hx hb dX8_append_4 (by decide) (fun _ => ?_) (fun h => absurd (by decide) h)
  exact hret _ _ _ _ hT8 hS8 (h_pu hu8) dX8_append_53
set_option maxHeartbeats 4000000 in
set_option maxRecDepth 100000 in
theorem c_append_4 (l : Launch) (G : hG) (Y : hW) (o : Nat) (hY : h_On Y o (taE tF o)) (u1 : Int32) : hMv l yX8_append cX8_append 3 none 0 0 G Y [.ref (o), .int u1] (fun H => h_gi G H 8 o 1 = 4) (fun H H1 => h_gi G H1 8 o 1 = 8) := by
  refine h_ofv (by decide +kernel) (Nat.le_of_ble_eq_true rfl) ?_
  intro p e s m args below meth c H0 ls Q hx hb hts hown hml hK hT0 hpr hS0 hl hret
  have hl : lv_has ls 3 [(0, .ref (o)), (1, .int u1)] := hl
  refine lv_bipush (v := 24) hx hb dX8_append_0 (by decide) ?_
  refine lv_istore_n (lv' := [(2, .int 24), (0, .ref (o)), (1, .int u1)]) hx hb dX8_append_2 rfl hl (by decide) rfl (fun ls hl => ?_)
  refine lv_iload_n hx hb dX8_append_3 rfl (lv_at hl 0 rfl) ?_
  refine lv_if_lt (tgt := 53) hx hb dX8_append_4 (by decide) (fun h => absurd h (by decide)) (fun _ => ?_)
  refine lv_aload_n hx hb dX8_append_7 rfl (lv_at hl 1 rfl) ?_
  refine h_geti (C := RX8) (T := TX8) (N := 4) hx hb hts inX8 hown hK hT0 (hY.o rfl) rfl 1 rfl wF_X8_15 rfl dX8_append_8 (fun p2 => ?_)
  refine h_top (v := 4) hpr ?_
  refine lv_if_lt (tgt := 47) hx hb dX8_append_11 (by decide) (fun h => absurd h (by decide)) (fun _ => ?_)
  refine lv_aload_n hx hb dX8_append_14 rfl (lv_at hl 1 rfl) ?_
  refine h_geti (C := RX8) (T := TX8) (N := 4) hx hb hts inX8 hown hK hT0 (hY.o rfl) rfl 1 rfl wF_X8_15 rfl dX8_append_15 (fun p4 => ?_)
  refine h_top (v := 4) hpr ?_
  refine lv_sipush (v := 500) hx hb dX8_append_18 (by decide) ?_
  refine lv_icmp_ge (tgt := 47) hx hb dX8_append_21 (by decide) (fun h => absurd h (by decide)) (fun _ => ?_)
  refine lv_aload_n hx hb dX8_append_24 rfl (lv_at hl 1 rfl) ?_
  refine h_getr (C := RX8) (T := TX8) (N := 4) hx hb hts inX8 hown hK hT0 (hY.o rfl) rfl 0 rfl wF_X8_9 rfl dX8_append_25 ?_
  refine lv_aload_n hx hb dX8_append_28 rfl (lv_at hl 1 rfl) ?_
  refine h_geti (C := RX8) (T := TX8) (N := 4) hx hb hts inX8 hown hK hT0 (hY.o rfl) rfl 1 rfl wF_X8_15 rfl dX8_append_29 (fun p6 => ?_)
  refine h_top (v := 4) hpr ?_
  refine lv_iload_n hx hb dX8_append_32 rfl (lv_at hl 2 rfl) ?_
  refine lv_iload_n hx hb dX8_append_33 rfl (lv_at hl 0 rfl) ?_
  refine lv_ishr hx hb dX8_append_34 ?_
  refine lv_topi (fun x7 ex7 => ?_)
  refine lv_i2b hx hb dX8_append_35 rfl ?_
  refine lv_topi (fun x8 ex8 => ?_)
  refine h_bast hx hb hK hT0 (fun _ h => h) hS0 (hY.at 1 rfl) (h_inc (by decide)) trivial dX8_append_36 (fun H1 locs hT1 hS1 hu1 => ?_)
  refine lv_aload_n hx hb dX8_append_37 rfl (lv_at hl 1 rfl) ?_
  refine lv_dup hx hb dX8_append_38 rfl ?_
  refine h_geti (C := RX8) (T := TX8) (N := 4) hx hb hts inX8 hown hK hT1 (hY.o rfl) rfl 1 rfl wF_X8_15 rfl dX8_append_39 (fun p9 => ?_)
  refine h_top (v := 4) ((h_gi_same (hu1.2.1 _ (by omega))).trans hpr) ?_
  refine lv_iconst (v := 1) hx hb dX8_append_42 (by decide) ?_
  refine lv_iadd hx hb dX8_append_43 ?_
  refine h_top (v := 5) (by decide) ?_
  refine h_puti (C := RX8) (T := TX8) (N := 4) hx hb hts inX8 tyX8 tyX8_ok nmX8 hown hK hT1 (fun _ h => h) hS1 (hY.o rfl) rfl 1 rfl wF_X8_15 rfl rfl trivial rfl rfl dX8_append_44 (fun H2 locs hT2 hS2 hu2 => ?_)
  refine lv_iinc (v := 16) (lv' := [(2, .int 16), (0, .ref (o)), (1, .int u1)]) hx hb dX8_append_47 hl (k := 0) rfl (by decide) (by decide) rfl (fun ls hl => ?_)
  refine lv_goto (tgt := 3) hx hb dX8_append_50 (by decide) ?_
  refine lv_iload_n hx hb dX8_append_3 rfl (lv_at hl 0 rfl) ?_
  refine lv_if_lt (tgt := 53) hx hb dX8_append_4 (by decide) (fun h => absurd h (by decide)) (fun _ => ?_)
  refine lv_aload_n hx hb dX8_append_7 rfl (lv_at hl 1 rfl) ?_
  refine h_geti (C := RX8) (T := TX8) (N := 4) hx hb hts inX8 hown hK hT2 (hY.o rfl) rfl 1 rfl wF_X8_15 rfl dX8_append_8 (fun p11 => ?_)
  refine h_top (v := 5) (h_pu hu2) ?_
  refine lv_if_lt (tgt := 47) hx hb dX8_append_11 (by decide) (fun h => absurd h (by decide)) (fun _ => ?_)
  refine lv_aload_n hx hb dX8_append_14 rfl (lv_at hl 1 rfl) ?_
  refine h_geti (C := RX8) (T := TX8) (N := 4) hx hb hts inX8 hown hK hT2 (hY.o rfl) rfl 1 rfl wF_X8_15 rfl dX8_append_15 (fun p13 => ?_)
  refine h_top (v := 5) (h_pu hu2) ?_
  refine lv_sipush (v := 500) hx hb dX8_append_18 (by decide) ?_
  refine lv_icmp_ge (tgt := 47) hx hb dX8_append_21 (by decide) (fun h => absurd h (by decide)) (fun _ => ?_)
  refine lv_aload_n hx hb dX8_append_24 rfl (lv_at hl 1 rfl) ?_
  refine h_getr (C := RX8) (T := TX8) (N := 4) hx hb hts inX8 hown hK hT2 (hY.o rfl) rfl 0 rfl wF_X8_9 rfl dX8_append_25 ?_
  refine lv_aload_n hx hb dX8_append_28 rfl (lv_at hl 1 rfl) ?_
  refine h_geti (C := RX8) (T := TX8) (N := 4) hx hb hts inX8 hown hK hT2 (hY.o rfl) rfl 1 rfl wF_X8_15 rfl dX8_append_29 (fun p15 => ?_)
  refine h_top (v := 5) (h_pu hu2) ?_
  refine lv_iload_n hx hb dX8_append_32 rfl (lv_at hl 2 rfl) ?_
  refine lv_iload_n hx hb dX8_append_33 rfl (lv_at hl 0 rfl) ?_
  refine lv_ishr hx hb dX8_append_34 ?_
  refine lv_topi (fun x16 ex16 => ?_)
  refine lv_i2b hx hb dX8_append_35 rfl ?_
  refine lv_topi (fun x17 ex17 => ?_)
  refine h_bast hx hb hK hT2 (fun _ h => h) hS2 (hY.at 1 rfl) (h_inc (by decide)) trivial dX8_append_36 (fun H3 locs hT3 hS3 hu3 => ?_)
  refine lv_aload_n hx hb dX8_append_37 rfl (lv_at hl 1 rfl) ?_
  refine lv_dup hx hb dX8_append_38 rfl ?_
  refine h_geti (C := RX8) (T := TX8) (N := 4) hx hb hts inX8 hown hK hT3 (hY.o rfl) rfl 1 rfl wF_X8_15 rfl dX8_append_39 (fun p18 => ?_)
  refine h_top (v := 5) ((h_gi_same (hu3.2.1 _ (by omega))).trans (h_pu hu2)) ?_
  refine lv_iconst (v := 1) hx hb dX8_append_42 (by decide) ?_
  refine lv_iadd hx hb dX8_append_43 ?_
  refine h_top (v := 6) (by decide) ?_
  refine h_puti (C := RX8) (T := TX8) (N := 4) hx hb hts inX8 tyX8 tyX8_ok nmX8 hown hK hT3 (fun _ h => h) hS3 (hY.o rfl) rfl 1 rfl wF_X8_15 rfl rfl trivial rfl rfl dX8_append_44 (fun H4 locs hT4 hS4 hu4 => ?_)
  refine lv_iinc (v := 8) (lv' := [(2, .int 8), (0, .ref (o)), (1, .int u1)]) hx hb dX8_append_47 hl (k := 0) rfl (by decide) (by decide) rfl (fun ls hl => ?_)
  refine lv_goto (tgt := 3) hx hb dX8_append_50 (by decide) ?_
  refine lv_iload_n hx hb dX8_append_3 rfl (lv_at hl 0 rfl) ?_
  refine lv_if_lt (tgt := 53) hx hb dX8_append_4 (by decide) (fun h => absurd h (by decide)) (fun _ => ?_)
  refine lv_aload_n hx hb dX8_append_7 rfl (lv_at hl 1 rfl) ?_
  refine h_geti (C := RX8) (T := TX8) (N := 4) hx hb hts inX8 hown hK hT4 (hY.o rfl) rfl 1 rfl wF_X8_15 rfl dX8_append_8 (fun p20 => ?_)
  refine h_top (v := 6) (h_pu hu4) ?_
  refine lv_if_lt (tgt := 47) hx hb dX8_append_11 (by decide) (fun h => absurd h (by decide)) (fun _ => ?_)
  refine lv_aload_n hx hb dX8_append_14 rfl (lv_at hl 1 rfl) ?_
  refine h_geti (C := RX8) (T := TX8) (N := 4) hx hb hts inX8 hown hK hT4 (hY.o rfl) rfl 1 rfl wF_X8_15 rfl dX8_append_15 (fun p22 => ?_)
  refine h_top (v := 6) (h_pu hu4) ?_
  refine lv_sipush (v := 500) hx hb dX8_append_18 (by decide) ?_
  refine lv_icmp_ge (tgt := 47) hx hb dX8_append_21 (by decide) (fun h => absurd h (by decide)) (fun _ => ?_)
  refine lv_aload_n hx hb dX8_append_24 rfl (lv_at hl 1 rfl) ?_
  refine h_getr (C := RX8) (T := TX8) (N := 4) hx hb hts inX8 hown hK hT4 (hY.o rfl) rfl 0 rfl wF_X8_9 rfl dX8_append_25 ?_
  refine lv_aload_n hx hb dX8_append_28 rfl (lv_at hl 1 rfl) ?_
  refine h_geti (C := RX8) (T := TX8) (N := 4) hx hb hts inX8 hown hK hT4 (hY.o rfl) rfl 1 rfl wF_X8_15 rfl dX8_append_29 (fun p24 => ?_)
  refine h_top (v := 6) (h_pu hu4) ?_
  refine lv_iload_n hx hb dX8_append_32 rfl (lv_at hl 2 rfl) ?_
  refine lv_iload_n hx hb dX8_append_33 rfl (lv_at hl 0 rfl) ?_
  refine lv_ishr hx hb dX8_append_34 ?_
  refine lv_topi (fun x25 ex25 => ?_)
  refine lv_i2b hx hb dX8_append_35 rfl ?_
  refine lv_topi (fun x26 ex26 => ?_)
  refine h_bast hx hb hK hT4 (fun _ h => h) hS4 (hY.at 1 rfl) (h_inc (by decide)) trivial dX8_append_36 (fun H5 locs hT5 hS5 hu5 => ?_)
  refine lv_aload_n hx hb dX8_append_37 rfl (lv_at hl 1 rfl) ?_
  refine lv_dup hx hb dX8_append_38 rfl ?_
  refine h_geti (C := RX8) (T := TX8) (N := 4) hx hb hts inX8 hown hK hT5 (hY.o rfl) rfl 1 rfl wF_X8_15 rfl dX8_append_39 (fun p27 => ?_)
  refine h_top (v := 6) ((h_gi_same (hu5.2.1 _ (by omega))).trans (h_pu hu4)) ?_
  refine lv_iconst (v := 1) hx hb dX8_append_42 (by decide) ?_
  refine lv_iadd hx hb dX8_append_43 ?_
  refine h_top (v := 7) (by decide) ?_
  refine h_puti (C := RX8) (T := TX8) (N := 4) hx hb hts inX8 tyX8 tyX8_ok nmX8 hown hK hT5 (fun _ h => h) hS5 (hY.o rfl) rfl 1 rfl wF_X8_15 rfl rfl trivial rfl rfl dX8_append_44 (fun H6 locs hT6 hS6 hu6 => ?_)
  refine lv_iinc (v := 0) (lv' := [(2, .int 0), (0, .ref (o)), (1, .int u1)]) hx hb dX8_append_47 hl (k := 0) rfl (by decide) (by decide) rfl (fun ls hl => ?_)
  refine lv_goto (tgt := 3) hx hb dX8_append_50 (by decide) ?_
  refine lv_iload_n hx hb dX8_append_3 rfl (lv_at hl 0 rfl) ?_
  refine lv_if_lt (tgt := 53) hx hb dX8_append_4 (by decide) (fun h => absurd h (by decide)) (fun _ => ?_)
  refine lv_aload_n hx hb dX8_append_7 rfl (lv_at hl 1 rfl) ?_
  refine h_geti (C := RX8) (T := TX8) (N := 4) hx hb hts inX8 hown hK hT6 (hY.o rfl) rfl 1 rfl wF_X8_15 rfl dX8_append_8 (fun p29 => ?_)
  refine h_top (v := 7) (h_pu hu6) ?_
  refine lv_if_lt (tgt := 47) hx hb dX8_append_11 (by decide) (fun h => absurd h (by decide)) (fun _ => ?_)
  refine lv_aload_n hx hb dX8_append_14 rfl (lv_at hl 1 rfl) ?_
  refine h_geti (C := RX8) (T := TX8) (N := 4) hx hb hts inX8 hown hK hT6 (hY.o rfl) rfl 1 rfl wF_X8_15 rfl dX8_append_15 (fun p31 => ?_)
  refine h_top (v := 7) (h_pu hu6) ?_
  refine lv_sipush (v := 500) hx hb dX8_append_18 (by decide) ?_
  refine lv_icmp_ge (tgt := 47) hx hb dX8_append_21 (by decide) (fun h => absurd h (by decide)) (fun _ => ?_)
  refine lv_aload_n hx hb dX8_append_24 rfl (lv_at hl 1 rfl) ?_
  refine h_getr (C := RX8) (T := TX8) (N := 4) hx hb hts inX8 hown hK hT6 (hY.o rfl) rfl 0 rfl wF_X8_9 rfl dX8_append_25 ?_
  refine lv_aload_n hx hb dX8_append_28 rfl (lv_at hl 1 rfl) ?_
  refine h_geti (C := RX8) (T := TX8) (N := 4) hx hb hts inX8 hown hK hT6 (hY.o rfl) rfl 1 rfl wF_X8_15 rfl dX8_append_29 (fun p33 => ?_)
  refine h_top (v := 7) (h_pu hu6) ?_
  refine lv_iload_n hx hb dX8_append_32 rfl (lv_at hl 2 rfl) ?_
  refine lv_iload_n hx hb dX8_append_33 rfl (lv_at hl 0 rfl) ?_
  refine lv_ishr hx hb dX8_append_34 ?_
  refine lv_topi (fun x34 ex34 => ?_)
  refine lv_i2b hx hb dX8_append_35 rfl ?_
  refine lv_topi (fun x35 ex35 => ?_)
  refine h_bast hx hb hK hT6 (fun _ h => h) hS6 (hY.at 1 rfl) (h_inc (by decide)) trivial dX8_append_36 (fun H7 locs hT7 hS7 hu7 => ?_)
  refine lv_aload_n hx hb dX8_append_37 rfl (lv_at hl 1 rfl) ?_
  refine lv_dup hx hb dX8_append_38 rfl ?_
  refine h_geti (C := RX8) (T := TX8) (N := 4) hx hb hts inX8 hown hK hT7 (hY.o rfl) rfl 1 rfl wF_X8_15 rfl dX8_append_39 (fun p36 => ?_)
  refine h_top (v := 7) ((h_gi_same (hu7.2.1 _ (by omega))).trans (h_pu hu6)) ?_
  refine lv_iconst (v := 1) hx hb dX8_append_42 (by decide) ?_
  refine lv_iadd hx hb dX8_append_43 ?_
  refine h_top (v := 8) (by decide) ?_
  refine h_puti (C := RX8) (T := TX8) (N := 4) hx hb hts inX8 tyX8 tyX8_ok nmX8 hown hK hT7 (fun _ h => h) hS7 (hY.o rfl) rfl 1 rfl wF_X8_15 rfl rfl trivial rfl rfl dX8_append_44 (fun H8 locs hT8 hS8 hu8 => ?_)
  refine lv_iinc (v := (-8)) (lv' := [(2, .int (-8)), (0, .ref (o)), (1, .int u1)]) hx hb dX8_append_47 hl (k := 0) rfl (by decide) (by decide) rfl (fun ls hl => ?_)
  refine lv_goto (tgt := 3) hx hb dX8_append_50 (by decide) ?_
  refine lv_iload_n hx hb dX8_append_3 rfl (lv_at hl 0 rfl) ?_
  refine lv_if_lt (tgt := 53) hx hb dX8_append_4 (by decide) (fun _ => ?_) (fun h => absurd (by decide) h)
  exact hret _ _ _ _ hT8 hS8 (h_pu hu8) dX8_append_53
set_option maxHeartbeats 4000000 in
set_option maxRecDepth 100000 in
theorem c_append_8 (l : Launch) (G : hG) (Y : hW) (o : Nat) (hY : h_On Y o (taE tF o)) (u1 : Int32) : hMv l yX8_append cX8_append 3 none 0 0 G Y [.ref (o), .int u1] (fun H => h_gi G H 8 o 1 = 8) (fun H H1 => h_gi G H1 8 o 1 = 12) := by
  refine h_ofv (by decide +kernel) (Nat.le_of_ble_eq_true rfl) ?_
  intro p e s m args below meth c H0 ls Q hx hb hts hown hml hK hT0 hpr hS0 hl hret
  have hl : lv_has ls 3 [(0, .ref (o)), (1, .int u1)] := hl
  refine lv_bipush (v := 24) hx hb dX8_append_0 (by decide) ?_
  refine lv_istore_n (lv' := [(2, .int 24), (0, .ref (o)), (1, .int u1)]) hx hb dX8_append_2 rfl hl (by decide) rfl (fun ls hl => ?_)
  refine lv_iload_n hx hb dX8_append_3 rfl (lv_at hl 0 rfl) ?_
  refine lv_if_lt (tgt := 53) hx hb dX8_append_4 (by decide) (fun h => absurd h (by decide)) (fun _ => ?_)
  refine lv_aload_n hx hb dX8_append_7 rfl (lv_at hl 1 rfl) ?_
  refine h_geti (C := RX8) (T := TX8) (N := 4) hx hb hts inX8 hown hK hT0 (hY.o rfl) rfl 1 rfl wF_X8_15 rfl dX8_append_8 (fun p2 => ?_)
  refine h_top (v := 8) hpr ?_
  refine lv_if_lt (tgt := 47) hx hb dX8_append_11 (by decide) (fun h => absurd h (by decide)) (fun _ => ?_)
  refine lv_aload_n hx hb dX8_append_14 rfl (lv_at hl 1 rfl) ?_
  refine h_geti (C := RX8) (T := TX8) (N := 4) hx hb hts inX8 hown hK hT0 (hY.o rfl) rfl 1 rfl wF_X8_15 rfl dX8_append_15 (fun p4 => ?_)
  refine h_top (v := 8) hpr ?_
  refine lv_sipush (v := 500) hx hb dX8_append_18 (by decide) ?_
  refine lv_icmp_ge (tgt := 47) hx hb dX8_append_21 (by decide) (fun h => absurd h (by decide)) (fun _ => ?_)
  refine lv_aload_n hx hb dX8_append_24 rfl (lv_at hl 1 rfl) ?_
  refine h_getr (C := RX8) (T := TX8) (N := 4) hx hb hts inX8 hown hK hT0 (hY.o rfl) rfl 0 rfl wF_X8_9 rfl dX8_append_25 ?_
  refine lv_aload_n hx hb dX8_append_28 rfl (lv_at hl 1 rfl) ?_
  refine h_geti (C := RX8) (T := TX8) (N := 4) hx hb hts inX8 hown hK hT0 (hY.o rfl) rfl 1 rfl wF_X8_15 rfl dX8_append_29 (fun p6 => ?_)
  refine h_top (v := 8) hpr ?_
  refine lv_iload_n hx hb dX8_append_32 rfl (lv_at hl 2 rfl) ?_
  refine lv_iload_n hx hb dX8_append_33 rfl (lv_at hl 0 rfl) ?_
  refine lv_ishr hx hb dX8_append_34 ?_
  refine lv_topi (fun x7 ex7 => ?_)
  refine lv_i2b hx hb dX8_append_35 rfl ?_
  refine lv_topi (fun x8 ex8 => ?_)
  refine h_bast hx hb hK hT0 (fun _ h => h) hS0 (hY.at 1 rfl) (h_inc (by decide)) trivial dX8_append_36 (fun H1 locs hT1 hS1 hu1 => ?_)
  refine lv_aload_n hx hb dX8_append_37 rfl (lv_at hl 1 rfl) ?_
  refine lv_dup hx hb dX8_append_38 rfl ?_
  refine h_geti (C := RX8) (T := TX8) (N := 4) hx hb hts inX8 hown hK hT1 (hY.o rfl) rfl 1 rfl wF_X8_15 rfl dX8_append_39 (fun p9 => ?_)
  refine h_top (v := 8) ((h_gi_same (hu1.2.1 _ (by omega))).trans hpr) ?_
  refine lv_iconst (v := 1) hx hb dX8_append_42 (by decide) ?_
  refine lv_iadd hx hb dX8_append_43 ?_
  refine h_top (v := 9) (by decide) ?_
  refine h_puti (C := RX8) (T := TX8) (N := 4) hx hb hts inX8 tyX8 tyX8_ok nmX8 hown hK hT1 (fun _ h => h) hS1 (hY.o rfl) rfl 1 rfl wF_X8_15 rfl rfl trivial rfl rfl dX8_append_44 (fun H2 locs hT2 hS2 hu2 => ?_)
  refine lv_iinc (v := 16) (lv' := [(2, .int 16), (0, .ref (o)), (1, .int u1)]) hx hb dX8_append_47 hl (k := 0) rfl (by decide) (by decide) rfl (fun ls hl => ?_)
  refine lv_goto (tgt := 3) hx hb dX8_append_50 (by decide) ?_
  refine lv_iload_n hx hb dX8_append_3 rfl (lv_at hl 0 rfl) ?_
  refine lv_if_lt (tgt := 53) hx hb dX8_append_4 (by decide) (fun h => absurd h (by decide)) (fun _ => ?_)
  refine lv_aload_n hx hb dX8_append_7 rfl (lv_at hl 1 rfl) ?_
  refine h_geti (C := RX8) (T := TX8) (N := 4) hx hb hts inX8 hown hK hT2 (hY.o rfl) rfl 1 rfl wF_X8_15 rfl dX8_append_8 (fun p11 => ?_)
  refine h_top (v := 9) (h_pu hu2) ?_
  refine lv_if_lt (tgt := 47) hx hb dX8_append_11 (by decide) (fun h => absurd h (by decide)) (fun _ => ?_)
  refine lv_aload_n hx hb dX8_append_14 rfl (lv_at hl 1 rfl) ?_
  refine h_geti (C := RX8) (T := TX8) (N := 4) hx hb hts inX8 hown hK hT2 (hY.o rfl) rfl 1 rfl wF_X8_15 rfl dX8_append_15 (fun p13 => ?_)
  refine h_top (v := 9) (h_pu hu2) ?_
  refine lv_sipush (v := 500) hx hb dX8_append_18 (by decide) ?_
  refine lv_icmp_ge (tgt := 47) hx hb dX8_append_21 (by decide) (fun h => absurd h (by decide)) (fun _ => ?_)
  refine lv_aload_n hx hb dX8_append_24 rfl (lv_at hl 1 rfl) ?_
  refine h_getr (C := RX8) (T := TX8) (N := 4) hx hb hts inX8 hown hK hT2 (hY.o rfl) rfl 0 rfl wF_X8_9 rfl dX8_append_25 ?_
  refine lv_aload_n hx hb dX8_append_28 rfl (lv_at hl 1 rfl) ?_
  refine h_geti (C := RX8) (T := TX8) (N := 4) hx hb hts inX8 hown hK hT2 (hY.o rfl) rfl 1 rfl wF_X8_15 rfl dX8_append_29 (fun p15 => ?_)
  refine h_top (v := 9) (h_pu hu2) ?_
  refine lv_iload_n hx hb dX8_append_32 rfl (lv_at hl 2 rfl) ?_
  refine lv_iload_n hx hb dX8_append_33 rfl (lv_at hl 0 rfl) ?_
  refine lv_ishr hx hb dX8_append_34 ?_
  refine lv_topi (fun x16 ex16 => ?_)
  refine lv_i2b hx hb dX8_append_35 rfl ?_
  refine lv_topi (fun x17 ex17 => ?_)
  refine h_bast hx hb hK hT2 (fun _ h => h) hS2 (hY.at 1 rfl) (h_inc (by decide)) trivial dX8_append_36 (fun H3 locs hT3 hS3 hu3 => ?_)
  refine lv_aload_n hx hb dX8_append_37 rfl (lv_at hl 1 rfl) ?_
  refine lv_dup hx hb dX8_append_38 rfl ?_
  refine h_geti (C := RX8) (T := TX8) (N := 4) hx hb hts inX8 hown hK hT3 (hY.o rfl) rfl 1 rfl wF_X8_15 rfl dX8_append_39 (fun p18 => ?_)
  refine h_top (v := 9) ((h_gi_same (hu3.2.1 _ (by omega))).trans (h_pu hu2)) ?_
  refine lv_iconst (v := 1) hx hb dX8_append_42 (by decide) ?_
  refine lv_iadd hx hb dX8_append_43 ?_
  refine h_top (v := 10) (by decide) ?_
  refine h_puti (C := RX8) (T := TX8) (N := 4) hx hb hts inX8 tyX8 tyX8_ok nmX8 hown hK hT3 (fun _ h => h) hS3 (hY.o rfl) rfl 1 rfl wF_X8_15 rfl rfl trivial rfl rfl dX8_append_44 (fun H4 locs hT4 hS4 hu4 => ?_)
  refine lv_iinc (v := 8) (lv' := [(2, .int 8), (0, .ref (o)), (1, .int u1)]) hx hb dX8_append_47 hl (k := 0) rfl (by decide) (by decide) rfl (fun ls hl => ?_)
  refine lv_goto (tgt := 3) hx hb dX8_append_50 (by decide) ?_
  refine lv_iload_n hx hb dX8_append_3 rfl (lv_at hl 0 rfl) ?_
  refine lv_if_lt (tgt := 53) hx hb dX8_append_4 (by decide) (fun h => absurd h (by decide)) (fun _ => ?_)
  refine lv_aload_n hx hb dX8_append_7 rfl (lv_at hl 1 rfl) ?_
  refine h_geti (C := RX8) (T := TX8) (N := 4) hx hb hts inX8 hown hK hT4 (hY.o rfl) rfl 1 rfl wF_X8_15 rfl dX8_append_8 (fun p20 => ?_)
  refine h_top (v := 10) (h_pu hu4) ?_
  refine lv_if_lt (tgt := 47) hx hb dX8_append_11 (by decide) (fun h => absurd h (by decide)) (fun _ => ?_)
  refine lv_aload_n hx hb dX8_append_14 rfl (lv_at hl 1 rfl) ?_
  refine h_geti (C := RX8) (T := TX8) (N := 4) hx hb hts inX8 hown hK hT4 (hY.o rfl) rfl 1 rfl wF_X8_15 rfl dX8_append_15 (fun p22 => ?_)
  refine h_top (v := 10) (h_pu hu4) ?_
  refine lv_sipush (v := 500) hx hb dX8_append_18 (by decide) ?_
  refine lv_icmp_ge (tgt := 47) hx hb dX8_append_21 (by decide) (fun h => absurd h (by decide)) (fun _ => ?_)
  refine lv_aload_n hx hb dX8_append_24 rfl (lv_at hl 1 rfl) ?_
  refine h_getr (C := RX8) (T := TX8) (N := 4) hx hb hts inX8 hown hK hT4 (hY.o rfl) rfl 0 rfl wF_X8_9 rfl dX8_append_25 ?_
  refine lv_aload_n hx hb dX8_append_28 rfl (lv_at hl 1 rfl) ?_
  refine h_geti (C := RX8) (T := TX8) (N := 4) hx hb hts inX8 hown hK hT4 (hY.o rfl) rfl 1 rfl wF_X8_15 rfl dX8_append_29 (fun p24 => ?_)
  refine h_top (v := 10) (h_pu hu4) ?_
  refine lv_iload_n hx hb dX8_append_32 rfl (lv_at hl 2 rfl) ?_
  refine lv_iload_n hx hb dX8_append_33 rfl (lv_at hl 0 rfl) ?_
  refine lv_ishr hx hb dX8_append_34 ?_
  refine lv_topi (fun x25 ex25 => ?_)
  refine lv_i2b hx hb dX8_append_35 rfl ?_
  refine lv_topi (fun x26 ex26 => ?_)
  refine h_bast hx hb hK hT4 (fun _ h => h) hS4 (hY.at 1 rfl) (h_inc (by decide)) trivial dX8_append_36 (fun H5 locs hT5 hS5 hu5 => ?_)
  refine lv_aload_n hx hb dX8_append_37 rfl (lv_at hl 1 rfl) ?_
  refine lv_dup hx hb dX8_append_38 rfl ?_
  refine h_geti (C := RX8) (T := TX8) (N := 4) hx hb hts inX8 hown hK hT5 (hY.o rfl) rfl 1 rfl wF_X8_15 rfl dX8_append_39 (fun p27 => ?_)
  refine h_top (v := 10) ((h_gi_same (hu5.2.1 _ (by omega))).trans (h_pu hu4)) ?_
  refine lv_iconst (v := 1) hx hb dX8_append_42 (by decide) ?_
  refine lv_iadd hx hb dX8_append_43 ?_
  refine h_top (v := 11) (by decide) ?_
  refine h_puti (C := RX8) (T := TX8) (N := 4) hx hb hts inX8 tyX8 tyX8_ok nmX8 hown hK hT5 (fun _ h => h) hS5 (hY.o rfl) rfl 1 rfl wF_X8_15 rfl rfl trivial rfl rfl dX8_append_44 (fun H6 locs hT6 hS6 hu6 => ?_)
  refine lv_iinc (v := 0) (lv' := [(2, .int 0), (0, .ref (o)), (1, .int u1)]) hx hb dX8_append_47 hl (k := 0) rfl (by decide) (by decide) rfl (fun ls hl => ?_)
  refine lv_goto (tgt := 3) hx hb dX8_append_50 (by decide) ?_
  refine lv_iload_n hx hb dX8_append_3 rfl (lv_at hl 0 rfl) ?_
  refine lv_if_lt (tgt := 53) hx hb dX8_append_4 (by decide) (fun h => absurd h (by decide)) (fun _ => ?_)
  refine lv_aload_n hx hb dX8_append_7 rfl (lv_at hl 1 rfl) ?_
  refine h_geti (C := RX8) (T := TX8) (N := 4) hx hb hts inX8 hown hK hT6 (hY.o rfl) rfl 1 rfl wF_X8_15 rfl dX8_append_8 (fun p29 => ?_)
  refine h_top (v := 11) (h_pu hu6) ?_
  refine lv_if_lt (tgt := 47) hx hb dX8_append_11 (by decide) (fun h => absurd h (by decide)) (fun _ => ?_)
  refine lv_aload_n hx hb dX8_append_14 rfl (lv_at hl 1 rfl) ?_
  refine h_geti (C := RX8) (T := TX8) (N := 4) hx hb hts inX8 hown hK hT6 (hY.o rfl) rfl 1 rfl wF_X8_15 rfl dX8_append_15 (fun p31 => ?_)
  refine h_top (v := 11) (h_pu hu6) ?_
  refine lv_sipush (v := 500) hx hb dX8_append_18 (by decide) ?_
  refine lv_icmp_ge (tgt := 47) hx hb dX8_append_21 (by decide) (fun h => absurd h (by decide)) (fun _ => ?_)
  refine lv_aload_n hx hb dX8_append_24 rfl (lv_at hl 1 rfl) ?_
  refine h_getr (C := RX8) (T := TX8) (N := 4) hx hb hts inX8 hown hK hT6 (hY.o rfl) rfl 0 rfl wF_X8_9 rfl dX8_append_25 ?_
  refine lv_aload_n hx hb dX8_append_28 rfl (lv_at hl 1 rfl) ?_
  refine h_geti (C := RX8) (T := TX8) (N := 4) hx hb hts inX8 hown hK hT6 (hY.o rfl) rfl 1 rfl wF_X8_15 rfl dX8_append_29 (fun p33 => ?_)
  refine h_top (v := 11) (h_pu hu6) ?_
  refine lv_iload_n hx hb dX8_append_32 rfl (lv_at hl 2 rfl) ?_
  refine lv_iload_n hx hb dX8_append_33 rfl (lv_at hl 0 rfl) ?_
  refine lv_ishr hx hb dX8_append_34 ?_
  refine lv_topi (fun x34 ex34 => ?_)
  refine lv_i2b hx hb dX8_append_35 rfl ?_
  refine lv_topi (fun x35 ex35 => ?_)
  refine h_bast hx hb hK hT6 (fun _ h => h) hS6 (hY.at 1 rfl) (h_inc (by decide)) trivial dX8_append_36 (fun H7 locs hT7 hS7 hu7 => ?_)
  refine lv_aload_n hx hb dX8_append_37 rfl (lv_at hl 1 rfl) ?_
  refine lv_dup hx hb dX8_append_38 rfl ?_
  refine h_geti (C := RX8) (T := TX8) (N := 4) hx hb hts inX8 hown hK hT7 (hY.o rfl) rfl 1 rfl wF_X8_15 rfl dX8_append_39 (fun p36 => ?_)
  refine h_top (v := 11) ((h_gi_same (hu7.2.1 _ (by omega))).trans (h_pu hu6)) ?_
  refine lv_iconst (v := 1) hx hb dX8_append_42 (by decide) ?_
  refine lv_iadd hx hb dX8_append_43 ?_
  refine h_top (v := 12) (by decide) ?_
  refine h_puti (C := RX8) (T := TX8) (N := 4) hx hb hts inX8 tyX8 tyX8_ok nmX8 hown hK hT7 (fun _ h => h) hS7 (hY.o rfl) rfl 1 rfl wF_X8_15 rfl rfl trivial rfl rfl dX8_append_44 (fun H8 locs hT8 hS8 hu8 => ?_)
  refine lv_iinc (v := (-8)) (lv' := [(2, .int (-8)), (0, .ref (o)), (1, .int u1)]) hx hb dX8_append_47 hl (k := 0) rfl (by decide) (by decide) rfl (fun ls hl => ?_)
  refine lv_goto (tgt := 3) hx hb dX8_append_50 (by decide) ?_
  refine lv_iload_n hx hb dX8_append_3 rfl (lv_at hl 0 rfl) ?_
  refine lv_if_lt (tgt := 53) hx hb dX8_append_4 (by decide) (fun _ => ?_) (fun h => absurd (by decide) h)
  exact hret _ _ _ _ hT8 hS8 (h_pu hu8) dX8_append_53
set_option maxHeartbeats 4000000 in
set_option maxRecDepth 100000 in
theorem c_append_12 (l : Launch) (G : hG) (Y : hW) (o : Nat) (hY : h_On Y o (taE tF o)) (u1 : Int32) : hMv l yX8_append cX8_append 3 none 0 0 G Y [.ref (o), .int u1] (fun H => h_gi G H 8 o 1 = 12) (fun H H1 => h_gi G H1 8 o 1 = 16) := by
  refine h_ofv (by decide +kernel) (Nat.le_of_ble_eq_true rfl) ?_
  intro p e s m args below meth c H0 ls Q hx hb hts hown hml hK hT0 hpr hS0 hl hret
  have hl : lv_has ls 3 [(0, .ref (o)), (1, .int u1)] := hl
  refine lv_bipush (v := 24) hx hb dX8_append_0 (by decide) ?_
  refine lv_istore_n (lv' := [(2, .int 24), (0, .ref (o)), (1, .int u1)]) hx hb dX8_append_2 rfl hl (by decide) rfl (fun ls hl => ?_)
  refine lv_iload_n hx hb dX8_append_3 rfl (lv_at hl 0 rfl) ?_
  refine lv_if_lt (tgt := 53) hx hb dX8_append_4 (by decide) (fun h => absurd h (by decide)) (fun _ => ?_)
  refine lv_aload_n hx hb dX8_append_7 rfl (lv_at hl 1 rfl) ?_
  refine h_geti (C := RX8) (T := TX8) (N := 4) hx hb hts inX8 hown hK hT0 (hY.o rfl) rfl 1 rfl wF_X8_15 rfl dX8_append_8 (fun p2 => ?_)
  refine h_top (v := 12) hpr ?_
  refine lv_if_lt (tgt := 47) hx hb dX8_append_11 (by decide) (fun h => absurd h (by decide)) (fun _ => ?_)
  refine lv_aload_n hx hb dX8_append_14 rfl (lv_at hl 1 rfl) ?_
  refine h_geti (C := RX8) (T := TX8) (N := 4) hx hb hts inX8 hown hK hT0 (hY.o rfl) rfl 1 rfl wF_X8_15 rfl dX8_append_15 (fun p4 => ?_)
  refine h_top (v := 12) hpr ?_
  refine lv_sipush (v := 500) hx hb dX8_append_18 (by decide) ?_
  refine lv_icmp_ge (tgt := 47) hx hb dX8_append_21 (by decide) (fun h => absurd h (by decide)) (fun _ => ?_)
  refine lv_aload_n hx hb dX8_append_24 rfl (lv_at hl 1 rfl) ?_
  refine h_getr (C := RX8) (T := TX8) (N := 4) hx hb hts inX8 hown hK hT0 (hY.o rfl) rfl 0 rfl wF_X8_9 rfl dX8_append_25 ?_
  refine lv_aload_n hx hb dX8_append_28 rfl (lv_at hl 1 rfl) ?_
  refine h_geti (C := RX8) (T := TX8) (N := 4) hx hb hts inX8 hown hK hT0 (hY.o rfl) rfl 1 rfl wF_X8_15 rfl dX8_append_29 (fun p6 => ?_)
  refine h_top (v := 12) hpr ?_
  refine lv_iload_n hx hb dX8_append_32 rfl (lv_at hl 2 rfl) ?_
  refine lv_iload_n hx hb dX8_append_33 rfl (lv_at hl 0 rfl) ?_
  refine lv_ishr hx hb dX8_append_34 ?_
  refine lv_topi (fun x7 ex7 => ?_)
  refine lv_i2b hx hb dX8_append_35 rfl ?_
  refine lv_topi (fun x8 ex8 => ?_)
  refine h_bast hx hb hK hT0 (fun _ h => h) hS0 (hY.at 1 rfl) (h_inc (by decide)) trivial dX8_append_36 (fun H1 locs hT1 hS1 hu1 => ?_)
  refine lv_aload_n hx hb dX8_append_37 rfl (lv_at hl 1 rfl) ?_
  refine lv_dup hx hb dX8_append_38 rfl ?_
  refine h_geti (C := RX8) (T := TX8) (N := 4) hx hb hts inX8 hown hK hT1 (hY.o rfl) rfl 1 rfl wF_X8_15 rfl dX8_append_39 (fun p9 => ?_)
  refine h_top (v := 12) ((h_gi_same (hu1.2.1 _ (by omega))).trans hpr) ?_
  refine lv_iconst (v := 1) hx hb dX8_append_42 (by decide) ?_
  refine lv_iadd hx hb dX8_append_43 ?_
  refine h_top (v := 13) (by decide) ?_
  refine h_puti (C := RX8) (T := TX8) (N := 4) hx hb hts inX8 tyX8 tyX8_ok nmX8 hown hK hT1 (fun _ h => h) hS1 (hY.o rfl) rfl 1 rfl wF_X8_15 rfl rfl trivial rfl rfl dX8_append_44 (fun H2 locs hT2 hS2 hu2 => ?_)
  refine lv_iinc (v := 16) (lv' := [(2, .int 16), (0, .ref (o)), (1, .int u1)]) hx hb dX8_append_47 hl (k := 0) rfl (by decide) (by decide) rfl (fun ls hl => ?_)
  refine lv_goto (tgt := 3) hx hb dX8_append_50 (by decide) ?_
  refine lv_iload_n hx hb dX8_append_3 rfl (lv_at hl 0 rfl) ?_
  refine lv_if_lt (tgt := 53) hx hb dX8_append_4 (by decide) (fun h => absurd h (by decide)) (fun _ => ?_)
  refine lv_aload_n hx hb dX8_append_7 rfl (lv_at hl 1 rfl) ?_
  refine h_geti (C := RX8) (T := TX8) (N := 4) hx hb hts inX8 hown hK hT2 (hY.o rfl) rfl 1 rfl wF_X8_15 rfl dX8_append_8 (fun p11 => ?_)
  refine h_top (v := 13) (h_pu hu2) ?_
  refine lv_if_lt (tgt := 47) hx hb dX8_append_11 (by decide) (fun h => absurd h (by decide)) (fun _ => ?_)
  refine lv_aload_n hx hb dX8_append_14 rfl (lv_at hl 1 rfl) ?_
  refine h_geti (C := RX8) (T := TX8) (N := 4) hx hb hts inX8 hown hK hT2 (hY.o rfl) rfl 1 rfl wF_X8_15 rfl dX8_append_15 (fun p13 => ?_)
  refine h_top (v := 13) (h_pu hu2) ?_
  refine lv_sipush (v := 500) hx hb dX8_append_18 (by decide) ?_
  refine lv_icmp_ge (tgt := 47) hx hb dX8_append_21 (by decide) (fun h => absurd h (by decide)) (fun _ => ?_)
  refine lv_aload_n hx hb dX8_append_24 rfl (lv_at hl 1 rfl) ?_
  refine h_getr (C := RX8) (T := TX8) (N := 4) hx hb hts inX8 hown hK hT2 (hY.o rfl) rfl 0 rfl wF_X8_9 rfl dX8_append_25 ?_
  refine lv_aload_n hx hb dX8_append_28 rfl (lv_at hl 1 rfl) ?_
  refine h_geti (C := RX8) (T := TX8) (N := 4) hx hb hts inX8 hown hK hT2 (hY.o rfl) rfl 1 rfl wF_X8_15 rfl dX8_append_29 (fun p15 => ?_)
  refine h_top (v := 13) (h_pu hu2) ?_
  refine lv_iload_n hx hb dX8_append_32 rfl (lv_at hl 2 rfl) ?_
  refine lv_iload_n hx hb dX8_append_33 rfl (lv_at hl 0 rfl) ?_
  refine lv_ishr hx hb dX8_append_34 ?_
  refine lv_topi (fun x16 ex16 => ?_)
  refine lv_i2b hx hb dX8_append_35 rfl ?_
  refine lv_topi (fun x17 ex17 => ?_)
  refine h_bast hx hb hK hT2 (fun _ h => h) hS2 (hY.at 1 rfl) (h_inc (by decide)) trivial dX8_append_36 (fun H3 locs hT3 hS3 hu3 => ?_)
  refine lv_aload_n hx hb dX8_append_37 rfl (lv_at hl 1 rfl) ?_
  refine lv_dup hx hb dX8_append_38 rfl ?_
  refine h_geti (C := RX8) (T := TX8) (N := 4) hx hb hts inX8 hown hK hT3 (hY.o rfl) rfl 1 rfl wF_X8_15 rfl dX8_append_39 (fun p18 => ?_)
  refine h_top (v := 13) ((h_gi_same (hu3.2.1 _ (by omega))).trans (h_pu hu2)) ?_
  refine lv_iconst (v := 1) hx hb dX8_append_42 (by decide) ?_
  refine lv_iadd hx hb dX8_append_43 ?_
  refine h_top (v := 14) (by decide) ?_
  refine h_puti (C := RX8) (T := TX8) (N := 4) hx hb hts inX8 tyX8 tyX8_ok nmX8 hown hK hT3 (fun _ h => h) hS3 (hY.o rfl) rfl 1 rfl wF_X8_15 rfl rfl trivial rfl rfl dX8_append_44 (fun H4 locs hT4 hS4 hu4 => ?_)
  refine lv_iinc (v := 8) (lv' := [(2, .int 8), (0, .ref (o)), (1, .int u1)]) hx hb dX8_append_47 hl (k := 0) rfl (by decide) (by decide) rfl (fun ls hl => ?_)
  refine lv_goto (tgt := 3) hx hb dX8_append_50 (by decide) ?_
  refine lv_iload_n hx hb dX8_append_3 rfl (lv_at hl 0 rfl) ?_
  refine lv_if_lt (tgt := 53) hx hb dX8_append_4 (by decide) (fun h => absurd h (by decide)) (fun _ => ?_)
  refine lv_aload_n hx hb dX8_append_7 rfl (lv_at hl 1 rfl) ?_
  refine h_geti (C := RX8) (T := TX8) (N := 4) hx hb hts inX8 hown hK hT4 (hY.o rfl) rfl 1 rfl wF_X8_15 rfl dX8_append_8 (fun p20 => ?_)
  refine h_top (v := 14) (h_pu hu4) ?_
  refine lv_if_lt (tgt := 47) hx hb dX8_append_11 (by decide) (fun h => absurd h (by decide)) (fun _ => ?_)
  refine lv_aload_n hx hb dX8_append_14 rfl (lv_at hl 1 rfl) ?_
  refine h_geti (C := RX8) (T := TX8) (N := 4) hx hb hts inX8 hown hK hT4 (hY.o rfl) rfl 1 rfl wF_X8_15 rfl dX8_append_15 (fun p22 => ?_)
  refine h_top (v := 14) (h_pu hu4) ?_
  refine lv_sipush (v := 500) hx hb dX8_append_18 (by decide) ?_
  refine lv_icmp_ge (tgt := 47) hx hb dX8_append_21 (by decide) (fun h => absurd h (by decide)) (fun _ => ?_)
  refine lv_aload_n hx hb dX8_append_24 rfl (lv_at hl 1 rfl) ?_
  refine h_getr (C := RX8) (T := TX8) (N := 4) hx hb hts inX8 hown hK hT4 (hY.o rfl) rfl 0 rfl wF_X8_9 rfl dX8_append_25 ?_
  refine lv_aload_n hx hb dX8_append_28 rfl (lv_at hl 1 rfl) ?_
  refine h_geti (C := RX8) (T := TX8) (N := 4) hx hb hts inX8 hown hK hT4 (hY.o rfl) rfl 1 rfl wF_X8_15 rfl dX8_append_29 (fun p24 => ?_)
  refine h_top (v := 14) (h_pu hu4) ?_
  refine lv_iload_n hx hb dX8_append_32 rfl (lv_at hl 2 rfl) ?_
  refine lv_iload_n hx hb dX8_append_33 rfl (lv_at hl 0 rfl) ?_
  refine lv_ishr hx hb dX8_append_34 ?_
  refine lv_topi (fun x25 ex25 => ?_)
  refine lv_i2b hx hb dX8_append_35 rfl ?_
  refine lv_topi (fun x26 ex26 => ?_)
  refine h_bast hx hb hK hT4 (fun _ h => h) hS4 (hY.at 1 rfl) (h_inc (by decide)) trivial dX8_append_36 (fun H5 locs hT5 hS5 hu5 => ?_)
  refine lv_aload_n hx hb dX8_append_37 rfl (lv_at hl 1 rfl) ?_
  refine lv_dup hx hb dX8_append_38 rfl ?_
  refine h_geti (C := RX8) (T := TX8) (N := 4) hx hb hts inX8 hown hK hT5 (hY.o rfl) rfl 1 rfl wF_X8_15 rfl dX8_append_39 (fun p27 => ?_)
  refine h_top (v := 14) ((h_gi_same (hu5.2.1 _ (by omega))).trans (h_pu hu4)) ?_
  refine lv_iconst (v := 1) hx hb dX8_append_42 (by decide) ?_
  refine lv_iadd hx hb dX8_append_43 ?_
  refine h_top (v := 15) (by decide) ?_
  refine h_puti (C := RX8) (T := TX8) (N := 4) hx hb hts inX8 tyX8 tyX8_ok nmX8 hown hK hT5 (fun _ h => h) hS5 (hY.o rfl) rfl 1 rfl wF_X8_15 rfl rfl trivial rfl rfl dX8_append_44 (fun H6 locs hT6 hS6 hu6 => ?_)
  refine lv_iinc (v := 0) (lv' := [(2, .int 0), (0, .ref (o)), (1, .int u1)]) hx hb dX8_append_47 hl (k := 0) rfl (by decide) (by decide) rfl (fun ls hl => ?_)
  refine lv_goto (tgt := 3) hx hb dX8_append_50 (by decide) ?_
  refine lv_iload_n hx hb dX8_append_3 rfl (lv_at hl 0 rfl) ?_
  refine lv_if_lt (tgt := 53) hx hb dX8_append_4 (by decide) (fun h => absurd h (by decide)) (fun _ => ?_)
  refine lv_aload_n hx hb dX8_append_7 rfl (lv_at hl 1 rfl) ?_
  refine h_geti (C := RX8) (T := TX8) (N := 4) hx hb hts inX8 hown hK hT6 (hY.o rfl) rfl 1 rfl wF_X8_15 rfl dX8_append_8 (fun p29 => ?_)
  refine h_top (v := 15) (h_pu hu6) ?_
  refine lv_if_lt (tgt := 47) hx hb dX8_append_11 (by decide) (fun h => absurd h (by decide)) (fun _ => ?_)
  refine lv_aload_n hx hb dX8_append_14 rfl (lv_at hl 1 rfl) ?_
  refine h_geti (C := RX8) (T := TX8) (N := 4) hx hb hts inX8 hown hK hT6 (hY.o rfl) rfl 1 rfl wF_X8_15 rfl dX8_append_15 (fun p31 => ?_)
  refine h_top (v := 15) (h_pu hu6) ?_
  refine lv_sipush (v := 500) hx hb dX8_append_18 (by decide) ?_
  refine lv_icmp_ge (tgt := 47) hx hb dX8_append_21 (by decide) (fun h => absurd h (by decide)) (fun _ => ?_)
  refine lv_aload_n hx hb dX8_append_24 rfl (lv_at hl 1 rfl) ?_
  refine h_getr (C := RX8) (T := TX8) (N := 4) hx hb hts inX8 hown hK hT6 (hY.o rfl) rfl 0 rfl wF_X8_9 rfl dX8_append_25 ?_
  refine lv_aload_n hx hb dX8_append_28 rfl (lv_at hl 1 rfl) ?_
  refine h_geti (C := RX8) (T := TX8) (N := 4) hx hb hts inX8 hown hK hT6 (hY.o rfl) rfl 1 rfl wF_X8_15 rfl dX8_append_29 (fun p33 => ?_)
  refine h_top (v := 15) (h_pu hu6) ?_
  refine lv_iload_n hx hb dX8_append_32 rfl (lv_at hl 2 rfl) ?_
  refine lv_iload_n hx hb dX8_append_33 rfl (lv_at hl 0 rfl) ?_
  refine lv_ishr hx hb dX8_append_34 ?_
  refine lv_topi (fun x34 ex34 => ?_)
  refine lv_i2b hx hb dX8_append_35 rfl ?_
  refine lv_topi (fun x35 ex35 => ?_)
  refine h_bast hx hb hK hT6 (fun _ h => h) hS6 (hY.at 1 rfl) (h_inc (by decide)) trivial dX8_append_36 (fun H7 locs hT7 hS7 hu7 => ?_)
  refine lv_aload_n hx hb dX8_append_37 rfl (lv_at hl 1 rfl) ?_
  refine lv_dup hx hb dX8_append_38 rfl ?_
  refine h_geti (C := RX8) (T := TX8) (N := 4) hx hb hts inX8 hown hK hT7 (hY.o rfl) rfl 1 rfl wF_X8_15 rfl dX8_append_39 (fun p36 => ?_)
  refine h_top (v := 15) ((h_gi_same (hu7.2.1 _ (by omega))).trans (h_pu hu6)) ?_
  refine lv_iconst (v := 1) hx hb dX8_append_42 (by decide) ?_
  refine lv_iadd hx hb dX8_append_43 ?_
  refine h_top (v := 16) (by decide) ?_
  refine h_puti (C := RX8) (T := TX8) (N := 4) hx hb hts inX8 tyX8 tyX8_ok nmX8 hown hK hT7 (fun _ h => h) hS7 (hY.o rfl) rfl 1 rfl wF_X8_15 rfl rfl trivial rfl rfl dX8_append_44 (fun H8 locs hT8 hS8 hu8 => ?_)
  refine lv_iinc (v := (-8)) (lv' := [(2, .int (-8)), (0, .ref (o)), (1, .int u1)]) hx hb dX8_append_47 hl (k := 0) rfl (by decide) (by decide) rfl (fun ls hl => ?_)
  refine lv_goto (tgt := 3) hx hb dX8_append_50 (by decide) ?_
  refine lv_iload_n hx hb dX8_append_3 rfl (lv_at hl 0 rfl) ?_
  refine lv_if_lt (tgt := 53) hx hb dX8_append_4 (by decide) (fun _ => ?_) (fun h => absurd (by decide) h)
  exact hret _ _ _ _ hT8 hS8 (h_pu hu8) dX8_append_53
set_option maxHeartbeats 4000000 in
set_option maxRecDepth 100000 in
theorem c_append_16 (l : Launch) (G : hG) (Y : hW) (o : Nat) (hY : h_On Y o (taE tF o)) (u1 : Int32) : hMv l yX8_append cX8_append 3 none 0 0 G Y [.ref (o), .int u1] (fun H => h_gi G H 8 o 1 = 16) (fun H H1 => h_gi G H1 8 o 1 = 20) := by
  refine h_ofv (by decide +kernel) (Nat.le_of_ble_eq_true rfl) ?_
  intro p e s m args below meth c H0 ls Q hx hb hts hown hml hK hT0 hpr hS0 hl hret
  have hl : lv_has ls 3 [(0, .ref (o)), (1, .int u1)] := hl
  refine lv_bipush (v := 24) hx hb dX8_append_0 (by decide) ?_
  refine lv_istore_n (lv' := [(2, .int 24), (0, .ref (o)), (1, .int u1)]) hx hb dX8_append_2 rfl hl (by decide) rfl (fun ls hl => ?_)
  refine lv_iload_n hx hb dX8_append_3 rfl (lv_at hl 0 rfl) ?_
  refine lv_if_lt (tgt := 53) hx hb dX8_append_4 (by decide) (fun h => absurd h (by decide)) (fun _ => ?_)
  refine lv_aload_n hx hb dX8_append_7 rfl (lv_at hl 1 rfl) ?_
  refine h_geti (C := RX8) (T := TX8) (N := 4) hx hb hts inX8 hown hK hT0 (hY.o rfl) rfl 1 rfl wF_X8_15 rfl dX8_append_8 (fun p2 => ?_)
  refine h_top (v := 16) hpr ?_
  refine lv_if_lt (tgt := 47) hx hb dX8_append_11 (by decide) (fun h => absurd h (by decide)) (fun _ => ?_)
  refine lv_aload_n hx hb dX8_append_14 rfl (lv_at hl 1 rfl) ?_
  refine h_geti (C := RX8) (T := TX8) (N := 4) hx hb hts inX8 hown hK hT0 (hY.o rfl) rfl 1 rfl wF_X8_15 rfl dX8_append_15 (fun p4 => ?_)
  refine h_top (v := 16) hpr ?_
  refine lv_sipush (v := 500) hx hb dX8_append_18 (by decide) ?_
  refine lv_icmp_ge (tgt := 47) hx hb dX8_append_21 (by decide) (fun h => absurd h (by decide)) (fun _ => ?_)
  refine lv_aload_n hx hb dX8_append_24 rfl (lv_at hl 1 rfl) ?_
  refine h_getr (C := RX8) (T := TX8) (N := 4) hx hb hts inX8 hown hK hT0 (hY.o rfl) rfl 0 rfl wF_X8_9 rfl dX8_append_25 ?_
  refine lv_aload_n hx hb dX8_append_28 rfl (lv_at hl 1 rfl) ?_
  refine h_geti (C := RX8) (T := TX8) (N := 4) hx hb hts inX8 hown hK hT0 (hY.o rfl) rfl 1 rfl wF_X8_15 rfl dX8_append_29 (fun p6 => ?_)
  refine h_top (v := 16) hpr ?_
  refine lv_iload_n hx hb dX8_append_32 rfl (lv_at hl 2 rfl) ?_
  refine lv_iload_n hx hb dX8_append_33 rfl (lv_at hl 0 rfl) ?_
  refine lv_ishr hx hb dX8_append_34 ?_
  refine lv_topi (fun x7 ex7 => ?_)
  refine lv_i2b hx hb dX8_append_35 rfl ?_
  refine lv_topi (fun x8 ex8 => ?_)
  refine h_bast hx hb hK hT0 (fun _ h => h) hS0 (hY.at 1 rfl) (h_inc (by decide)) trivial dX8_append_36 (fun H1 locs hT1 hS1 hu1 => ?_)
  refine lv_aload_n hx hb dX8_append_37 rfl (lv_at hl 1 rfl) ?_
  refine lv_dup hx hb dX8_append_38 rfl ?_
  refine h_geti (C := RX8) (T := TX8) (N := 4) hx hb hts inX8 hown hK hT1 (hY.o rfl) rfl 1 rfl wF_X8_15 rfl dX8_append_39 (fun p9 => ?_)
  refine h_top (v := 16) ((h_gi_same (hu1.2.1 _ (by omega))).trans hpr) ?_
  refine lv_iconst (v := 1) hx hb dX8_append_42 (by decide) ?_
  refine lv_iadd hx hb dX8_append_43 ?_
  refine h_top (v := 17) (by decide) ?_
  refine h_puti (C := RX8) (T := TX8) (N := 4) hx hb hts inX8 tyX8 tyX8_ok nmX8 hown hK hT1 (fun _ h => h) hS1 (hY.o rfl) rfl 1 rfl wF_X8_15 rfl rfl trivial rfl rfl dX8_append_44 (fun H2 locs hT2 hS2 hu2 => ?_)
  refine lv_iinc (v := 16) (lv' := [(2, .int 16), (0, .ref (o)), (1, .int u1)]) hx hb dX8_append_47 hl (k := 0) rfl (by decide) (by decide) rfl (fun ls hl => ?_)
  refine lv_goto (tgt := 3) hx hb dX8_append_50 (by decide) ?_
  refine lv_iload_n hx hb dX8_append_3 rfl (lv_at hl 0 rfl) ?_
  refine lv_if_lt (tgt := 53) hx hb dX8_append_4 (by decide) (fun h => absurd h (by decide)) (fun _ => ?_)
  refine lv_aload_n hx hb dX8_append_7 rfl (lv_at hl 1 rfl) ?_
  refine h_geti (C := RX8) (T := TX8) (N := 4) hx hb hts inX8 hown hK hT2 (hY.o rfl) rfl 1 rfl wF_X8_15 rfl dX8_append_8 (fun p11 => ?_)
  refine h_top (v := 17) (h_pu hu2) ?_
  refine lv_if_lt (tgt := 47) hx hb dX8_append_11 (by decide) (fun h => absurd h (by decide)) (fun _ => ?_)
  refine lv_aload_n hx hb dX8_append_14 rfl (lv_at hl 1 rfl) ?_
  refine h_geti (C := RX8) (T := TX8) (N := 4) hx hb hts inX8 hown hK hT2 (hY.o rfl) rfl 1 rfl wF_X8_15 rfl dX8_append_15 (fun p13 => ?_)
  refine h_top (v := 17) (h_pu hu2) ?_
  refine lv_sipush (v := 500) hx hb dX8_append_18 (by decide) ?_
  refine lv_icmp_ge (tgt := 47) hx hb dX8_append_21 (by decide) (fun h => absurd h (by decide)) (fun _ => ?_)
  refine lv_aload_n hx hb dX8_append_24 rfl (lv_at hl 1 rfl) ?_
  refine h_getr (C := RX8) (T := TX8) (N := 4) hx hb hts inX8 hown hK hT2 (hY.o rfl) rfl 0 rfl wF_X8_9 rfl dX8_append_25 ?_
  refine lv_aload_n hx hb dX8_append_28 rfl (lv_at hl 1 rfl) ?_
  refine h_geti (C := RX8) (T := TX8) (N := 4) hx hb hts inX8 hown hK hT2 (hY.o rfl) rfl 1 rfl wF_X8_15 rfl dX8_append_29 (fun p15 => ?_)
  refine h_top (v := 17) (h_pu hu2) ?_
  refine lv_iload_n hx hb dX8_append_32 rfl (lv_at hl 2 rfl) ?_
  refine lv_iload_n hx hb dX8_append_33 rfl (lv_at hl 0 rfl) ?_
  refine lv_ishr hx hb dX8_append_34 ?_
  refine lv_topi (fun x16 ex16 => ?_)
  refine lv_i2b hx hb dX8_append_35 rfl ?_
  refine lv_topi (fun x17 ex17 => ?_)
  refine h_bast hx hb hK hT2 (fun _ h => h) hS2 (hY.at 1 rfl) (h_inc (by decide)) trivial dX8_append_36 (fun H3 locs hT3 hS3 hu3 => ?_)
  refine lv_aload_n hx hb dX8_append_37 rfl (lv_at hl 1 rfl) ?_
  refine lv_dup hx hb dX8_append_38 rfl ?_
  refine h_geti (C := RX8) (T := TX8) (N := 4) hx hb hts inX8 hown hK hT3 (hY.o rfl) rfl 1 rfl wF_X8_15 rfl dX8_append_39 (fun p18 => ?_)
  refine h_top (v := 17) ((h_gi_same (hu3.2.1 _ (by omega))).trans (h_pu hu2)) ?_
  refine lv_iconst (v := 1) hx hb dX8_append_42 (by decide) ?_
  refine lv_iadd hx hb dX8_append_43 ?_
  refine h_top (v := 18) (by decide) ?_
  refine h_puti (C := RX8) (T := TX8) (N := 4) hx hb hts inX8 tyX8 tyX8_ok nmX8 hown hK hT3 (fun _ h => h) hS3 (hY.o rfl) rfl 1 rfl wF_X8_15 rfl rfl trivial rfl rfl dX8_append_44 (fun H4 locs hT4 hS4 hu4 => ?_)
  refine lv_iinc (v := 8) (lv' := [(2, .int 8), (0, .ref (o)), (1, .int u1)]) hx hb dX8_append_47 hl (k := 0) rfl (by decide) (by decide) rfl (fun ls hl => ?_)
  refine lv_goto (tgt := 3) hx hb dX8_append_50 (by decide) ?_
  refine lv_iload_n hx hb dX8_append_3 rfl (lv_at hl 0 rfl) ?_
  refine lv_if_lt (tgt := 53) hx hb dX8_append_4 (by decide) (fun h => absurd h (by decide)) (fun _ => ?_)
  refine lv_aload_n hx hb dX8_append_7 rfl (lv_at hl 1 rfl) ?_
  refine h_geti (C := RX8) (T := TX8) (N := 4) hx hb hts inX8 hown hK hT4 (hY.o rfl) rfl 1 rfl wF_X8_15 rfl dX8_append_8 (fun p20 => ?_)
  refine h_top (v := 18) (h_pu hu4) ?_
  refine lv_if_lt (tgt := 47) hx hb dX8_append_11 (by decide) (fun h => absurd h (by decide)) (fun _ => ?_)
  refine lv_aload_n hx hb dX8_append_14 rfl (lv_at hl 1 rfl) ?_
  refine h_geti (C := RX8) (T := TX8) (N := 4) hx hb hts inX8 hown hK hT4 (hY.o rfl) rfl 1 rfl wF_X8_15 rfl dX8_append_15 (fun p22 => ?_)
  refine h_top (v := 18) (h_pu hu4) ?_
  refine lv_sipush (v := 500) hx hb dX8_append_18 (by decide) ?_
  refine lv_icmp_ge (tgt := 47) hx hb dX8_append_21 (by decide) (fun h => absurd h (by decide)) (fun _ => ?_)
  refine lv_aload_n hx hb dX8_append_24 rfl (lv_at hl 1 rfl) ?_
  refine h_getr (C := RX8) (T := TX8) (N := 4) hx hb hts inX8 hown hK hT4 (hY.o rfl) rfl 0 rfl wF_X8_9 rfl dX8_append_25 ?_
  refine lv_aload_n hx hb dX8_append_28 rfl (lv_at hl 1 rfl) ?_
  refine h_geti (C := RX8) (T := TX8) (N := 4) hx hb hts inX8 hown hK hT4 (hY.o rfl) rfl 1 rfl wF_X8_15 rfl dX8_append_29 (fun p24 => ?_)
  refine h_top (v := 18) (h_pu hu4) ?_
  refine lv_iload_n hx hb dX8_append_32 rfl (lv_at hl 2 rfl) ?_
  refine lv_iload_n hx hb dX8_append_33 rfl (lv_at hl 0 rfl) ?_
  refine lv_ishr hx hb dX8_append_34 ?_
  refine lv_topi (fun x25 ex25 => ?_)
  refine lv_i2b hx hb dX8_append_35 rfl ?_
  refine lv_topi (fun x26 ex26 => ?_)
  refine h_bast hx hb hK hT4 (fun _ h => h) hS4 (hY.at 1 rfl) (h_inc (by decide)) trivial dX8_append_36 (fun H5 locs hT5 hS5 hu5 => ?_)
  refine lv_aload_n hx hb dX8_append_37 rfl (lv_at hl 1 rfl) ?_
  refine lv_dup hx hb dX8_append_38 rfl ?_
  refine h_geti (C := RX8) (T := TX8) (N := 4) hx hb hts inX8 hown hK hT5 (hY.o rfl) rfl 1 rfl wF_X8_15 rfl dX8_append_39 (fun p27 => ?_)
  refine h_top (v := 18) ((h_gi_same (hu5.2.1 _ (by omega))).trans (h_pu hu4)) ?_
  refine lv_iconst (v := 1) hx hb dX8_append_42 (by decide) ?_
  refine lv_iadd hx hb dX8_append_43 ?_
  refine h_top (v := 19) (by decide) ?_
  refine h_puti (C := RX8) (T := TX8) (N := 4) hx hb hts inX8 tyX8 tyX8_ok nmX8 hown hK hT5 (fun _ h => h) hS5 (hY.o rfl) rfl 1 rfl wF_X8_15 rfl rfl trivial rfl rfl dX8_append_44 (fun H6 locs hT6 hS6 hu6 => ?_)
  refine lv_iinc (v := 0) (lv' := [(2, .int 0), (0, .ref (o)), (1, .int u1)]) hx hb dX8_append_47 hl (k := 0) rfl (by decide) (by decide) rfl (fun ls hl => ?_)
  refine lv_goto (tgt := 3) hx hb dX8_append_50 (by decide) ?_
  refine lv_iload_n hx hb dX8_append_3 rfl (lv_at hl 0 rfl) ?_
  refine lv_if_lt (tgt := 53) hx hb dX8_append_4 (by decide) (fun h => absurd h (by decide)) (fun _ => ?_)
  refine lv_aload_n hx hb dX8_append_7 rfl (lv_at hl 1 rfl) ?_
  refine h_geti (C := RX8) (T := TX8) (N := 4) hx hb hts inX8 hown hK hT6 (hY.o rfl) rfl 1 rfl wF_X8_15 rfl dX8_append_8 (fun p29 => ?_)
  refine h_top (v := 19) (h_pu hu6) ?_
  refine lv_if_lt (tgt := 47) hx hb dX8_append_11 (by decide) (fun h => absurd h (by decide)) (fun _ => ?_)
  refine lv_aload_n hx hb dX8_append_14 rfl (lv_at hl 1 rfl) ?_
  refine h_geti (C := RX8) (T := TX8) (N := 4) hx hb hts inX8 hown hK hT6 (hY.o rfl) rfl 1 rfl wF_X8_15 rfl dX8_append_15 (fun p31 => ?_)
  refine h_top (v := 19) (h_pu hu6) ?_
  refine lv_sipush (v := 500) hx hb dX8_append_18 (by decide) ?_
  refine lv_icmp_ge (tgt := 47) hx hb dX8_append_21 (by decide) (fun h => absurd h (by decide)) (fun _ => ?_)
  refine lv_aload_n hx hb dX8_append_24 rfl (lv_at hl 1 rfl) ?_
  refine h_getr (C := RX8) (T := TX8) (N := 4) hx hb hts inX8 hown hK hT6 (hY.o rfl) rfl 0 rfl wF_X8_9 rfl dX8_append_25 ?_
  refine lv_aload_n hx hb dX8_append_28 rfl (lv_at hl 1 rfl) ?_
  refine h_geti (C := RX8) (T := TX8) (N := 4) hx hb hts inX8 hown hK hT6 (hY.o rfl) rfl 1 rfl wF_X8_15 rfl dX8_append_29 (fun p33 => ?_)
  refine h_top (v := 19) (h_pu hu6) ?_
  refine lv_iload_n hx hb dX8_append_32 rfl (lv_at hl 2 rfl) ?_
  refine lv_iload_n hx hb dX8_append_33 rfl (lv_at hl 0 rfl) ?_
  refine lv_ishr hx hb dX8_append_34 ?_
  refine lv_topi (fun x34 ex34 => ?_)
  refine lv_i2b hx hb dX8_append_35 rfl ?_
  refine lv_topi (fun x35 ex35 => ?_)
  refine h_bast hx hb hK hT6 (fun _ h => h) hS6 (hY.at 1 rfl) (h_inc (by decide)) trivial dX8_append_36 (fun H7 locs hT7 hS7 hu7 => ?_)
  refine lv_aload_n hx hb dX8_append_37 rfl (lv_at hl 1 rfl) ?_
  refine lv_dup hx hb dX8_append_38 rfl ?_
  refine h_geti (C := RX8) (T := TX8) (N := 4) hx hb hts inX8 hown hK hT7 (hY.o rfl) rfl 1 rfl wF_X8_15 rfl dX8_append_39 (fun p36 => ?_)
  refine h_top (v := 19) ((h_gi_same (hu7.2.1 _ (by omega))).trans (h_pu hu6)) ?_
  refine lv_iconst (v := 1) hx hb dX8_append_42 (by decide) ?_
  refine lv_iadd hx hb dX8_append_43 ?_
  refine h_top (v := 20) (by decide) ?_
  refine h_puti (C := RX8) (T := TX8) (N := 4) hx hb hts inX8 tyX8 tyX8_ok nmX8 hown hK hT7 (fun _ h => h) hS7 (hY.o rfl) rfl 1 rfl wF_X8_15 rfl rfl trivial rfl rfl dX8_append_44 (fun H8 locs hT8 hS8 hu8 => ?_)
  refine lv_iinc (v := (-8)) (lv' := [(2, .int (-8)), (0, .ref (o)), (1, .int u1)]) hx hb dX8_append_47 hl (k := 0) rfl (by decide) (by decide) rfl (fun ls hl => ?_)
  refine lv_goto (tgt := 3) hx hb dX8_append_50 (by decide) ?_
  refine lv_iload_n hx hb dX8_append_3 rfl (lv_at hl 0 rfl) ?_
  refine lv_if_lt (tgt := 53) hx hb dX8_append_4 (by decide) (fun _ => ?_) (fun h => absurd (by decide) h)
  exact hret _ _ _ _ hT8 hS8 (h_pu hu8) dX8_append_53
set_option maxHeartbeats 4000000 in
set_option maxRecDepth 100000 in
theorem c_X4_skipBlanks (l : Launch) (G : hG) (Y : hW) (re tp o : Nat) (hE : h_On Y re (reE tF re tp o)) (hP : h_On Y tp (taE tF tp)) (hY : h_On Y o (ringE tF o)) : hMv l yX4_skipBlanks cX4_skipBlanks 1 none 0 0 G Y [.ref (re)] (fun H => h_gi G H 4 re 4 = 0 ∧ h_gi G H 4 re 5 = 0) (fun H H1 => h_gi G H1 4 re 4 = 0 ∧ h_gi G H1 4 re 5 = 0) := by
  refine h_ofv (by decide +kernel) (Nat.le_of_ble_eq_true rfl) ?_
  intro p e s m args below meth c H0 ls Q hx hb hts hown hml hK hT0 hpr hS0 hl hret
  have hl : lv_has ls 1 [(0, .ref (re))] := hl
  refine lv_aload_n hx hb dX4_skipBlanks_0 rfl (lv_at hl 0 rfl) ?_
  refine h_geti (C := RX4) (T := TX4) (N := 13) hx hb hts inX4 hown hK hT0 (hE.o rfl) rfl 5 rfl wF_X4_22 rfl dX4_skipBlanks_1 (fun p1 => ?_)
  refine h_top (v := 0) hpr.2 ?_
  refine lv_aload_n hx hb dX4_skipBlanks_4 rfl (lv_at hl 0 rfl) ?_
  refine h_geti (C := RX4) (T := TX4) (N := 13) hx hb hts inX4 hown hK hT0 (hE.o rfl) rfl 4 rfl wF_X4_18 rfl dX4_skipBlanks_5 (fun p2 => ?_)
  refine h_top (v := 0) hpr.1 ?_
  refine lv_icmp_ge (tgt := 56) hx hb dX4_skipBlanks_8 (by decide) (fun _ => ?_) (fun h => absurd (by decide) h)
  exact hret _ _ _ _ hT0 hS0 hpr dX4_skipBlanks_56
set_option maxHeartbeats 4000000 in
set_option maxRecDepth 100000 in
theorem c_X4_readToken (l : Launch) (G : hG) (Y : hW) (re tp o : Nat) (hE : h_On Y re (reE tF re tp o)) (hP : h_On Y tp (taE tF tp)) (hY : h_On Y o (ringE tF o)) : hMi l yX4_readToken cX4_readToken 2 (some .boolean) 1 20 G Y [.ref (re)] (fun H => h_gi G H 4 re 4 = 0 ∧ h_gi G H 4 re 5 = 0) (fun H r H1 => r = 1 ∧ h_gi G H1 4 re 6 = 0) := by
  refine h_ofz (by decide +kernel) (Nat.le_of_ble_eq_true rfl) ?_
  intro p e s m args below meth c H0 ls Q hx hb hts hown hml hK hT0 hpr hS0 hl hret
  have hl : lv_has ls 2 [(0, .ref (re))] := hl
  refine lv_aload_n hx hb dX4_readToken_0 rfl (lv_at hl 0 rfl) ?_
  refine h_callVv (T := TX4) (rest := []) (As := []) hx hb hml hown hts hK hT0 (fun _ h => h) hS0 (c_X4_skipBlanks l G Y (re) (tp) (o) hE hP hY) ⟨hpr.1, hpr.2⟩ wd_X4_skipBlanks wV_X4_skipBlanks wL_X4_160 (hE.o rfl) rfl rfl hl.1 rfl (Nat.le_of_ble_eq_true rfl) dX4_readToken_1 ⟨Nat.le_of_ble_eq_true rfl, Nat.le_of_ble_eq_true rfl⟩ ⟨Nat.zero_le _, Nat.zero_le _⟩ (fun H1 locs hp1 hT1 hS1 hk1 => ?_)
  refine lv_aload_n hx hb dX4_readToken_4 rfl (lv_at hl 0 rfl) ?_
  refine lv_aload_n hx hb dX4_readToken_5 rfl (lv_at hl 0 rfl) ?_
  refine h_geti (C := RX4) (T := TX4) (N := 13) hx hb hts inX4 hown hK hT1 (hE.o rfl) rfl 5 rfl wF_X4_22 rfl dX4_readToken_6 (fun p1 => ?_)
  refine h_top (v := 0) hp1.2 ?_
  refine h_puti (C := RX4) (T := TX4) (N := 13) hx hb hts inX4 tyX4 tyX4_ok nmX4 hown hK hT1 (fun _ h => h) hS1 (hE.o rfl) rfl 7 rfl wF_X4_28 rfl rfl trivial rfl rfl dX4_readToken_9 (fun H2 locs hT2 hS2 hu2 => ?_)
  refine lv_aload_n hx hb dX4_readToken_12 rfl (lv_at hl 0 rfl) ?_
  refine lv_iconst (v := 0) hx hb dX4_readToken_13 (by decide) ?_
  refine h_puti (C := RX4) (T := TX4) (N := 13) hx hb hts inX4 tyX4 tyX4_ok nmX4 hown hK hT2 (fun _ h => h) hS2 (hE.o rfl) rfl 8 rfl wF_X4_31 rfl rfl trivial rfl rfl dX4_readToken_14 (fun H3 locs hT3 hS3 hu3 => ?_)
  refine lv_aload_n hx hb dX4_readToken_17 rfl (lv_at hl 0 rfl) ?_
  refine h_geti (C := RX4) (T := TX4) (N := 13) hx hb hts inX4 hown hK hT3 (hE.o rfl) rfl 5 rfl wF_X4_22 rfl dX4_readToken_18 (fun p2 => ?_)
  refine h_top (v := 0) ((h_ps hu3 rfl (by decide) (by decide)).trans ((h_ps hu2 rfl (by decide) (by decide)).trans hp1.2)) ?_
  refine lv_aload_n hx hb dX4_readToken_21 rfl (lv_at hl 0 rfl) ?_
  refine h_geti (C := RX4) (T := TX4) (N := 13) hx hb hts inX4 hown hK hT3 (hE.o rfl) rfl 4 rfl wF_X4_18 rfl dX4_readToken_22 (fun p3 => ?_)
  refine h_top (v := 0) ((h_ps hu3 rfl (by decide) (by decide)).trans ((h_ps hu2 rfl (by decide) (by decide)).trans hp1.1)) ?_
  refine lv_icmp_lt (tgt := 35) hx hb dX4_readToken_25 (by decide) (fun h => absurd h (by decide)) (fun _ => ?_)
  refine lv_aload_n hx hb dX4_readToken_28 rfl (lv_at hl 0 rfl) ?_
  refine lv_iconst (v := 0) hx hb dX4_readToken_29 (by decide) ?_
  refine h_puti (C := RX4) (T := TX4) (N := 13) hx hb hts inX4 tyX4 tyX4_ok nmX4 hown hK hT3 (fun _ h => h) hS3 (hE.o rfl) rfl 6 rfl wF_X4_25 rfl rfl trivial rfl rfl dX4_readToken_30 (fun H4 locs hT4 hS4 hu4 => ?_)
  refine lv_iconst (v := 1) hx hb dX4_readToken_33 (by decide) ?_
  exact hret _ _ _ _ _ hT4 hS4 ⟨by decide, rfl, (h_pu hu4)⟩ dX4_readToken_34
set_option maxHeartbeats 4000000 in
set_option maxRecDepth 100000 in
theorem c_X4_readText (l : Launch) (G : hG) (Y : hW) (re tp o : Nat) (hE : h_On Y re (reE tF re tp o)) (hP : h_On Y tp (taE tF tp)) (hY : h_On Y o (ringE tF o)) : hMi l yX4_readText cX4_readText 3 (some .boolean) 3 63 G Y [.ref (re), .int 0] (fun H => True) (fun H r H1 => r = 1) := by
  refine h_ofz (by decide +kernel) (Nat.le_of_ble_eq_true rfl) ?_
  intro p e s m args below meth c H0 ls Q hx hb hts hown hml hK hT0 hpr hS0 hl hret
  have hl : lv_has ls 3 [(0, .ref (re)), (1, .int 0)] := hl
  refine lv_aload_n hx hb dX4_readText_0 rfl (lv_at hl 0 rfl) ?_
  refine h_getr (C := RX4) (T := TX4) (N := 13) hx hb hts inX4 hown hK hT0 (hE.o rfl) rfl 1 rfl wF_X4_50 rfl dX4_readText_1 ?_
  refine h_callVv (T := TX5) (rest := []) (As := []) hx hb hml hown hts hK hT0 (fun _ h => h) hS0 (c_X5_clear l G Y (o) hY) trivial wd_X5_clear wV_X5_clear wL_X4_54 (on_rg hY) rfl rfl hl.1 rfl (Nat.le_of_ble_eq_true rfl) dX4_readText_4 ⟨Nat.le_of_ble_eq_true rfl, Nat.le_of_ble_eq_true rfl⟩ ⟨Nat.zero_le _, Nat.zero_le _⟩ (fun H1 locs hp1 hT1 hS1 hk1 => ?_)
  refine lv_aload_n hx hb dX4_readText_7 rfl (lv_at hl 0 rfl) ?_
  refine lv_iload_n hx hb dX4_readText_8 rfl (lv_at hl 1 rfl) ?_
  refine h_puti (C := RX4) (T := TX4) (N := 13) hx hb hts inX4 tyX4 tyX4_ok nmX4 hown hK hT1 (fun _ h => h) hS1 (hE.o rfl) rfl 4 rfl wF_X4_18 rfl rfl trivial rfl rfl dX4_readText_9 (fun H2 locs hT2 hS2 hu2 => ?_)
  refine lv_aload_n hx hb dX4_readText_12 rfl (lv_at hl 0 rfl) ?_
  refine lv_iconst (v := 0) hx hb dX4_readText_13 (by decide) ?_
  refine h_puti (C := RX4) (T := TX4) (N := 13) hx hb hts inX4 tyX4 tyX4_ok nmX4 hown hK hT2 (fun _ h => h) hS2 (hE.o rfl) rfl 5 rfl wF_X4_22 rfl rfl trivial rfl rfl dX4_readText_14 (fun H3 locs hT3 hS3 hu3 => ?_)
  refine lv_aload_n hx hb dX4_readText_17 rfl (lv_at hl 0 rfl) ?_
  refine lv_iconst (v := 0) hx hb dX4_readText_18 (by decide) ?_
  refine h_puti (C := RX4) (T := TX4) (N := 13) hx hb hts inX4 tyX4 tyX4_ok nmX4 hown hK hT3 (fun _ h => h) hS3 (hE.o rfl) rfl 11 rfl wF_X4_40 rfl rfl trivial rfl rfl dX4_readText_19 (fun H4 locs hT4 hS4 hu4 => ?_)
  refine lv_aload_n hx hb dX4_readText_22 rfl (lv_at hl 0 rfl) ?_
  refine lv_iconst (v := (-1)) hx hb dX4_readText_23 (by decide) ?_
  refine h_puti (C := RX4) (T := TX4) (N := 13) hx hb hts inX4 tyX4 tyX4_ok nmX4 hown hK hT4 (fun _ h => h) hS4 (hE.o rfl) rfl 12 rfl wF_X4_43 rfl rfl trivial rfl rfl dX4_readText_24 (fun H5 locs hT5 hS5 hu5 => ?_)
  refine lv_iconst (v := 0) hx hb dX4_readText_27 (by decide) ?_
  refine lv_istore_n (lv' := [(2, .int 0), (0, .ref (re)), (1, .int 0)]) hx hb dX4_readText_28 rfl hl (by decide) rfl (fun ls hl => ?_)
  refine lv_iload_n hx hb dX4_readText_29 rfl (lv_at hl 0 rfl) ?_
  refine lv_sipush (v := 500) hx hb dX4_readText_30 (by decide) ?_
  refine lv_icmp_gt (tgt := 69) hx hb dX4_readText_33 (by decide) (fun h => absurd h (by decide)) (fun _ => ?_)
  refine lv_aload_n hx hb dX4_readText_36 rfl (lv_at hl 1 rfl) ?_
  refine h_callVi (T := TX4) (rest := []) (As := []) hx hb hml hown hts hK hT5 (fun _ h => h) hS5 (c_X4_readToken l G Y (re) (tp) (o) hE hP hY) ⟨((h_ps hu5 rfl (by decide) (by decide)).trans ((h_ps hu4 rfl (by decide) (by decide)).trans ((h_ps hu3 rfl (by decide) (by decide)).trans (h_pu hu2)))), ((h_ps hu5 rfl (by decide) (by decide)).trans ((h_ps hu4 rfl (by decide) (by decide)).trans (h_pu hu3)))⟩ wd_X4_readToken wV_X4_readToken wL_X4_59 (hE.o rfl) rfl rfl hl.1 rfl (Nat.le_of_ble_eq_true rfl) dX4_readText_37 ⟨Nat.le_of_ble_eq_true rfl, Nat.le_of_ble_eq_true rfl⟩ ⟨Nat.zero_le _, Nat.zero_le _⟩ (fun r2 H6 locs hp6 hT6 hS6 hk6 => ?_)
  obtain ⟨hq, hp6⟩ := hp6
  have hq : r2 = 1 := hq
  subst hq
  refine lv_if_ne (tgt := 45) hx hb dX4_readText_40 (by decide) (fun _ => ?_) (fun h => absurd h (by decide))
  refine lv_aload_n hx hb dX4_readText_45 rfl (lv_at hl 1 rfl) ?_
  refine h_geti (C := RX4) (T := TX4) (N := 13) hx hb hts inX4 hown hK hT6 (hE.o rfl) rfl 6 rfl wF_X4_25 rfl dX4_readText_46 (fun p4 => ?_)
  refine h_top (v := 0) hp6 ?_
  refine lv_if_ne (tgt := 54) hx hb dX4_readText_49 (by decide) (fun h => absurd (by decide) h) (fun _ => ?_)
  refine lv_iconst (v := 1) hx hb dX4_readText_52 (by decide) ?_
  exact hret _ _ _ _ _ hT6 hS6 ⟨by decide, rfl⟩ dX4_readText_53
end
section
set_option maxHeartbeats 4000000 in
set_option maxRecDepth 100000 in
theorem c_X10_give (l : Launch) (G : hG) (Y : hW) (o : Nat) (hW : h_On Y o (wldE tF o)) (u1 : Int32) : hMi l yX10_give cX10_give 2 (some .int) 0 0 G Y [.ref (o), .int u1] (fun H => True) (fun H r H1 => r = u1) := by
  refine h_ofi (by decide +kernel) (Nat.le_of_ble_eq_true rfl) ?_
  intro p e s m args below meth c H0 ls Q hx hb hts hown hml hK hT0 hpr hS0 hl hret
  have hl : lv_has ls 2 [(0, .ref (o)), (1, .int u1)] := hl
  refine lv_aload_n hx hb dX10_give_0 rfl (lv_at hl 0 rfl) ?_
  refine lv_iconst (v := 0) hx hb dX10_give_1 (by decide) ?_
  refine h_puti (C := RX10) (T := TX10) (N := 9) hx hb hts inX10 tyX10 tyX10_ok nmX10 hown hK hT0 (fun _ h => h) hS0 (on_w0 hW) rfl 8 rfl wF_X10_56 rfl rfl trivial rfl rfl dX10_give_2 (fun H1 locs hT1 hS1 hu1 => ?_)
  refine lv_iload_n hx hb dX10_give_5 rfl (lv_at hl 1 rfl) ?_
  exact hret _ _ _ _ _ hT1 hS1 rfl dX10_give_6
set_option maxHeartbeats 4000000 in
set_option maxRecDepth 100000 in
theorem c_X10_giveReached (l : Launch) (G : hG) (Y : hW) (o : Nat) (hW : h_On Y o (wldE tF o)) (u1 : Int32) : hMi l yX10_giveReached cX10_giveReached 2 (some .int) 0 0 G Y [.ref (o), .int u1] (fun H => True) (fun H r H1 => r = u1) := by
  refine h_ofi (by decide +kernel) (Nat.le_of_ble_eq_true rfl) ?_
  intro p e s m args below meth c H0 ls Q hx hb hts hown hml hK hT0 hpr hS0 hl hret
  have hl : lv_has ls 2 [(0, .ref (o)), (1, .int u1)] := hl
  refine lv_aload_n hx hb dX10_giveReached_0 rfl (lv_at hl 0 rfl) ?_
  refine lv_iload_n hx hb dX10_giveReached_1 rfl (lv_at hl 1 rfl) ?_
  refine lv_iconst (v := (-1)) hx hb dX10_giveReached_2 (by decide) ?_
  refine lv_icmp_ne (tgt := 11) hx hb dX10_giveReached_3 (by decide) (fun c1 => ?_) (fun c1 => ?_)
  · skip
    refine lv_iconst (v := 0) hx hb dX10_giveReached_11 (by decide) ?_
    refine h_puti (C := RX10) (T := TX10) (N := 9) hx hb hts inX10 tyX10 tyX10_ok nmX10 hown hK hT0 (fun _ h => h) hS0 (on_w0 hW) rfl 8 rfl wF_X10_56 rfl rfl trivial rfl rfl dX10_giveReached_12 (fun H1 locs hT1 hS1 hu1 => ?_)
    refine lv_iload_n hx hb dX10_giveReached_15 rfl (lv_at hl 1 rfl) ?_
    exact hret _ _ _ _ _ hT1 hS1 rfl dX10_giveReached_16
  · skip
    refine lv_bipush (v := 7) hx hb dX10_giveReached_6 (by decide) ?_
    refine lv_goto (tgt := 12) hx hb dX10_giveReached_8 (by decide) ?_
    refine h_puti (C := RX10) (T := TX10) (N := 9) hx hb hts inX10 tyX10 tyX10_ok nmX10 hown hK hT0 (fun _ h => h) hS0 (on_w0 hW) rfl 8 rfl wF_X10_56 rfl rfl trivial rfl rfl dX10_giveReached_12 (fun H2 locs hT2 hS2 hu2 => ?_)
    refine lv_iload_n hx hb dX10_giveReached_15 rfl (lv_at hl 1 rfl) ?_
    exact hret _ _ _ _ _ hT2 hS2 rfl dX10_giveReached_16
set_option maxHeartbeats 4000000 in
set_option maxRecDepth 100000 in
theorem c_X10_fail (l : Launch) (G : hG) (Y : hW) (o : Nat) (hW : h_On Y o (wldE tF o)) (u1 : Int32) : hMi l yX10_fail cX10_fail 2 (some .int) 0 0 G Y [.ref (o), .int u1] (fun H => True) (fun H r H1 => r = -1) := by
  refine h_ofi (by decide +kernel) (Nat.le_of_ble_eq_true rfl) ?_
  intro p e s m args below meth c H0 ls Q hx hb hts hown hml hK hT0 hpr hS0 hl hret
  have hl : lv_has ls 2 [(0, .ref (o)), (1, .int u1)] := hl
  refine lv_aload_n hx hb dX10_fail_0 rfl (lv_at hl 0 rfl) ?_
  refine lv_iload_n hx hb dX10_fail_1 rfl (lv_at hl 1 rfl) ?_
  refine h_puti (C := RX10) (T := TX10) (N := 9) hx hb hts inX10 tyX10 tyX10_ok nmX10 hown hK hT0 (fun _ h => h) hS0 (on_w0 hW) rfl 8 rfl wF_X10_56 rfl rfl trivial rfl rfl dX10_fail_2 (fun H1 locs hT1 hS1 hu1 => ?_)
  refine lv_iconst (v := (-1)) hx hb dX10_fail_5 (by decide) ?_
  exact hret _ _ _ _ _ hT1 hS1 rfl dX10_fail_6
set_option maxHeartbeats 4000000 in
set_option maxRecDepth 100000 in
theorem c_X10_refuse (l : Launch) (G : hG) (Y : hW) (o : Nat) (hW : h_On Y o (wldE tF o)) (u1 : Int32) : hMi l yX10_refuse cX10_refuse 2 (some .boolean) 0 0 G Y [.ref (o), .int u1] (fun H => True) (fun H r H1 => r = 0) := by
  refine h_ofz (by decide +kernel) (Nat.le_of_ble_eq_true rfl) ?_
  intro p e s m args below meth c H0 ls Q hx hb hts hown hml hK hT0 hpr hS0 hl hret
  have hl : lv_has ls 2 [(0, .ref (o)), (1, .int u1)] := hl
  refine lv_aload_n hx hb dX10_refuse_0 rfl (lv_at hl 0 rfl) ?_
  refine lv_iload_n hx hb dX10_refuse_1 rfl (lv_at hl 1 rfl) ?_
  refine h_puti (C := RX10) (T := TX10) (N := 9) hx hb hts inX10 tyX10 tyX10_ok nmX10 hown hK hT0 (fun _ h => h) hS0 (on_w0 hW) rfl 8 rfl wF_X10_56 rfl rfl trivial rfl rfl dX10_refuse_2 (fun H1 locs hT1 hS1 hu1 => ?_)
  refine lv_iconst (v := 0) hx hb dX10_refuse_5 (by decide) ?_
  exact hret _ _ _ _ _ hT1 hS1 ⟨by decide, rfl⟩ dX10_refuse_6
set_option maxHeartbeats 4000000 in
set_option maxRecDepth 100000 in
theorem c_X10_succeed (l : Launch) (G : hG) (Y : hW) (o : Nat) (hW : h_On Y o (wldE tF o)) : hMi l yX10_succeed cX10_succeed 1 (some .boolean) 0 0 G Y [.ref (o)] (fun H => True) (fun H r H1 => r = 1) := by
  refine h_ofz (by decide +kernel) (Nat.le_of_ble_eq_true rfl) ?_
  intro p e s m args below meth c H0 ls Q hx hb hts hown hml hK hT0 hpr hS0 hl hret
  have hl : lv_has ls 1 [(0, .ref (o))] := hl
  refine lv_aload_n hx hb dX10_succeed_0 rfl (lv_at hl 0 rfl) ?_
  refine lv_iconst (v := 0) hx hb dX10_succeed_1 (by decide) ?_
  refine h_puti (C := RX10) (T := TX10) (N := 9) hx hb hts inX10 tyX10 tyX10_ok nmX10 hown hK hT0 (fun _ h => h) hS0 (on_w0 hW) rfl 8 rfl wF_X10_56 rfl rfl trivial rfl rfl dX10_succeed_2 (fun H1 locs hT1 hS1 hu1 => ?_)
  refine lv_iconst (v := 1) hx hb dX10_succeed_5 (by decide) ?_
  exact hret _ _ _ _ _ hT1 hS1 ⟨by decide, rfl⟩ dX10_succeed_6
set_option maxHeartbeats 4000000 in
set_option maxRecDepth 100000 in
theorem c_X10_station (l : Launch) (G : hG) (Y : hW) (o : Nat) (hW : h_On Y o (wldE tF o)) (u1 u2 : Int32) : hMi l yX10_station cX10_station 3 (some .int) 1 21 G Y [.ref (o), .int u1, .int u2] (fun H => True) (fun H r H1 => r = (-1)) := by
  refine h_ofi (by decide +kernel) (Nat.le_of_ble_eq_true rfl) ?_
  intro p e s m args below meth c H0 ls Q hx hb hts hown hml hK hT0 hpr hS0 hl hret
  have hl : lv_has ls 3 [(0, .ref (o)), (1, .int u1), (2, .int u2)] := hl
  refine lv_iload_n hx hb dX10_station_0 rfl (lv_at hl 2 rfl) ?_
  refine lv_if_lt (tgt := 10) hx hb dX10_station_1 (by decide) (fun c1 => ?_) (fun c1 => ?_)
  · skip
    refine lv_aload_n hx hb dX10_station_10 rfl (lv_at hl 0 rfl) ?_
    refine lv_iconst (v := 1) hx hb dX10_station_11 (by decide) ?_
    refine h_callVi (T := TX10) (rest := []) (As := [.int 1]) hx hb hml hown hts hK hT0 (fun _ h => h) hS0 (c_X10_fail l G Y (o) hW 1) trivial wd_X10_fail wV_X10_fail wL_X10_66 (on_w0 hW) rfl rfl hl.1 rfl (Nat.le_of_ble_eq_true rfl) dX10_station_12 ⟨Nat.le_of_ble_eq_true rfl, Nat.le_of_ble_eq_true rfl⟩ ⟨Nat.zero_le _, Nat.zero_le _⟩ (fun r2 H1 locs hp1 hT1 hS1 hk1 => ?_)
    have hp1 : r2 = (-1) := hp1
    subst hp1
    exact hret _ _ _ _ _ hT1 hS1 rfl dX10_station_15
  · skip
    refine lv_iload_n hx hb dX10_station_4 rfl (lv_at hl 2 rfl) ?_
    refine lv_bipush (v := 9) hx hb dX10_station_5 (by decide) ?_
    refine lv_icmp_le (tgt := 16) hx hb dX10_station_7 (by decide) (fun c3 => ?_) (fun c3 => ?_)
    · skip
      refine lv_aload_n hx hb dX10_station_16 rfl (lv_at hl 0 rfl) ?_
      refine h_getr (C := RX10) (T := TX10) (N := 9) hx hb hts inX10 hown hK hT0 (on_w0 hW) rfl 1 rfl wF_X10_19 rfl dX10_station_17 ?_
      refine h_getr (C := RX5) (T := TX5) (N := 11) hx hb hts inX5 hown hK hT0 (on_rg (on_wr hW)) rfl 0 rfl wF_X10_86 rfl dX10_station_20 ?_
      refine lv_iload_n hx hb dX10_station_23 rfl (lv_at hl 1 rfl) ?_
      refine h_callVi (T := TX7) (rest := []) (As := [.int u1]) hx hb hml hown hts hK hT0 (fun _ h => h) hS0 (c_X7_exists l G Y (o + 3 + 1) (on_st (on_wr hW)) u1) trivial wd_X7_exists wV_X7_exists wL_X10_146 ((on_st (on_wr hW)).o rfl) rfl rfl hl.1 rfl (Nat.le_of_ble_eq_true rfl) dX10_station_24 ⟨Nat.le_of_ble_eq_true rfl, Nat.le_of_ble_eq_true rfl⟩ ⟨Nat.zero_le _, Nat.zero_le _⟩ (fun r4 H2 locs hp2 hT2 hS2 hk2 => ?_)
      obtain ⟨hp2, he⟩ := hp2
      have he := he.symm
      subst he
      have hp2 : r4 = 0 := hp2
      subst hp2
      refine lv_if_ne (tgt := 36) hx hb dX10_station_27 (by decide) (fun h => absurd (by decide) h) (fun _ => ?_)
      refine lv_aload_n hx hb dX10_station_30 rfl (lv_at hl 0 rfl) ?_
      refine lv_iconst (v := 2) hx hb dX10_station_31 (by decide) ?_
      refine h_callVi (T := TX10) (rest := []) (As := [.int 2]) hx hb hml hown hts hK hT0 (fun _ h => h) hS2 (c_X10_fail l G Y (o) hW 2) trivial wd_X10_fail wV_X10_fail wL_X10_66 (on_w0 hW) rfl rfl hl.1 rfl (Nat.le_of_ble_eq_true rfl) dX10_station_32 ⟨Nat.le_of_ble_eq_true rfl, Nat.le_of_ble_eq_true rfl⟩ ⟨Nat.zero_le _, Nat.zero_le _⟩ (fun r6 H3 locs hp3 hT3 hS3 hk3 => ?_)
      have hp3 : r6 = (-1) := hp3
      subst hp3
      exact hret _ _ _ _ _ hT3 hS3 rfl dX10_station_35
    · skip
      refine lv_aload_n hx hb dX10_station_10 rfl (lv_at hl 0 rfl) ?_
      refine lv_iconst (v := 1) hx hb dX10_station_11 (by decide) ?_
      refine h_callVi (T := TX10) (rest := []) (As := [.int 1]) hx hb hml hown hts hK hT0 (fun _ h => h) hS0 (c_X10_fail l G Y (o) hW 1) trivial wd_X10_fail wV_X10_fail wL_X10_66 (on_w0 hW) rfl rfl hl.1 rfl (Nat.le_of_ble_eq_true rfl) dX10_station_12 ⟨Nat.le_of_ble_eq_true rfl, Nat.le_of_ble_eq_true rfl⟩ ⟨Nat.zero_le _, Nat.zero_le _⟩ (fun r7 H4 locs hp4 hT4 hS4 hk4 => ?_)
      have hp4 : r7 = (-1) := hp4
      subst hp4
      exact hret _ _ _ _ _ hT4 hS4 rfl dX10_station_15
set_option maxHeartbeats 4000000 in
set_option maxRecDepth 100000 in
theorem c_X10_waits (l : Launch) (G : hG) (Y : hW) (o : Nat) (hW : h_On Y o (wldE tF o)) (u1 u2 u3 : Int32) : hMi l yX10_waits cX10_waits 5 (some .int) 1 21 G Y [.ref (o), .int u1, .int u2, .int u3] (fun H => True) (fun H r H1 => r = (-1)) := by
  refine h_ofi (by decide +kernel) (Nat.le_of_ble_eq_true rfl) ?_
  intro p e s m args below meth c H0 ls Q hx hb hts hown hml hK hT0 hpr hS0 hl hret
  have hl : lv_has ls 5 [(0, .ref (o)), (1, .int u1), (2, .int u2), (3, .int u3)] := hl
  refine lv_iload_n hx hb dX10_waits_0 rfl (lv_at hl 2 rfl) ?_
  refine lv_if_lt (tgt := 13) hx hb dX10_waits_1 (by decide) (fun c1 => ?_) (fun c1 => ?_)
  · skip
    refine lv_aload_n hx hb dX10_waits_13 rfl (lv_at hl 0 rfl) ?_
    refine lv_iconst (v := 1) hx hb dX10_waits_14 (by decide) ?_
    refine h_callVi (T := TX10) (rest := []) (As := [.int 1]) hx hb hml hown hts hK hT0 (fun _ h => h) hS0 (c_X10_fail l G Y (o) hW 1) trivial wd_X10_fail wV_X10_fail wL_X10_66 (on_w0 hW) rfl rfl hl.1 rfl (Nat.le_of_ble_eq_true rfl) dX10_waits_15 ⟨Nat.le_of_ble_eq_true rfl, Nat.le_of_ble_eq_true rfl⟩ ⟨Nat.zero_le _, Nat.zero_le _⟩ (fun r2 H1 locs hp1 hT1 hS1 hk1 => ?_)
    have hp1 : r2 = (-1) := hp1
    subst hp1
    exact hret _ _ _ _ _ hT1 hS1 rfl dX10_waits_18
  · skip
    refine lv_iload_n hx hb dX10_waits_4 rfl (lv_at hl 3 rfl) ?_
    refine lv_if_lt (tgt := 13) hx hb dX10_waits_5 (by decide) (fun c3 => ?_) (fun c3 => ?_)
    · skip
      refine lv_aload_n hx hb dX10_waits_13 rfl (lv_at hl 0 rfl) ?_
      refine lv_iconst (v := 1) hx hb dX10_waits_14 (by decide) ?_
      refine h_callVi (T := TX10) (rest := []) (As := [.int 1]) hx hb hml hown hts hK hT0 (fun _ h => h) hS0 (c_X10_fail l G Y (o) hW 1) trivial wd_X10_fail wV_X10_fail wL_X10_66 (on_w0 hW) rfl rfl hl.1 rfl (Nat.le_of_ble_eq_true rfl) dX10_waits_15 ⟨Nat.le_of_ble_eq_true rfl, Nat.le_of_ble_eq_true rfl⟩ ⟨Nat.zero_le _, Nat.zero_le _⟩ (fun r4 H2 locs hp2 hT2 hS2 hk2 => ?_)
      have hp2 : r4 = (-1) := hp2
      subst hp2
      exact hret _ _ _ _ _ hT2 hS2 rfl dX10_waits_18
    · skip
      refine lv_iload_n hx hb dX10_waits_8 rfl (lv_at hl 3 rfl) ?_
      refine lv_iconst (v := 2) hx hb dX10_waits_9 (by decide) ?_
      refine lv_icmp_le (tgt := 19) hx hb dX10_waits_10 (by decide) (fun c5 => ?_) (fun c5 => ?_)
      · skip
        refine lv_aload_n hx hb dX10_waits_19 rfl (lv_at hl 0 rfl) ?_
        refine h_getr (C := RX10) (T := TX10) (N := 9) hx hb hts inX10 hown hK hT0 (on_w0 hW) rfl 1 rfl wF_X10_19 rfl dX10_waits_20 ?_
        refine h_getr (C := RX5) (T := TX5) (N := 11) hx hb hts inX5 hown hK hT0 (on_rg (on_wr hW)) rfl 0 rfl wF_X10_86 rfl dX10_waits_23 ?_
        refine lv_iload_n hx hb dX10_waits_26 rfl (lv_at hl 1 rfl) ?_
        refine h_callVi (T := TX7) (rest := []) (As := [.int u1]) hx hb hml hown hts hK hT0 (fun _ h => h) hS0 (c_X7_exists l G Y (o + 3 + 1) (on_st (on_wr hW)) u1) trivial wd_X7_exists wV_X7_exists wL_X10_146 ((on_st (on_wr hW)).o rfl) rfl rfl hl.1 rfl (Nat.le_of_ble_eq_true rfl) dX10_waits_27 ⟨Nat.le_of_ble_eq_true rfl, Nat.le_of_ble_eq_true rfl⟩ ⟨Nat.zero_le _, Nat.zero_le _⟩ (fun r6 H3 locs hp3 hT3 hS3 hk3 => ?_)
        obtain ⟨hp3, he⟩ := hp3
        have he := he.symm
        subst he
        have hp3 : r6 = 0 := hp3
        subst hp3
        refine lv_if_ne (tgt := 39) hx hb dX10_waits_30 (by decide) (fun h => absurd (by decide) h) (fun _ => ?_)
        refine lv_aload_n hx hb dX10_waits_33 rfl (lv_at hl 0 rfl) ?_
        refine lv_iconst (v := 2) hx hb dX10_waits_34 (by decide) ?_
        refine h_callVi (T := TX10) (rest := []) (As := [.int 2]) hx hb hml hown hts hK hT0 (fun _ h => h) hS3 (c_X10_fail l G Y (o) hW 2) trivial wd_X10_fail wV_X10_fail wL_X10_66 (on_w0 hW) rfl rfl hl.1 rfl (Nat.le_of_ble_eq_true rfl) dX10_waits_35 ⟨Nat.le_of_ble_eq_true rfl, Nat.le_of_ble_eq_true rfl⟩ ⟨Nat.zero_le _, Nat.zero_le _⟩ (fun r8 H4 locs hp4 hT4 hS4 hk4 => ?_)
        have hp4 : r8 = (-1) := hp4
        subst hp4
        exact hret _ _ _ _ _ hT4 hS4 rfl dX10_waits_38
      · skip
        refine lv_aload_n hx hb dX10_waits_13 rfl (lv_at hl 0 rfl) ?_
        refine lv_iconst (v := 1) hx hb dX10_waits_14 (by decide) ?_
        refine h_callVi (T := TX10) (rest := []) (As := [.int 1]) hx hb hml hown hts hK hT0 (fun _ h => h) hS0 (c_X10_fail l G Y (o) hW 1) trivial wd_X10_fail wV_X10_fail wL_X10_66 (on_w0 hW) rfl rfl hl.1 rfl (Nat.le_of_ble_eq_true rfl) dX10_waits_15 ⟨Nat.le_of_ble_eq_true rfl, Nat.le_of_ble_eq_true rfl⟩ ⟨Nat.zero_le _, Nat.zero_le _⟩ (fun r9 H5 locs hp5 hT5 hS5 hk5 => ?_)
        have hp5 : r9 = (-1) := hp5
        subst hp5
        exact hret _ _ _ _ _ hT5 hS5 rfl dX10_waits_18
set_option maxHeartbeats 4000000 in
set_option maxRecDepth 100000 in
theorem c_X10_way (l : Launch) (G : hG) (Y : hW) (o : Nat) (hW : h_On Y o (wldE tF o)) (u1 : Int32) : hMi l yX10_way cX10_way 3 (some .int) 1 21 G Y [.ref (o), .int u1] (fun H => True) (fun H r H1 => ((u1.toInt = 0) → r = 0) ∧ (¬ (u1.toInt = 0) → r = -1)) := by
  refine h_ofi (by decide +kernel) (Nat.le_of_ble_eq_true rfl) ?_
  intro p e s m args below meth c H0 ls Q hx hb hts hown hml hK hT0 hpr hS0 hl hret
  have hl : lv_has ls 3 [(0, .ref (o)), (1, .int u1)] := hl
  refine lv_iload_n hx hb dX10_way_0 rfl (lv_at hl 1 rfl) ?_
  refine lv_if_lt (tgt := 10) hx hb dX10_way_1 (by decide) (fun c1 => ?_) (fun c1 => ?_)
  · skip
    refine lv_aload_n hx hb dX10_way_10 rfl (lv_at hl 0 rfl) ?_
    refine lv_iconst (v := 1) hx hb dX10_way_11 (by decide) ?_
    refine h_callVi (T := TX10) (rest := []) (As := [.int 1]) hx hb hml hown hts hK hT0 (fun _ h => h) hS0 (c_X10_fail l G Y (o) hW 1) trivial wd_X10_fail wV_X10_fail wL_X10_66 (on_w0 hW) rfl rfl hl.1 rfl (Nat.le_of_ble_eq_true rfl) dX10_way_12 ⟨Nat.le_of_ble_eq_true rfl, Nat.le_of_ble_eq_true rfl⟩ ⟨Nat.zero_le _, Nat.zero_le _⟩ (fun r2 H1 locs hp1 hT1 hS1 hk1 => ?_)
    have hp1 : r2 = (-1) := hp1
    subst hp1
    exact hret _ _ _ _ _ hT1 hS1 (by refine ⟨fun h => ?_, fun h => ?_⟩ <;> first | rfl | exact absurd h (by decide) | (exfalso; simp only [Int32.lt_iff_toInt_lt, Int32.le_iff_toInt_le, ← Int32.toInt_inj, Int32.reduceToInt, (show (-1 : Int32).toInt = -1 from rfl)] at c1 <;> omega)) dX10_way_15
  · skip
    refine lv_iload_n hx hb dX10_way_4 rfl (lv_at hl 1 rfl) ?_
    refine lv_bipush (v := 9) hx hb dX10_way_5 (by decide) ?_
    refine lv_icmp_le (tgt := 16) hx hb dX10_way_7 (by decide) (fun c3 => ?_) (fun c3 => ?_)
    · skip
      refine lv_aload_n hx hb dX10_way_16 rfl (lv_at hl 0 rfl) ?_
      refine h_getr (C := RX10) (T := TX10) (N := 9) hx hb hts inX10 hown hK hT0 (on_w0 hW) rfl 1 rfl wF_X10_19 rfl dX10_way_17 ?_
      refine h_getr (C := RX5) (T := TX5) (N := 11) hx hb hts inX5 hown hK hT0 (on_rg (on_wr hW)) rfl 3 rfl wF_X10_120 rfl dX10_way_20 ?_
      refine h_getc (v := 0) (C := RX9) (T := TX9) (N := 11) hx hb hts inX9 hown hK hT0 ((on_wa (on_wr hW)).o rfl) rfl 0 rfl wF_X10_124 rfl (fun _ h => h) dX10_way_23 ?_
      refine lv_istore_n (lv' := [(2, .int 0), (0, .ref (o)), (1, .int u1)]) hx hb dX10_way_26 rfl hl (by decide) rfl (fun ls hl => ?_)
      refine lv_iload_n hx hb dX10_way_27 rfl (lv_at hl 2 rfl) ?_
      refine lv_iconst (v := 1) hx hb dX10_way_28 (by decide) ?_
      refine lv_icmp_lt (tgt := 36) hx hb dX10_way_29 (by decide) (fun c4 => ?_) (fun c4 => ?_)
      · skip
        refine lv_iload_n hx hb dX10_way_36 rfl (lv_at hl 2 rfl) ?_
        refine lv_iconst (v := 5) hx hb dX10_way_37 (by decide) ?_
        refine lv_icmp_lt (tgt := 53) hx hb dX10_way_38 (by decide) (fun _ => ?_) (fun h => absurd (by simp only [Int32.lt_iff_toInt_lt, Int32.le_iff_toInt_le, ← Int32.toInt_inj, Int32.reduceToInt, (show (-1 : Int32).toInt = -1 from rfl)] at c1 c3 c4 ⊢; omega) h)
        refine lv_aload_n hx hb dX10_way_53 rfl (lv_at hl 1 rfl) ?_
        refine lv_aload_n hx hb dX10_way_54 rfl (lv_at hl 1 rfl) ?_
        refine h_getr (C := RX10) (T := TX10) (N := 9) hx hb hts inX10 hown hK hT0 (on_w0 hW) rfl 1 rfl wF_X10_19 rfl dX10_way_55 ?_
        refine h_getr (C := RX5) (T := TX5) (N := 11) hx hb hts inX5 hown hK hT0 (on_rg (on_wr hW)) rfl 3 rfl wF_X10_120 rfl dX10_way_58 ?_
        refine lv_iload_n hx hb dX10_way_61 rfl (lv_at hl 2 rfl) ?_
        refine h_callVi (T := TX9) (rest := [.ref (o)]) (As := [.int u1]) hx hb hml hown hts hK hT0 (fun _ h => h) hS0 (c_X9_tell l G Y (o + 3 + 17) (on_wa (on_wr hW)) u1) trivial wd_X9_tell wV_X9_tell wL_X10_168 ((on_wa (on_wr hW)).o rfl) rfl rfl hl.1 rfl (Nat.le_of_ble_eq_true rfl) dX10_way_62 ⟨Nat.le_of_ble_eq_true rfl, Nat.le_of_ble_eq_true rfl⟩ ⟨Nat.zero_le _, Nat.zero_le _⟩ (fun r5 H2 locs hp2 hT2 hS2 hk2 => ?_)
        obtain ⟨hp2, he⟩ := hp2
        have he := he.symm
        subst he
        obtain rfl : r5 = 0 := hp2 (by simp only [Int32.lt_iff_toInt_lt, Int32.le_iff_toInt_le, ← Int32.toInt_inj, Int32.reduceToInt, (show (-1 : Int32).toInt = -1 from rfl)] at c1 c3 c4 ⊢; omega)
        refine h_callVi (T := TX10) (rest := []) (As := [.int 0]) hx hb hml hown hts hK hT0 (fun _ h => h) hS2 (c_X10_give l G Y (o) hW 0) trivial wd_X10_give wV_X10_give wL_X10_95 (on_w0 hW) rfl rfl hl.1 rfl (Nat.le_of_ble_eq_true rfl) dX10_way_65 ⟨Nat.le_of_ble_eq_true rfl, Nat.le_of_ble_eq_true rfl⟩ ⟨Nat.zero_le _, Nat.zero_le _⟩ (fun r6 H3 locs hp3 hT3 hS3 hk3 => ?_)
        have hp3 : r6 = 0 := hp3
        subst hp3
        exact hret _ _ _ _ _ hT3 hS3 (by refine ⟨fun h => ?_, fun h => ?_⟩ <;> first | rfl | exact absurd h (by decide) | (exfalso; simp only [Int32.lt_iff_toInt_lt, Int32.le_iff_toInt_le, ← Int32.toInt_inj, Int32.reduceToInt, (show (-1 : Int32).toInt = -1 from rfl)] at c1 c3 c4 <;> omega)) dX10_way_68
      · skip
        refine lv_iload_n hx hb dX10_way_32 rfl (lv_at hl 0 rfl) ?_
        refine lv_if_eq (tgt := 46) hx hb dX10_way_33 (by decide) (fun _ => ?_) (fun h => absurd (by decide) h)
        refine lv_aload_n hx hb dX10_way_46 rfl (lv_at hl 1 rfl) ?_
        refine lv_bipush (v := 6) hx hb dX10_way_47 (by decide) ?_
        refine h_callVi (T := TX10) (rest := []) (As := [.int 6]) hx hb hml hown hts hK hT0 (fun _ h => h) hS0 (c_X10_fail l G Y (o) hW 6) trivial wd_X10_fail wV_X10_fail wL_X10_66 (on_w0 hW) rfl rfl hl.1 rfl (Nat.le_of_ble_eq_true rfl) dX10_way_49 ⟨Nat.le_of_ble_eq_true rfl, Nat.le_of_ble_eq_true rfl⟩ ⟨Nat.zero_le _, Nat.zero_le _⟩ (fun r8 H4 locs hp4 hT4 hS4 hk4 => ?_)
        have hp4 : r8 = (-1) := hp4
        subst hp4
        exact hret _ _ _ _ _ hT4 hS4 (by refine ⟨fun h => ?_, fun h => ?_⟩ <;> first | rfl | exact absurd h (by decide) | (exfalso; simp only [Int32.lt_iff_toInt_lt, Int32.le_iff_toInt_le, ← Int32.toInt_inj, Int32.reduceToInt, (show (-1 : Int32).toInt = -1 from rfl)] at c1 c3 c4 <;> omega)) dX10_way_52
    · skip
      refine lv_aload_n hx hb dX10_way_10 rfl (lv_at hl 0 rfl) ?_
      refine lv_iconst (v := 1) hx hb dX10_way_11 (by decide) ?_
      refine h_callVi (T := TX10) (rest := []) (As := [.int 1]) hx hb hml hown hts hK hT0 (fun _ h => h) hS0 (c_X10_fail l G Y (o) hW 1) trivial wd_X10_fail wV_X10_fail wL_X10_66 (on_w0 hW) rfl rfl hl.1 rfl (Nat.le_of_ble_eq_true rfl) dX10_way_12 ⟨Nat.le_of_ble_eq_true rfl, Nat.le_of_ble_eq_true rfl⟩ ⟨Nat.zero_le _, Nat.zero_le _⟩ (fun r9 H5 locs hp5 hT5 hS5 hk5 => ?_)
      have hp5 : r9 = (-1) := hp5
      subst hp5
      exact hret _ _ _ _ _ hT5 hS5 (by refine ⟨fun h => ?_, fun h => ?_⟩ <;> first | rfl | exact absurd h (by decide) | (exfalso; simp only [Int32.lt_iff_toInt_lt, Int32.le_iff_toInt_le, ← Int32.toInt_inj, Int32.reduceToInt, (show (-1 : Int32).toInt = -1 from rfl)] at c1 c3 <;> omega)) dX10_way_15
set_option maxHeartbeats 4000000 in
set_option maxRecDepth 100000 in
theorem c_X10_beacon (l : Launch) (G : hG) (Y : hW) (o : Nat) (hW : h_On Y o (wldE tF o)) (u1 : Int32) : hMi l yX10_beacon cX10_beacon 3 (some .int) 1 21 G Y [.ref (o), .int u1] (fun H => True) (fun H r H1 => ((u1.toInt = 0) → r = 0) ∧ (¬ (u1.toInt = 0) → r = -1)) := by
  refine h_ofi (by decide +kernel) (Nat.le_of_ble_eq_true rfl) ?_
  intro p e s m args below meth c H0 ls Q hx hb hts hown hml hK hT0 hpr hS0 hl hret
  have hl : lv_has ls 3 [(0, .ref (o)), (1, .int u1)] := hl
  refine lv_iload_n hx hb dX10_beacon_0 rfl (lv_at hl 1 rfl) ?_
  refine lv_if_lt (tgt := 9) hx hb dX10_beacon_1 (by decide) (fun c1 => ?_) (fun c1 => ?_)
  · skip
    refine lv_aload_n hx hb dX10_beacon_9 rfl (lv_at hl 0 rfl) ?_
    refine lv_iconst (v := 1) hx hb dX10_beacon_10 (by decide) ?_
    refine h_callVi (T := TX10) (rest := []) (As := [.int 1]) hx hb hml hown hts hK hT0 (fun _ h => h) hS0 (c_X10_fail l G Y (o) hW 1) trivial wd_X10_fail wV_X10_fail wL_X10_66 (on_w0 hW) rfl rfl hl.1 rfl (Nat.le_of_ble_eq_true rfl) dX10_beacon_11 ⟨Nat.le_of_ble_eq_true rfl, Nat.le_of_ble_eq_true rfl⟩ ⟨Nat.zero_le _, Nat.zero_le _⟩ (fun r2 H1 locs hp1 hT1 hS1 hk1 => ?_)
    have hp1 : r2 = (-1) := hp1
    subst hp1
    exact hret _ _ _ _ _ hT1 hS1 (by refine ⟨fun h => ?_, fun h => ?_⟩ <;> first | rfl | exact absurd h (by decide) | (exfalso; simp only [Int32.lt_iff_toInt_lt, Int32.le_iff_toInt_le, ← Int32.toInt_inj, Int32.reduceToInt, (show (-1 : Int32).toInt = -1 from rfl)] at c1 <;> omega)) dX10_beacon_14
  · skip
    refine lv_iload_n hx hb dX10_beacon_4 rfl (lv_at hl 1 rfl) ?_
    refine lv_iconst (v := 2) hx hb dX10_beacon_5 (by decide) ?_
    refine lv_icmp_le (tgt := 15) hx hb dX10_beacon_6 (by decide) (fun c3 => ?_) (fun c3 => ?_)
    · skip
      refine lv_aload_n hx hb dX10_beacon_15 rfl (lv_at hl 0 rfl) ?_
      refine h_getr (C := RX10) (T := TX10) (N := 9) hx hb hts inX10 hown hK hT0 (on_w0 hW) rfl 1 rfl wF_X10_19 rfl dX10_beacon_16 ?_
      refine h_getr (C := RX5) (T := TX5) (N := 11) hx hb hts inX5 hown hK hT0 (on_rg (on_wr hW)) rfl 4 rfl wF_X10_129 rfl dX10_beacon_19 ?_
      refine lv_astore_n (lv' := [(2, .ref (o + 3 + 18)), (0, .ref (o)), (1, .int u1)]) hx hb dX10_beacon_22 rfl hl (by decide) rfl (fun ls hl => ?_)
      refine lv_iload_n hx hb dX10_beacon_23 rfl (lv_at hl 2 rfl) ?_
      refine lv_if_ne (tgt := 36) hx hb dX10_beacon_24 (by decide) (fun c4 => ?_) (fun c4 => ?_)
      · skip
        refine lv_aload_n hx hb dX10_beacon_36 rfl (lv_at hl 0 rfl) ?_
        refine h_getc (v := 0) (C := RX6) (T := TX6) (N := 4) hx hb hts inX6 hown hK hT0 ((on_si (on_wr hW)).o rfl) rfl 1 rfl wF_X10_171 rfl (fun _ h => h) dX10_beacon_37 ?_
        refine lv_iconst (v := 2) hx hb dX10_beacon_40 (by decide) ?_
        refine lv_icmp_eq (tgt := 50) hx hb dX10_beacon_41 (by decide) (fun h => absurd h (by decide)) (fun _ => ?_)
        refine lv_aload_n hx hb dX10_beacon_44 rfl (lv_at hl 1 rfl) ?_
        refine lv_iconst (v := 5) hx hb dX10_beacon_45 (by decide) ?_
        refine h_callVi (T := TX10) (rest := []) (As := [.int 5]) hx hb hml hown hts hK hT0 (fun _ h => h) hS0 (c_X10_fail l G Y (o) hW 5) trivial wd_X10_fail wV_X10_fail wL_X10_66 (on_w0 hW) rfl rfl hl.1 rfl (Nat.le_of_ble_eq_true rfl) dX10_beacon_46 ⟨Nat.le_of_ble_eq_true rfl, Nat.le_of_ble_eq_true rfl⟩ ⟨Nat.zero_le _, Nat.zero_le _⟩ (fun r6 H2 locs hp2 hT2 hS2 hk2 => ?_)
        have hp2 : r6 = (-1) := hp2
        subst hp2
        exact hret _ _ _ _ _ hT2 hS2 (by refine ⟨fun h => ?_, fun h => ?_⟩ <;> first | rfl | exact absurd h (by decide) | (exfalso; simp only [Int32.lt_iff_toInt_lt, Int32.le_iff_toInt_le, ← Int32.toInt_inj, Int32.reduceToInt, (show (-1 : Int32).toInt = -1 from rfl)] at c1 c3 c4 <;> omega)) dX10_beacon_49
      · skip
        refine lv_aload_n hx hb dX10_beacon_27 rfl (lv_at hl 1 rfl) ?_
        refine lv_aload_n hx hb dX10_beacon_28 rfl (lv_at hl 0 rfl) ?_
        refine h_getc (v := 0) (C := RX6) (T := TX6) (N := 4) hx hb hts inX6 hown hK hT0 ((on_si (on_wr hW)).o rfl) rfl 1 rfl wF_X10_171 rfl (fun _ h => h) dX10_beacon_29 ?_
        refine h_callVi (T := TX10) (rest := []) (As := [.int 0]) hx hb hml hown hts hK hT0 (fun _ h => h) hS0 (c_X10_give l G Y (o) hW 0) trivial wd_X10_give wV_X10_give wL_X10_95 (on_w0 hW) rfl rfl hl.1 rfl (Nat.le_of_ble_eq_true rfl) dX10_beacon_32 ⟨Nat.le_of_ble_eq_true rfl, Nat.le_of_ble_eq_true rfl⟩ ⟨Nat.zero_le _, Nat.zero_le _⟩ (fun r7 H3 locs hp3 hT3 hS3 hk3 => ?_)
        have hp3 : r7 = 0 := hp3
        subst hp3
        exact hret _ _ _ _ _ hT3 hS3 (by refine ⟨fun h => ?_, fun h => ?_⟩ <;> first | rfl | exact absurd h (by decide) | (exfalso; simp only [Int32.lt_iff_toInt_lt, Int32.le_iff_toInt_le, ← Int32.toInt_inj, Int32.reduceToInt, (show (-1 : Int32).toInt = -1 from rfl)] at c1 c3 c4 <;> omega)) dX10_beacon_35
    · skip
      refine lv_aload_n hx hb dX10_beacon_9 rfl (lv_at hl 0 rfl) ?_
      refine lv_iconst (v := 1) hx hb dX10_beacon_10 (by decide) ?_
      refine h_callVi (T := TX10) (rest := []) (As := [.int 1]) hx hb hml hown hts hK hT0 (fun _ h => h) hS0 (c_X10_fail l G Y (o) hW 1) trivial wd_X10_fail wV_X10_fail wL_X10_66 (on_w0 hW) rfl rfl hl.1 rfl (Nat.le_of_ble_eq_true rfl) dX10_beacon_11 ⟨Nat.le_of_ble_eq_true rfl, Nat.le_of_ble_eq_true rfl⟩ ⟨Nat.zero_le _, Nat.zero_le _⟩ (fun r8 H4 locs hp4 hT4 hS4 hk4 => ?_)
      have hp4 : r8 = (-1) := hp4
      subst hp4
      exact hret _ _ _ _ _ hT4 hS4 (by refine ⟨fun h => ?_, fun h => ?_⟩ <;> first | rfl | exact absurd h (by decide) | (exfalso; simp only [Int32.lt_iff_toInt_lt, Int32.le_iff_toInt_le, ← Int32.toInt_inj, Int32.reduceToInt, (show (-1 : Int32).toInt = -1 from rfl)] at c1 c3 <;> omega)) dX10_beacon_14
set_option maxHeartbeats 4000000 in
set_option maxRecDepth 100000 in
theorem c_X10_been (l : Launch) (G : hG) (Y : hW) (o : Nat) (hW : h_On Y o (wldE tF o)) (u1 : Int32) : hMi l yX10_been cX10_been 2 (some .int) 1 21 G Y [.ref (o), .int u1] (fun H => True) (fun H r H1 => ((0 ≤ u1.toInt ∧ u1.toInt ≤ 9) → r = 0) ∧ (¬ (0 ≤ u1.toInt ∧ u1.toInt ≤ 9) → r = -1)) := by
  refine h_ofi (by decide +kernel) (Nat.le_of_ble_eq_true rfl) ?_
  intro p e s m args below meth c H0 ls Q hx hb hts hown hml hK hT0 hpr hS0 hl hret
  have hl : lv_has ls 2 [(0, .ref (o)), (1, .int u1)] := hl
  refine lv_iload_n hx hb dX10_been_0 rfl (lv_at hl 1 rfl) ?_
  refine lv_if_lt (tgt := 10) hx hb dX10_been_1 (by decide) (fun c1 => ?_) (fun c1 => ?_)
  · skip
    refine lv_aload_n hx hb dX10_been_10 rfl (lv_at hl 0 rfl) ?_
    refine lv_iconst (v := 1) hx hb dX10_been_11 (by decide) ?_
    refine h_callVi (T := TX10) (rest := []) (As := [.int 1]) hx hb hml hown hts hK hT0 (fun _ h => h) hS0 (c_X10_fail l G Y (o) hW 1) trivial wd_X10_fail wV_X10_fail wL_X10_66 (on_w0 hW) rfl rfl hl.1 rfl (Nat.le_of_ble_eq_true rfl) dX10_been_12 ⟨Nat.le_of_ble_eq_true rfl, Nat.le_of_ble_eq_true rfl⟩ ⟨Nat.zero_le _, Nat.zero_le _⟩ (fun r2 H1 locs hp1 hT1 hS1 hk1 => ?_)
    have hp1 : r2 = (-1) := hp1
    subst hp1
    exact hret _ _ _ _ _ hT1 hS1 (by refine ⟨fun h => ?_, fun h => ?_⟩ <;> first | rfl | exact absurd h (by decide) | (exfalso; simp only [Int32.lt_iff_toInt_lt, Int32.le_iff_toInt_le, ← Int32.toInt_inj, Int32.reduceToInt, (show (-1 : Int32).toInt = -1 from rfl)] at c1 <;> omega)) dX10_been_15
  · skip
    refine lv_iload_n hx hb dX10_been_4 rfl (lv_at hl 1 rfl) ?_
    refine lv_bipush (v := 10) hx hb dX10_been_5 (by decide) ?_
    refine lv_icmp_lt (tgt := 16) hx hb dX10_been_7 (by decide) (fun c3 => ?_) (fun c3 => ?_)
    · skip
      refine lv_aload_n hx hb dX10_been_16 rfl (lv_at hl 0 rfl) ?_
      refine lv_aload_n hx hb dX10_been_17 rfl (lv_at hl 0 rfl) ?_
      refine h_getr (C := RX10) (T := TX10) (N := 9) hx hb hts inX10 hown hK hT0 (on_w0 hW) rfl 1 rfl wF_X10_19 rfl dX10_been_18 ?_
      refine h_getr (C := RX5) (T := TX5) (N := 11) hx hb hts inX5 hown hK hT0 (on_rg (on_wr hW)) rfl 5 rfl wF_X10_180 rfl dX10_been_21 ?_
      refine lv_iload_n hx hb dX10_been_24 rfl (lv_at hl 1 rfl) ?_
      refine h_callVi (T := TX0) (rest := [.ref (o)]) (As := [.int u1]) hx hb hml hown hts hK hT0 (fun _ h => h) hS0 (c_X0_counted l G Y (o + 3 + 19) (on_bo (on_wr hW)) u1) trivial wd_X0_counted wV_X0_counted wL_X10_184 ((on_bo (on_wr hW)).o rfl) rfl rfl hl.1 rfl (Nat.le_of_ble_eq_true rfl) dX10_been_25 ⟨Nat.le_of_ble_eq_true rfl, Nat.le_of_ble_eq_true rfl⟩ ⟨Nat.zero_le _, Nat.zero_le _⟩ (fun r4 H2 locs hp2 hT2 hS2 hk2 => ?_)
      obtain ⟨hp2, he⟩ := hp2
      have he := he.symm
      subst he
      have hp2 : r4 = 0 := hp2
      subst hp2
      refine h_callVi (T := TX10) (rest := []) (As := [.int 0]) hx hb hml hown hts hK hT0 (fun _ h => h) hS2 (c_X10_give l G Y (o) hW 0) trivial wd_X10_give wV_X10_give wL_X10_95 (on_w0 hW) rfl rfl hl.1 rfl (Nat.le_of_ble_eq_true rfl) dX10_been_28 ⟨Nat.le_of_ble_eq_true rfl, Nat.le_of_ble_eq_true rfl⟩ ⟨Nat.zero_le _, Nat.zero_le _⟩ (fun r5 H3 locs hp3 hT3 hS3 hk3 => ?_)
      have hp3 : r5 = 0 := hp3
      subst hp3
      exact hret _ _ _ _ _ hT3 hS3 (by refine ⟨fun h => ?_, fun h => ?_⟩ <;> first | rfl | exact absurd h (by decide) | (exfalso; simp only [Int32.lt_iff_toInt_lt, Int32.le_iff_toInt_le, ← Int32.toInt_inj, Int32.reduceToInt, (show (-1 : Int32).toInt = -1 from rfl)] at c1 c3 <;> omega)) dX10_been_31
    · skip
      refine lv_aload_n hx hb dX10_been_10 rfl (lv_at hl 0 rfl) ?_
      refine lv_iconst (v := 1) hx hb dX10_been_11 (by decide) ?_
      refine h_callVi (T := TX10) (rest := []) (As := [.int 1]) hx hb hml hown hts hK hT0 (fun _ h => h) hS0 (c_X10_fail l G Y (o) hW 1) trivial wd_X10_fail wV_X10_fail wL_X10_66 (on_w0 hW) rfl rfl hl.1 rfl (Nat.le_of_ble_eq_true rfl) dX10_been_12 ⟨Nat.le_of_ble_eq_true rfl, Nat.le_of_ble_eq_true rfl⟩ ⟨Nat.zero_le _, Nat.zero_le _⟩ (fun r6 H4 locs hp4 hT4 hS4 hk4 => ?_)
      have hp4 : r6 = (-1) := hp4
      subst hp4
      exact hret _ _ _ _ _ hT4 hS4 (by refine ⟨fun h => ?_, fun h => ?_⟩ <;> first | rfl | exact absurd h (by decide) | (exfalso; simp only [Int32.lt_iff_toInt_lt, Int32.le_iff_toInt_le, ← Int32.toInt_inj, Int32.reduceToInt, (show (-1 : Int32).toInt = -1 from rfl)] at c1 c3 <;> omega)) dX10_been_15
set_option maxHeartbeats 4000000 in
set_option maxRecDepth 100000 in
theorem c_X10_got (l : Launch) (G : hG) (Y : hW) (o : Nat) (hW : h_On Y o (wldE tF o)) (u1 u2 : Int32) : hMi l yX10_got cX10_got 3 (some .int) 1 21 G Y [.ref (o), .int u1, .int u2] (fun H => True) (fun H r H1 => r = (-1)) := by
  refine h_ofi (by decide +kernel) (Nat.le_of_ble_eq_true rfl) ?_
  intro p e s m args below meth c H0 ls Q hx hb hts hown hml hK hT0 hpr hS0 hl hret
  have hl : lv_has ls 3 [(0, .ref (o)), (1, .int u1), (2, .int u2)] := hl
  refine lv_iload_n hx hb dX10_got_0 rfl (lv_at hl 1 rfl) ?_
  refine lv_if_lt (tgt := 20) hx hb dX10_got_1 (by decide) (fun c1 => ?_) (fun c1 => ?_)
  · skip
    refine lv_aload_n hx hb dX10_got_20 rfl (lv_at hl 0 rfl) ?_
    refine lv_iconst (v := 1) hx hb dX10_got_21 (by decide) ?_
    refine h_callVi (T := TX10) (rest := []) (As := [.int 1]) hx hb hml hown hts hK hT0 (fun _ h => h) hS0 (c_X10_fail l G Y (o) hW 1) trivial wd_X10_fail wV_X10_fail wL_X10_66 (on_w0 hW) rfl rfl hl.1 rfl (Nat.le_of_ble_eq_true rfl) dX10_got_22 ⟨Nat.le_of_ble_eq_true rfl, Nat.le_of_ble_eq_true rfl⟩ ⟨Nat.zero_le _, Nat.zero_le _⟩ (fun r2 H1 locs hp1 hT1 hS1 hk1 => ?_)
    have hp1 : r2 = (-1) := hp1
    subst hp1
    exact hret _ _ _ _ _ hT1 hS1 rfl dX10_got_25
  · skip
    refine lv_iload_n hx hb dX10_got_4 rfl (lv_at hl 1 rfl) ?_
    refine lv_bipush (v := 16) hx hb dX10_got_5 (by decide) ?_
    refine lv_icmp_ge (tgt := 20) hx hb dX10_got_7 (by decide) (fun c3 => ?_) (fun c3 => ?_)
    · skip
      refine lv_aload_n hx hb dX10_got_20 rfl (lv_at hl 0 rfl) ?_
      refine lv_iconst (v := 1) hx hb dX10_got_21 (by decide) ?_
      refine h_callVi (T := TX10) (rest := []) (As := [.int 1]) hx hb hml hown hts hK hT0 (fun _ h => h) hS0 (c_X10_fail l G Y (o) hW 1) trivial wd_X10_fail wV_X10_fail wL_X10_66 (on_w0 hW) rfl rfl hl.1 rfl (Nat.le_of_ble_eq_true rfl) dX10_got_22 ⟨Nat.le_of_ble_eq_true rfl, Nat.le_of_ble_eq_true rfl⟩ ⟨Nat.zero_le _, Nat.zero_le _⟩ (fun r4 H2 locs hp2 hT2 hS2 hk2 => ?_)
      have hp2 : r4 = (-1) := hp2
      subst hp2
      exact hret _ _ _ _ _ hT2 hS2 rfl dX10_got_25
    · skip
      refine lv_iload_n hx hb dX10_got_10 rfl (lv_at hl 2 rfl) ?_
      refine lv_if_lt (tgt := 20) hx hb dX10_got_11 (by decide) (fun c5 => ?_) (fun c5 => ?_)
      · skip
        refine lv_aload_n hx hb dX10_got_20 rfl (lv_at hl 0 rfl) ?_
        refine lv_iconst (v := 1) hx hb dX10_got_21 (by decide) ?_
        refine h_callVi (T := TX10) (rest := []) (As := [.int 1]) hx hb hml hown hts hK hT0 (fun _ h => h) hS0 (c_X10_fail l G Y (o) hW 1) trivial wd_X10_fail wV_X10_fail wL_X10_66 (on_w0 hW) rfl rfl hl.1 rfl (Nat.le_of_ble_eq_true rfl) dX10_got_22 ⟨Nat.le_of_ble_eq_true rfl, Nat.le_of_ble_eq_true rfl⟩ ⟨Nat.zero_le _, Nat.zero_le _⟩ (fun r6 H3 locs hp3 hT3 hS3 hk3 => ?_)
        have hp3 : r6 = (-1) := hp3
        subst hp3
        exact hret _ _ _ _ _ hT3 hS3 rfl dX10_got_25
      · skip
        refine lv_iload_n hx hb dX10_got_14 rfl (lv_at hl 2 rfl) ?_
        refine lv_bipush (v := 6) hx hb dX10_got_15 (by decide) ?_
        refine lv_icmp_lt (tgt := 26) hx hb dX10_got_17 (by decide) (fun c7 => ?_) (fun c7 => ?_)
        · skip
          refine lv_iload_n hx hb dX10_got_26 rfl (lv_at hl 1 rfl) ?_
          refine lv_aload_n hx hb dX10_got_27 rfl (lv_at hl 0 rfl) ?_
          refine h_getr (C := RX10) (T := TX10) (N := 9) hx hb hts inX10 hown hK hT0 (on_w0 hW) rfl 1 rfl wF_X10_19 rfl dX10_got_28 ?_
          refine h_getr (C := RX5) (T := TX5) (N := 11) hx hb hts inX5 hown hK hT0 (on_rg (on_wr hW)) rfl 5 rfl wF_X10_180 rfl dX10_got_31 ?_
          refine lv_iconst (v := 0) hx hb dX10_got_34 (by decide) ?_
          refine h_callVi (T := TX0) (rest := [.int u1]) (As := [.int 0]) hx hb hml hown hts hK hT0 (fun _ h => h) hS0 (c_X0_counted l G Y (o + 3 + 19) (on_bo (on_wr hW)) 0) trivial wd_X0_counted wV_X0_counted wL_X10_184 ((on_bo (on_wr hW)).o rfl) rfl rfl hl.1 rfl (Nat.le_of_ble_eq_true rfl) dX10_got_35 ⟨Nat.le_of_ble_eq_true rfl, Nat.le_of_ble_eq_true rfl⟩ ⟨Nat.zero_le _, Nat.zero_le _⟩ (fun r8 H4 locs hp4 hT4 hS4 hk4 => ?_)
          obtain ⟨hp4, he⟩ := hp4
          have he := he.symm
          subst he
          have hp4 : r8 = 0 := hp4
          subst hp4
          refine lv_icmp_lt (tgt := 47) hx hb dX10_got_38 (by decide) (fun h => absurd h (by simp only [Int32.lt_iff_toInt_lt, Int32.le_iff_toInt_le, ← Int32.toInt_inj, Int32.reduceToInt, (show (-1 : Int32).toInt = -1 from rfl)] at c1 c3 ⊢; omega)) (fun _ => ?_)
          refine lv_aload_n hx hb dX10_got_41 rfl (lv_at hl 0 rfl) ?_
          refine lv_iconst (v := 5) hx hb dX10_got_42 (by decide) ?_
          refine h_callVi (T := TX10) (rest := []) (As := [.int 5]) hx hb hml hown hts hK hT0 (fun _ h => h) hS4 (c_X10_fail l G Y (o) hW 5) trivial wd_X10_fail wV_X10_fail wL_X10_66 (on_w0 hW) rfl rfl hl.1 rfl (Nat.le_of_ble_eq_true rfl) dX10_got_43 ⟨Nat.le_of_ble_eq_true rfl, Nat.le_of_ble_eq_true rfl⟩ ⟨Nat.zero_le _, Nat.zero_le _⟩ (fun r9 H5 locs hp5 hT5 hS5 hk5 => ?_)
          have hp5 : r9 = (-1) := hp5
          subst hp5
          exact hret _ _ _ _ _ hT5 hS5 rfl dX10_got_46
        · skip
          refine lv_aload_n hx hb dX10_got_20 rfl (lv_at hl 0 rfl) ?_
          refine lv_iconst (v := 1) hx hb dX10_got_21 (by decide) ?_
          refine h_callVi (T := TX10) (rest := []) (As := [.int 1]) hx hb hml hown hts hK hT0 (fun _ h => h) hS0 (c_X10_fail l G Y (o) hW 1) trivial wd_X10_fail wV_X10_fail wL_X10_66 (on_w0 hW) rfl rfl hl.1 rfl (Nat.le_of_ble_eq_true rfl) dX10_got_22 ⟨Nat.le_of_ble_eq_true rfl, Nat.le_of_ble_eq_true rfl⟩ ⟨Nat.zero_le _, Nat.zero_le _⟩ (fun r10 H6 locs hp6 hT6 hS6 hk6 => ?_)
          have hp6 : r10 = (-1) := hp6
          subst hp6
          exact hret _ _ _ _ _ hT6 hS6 rfl dX10_got_25
set_option maxHeartbeats 4000000 in
set_option maxRecDepth 100000 in
theorem c_X10_raise (l : Launch) (G : hG) (Y : hW) (o : Nat) (hW : h_On Y o (wldE tF o)) (u1 u2 u3 : Int32) : hMi l yX10_raise cX10_raise 4 (some .int) 1 21 G Y [.ref (o), .int u1, .int u2, .int u3] (fun H => True) (fun H r H1 => r = (-1)) := by
  refine h_ofi (by decide +kernel) (Nat.le_of_ble_eq_true rfl) ?_
  intro p e s m args below meth c H0 ls Q hx hb hts hown hml hK hT0 hpr hS0 hl hret
  have hl : lv_has ls 4 [(0, .ref (o)), (1, .int u1), (2, .int u2), (3, .int u3)] := hl
  refine lv_iload_n hx hb dX10_raise_0 rfl (lv_at hl 2 rfl) ?_
  refine lv_if_lt (tgt := 13) hx hb dX10_raise_1 (by decide) (fun c1 => ?_) (fun c1 => ?_)
  · skip
    refine lv_aload_n hx hb dX10_raise_13 rfl (lv_at hl 0 rfl) ?_
    refine lv_iconst (v := 1) hx hb dX10_raise_14 (by decide) ?_
    refine h_callVi (T := TX10) (rest := []) (As := [.int 1]) hx hb hml hown hts hK hT0 (fun _ h => h) hS0 (c_X10_fail l G Y (o) hW 1) trivial wd_X10_fail wV_X10_fail wL_X10_66 (on_w0 hW) rfl rfl hl.1 rfl (Nat.le_of_ble_eq_true rfl) dX10_raise_15 ⟨Nat.le_of_ble_eq_true rfl, Nat.le_of_ble_eq_true rfl⟩ ⟨Nat.zero_le _, Nat.zero_le _⟩ (fun r2 H1 locs hp1 hT1 hS1 hk1 => ?_)
    have hp1 : r2 = (-1) := hp1
    subst hp1
    exact hret _ _ _ _ _ hT1 hS1 rfl dX10_raise_18
  · skip
    refine lv_iload_n hx hb dX10_raise_4 rfl (lv_at hl 3 rfl) ?_
    refine lv_if_lt (tgt := 13) hx hb dX10_raise_5 (by decide) (fun c3 => ?_) (fun c3 => ?_)
    · skip
      refine lv_aload_n hx hb dX10_raise_13 rfl (lv_at hl 0 rfl) ?_
      refine lv_iconst (v := 1) hx hb dX10_raise_14 (by decide) ?_
      refine h_callVi (T := TX10) (rest := []) (As := [.int 1]) hx hb hml hown hts hK hT0 (fun _ h => h) hS0 (c_X10_fail l G Y (o) hW 1) trivial wd_X10_fail wV_X10_fail wL_X10_66 (on_w0 hW) rfl rfl hl.1 rfl (Nat.le_of_ble_eq_true rfl) dX10_raise_15 ⟨Nat.le_of_ble_eq_true rfl, Nat.le_of_ble_eq_true rfl⟩ ⟨Nat.zero_le _, Nat.zero_le _⟩ (fun r4 H2 locs hp2 hT2 hS2 hk2 => ?_)
      have hp2 : r4 = (-1) := hp2
      subst hp2
      exact hret _ _ _ _ _ hT2 hS2 rfl dX10_raise_18
    · skip
      refine lv_iload_n hx hb dX10_raise_8 rfl (lv_at hl 3 rfl) ?_
      refine lv_iconst (v := 1) hx hb dX10_raise_9 (by decide) ?_
      refine lv_icmp_le (tgt := 19) hx hb dX10_raise_10 (by decide) (fun c5 => ?_) (fun c5 => ?_)
      · skip
        refine lv_aload_n hx hb dX10_raise_19 rfl (lv_at hl 0 rfl) ?_
        refine h_getr (C := RX10) (T := TX10) (N := 9) hx hb hts inX10 hown hK hT0 (on_w0 hW) rfl 1 rfl wF_X10_19 rfl dX10_raise_20 ?_
        refine h_getr (C := RX5) (T := TX5) (N := 11) hx hb hts inX5 hown hK hT0 (on_rg (on_wr hW)) rfl 0 rfl wF_X10_86 rfl dX10_raise_23 ?_
        refine lv_iload_n hx hb dX10_raise_26 rfl (lv_at hl 1 rfl) ?_
        refine h_callVi (T := TX7) (rest := []) (As := [.int u1]) hx hb hml hown hts hK hT0 (fun _ h => h) hS0 (c_X7_exists l G Y (o + 3 + 1) (on_st (on_wr hW)) u1) trivial wd_X7_exists wV_X7_exists wL_X10_146 ((on_st (on_wr hW)).o rfl) rfl rfl hl.1 rfl (Nat.le_of_ble_eq_true rfl) dX10_raise_27 ⟨Nat.le_of_ble_eq_true rfl, Nat.le_of_ble_eq_true rfl⟩ ⟨Nat.zero_le _, Nat.zero_le _⟩ (fun r6 H3 locs hp3 hT3 hS3 hk3 => ?_)
        obtain ⟨hp3, he⟩ := hp3
        have he := he.symm
        subst he
        have hp3 : r6 = 0 := hp3
        subst hp3
        refine lv_if_ne (tgt := 39) hx hb dX10_raise_30 (by decide) (fun h => absurd (by decide) h) (fun _ => ?_)
        refine lv_aload_n hx hb dX10_raise_33 rfl (lv_at hl 0 rfl) ?_
        refine lv_iconst (v := 2) hx hb dX10_raise_34 (by decide) ?_
        refine h_callVi (T := TX10) (rest := []) (As := [.int 2]) hx hb hml hown hts hK hT0 (fun _ h => h) hS3 (c_X10_fail l G Y (o) hW 2) trivial wd_X10_fail wV_X10_fail wL_X10_66 (on_w0 hW) rfl rfl hl.1 rfl (Nat.le_of_ble_eq_true rfl) dX10_raise_35 ⟨Nat.le_of_ble_eq_true rfl, Nat.le_of_ble_eq_true rfl⟩ ⟨Nat.zero_le _, Nat.zero_le _⟩ (fun r8 H4 locs hp4 hT4 hS4 hk4 => ?_)
        have hp4 : r8 = (-1) := hp4
        subst hp4
        exact hret _ _ _ _ _ hT4 hS4 rfl dX10_raise_38
      · skip
        refine lv_aload_n hx hb dX10_raise_13 rfl (lv_at hl 0 rfl) ?_
        refine lv_iconst (v := 1) hx hb dX10_raise_14 (by decide) ?_
        refine h_callVi (T := TX10) (rest := []) (As := [.int 1]) hx hb hml hown hts hK hT0 (fun _ h => h) hS0 (c_X10_fail l G Y (o) hW 1) trivial wd_X10_fail wV_X10_fail wL_X10_66 (on_w0 hW) rfl rfl hl.1 rfl (Nat.le_of_ble_eq_true rfl) dX10_raise_15 ⟨Nat.le_of_ble_eq_true rfl, Nat.le_of_ble_eq_true rfl⟩ ⟨Nat.zero_le _, Nat.zero_le _⟩ (fun r9 H5 locs hp5 hT5 hS5 hk5 => ?_)
        have hp5 : r9 = (-1) := hp5
        subst hp5
        exact hret _ _ _ _ _ hT5 hS5 rfl dX10_raise_18
set_option maxHeartbeats 4000000 in
set_option maxRecDepth 100000 in
theorem c_X10_event (l : Launch) (G : hG) (Y : hW) (o : Nat) (hW : h_On Y o (wldE tF o)) (u1 u2 : Int32) : hMi l yX10_event cX10_event 3 (some .int) 1 21 G Y [.ref (o), .int u1, .int u2] (fun H => True) (fun H r H1 => r = (-1)) := by
  refine h_ofi (by decide +kernel) (Nat.le_of_ble_eq_true rfl) ?_
  intro p e s m args below meth c H0 ls Q hx hb hts hown hml hK hT0 hpr hS0 hl hret
  have hl : lv_has ls 3 [(0, .ref (o)), (1, .int u1), (2, .int u2)] := hl
  refine lv_iload_n hx hb dX10_event_0 rfl (lv_at hl 1 rfl) ?_
  refine lv_if_lt (tgt := 19) hx hb dX10_event_1 (by decide) (fun c1 => ?_) (fun c1 => ?_)
  · skip
    refine lv_aload_n hx hb dX10_event_19 rfl (lv_at hl 0 rfl) ?_
    refine lv_iconst (v := 1) hx hb dX10_event_20 (by decide) ?_
    refine h_callVi (T := TX10) (rest := []) (As := [.int 1]) hx hb hml hown hts hK hT0 (fun _ h => h) hS0 (c_X10_fail l G Y (o) hW 1) trivial wd_X10_fail wV_X10_fail wL_X10_66 (on_w0 hW) rfl rfl hl.1 rfl (Nat.le_of_ble_eq_true rfl) dX10_event_21 ⟨Nat.le_of_ble_eq_true rfl, Nat.le_of_ble_eq_true rfl⟩ ⟨Nat.zero_le _, Nat.zero_le _⟩ (fun r2 H1 locs hp1 hT1 hS1 hk1 => ?_)
    have hp1 : r2 = (-1) := hp1
    subst hp1
    exact hret _ _ _ _ _ hT1 hS1 rfl dX10_event_24
  · skip
    refine lv_iload_n hx hb dX10_event_4 rfl (lv_at hl 1 rfl) ?_
    refine lv_bipush (v := 24) hx hb dX10_event_5 (by decide) ?_
    refine lv_icmp_ge (tgt := 19) hx hb dX10_event_7 (by decide) (fun c3 => ?_) (fun c3 => ?_)
    · skip
      refine lv_aload_n hx hb dX10_event_19 rfl (lv_at hl 0 rfl) ?_
      refine lv_iconst (v := 1) hx hb dX10_event_20 (by decide) ?_
      refine h_callVi (T := TX10) (rest := []) (As := [.int 1]) hx hb hml hown hts hK hT0 (fun _ h => h) hS0 (c_X10_fail l G Y (o) hW 1) trivial wd_X10_fail wV_X10_fail wL_X10_66 (on_w0 hW) rfl rfl hl.1 rfl (Nat.le_of_ble_eq_true rfl) dX10_event_21 ⟨Nat.le_of_ble_eq_true rfl, Nat.le_of_ble_eq_true rfl⟩ ⟨Nat.zero_le _, Nat.zero_le _⟩ (fun r4 H2 locs hp2 hT2 hS2 hk2 => ?_)
      have hp2 : r4 = (-1) := hp2
      subst hp2
      exact hret _ _ _ _ _ hT2 hS2 rfl dX10_event_24
    · skip
      refine lv_iload_n hx hb dX10_event_10 rfl (lv_at hl 2 rfl) ?_
      refine lv_if_lt (tgt := 19) hx hb dX10_event_11 (by decide) (fun c5 => ?_) (fun c5 => ?_)
      · skip
        refine lv_aload_n hx hb dX10_event_19 rfl (lv_at hl 0 rfl) ?_
        refine lv_iconst (v := 1) hx hb dX10_event_20 (by decide) ?_
        refine h_callVi (T := TX10) (rest := []) (As := [.int 1]) hx hb hml hown hts hK hT0 (fun _ h => h) hS0 (c_X10_fail l G Y (o) hW 1) trivial wd_X10_fail wV_X10_fail wL_X10_66 (on_w0 hW) rfl rfl hl.1 rfl (Nat.le_of_ble_eq_true rfl) dX10_event_21 ⟨Nat.le_of_ble_eq_true rfl, Nat.le_of_ble_eq_true rfl⟩ ⟨Nat.zero_le _, Nat.zero_le _⟩ (fun r6 H3 locs hp3 hT3 hS3 hk3 => ?_)
        have hp3 : r6 = (-1) := hp3
        subst hp3
        exact hret _ _ _ _ _ hT3 hS3 rfl dX10_event_24
      · skip
        refine lv_iload_n hx hb dX10_event_14 rfl (lv_at hl 2 rfl) ?_
        refine lv_iconst (v := 3) hx hb dX10_event_15 (by decide) ?_
        refine lv_icmp_lt (tgt := 25) hx hb dX10_event_16 (by decide) (fun c7 => ?_) (fun c7 => ?_)
        · skip
          refine lv_iload_n hx hb dX10_event_25 rfl (lv_at hl 1 rfl) ?_
          refine lv_aload_n hx hb dX10_event_26 rfl (lv_at hl 0 rfl) ?_
          refine h_getr (C := RX10) (T := TX10) (N := 9) hx hb hts inX10 hown hK hT0 (on_w0 hW) rfl 1 rfl wF_X10_19 rfl dX10_event_27 ?_
          refine h_getr (C := RX5) (T := TX5) (N := 11) hx hb hts inX5 hown hK hT0 (on_rg (on_wr hW)) rfl 5 rfl wF_X10_180 rfl dX10_event_30 ?_
          refine h_getc (v := 0) (C := RX0) (T := TX0) (N := 6) hx hb hts inX0 hown hK hT0 ((on_bo (on_wr hW)).o rfl) rfl 5 rfl wF_X10_207 rfl (fun _ h => h) dX10_event_33 ?_
          refine lv_icmp_lt (tgt := 45) hx hb dX10_event_36 (by decide) (fun h => absurd h (by simp only [Int32.lt_iff_toInt_lt, Int32.le_iff_toInt_le, ← Int32.toInt_inj, Int32.reduceToInt, (show (-1 : Int32).toInt = -1 from rfl)] at c1 c3 ⊢; omega)) (fun _ => ?_)
          refine lv_aload_n hx hb dX10_event_39 rfl (lv_at hl 0 rfl) ?_
          refine lv_iconst (v := 5) hx hb dX10_event_40 (by decide) ?_
          refine h_callVi (T := TX10) (rest := []) (As := [.int 5]) hx hb hml hown hts hK hT0 (fun _ h => h) hS0 (c_X10_fail l G Y (o) hW 5) trivial wd_X10_fail wV_X10_fail wL_X10_66 (on_w0 hW) rfl rfl hl.1 rfl (Nat.le_of_ble_eq_true rfl) dX10_event_41 ⟨Nat.le_of_ble_eq_true rfl, Nat.le_of_ble_eq_true rfl⟩ ⟨Nat.zero_le _, Nat.zero_le _⟩ (fun r8 H4 locs hp4 hT4 hS4 hk4 => ?_)
          have hp4 : r8 = (-1) := hp4
          subst hp4
          exact hret _ _ _ _ _ hT4 hS4 rfl dX10_event_44
        · skip
          refine lv_aload_n hx hb dX10_event_19 rfl (lv_at hl 0 rfl) ?_
          refine lv_iconst (v := 1) hx hb dX10_event_20 (by decide) ?_
          refine h_callVi (T := TX10) (rest := []) (As := [.int 1]) hx hb hml hown hts hK hT0 (fun _ h => h) hS0 (c_X10_fail l G Y (o) hW 1) trivial wd_X10_fail wV_X10_fail wL_X10_66 (on_w0 hW) rfl rfl hl.1 rfl (Nat.le_of_ble_eq_true rfl) dX10_event_21 ⟨Nat.le_of_ble_eq_true rfl, Nat.le_of_ble_eq_true rfl⟩ ⟨Nat.zero_le _, Nat.zero_le _⟩ (fun r9 H5 locs hp5 hT5 hS5 hk5 => ?_)
          have hp5 : r9 = (-1) := hp5
          subst hp5
          exact hret _ _ _ _ _ hT5 hS5 rfl dX10_event_24
set_option maxHeartbeats 4000000 in
set_option maxRecDepth 100000 in
theorem c_X10_ranks (l : Launch) (G : hG) (Y : hW) (o : Nat) (hW : h_On Y o (wldE tF o)) (u1 u2 : Int32) : hMi l yX10_ranks cX10_ranks 3 (some .int) 1 24 G Y [.ref (o), .int u1, .int u2] (fun H => True) (fun H r H1 => (((0 ≤ u1.toInt ∧ u1.toInt ≤ 7) ∧ (0 ≤ u2.toInt ∧ u2.toInt ≤ 2)) → r = 0) ∧ (¬ ((0 ≤ u1.toInt ∧ u1.toInt ≤ 7) ∧ (0 ≤ u2.toInt ∧ u2.toInt ≤ 2)) → r = -1)) := by
  refine h_ofi (by decide +kernel) (Nat.le_of_ble_eq_true rfl) ?_
  intro p e s m args below meth c H0 ls Q hx hb hts hown hml hK hT0 hpr hS0 hl hret
  have hl : lv_has ls 3 [(0, .ref (o)), (1, .int u1), (2, .int u2)] := hl
  refine lv_iload_n hx hb dX10_ranks_0 rfl (lv_at hl 1 rfl) ?_
  refine lv_if_lt (tgt := 19) hx hb dX10_ranks_1 (by decide) (fun c1 => ?_) (fun c1 => ?_)
  · skip
    refine lv_aload_n hx hb dX10_ranks_19 rfl (lv_at hl 0 rfl) ?_
    refine lv_iconst (v := 1) hx hb dX10_ranks_20 (by decide) ?_
    refine h_callVi (T := TX10) (rest := []) (As := [.int 1]) hx hb hml hown hts hK hT0 (fun _ h => h) hS0 (c_X10_fail l G Y (o) hW 1) trivial wd_X10_fail wV_X10_fail wL_X10_66 (on_w0 hW) rfl rfl hl.1 rfl (Nat.le_of_ble_eq_true rfl) dX10_ranks_21 ⟨Nat.le_of_ble_eq_true rfl, Nat.le_of_ble_eq_true rfl⟩ ⟨Nat.zero_le _, Nat.zero_le _⟩ (fun r2 H1 locs hp1 hT1 hS1 hk1 => ?_)
    have hp1 : r2 = (-1) := hp1
    subst hp1
    exact hret _ _ _ _ _ hT1 hS1 (by refine ⟨fun h => ?_, fun h => ?_⟩ <;> first | rfl | exact absurd h (by decide) | (exfalso; simp only [Int32.lt_iff_toInt_lt, Int32.le_iff_toInt_le, ← Int32.toInt_inj, Int32.reduceToInt, (show (-1 : Int32).toInt = -1 from rfl)] at c1 <;> omega)) dX10_ranks_24
  · skip
    refine lv_iload_n hx hb dX10_ranks_4 rfl (lv_at hl 1 rfl) ?_
    refine lv_bipush (v := 8) hx hb dX10_ranks_5 (by decide) ?_
    refine lv_icmp_ge (tgt := 19) hx hb dX10_ranks_7 (by decide) (fun c3 => ?_) (fun c3 => ?_)
    · skip
      refine lv_aload_n hx hb dX10_ranks_19 rfl (lv_at hl 0 rfl) ?_
      refine lv_iconst (v := 1) hx hb dX10_ranks_20 (by decide) ?_
      refine h_callVi (T := TX10) (rest := []) (As := [.int 1]) hx hb hml hown hts hK hT0 (fun _ h => h) hS0 (c_X10_fail l G Y (o) hW 1) trivial wd_X10_fail wV_X10_fail wL_X10_66 (on_w0 hW) rfl rfl hl.1 rfl (Nat.le_of_ble_eq_true rfl) dX10_ranks_21 ⟨Nat.le_of_ble_eq_true rfl, Nat.le_of_ble_eq_true rfl⟩ ⟨Nat.zero_le _, Nat.zero_le _⟩ (fun r4 H2 locs hp2 hT2 hS2 hk2 => ?_)
      have hp2 : r4 = (-1) := hp2
      subst hp2
      exact hret _ _ _ _ _ hT2 hS2 (by refine ⟨fun h => ?_, fun h => ?_⟩ <;> first | rfl | exact absurd h (by decide) | (exfalso; simp only [Int32.lt_iff_toInt_lt, Int32.le_iff_toInt_le, ← Int32.toInt_inj, Int32.reduceToInt, (show (-1 : Int32).toInt = -1 from rfl)] at c1 c3 <;> omega)) dX10_ranks_24
    · skip
      refine lv_iload_n hx hb dX10_ranks_10 rfl (lv_at hl 2 rfl) ?_
      refine lv_if_lt (tgt := 19) hx hb dX10_ranks_11 (by decide) (fun c5 => ?_) (fun c5 => ?_)
      · skip
        refine lv_aload_n hx hb dX10_ranks_19 rfl (lv_at hl 0 rfl) ?_
        refine lv_iconst (v := 1) hx hb dX10_ranks_20 (by decide) ?_
        refine h_callVi (T := TX10) (rest := []) (As := [.int 1]) hx hb hml hown hts hK hT0 (fun _ h => h) hS0 (c_X10_fail l G Y (o) hW 1) trivial wd_X10_fail wV_X10_fail wL_X10_66 (on_w0 hW) rfl rfl hl.1 rfl (Nat.le_of_ble_eq_true rfl) dX10_ranks_21 ⟨Nat.le_of_ble_eq_true rfl, Nat.le_of_ble_eq_true rfl⟩ ⟨Nat.zero_le _, Nat.zero_le _⟩ (fun r6 H3 locs hp3 hT3 hS3 hk3 => ?_)
        have hp3 : r6 = (-1) := hp3
        subst hp3
        exact hret _ _ _ _ _ hT3 hS3 (by refine ⟨fun h => ?_, fun h => ?_⟩ <;> first | rfl | exact absurd h (by decide) | (exfalso; simp only [Int32.lt_iff_toInt_lt, Int32.le_iff_toInt_le, ← Int32.toInt_inj, Int32.reduceToInt, (show (-1 : Int32).toInt = -1 from rfl)] at c1 c3 c5 <;> omega)) dX10_ranks_24
      · skip
        refine lv_iload_n hx hb dX10_ranks_14 rfl (lv_at hl 2 rfl) ?_
        refine lv_iconst (v := 2) hx hb dX10_ranks_15 (by decide) ?_
        refine lv_icmp_le (tgt := 25) hx hb dX10_ranks_16 (by decide) (fun c7 => ?_) (fun c7 => ?_)
        · skip
          refine lv_iload_n hx hb dX10_ranks_25 rfl (lv_at hl 2 rfl) ?_
          refine lv_if_ne (tgt := 45) hx hb dX10_ranks_26 (by decide) (fun c8 => ?_) (fun c8 => ?_)
          · skip
            refine lv_aload_n hx hb dX10_ranks_45 rfl (lv_at hl 0 rfl) ?_
            refine lv_iload_n hx hb dX10_ranks_46 rfl (lv_at hl 2 rfl) ?_
            refine lv_iconst (v := 1) hx hb dX10_ranks_47 (by decide) ?_
            refine lv_icmp_ne (tgt := 65) hx hb dX10_ranks_48 (by decide) (fun c9 => ?_) (fun c9 => ?_)
            · skip
              refine lv_aload_n hx hb dX10_ranks_65 rfl (lv_at hl 0 rfl) ?_
              refine h_getr (C := RX10) (T := TX10) (N := 9) hx hb hts inX10 hown hK hT0 (on_w0 hW) rfl 1 rfl wF_X10_19 rfl dX10_ranks_66 ?_
              refine h_getr (C := RX5) (T := TX5) (N := 11) hx hb hts inX5 hown hK hT0 (on_rg (on_wr hW)) rfl 5 rfl wF_X10_180 rfl dX10_ranks_69 ?_
              refine lv_iload_n hx hb dX10_ranks_72 rfl (lv_at hl 1 rfl) ?_
              refine h_callVi (T := TX0) (rest := [.ref (o)]) (As := [.int u1]) hx hb hml hown hts hK hT0 (fun _ h => h) hS0 (c_X0_agesOf l G Y (o + 3 + 19) (on_bo (on_wr hW)) u1) trivial wd_X0_agesOf wV_X0_agesOf wL_X10_219 ((on_bo (on_wr hW)).o rfl) rfl rfl hl.1 rfl (Nat.le_of_ble_eq_true rfl) dX10_ranks_73 ⟨Nat.le_of_ble_eq_true rfl, Nat.le_of_ble_eq_true rfl⟩ ⟨Nat.zero_le _, Nat.zero_le _⟩ (fun r10 H4 locs hp4 hT4 hS4 hk4 => ?_)
              obtain ⟨hp4, he⟩ := hp4
              have he := he.symm
              subst he
              have hp4 : r10 = 0 := hp4
              subst hp4
              refine h_callVi (T := TX10) (rest := []) (As := [.int 0]) hx hb hml hown hts hK hT0 (fun _ h => h) hS4 (c_X10_give l G Y (o) hW 0) trivial wd_X10_give wV_X10_give wL_X10_95 (on_w0 hW) rfl rfl hl.1 rfl (Nat.le_of_ble_eq_true rfl) dX10_ranks_76 ⟨Nat.le_of_ble_eq_true rfl, Nat.le_of_ble_eq_true rfl⟩ ⟨Nat.zero_le _, Nat.zero_le _⟩ (fun r11 H5 locs hp5 hT5 hS5 hk5 => ?_)
              have hp5 : r11 = 0 := hp5
              subst hp5
              exact hret _ _ _ _ _ hT5 hS5 (by refine ⟨fun h => ?_, fun h => ?_⟩ <;> first | rfl | exact absurd h (by decide) | (exfalso; simp only [Int32.lt_iff_toInt_lt, Int32.le_iff_toInt_le, ← Int32.toInt_inj, Int32.reduceToInt, (show (-1 : Int32).toInt = -1 from rfl)] at c1 c3 c5 c7 c8 c9 <;> omega)) dX10_ranks_79
            · skip
              refine lv_aload_n hx hb dX10_ranks_51 rfl (lv_at hl 0 rfl) ?_
              refine h_getr (C := RX10) (T := TX10) (N := 9) hx hb hts inX10 hown hK hT0 (on_w0 hW) rfl 1 rfl wF_X10_19 rfl dX10_ranks_52 ?_
              refine h_getr (C := RX5) (T := TX5) (N := 11) hx hb hts inX5 hown hK hT0 (on_rg (on_wr hW)) rfl 5 rfl wF_X10_180 rfl dX10_ranks_55 ?_
              refine lv_iload_n hx hb dX10_ranks_58 rfl (lv_at hl 1 rfl) ?_
              refine h_callVi (T := TX0) (rest := [.ref (o)]) (As := [.int u1]) hx hb hml hown hts hK hT0 (fun _ h => h) hS0 (c_X0_gotOf l G Y (o + 3 + 19) (on_bo (on_wr hW)) u1) trivial wd_X0_gotOf wV_X0_gotOf wL_X10_216 ((on_bo (on_wr hW)).o rfl) rfl rfl hl.1 rfl (Nat.le_of_ble_eq_true rfl) dX10_ranks_59 ⟨Nat.le_of_ble_eq_true rfl, Nat.le_of_ble_eq_true rfl⟩ ⟨Nat.zero_le _, Nat.zero_le _⟩ (fun r12 H6 locs hp6 hT6 hS6 hk6 => ?_)
              obtain ⟨hp6, he⟩ := hp6
              have he := he.symm
              subst he
              have hp6 : r12 = 0 := hp6
              subst hp6
              refine lv_goto (tgt := 76) hx hb dX10_ranks_62 (by decide) ?_
              refine h_callVi (T := TX10) (rest := []) (As := [.int 0]) hx hb hml hown hts hK hT0 (fun _ h => h) hS6 (c_X10_give l G Y (o) hW 0) trivial wd_X10_give wV_X10_give wL_X10_95 (on_w0 hW) rfl rfl hl.1 rfl (Nat.le_of_ble_eq_true rfl) dX10_ranks_76 ⟨Nat.le_of_ble_eq_true rfl, Nat.le_of_ble_eq_true rfl⟩ ⟨Nat.zero_le _, Nat.zero_le _⟩ (fun r13 H7 locs hp7 hT7 hS7 hk7 => ?_)
              have hp7 : r13 = 0 := hp7
              subst hp7
              exact hret _ _ _ _ _ hT7 hS7 (by refine ⟨fun h => ?_, fun h => ?_⟩ <;> first | rfl | exact absurd h (by decide) | (exfalso; simp only [Int32.lt_iff_toInt_lt, Int32.le_iff_toInt_le, ← Int32.toInt_inj, Int32.reduceToInt, (show (-1 : Int32).toInt = -1 from rfl)] at c1 c3 c5 c7 c8 c9 <;> omega)) dX10_ranks_79
          · skip
            refine lv_aload_n hx hb dX10_ranks_29 rfl (lv_at hl 0 rfl) ?_
            refine lv_aload_n hx hb dX10_ranks_30 rfl (lv_at hl 0 rfl) ?_
            refine h_getr (C := RX10) (T := TX10) (N := 9) hx hb hts inX10 hown hK hT0 (on_w0 hW) rfl 1 rfl wF_X10_19 rfl dX10_ranks_31 ?_
            refine h_getr (C := RX5) (T := TX5) (N := 11) hx hb hts inX5 hown hK hT0 (on_rg (on_wr hW)) rfl 1 rfl wF_X10_105 rfl dX10_ranks_34 ?_
            refine lv_iload_n hx hb dX10_ranks_37 rfl (lv_at hl 1 rfl) ?_
            refine h_callVi (T := TX2) (rest := [.ref (o)]) (As := [.int u1]) hx hb hml hown hts hK hT0 (fun _ h => h) hS0 (c_X2_totalOf l G Y (o + 3 + 7) (on_qu (on_wr hW)) u1) trivial wd_X2_totalOf wV_X2_totalOf wL_X10_213 ((on_qu (on_wr hW)).o rfl) rfl rfl hl.1 rfl (Nat.le_of_ble_eq_true rfl) dX10_ranks_38 ⟨Nat.le_of_ble_eq_true rfl, Nat.le_of_ble_eq_true rfl⟩ ⟨Nat.zero_le _, Nat.zero_le _⟩ (fun r14 H8 locs hp8 hT8 hS8 hk8 => ?_)
            obtain ⟨hp8, he⟩ := hp8
            have he := he.symm
            subst he
            have hp8 : r14 = 0 := hp8
            subst hp8
            refine h_callVi (T := TX10) (rest := []) (As := [.int 0]) hx hb hml hown hts hK hT0 (fun _ h => h) hS8 (c_X10_give l G Y (o) hW 0) trivial wd_X10_give wV_X10_give wL_X10_95 (on_w0 hW) rfl rfl hl.1 rfl (Nat.le_of_ble_eq_true rfl) dX10_ranks_41 ⟨Nat.le_of_ble_eq_true rfl, Nat.le_of_ble_eq_true rfl⟩ ⟨Nat.zero_le _, Nat.zero_le _⟩ (fun r15 H9 locs hp9 hT9 hS9 hk9 => ?_)
            have hp9 : r15 = 0 := hp9
            subst hp9
            exact hret _ _ _ _ _ hT9 hS9 (by refine ⟨fun h => ?_, fun h => ?_⟩ <;> first | rfl | exact absurd h (by decide) | (exfalso; simp only [Int32.lt_iff_toInt_lt, Int32.le_iff_toInt_le, ← Int32.toInt_inj, Int32.reduceToInt, (show (-1 : Int32).toInt = -1 from rfl)] at c1 c3 c5 c7 c8 <;> omega)) dX10_ranks_44
        · skip
          refine lv_aload_n hx hb dX10_ranks_19 rfl (lv_at hl 0 rfl) ?_
          refine lv_iconst (v := 1) hx hb dX10_ranks_20 (by decide) ?_
          refine h_callVi (T := TX10) (rest := []) (As := [.int 1]) hx hb hml hown hts hK hT0 (fun _ h => h) hS0 (c_X10_fail l G Y (o) hW 1) trivial wd_X10_fail wV_X10_fail wL_X10_66 (on_w0 hW) rfl rfl hl.1 rfl (Nat.le_of_ble_eq_true rfl) dX10_ranks_21 ⟨Nat.le_of_ble_eq_true rfl, Nat.le_of_ble_eq_true rfl⟩ ⟨Nat.zero_le _, Nat.zero_le _⟩ (fun r16 H10 locs hp10 hT10 hS10 hk10 => ?_)
          have hp10 : r16 = (-1) := hp10
          subst hp10
          exact hret _ _ _ _ _ hT10 hS10 (by refine ⟨fun h => ?_, fun h => ?_⟩ <;> first | rfl | exact absurd h (by decide) | (exfalso; simp only [Int32.lt_iff_toInt_lt, Int32.le_iff_toInt_le, ← Int32.toInt_inj, Int32.reduceToInt, (show (-1 : Int32).toInt = -1 from rfl)] at c1 c3 c5 c7 <;> omega)) dX10_ranks_24
set_option maxHeartbeats 4000000 in
set_option maxRecDepth 100000 in
theorem c_X10_hops (l : Launch) (G : hG) (Y : hW) (o : Nat) (hW : h_On Y o (wldE tF o)) (u1 u2 : Int32) : hMi l yX10_hops cX10_hops 4 (some .int) 1 21 G Y [.ref (o), .int u1, .int u2] (fun H => True) (fun H r H1 => r = (-1)) := by
  refine h_ofi (by decide +kernel) (Nat.le_of_ble_eq_true rfl) ?_
  intro p e s m args below meth c H0 ls Q hx hb hts hown hml hK hT0 hpr hS0 hl hret
  have hl : lv_has ls 4 [(0, .ref (o)), (1, .int u1), (2, .int u2)] := hl
  refine lv_aload_n hx hb dX10_hops_0 rfl (lv_at hl 0 rfl) ?_
  refine h_getr (C := RX10) (T := TX10) (N := 9) hx hb hts inX10 hown hK hT0 (on_w0 hW) rfl 1 rfl wF_X10_19 rfl dX10_hops_1 ?_
  refine h_getr (C := RX5) (T := TX5) (N := 11) hx hb hts inX5 hown hK hT0 (on_rg (on_wr hW)) rfl 0 rfl wF_X10_86 rfl dX10_hops_4 ?_
  refine lv_astore_n (lv' := [(3, .ref (o + 3 + 1)), (0, .ref (o)), (1, .int u1), (2, .int u2)]) hx hb dX10_hops_7 rfl hl (by decide) rfl (fun ls hl => ?_)
  refine lv_aload_n hx hb dX10_hops_8 rfl (lv_at hl 0 rfl) ?_
  refine lv_iload_n hx hb dX10_hops_9 rfl (lv_at hl 2 rfl) ?_
  refine h_callVi (T := TX7) (rest := []) (As := [.int u1]) hx hb hml hown hts hK hT0 (fun _ h => h) hS0 (c_X7_exists l G Y (o + 3 + 1) (on_st (on_wr hW)) u1) trivial wd_X7_exists wV_X7_exists wL_X10_146 ((on_st (on_wr hW)).o rfl) rfl rfl hl.1 rfl (Nat.le_of_ble_eq_true rfl) dX10_hops_10 ⟨Nat.le_of_ble_eq_true rfl, Nat.le_of_ble_eq_true rfl⟩ ⟨Nat.zero_le _, Nat.zero_le _⟩ (fun r1 H1 locs hp1 hT1 hS1 hk1 => ?_)
  obtain ⟨hp1, he⟩ := hp1
  have he := he.symm
  subst he
  have hp1 : r1 = 0 := hp1
  subst hp1
  refine lv_if_eq (tgt := 24) hx hb dX10_hops_13 (by decide) (fun _ => ?_) (fun h => absurd (by decide) h)
  refine lv_aload_n hx hb dX10_hops_24 rfl (lv_at hl 1 rfl) ?_
  refine lv_iconst (v := 2) hx hb dX10_hops_25 (by decide) ?_
  refine h_callVi (T := TX10) (rest := []) (As := [.int 2]) hx hb hml hown hts hK hT0 (fun _ h => h) hS1 (c_X10_fail l G Y (o) hW 2) trivial wd_X10_fail wV_X10_fail wL_X10_66 (on_w0 hW) rfl rfl hl.1 rfl (Nat.le_of_ble_eq_true rfl) dX10_hops_26 ⟨Nat.le_of_ble_eq_true rfl, Nat.le_of_ble_eq_true rfl⟩ ⟨Nat.zero_le _, Nat.zero_le _⟩ (fun r3 H2 locs hp2 hT2 hS2 hk2 => ?_)
  have hp2 : r3 = (-1) := hp2
  subst hp2
  exact hret _ _ _ _ _ hT2 hS2 rfl dX10_hops_29
set_option maxHeartbeats 4000000 in
set_option maxRecDepth 100000 in
theorem c_X10_heir (l : Launch) (G : hG) (Y : hW) (o : Nat) (hW : h_On Y o (wldE tF o)) : hMi l yX10_heir cX10_heir 2 (some .int) 1 23 G Y [.ref (o)] (fun H => True) (fun H r H1 => r = (-1)) := by
  refine h_ofi (by decide +kernel) (Nat.le_of_ble_eq_true rfl) ?_
  intro p e s m args below meth c H0 ls Q hx hb hts hown hml hK hT0 hpr hS0 hl hret
  have hl : lv_has ls 2 [(0, .ref (o))] := hl
  refine lv_aload_n hx hb dX10_heir_0 rfl (lv_at hl 0 rfl) ?_
  refine h_getr (C := RX10) (T := TX10) (N := 9) hx hb hts inX10 hown hK hT0 (on_w0 hW) rfl 1 rfl wF_X10_19 rfl dX10_heir_1 ?_
  refine h_getr (C := RX5) (T := TX5) (N := 11) hx hb hts inX5 hown hK hT0 (on_rg (on_wr hW)) rfl 0 rfl wF_X10_86 rfl dX10_heir_4 ?_
  refine h_callVi (T := TX7) (rest := []) (As := []) hx hb hml hown hts hK hT0 (fun _ h => h) hS0 (c_X7_greatestOn l G Y (o + 3 + 1) (on_st (on_wr hW))) trivial wd_X7_greatestOn wV_X7_greatestOn wL_X10_232 ((on_st (on_wr hW)).o rfl) rfl rfl hl.1 rfl (Nat.le_of_ble_eq_true rfl) dX10_heir_7 ⟨Nat.le_of_ble_eq_true rfl, Nat.le_of_ble_eq_true rfl⟩ ⟨Nat.zero_le _, Nat.zero_le _⟩ (fun r1 H1 locs hp1 hT1 hS1 hk1 => ?_)
  obtain ⟨hp1, he⟩ := hp1
  have he := he.symm
  subst he
  have hp1 : r1 = (-1) := hp1
  subst hp1
  refine lv_istore_n (lv' := [(1, .int (-1)), (0, .ref (o))]) hx hb dX10_heir_10 rfl hl (by decide) rfl (fun ls hl => ?_)
  refine lv_iload_n hx hb dX10_heir_11 rfl (lv_at hl 0 rfl) ?_
  refine lv_iconst (v := (-1)) hx hb dX10_heir_12 (by decide) ?_
  refine lv_icmp_ne (tgt := 24) hx hb dX10_heir_13 (by decide) (fun h => absurd (by decide) h) (fun _ => ?_)
  refine lv_aload_n hx hb dX10_heir_16 rfl (lv_at hl 1 rfl) ?_
  refine lv_iconst (v := 5) hx hb dX10_heir_17 (by decide) ?_
  refine h_callVi (T := TX10) (rest := []) (As := [.int 5]) hx hb hml hown hts hK hT0 (fun _ h => h) hS1 (c_X10_fail l G Y (o) hW 5) trivial wd_X10_fail wV_X10_fail wL_X10_66 (on_w0 hW) rfl rfl hl.1 rfl (Nat.le_of_ble_eq_true rfl) dX10_heir_18 ⟨Nat.le_of_ble_eq_true rfl, Nat.le_of_ble_eq_true rfl⟩ ⟨Nat.zero_le _, Nat.zero_le _⟩ (fun r3 H2 locs hp2 hT2 hS2 hk2 => ?_)
  have hp2 : r3 = (-1) := hp2
  subst hp2
  refine lv_goto (tgt := 29) hx hb dX10_heir_21 (by decide) ?_
  exact hret _ _ _ _ _ hT2 hS2 rfl dX10_heir_29
set_option maxHeartbeats 4000000 in
set_option maxRecDepth 100000 in
theorem c_X10_send (l : Launch) (G : hG) (Y : hW) (o : Nat) (hW : h_On Y o (wldE tF o)) (u1 u2 u3 : Int32) : hMi l yX10_send cX10_send 4 (some .int) 1 21 G Y [.ref (o), .int u1, .int u2, .int u3] (fun H => True) (fun H r H1 => r = (-1)) := by
  refine h_ofi (by decide +kernel) (Nat.le_of_ble_eq_true rfl) ?_
  intro p e s m args below meth c H0 ls Q hx hb hts hown hml hK hT0 hpr hS0 hl hret
  have hl : lv_has ls 4 [(0, .ref (o)), (1, .int u1), (2, .int u2), (3, .int u3)] := hl
  refine lv_iload_n hx hb dX10_send_0 rfl (lv_at hl 3 rfl) ?_
  refine lv_if_lt (tgt := 10) hx hb dX10_send_1 (by decide) (fun c1 => ?_) (fun c1 => ?_)
  · skip
    refine lv_aload_n hx hb dX10_send_10 rfl (lv_at hl 0 rfl) ?_
    refine lv_iconst (v := 1) hx hb dX10_send_11 (by decide) ?_
    refine h_callVi (T := TX10) (rest := []) (As := [.int 1]) hx hb hml hown hts hK hT0 (fun _ h => h) hS0 (c_X10_fail l G Y (o) hW 1) trivial wd_X10_fail wV_X10_fail wL_X10_66 (on_w0 hW) rfl rfl hl.1 rfl (Nat.le_of_ble_eq_true rfl) dX10_send_12 ⟨Nat.le_of_ble_eq_true rfl, Nat.le_of_ble_eq_true rfl⟩ ⟨Nat.zero_le _, Nat.zero_le _⟩ (fun r2 H1 locs hp1 hT1 hS1 hk1 => ?_)
    have hp1 : r2 = (-1) := hp1
    subst hp1
    exact hret _ _ _ _ _ hT1 hS1 rfl dX10_send_15
  · skip
    refine lv_iload_n hx hb dX10_send_4 rfl (lv_at hl 3 rfl) ?_
    refine lv_bipush (v := 8) hx hb dX10_send_5 (by decide) ?_
    refine lv_icmp_lt (tgt := 16) hx hb dX10_send_7 (by decide) (fun c3 => ?_) (fun c3 => ?_)
    · skip
      refine lv_aload_n hx hb dX10_send_16 rfl (lv_at hl 0 rfl) ?_
      refine h_getr (C := RX10) (T := TX10) (N := 9) hx hb hts inX10 hown hK hT0 (on_w0 hW) rfl 1 rfl wF_X10_19 rfl dX10_send_17 ?_
      refine h_getr (C := RX5) (T := TX5) (N := 11) hx hb hts inX5 hown hK hT0 (on_rg (on_wr hW)) rfl 0 rfl wF_X10_86 rfl dX10_send_20 ?_
      refine lv_iload_n hx hb dX10_send_23 rfl (lv_at hl 1 rfl) ?_
      refine h_callVi (T := TX7) (rest := []) (As := [.int u1]) hx hb hml hown hts hK hT0 (fun _ h => h) hS0 (c_X7_exists l G Y (o + 3 + 1) (on_st (on_wr hW)) u1) trivial wd_X7_exists wV_X7_exists wL_X10_146 ((on_st (on_wr hW)).o rfl) rfl rfl hl.1 rfl (Nat.le_of_ble_eq_true rfl) dX10_send_24 ⟨Nat.le_of_ble_eq_true rfl, Nat.le_of_ble_eq_true rfl⟩ ⟨Nat.zero_le _, Nat.zero_le _⟩ (fun r4 H2 locs hp2 hT2 hS2 hk2 => ?_)
      obtain ⟨hp2, he⟩ := hp2
      have he := he.symm
      subst he
      have hp2 : r4 = 0 := hp2
      subst hp2
      refine lv_if_eq (tgt := 44) hx hb dX10_send_27 (by decide) (fun _ => ?_) (fun h => absurd (by decide) h)
      refine lv_aload_n hx hb dX10_send_44 rfl (lv_at hl 0 rfl) ?_
      refine lv_iconst (v := 2) hx hb dX10_send_45 (by decide) ?_
      refine h_callVi (T := TX10) (rest := []) (As := [.int 2]) hx hb hml hown hts hK hT0 (fun _ h => h) hS2 (c_X10_fail l G Y (o) hW 2) trivial wd_X10_fail wV_X10_fail wL_X10_66 (on_w0 hW) rfl rfl hl.1 rfl (Nat.le_of_ble_eq_true rfl) dX10_send_46 ⟨Nat.le_of_ble_eq_true rfl, Nat.le_of_ble_eq_true rfl⟩ ⟨Nat.zero_le _, Nat.zero_le _⟩ (fun r6 H3 locs hp3 hT3 hS3 hk3 => ?_)
      have hp3 : r6 = (-1) := hp3
      subst hp3
      exact hret _ _ _ _ _ hT3 hS3 rfl dX10_send_49
    · skip
      refine lv_aload_n hx hb dX10_send_10 rfl (lv_at hl 0 rfl) ?_
      refine lv_iconst (v := 1) hx hb dX10_send_11 (by decide) ?_
      refine h_callVi (T := TX10) (rest := []) (As := [.int 1]) hx hb hml hown hts hK hT0 (fun _ h => h) hS0 (c_X10_fail l G Y (o) hW 1) trivial wd_X10_fail wV_X10_fail wL_X10_66 (on_w0 hW) rfl rfl hl.1 rfl (Nat.le_of_ble_eq_true rfl) dX10_send_12 ⟨Nat.le_of_ble_eq_true rfl, Nat.le_of_ble_eq_true rfl⟩ ⟨Nat.zero_le _, Nat.zero_le _⟩ (fun r7 H4 locs hp4 hT4 hS4 hk4 => ?_)
      have hp4 : r7 = (-1) := hp4
      subst hp4
      exact hret _ _ _ _ _ hT4 hS4 rfl dX10_send_15
set_option maxHeartbeats 4000000 in
set_option maxRecDepth 100000 in
theorem c_X10_take (l : Launch) (G : hG) (Y : hW) (o : Nat) (hW : h_On Y o (wldE tF o)) (u1 : Int32) : hMi l yX10_take cX10_take 3 (some .int) 1 23 G Y [.ref (o), .int u1] (fun H => True) (fun H r H1 => r = (-1)) := by
  refine h_ofi (by decide +kernel) (Nat.le_of_ble_eq_true rfl) ?_
  intro p e s m args below meth c H0 ls Q hx hb hts hown hml hK hT0 hpr hS0 hl hret
  have hl : lv_has ls 3 [(0, .ref (o)), (1, .int u1)] := hl
  refine lv_iload_n hx hb dX10_take_0 rfl (lv_at hl 1 rfl) ?_
  refine lv_if_ge (tgt := 10) hx hb dX10_take_1 (by decide) (fun c1 => ?_) (fun c1 => ?_)
  · skip
    refine lv_aload_n hx hb dX10_take_10 rfl (lv_at hl 0 rfl) ?_
    refine h_getr (C := RX10) (T := TX10) (N := 9) hx hb hts inX10 hown hK hT0 (on_w0 hW) rfl 1 rfl wF_X10_19 rfl dX10_take_11 ?_
    refine h_getr (C := RX5) (T := TX5) (N := 11) hx hb hts inX5 hown hK hT0 (on_rg (on_wr hW)) rfl 1 rfl wF_X10_105 rfl dX10_take_14 ?_
    refine lv_iload_n hx hb dX10_take_17 rfl (lv_at hl 1 rfl) ?_
    refine h_callVi (T := TX2) (rest := []) (As := [.int u1]) hx hb hml hown hts hK hT0 (fun _ h => h) hS0 (c_X2_slotOf l G Y (o + 3 + 7) (on_qu (on_wr hW)) u1) trivial wd_X2_slotOf wV_X2_slotOf wL_X10_249 ((on_qu (on_wr hW)).o rfl) rfl rfl hl.1 rfl (Nat.le_of_ble_eq_true rfl) dX10_take_18 ⟨Nat.le_of_ble_eq_true rfl, Nat.le_of_ble_eq_true rfl⟩ ⟨Nat.zero_le _, Nat.zero_le _⟩ (fun r2 H1 locs hp1 hT1 hS1 hk1 => ?_)
    obtain ⟨hp1, he⟩ := hp1
    have he := he.symm
    subst he
    have hp1 : r2 = (-1) := hp1
    subst hp1
    refine lv_istore_n (lv' := [(2, .int (-1)), (0, .ref (o)), (1, .int u1)]) hx hb dX10_take_21 rfl hl (by decide) rfl (fun ls hl => ?_)
    refine lv_iload_n hx hb dX10_take_22 rfl (lv_at hl 0 rfl) ?_
    refine lv_iconst (v := (-1)) hx hb dX10_take_23 (by decide) ?_
    refine lv_icmp_ne (tgt := 33) hx hb dX10_take_24 (by decide) (fun h => absurd (by decide) h) (fun _ => ?_)
    refine lv_aload_n hx hb dX10_take_27 rfl (lv_at hl 1 rfl) ?_
    refine lv_iconst (v := 5) hx hb dX10_take_28 (by decide) ?_
    refine h_callVi (T := TX10) (rest := []) (As := [.int 5]) hx hb hml hown hts hK hT0 (fun _ h => h) hS1 (c_X10_fail l G Y (o) hW 5) trivial wd_X10_fail wV_X10_fail wL_X10_66 (on_w0 hW) rfl rfl hl.1 rfl (Nat.le_of_ble_eq_true rfl) dX10_take_29 ⟨Nat.le_of_ble_eq_true rfl, Nat.le_of_ble_eq_true rfl⟩ ⟨Nat.zero_le _, Nat.zero_le _⟩ (fun r4 H2 locs hp2 hT2 hS2 hk2 => ?_)
    have hp2 : r4 = (-1) := hp2
    subst hp2
    exact hret _ _ _ _ _ hT2 hS2 rfl dX10_take_32
  · skip
    refine lv_aload_n hx hb dX10_take_4 rfl (lv_at hl 0 rfl) ?_
    refine lv_iconst (v := 1) hx hb dX10_take_5 (by decide) ?_
    refine h_callVi (T := TX10) (rest := []) (As := [.int 1]) hx hb hml hown hts hK hT0 (fun _ h => h) hS0 (c_X10_fail l G Y (o) hW 1) trivial wd_X10_fail wV_X10_fail wL_X10_66 (on_w0 hW) rfl rfl hl.1 rfl (Nat.le_of_ble_eq_true rfl) dX10_take_6 ⟨Nat.le_of_ble_eq_true rfl, Nat.le_of_ble_eq_true rfl⟩ ⟨Nat.zero_le _, Nat.zero_le _⟩ (fun r5 H3 locs hp3 hT3 hS3 hk3 => ?_)
    have hp3 : r5 = (-1) := hp3
    subst hp3
    exact hret _ _ _ _ _ hT3 hS3 rfl dX10_take_9
set_option maxHeartbeats 4000000 in
set_option maxRecDepth 100000 in
theorem c_X10_shed (l : Launch) (G : hG) (Y : hW) (o : Nat) (hW : h_On Y o (wldE tF o)) (u1 u2 : Int32) : hMi l yX10_shed cX10_shed 3 (some .int) 1 21 G Y [.ref (o), .int u1, .int u2] (fun H => True) (fun H r H1 => r = (-1)) := by
  refine h_ofi (by decide +kernel) (Nat.le_of_ble_eq_true rfl) ?_
  intro p e s m args below meth c H0 ls Q hx hb hts hown hml hK hT0 hpr hS0 hl hret
  have hl : lv_has ls 3 [(0, .ref (o)), (1, .int u1), (2, .int u2)] := hl
  refine lv_iload_n hx hb dX10_shed_0 rfl (lv_at hl 2 rfl) ?_
  refine lv_if_lt (tgt := 10) hx hb dX10_shed_1 (by decide) (fun c1 => ?_) (fun c1 => ?_)
  · skip
    refine lv_aload_n hx hb dX10_shed_10 rfl (lv_at hl 0 rfl) ?_
    refine lv_iconst (v := 1) hx hb dX10_shed_11 (by decide) ?_
    refine h_callVi (T := TX10) (rest := []) (As := [.int 1]) hx hb hml hown hts hK hT0 (fun _ h => h) hS0 (c_X10_fail l G Y (o) hW 1) trivial wd_X10_fail wV_X10_fail wL_X10_66 (on_w0 hW) rfl rfl hl.1 rfl (Nat.le_of_ble_eq_true rfl) dX10_shed_12 ⟨Nat.le_of_ble_eq_true rfl, Nat.le_of_ble_eq_true rfl⟩ ⟨Nat.zero_le _, Nat.zero_le _⟩ (fun r2 H1 locs hp1 hT1 hS1 hk1 => ?_)
    have hp1 : r2 = (-1) := hp1
    subst hp1
    exact hret _ _ _ _ _ hT1 hS1 rfl dX10_shed_15
  · skip
    refine lv_iload_n hx hb dX10_shed_4 rfl (lv_at hl 2 rfl) ?_
    refine lv_bipush (v := 8) hx hb dX10_shed_5 (by decide) ?_
    refine lv_icmp_le (tgt := 16) hx hb dX10_shed_7 (by decide) (fun c3 => ?_) (fun c3 => ?_)
    · skip
      refine lv_aload_n hx hb dX10_shed_16 rfl (lv_at hl 0 rfl) ?_
      refine h_getr (C := RX10) (T := TX10) (N := 9) hx hb hts inX10 hown hK hT0 (on_w0 hW) rfl 1 rfl wF_X10_19 rfl dX10_shed_17 ?_
      refine h_getr (C := RX5) (T := TX5) (N := 11) hx hb hts inX5 hown hK hT0 (on_rg (on_wr hW)) rfl 0 rfl wF_X10_86 rfl dX10_shed_20 ?_
      refine lv_iload_n hx hb dX10_shed_23 rfl (lv_at hl 1 rfl) ?_
      refine h_callVi (T := TX7) (rest := []) (As := [.int u1]) hx hb hml hown hts hK hT0 (fun _ h => h) hS0 (c_X7_exists l G Y (o + 3 + 1) (on_st (on_wr hW)) u1) trivial wd_X7_exists wV_X7_exists wL_X10_146 ((on_st (on_wr hW)).o rfl) rfl rfl hl.1 rfl (Nat.le_of_ble_eq_true rfl) dX10_shed_24 ⟨Nat.le_of_ble_eq_true rfl, Nat.le_of_ble_eq_true rfl⟩ ⟨Nat.zero_le _, Nat.zero_le _⟩ (fun r4 H2 locs hp2 hT2 hS2 hk2 => ?_)
      obtain ⟨hp2, he⟩ := hp2
      have he := he.symm
      subst he
      have hp2 : r4 = 0 := hp2
      subst hp2
      refine lv_if_ne (tgt := 36) hx hb dX10_shed_27 (by decide) (fun h => absurd (by decide) h) (fun _ => ?_)
      refine lv_aload_n hx hb dX10_shed_30 rfl (lv_at hl 0 rfl) ?_
      refine lv_iconst (v := 2) hx hb dX10_shed_31 (by decide) ?_
      refine h_callVi (T := TX10) (rest := []) (As := [.int 2]) hx hb hml hown hts hK hT0 (fun _ h => h) hS2 (c_X10_fail l G Y (o) hW 2) trivial wd_X10_fail wV_X10_fail wL_X10_66 (on_w0 hW) rfl rfl hl.1 rfl (Nat.le_of_ble_eq_true rfl) dX10_shed_32 ⟨Nat.le_of_ble_eq_true rfl, Nat.le_of_ble_eq_true rfl⟩ ⟨Nat.zero_le _, Nat.zero_le _⟩ (fun r6 H3 locs hp3 hT3 hS3 hk3 => ?_)
      have hp3 : r6 = (-1) := hp3
      subst hp3
      exact hret _ _ _ _ _ hT3 hS3 rfl dX10_shed_35
    · skip
      refine lv_aload_n hx hb dX10_shed_10 rfl (lv_at hl 0 rfl) ?_
      refine lv_iconst (v := 1) hx hb dX10_shed_11 (by decide) ?_
      refine h_callVi (T := TX10) (rest := []) (As := [.int 1]) hx hb hml hown hts hK hT0 (fun _ h => h) hS0 (c_X10_fail l G Y (o) hW 1) trivial wd_X10_fail wV_X10_fail wL_X10_66 (on_w0 hW) rfl rfl hl.1 rfl (Nat.le_of_ble_eq_true rfl) dX10_shed_12 ⟨Nat.le_of_ble_eq_true rfl, Nat.le_of_ble_eq_true rfl⟩ ⟨Nat.zero_le _, Nat.zero_le _⟩ (fun r7 H4 locs hp4 hT4 hS4 hk4 => ?_)
      have hp4 : r7 = (-1) := hp4
      subst hp4
      exact hret _ _ _ _ _ hT4 hS4 rfl dX10_shed_15
set_option maxHeartbeats 4000000 in
set_option maxRecDepth 100000 in
theorem c_X10_off (l : Launch) (G : hG) (Y : hW) (o : Nat) (hW : h_On Y o (wldE tF o)) (u1 : Int32) : hMi l yX10_off cX10_off 2 (some .boolean) 1 21 G Y [.ref (o), .int u1] (fun H => True) (fun H r H1 => r = 0) := by
  refine h_ofz (by decide +kernel) (Nat.le_of_ble_eq_true rfl) ?_
  intro p e s m args below meth c H0 ls Q hx hb hts hown hml hK hT0 hpr hS0 hl hret
  have hl : lv_has ls 2 [(0, .ref (o)), (1, .int u1)] := hl
  refine lv_aload_n hx hb dX10_off_0 rfl (lv_at hl 0 rfl) ?_
  refine h_getr (C := RX10) (T := TX10) (N := 9) hx hb hts inX10 hown hK hT0 (on_w0 hW) rfl 1 rfl wF_X10_19 rfl dX10_off_1 ?_
  refine h_getr (C := RX5) (T := TX5) (N := 11) hx hb hts inX5 hown hK hT0 (on_rg (on_wr hW)) rfl 0 rfl wF_X10_86 rfl dX10_off_4 ?_
  refine lv_iload_n hx hb dX10_off_7 rfl (lv_at hl 1 rfl) ?_
  refine h_callVi (T := TX7) (rest := []) (As := [.int u1]) hx hb hml hown hts hK hT0 (fun _ h => h) hS0 (c_X7_exists l G Y (o + 3 + 1) (on_st (on_wr hW)) u1) trivial wd_X7_exists wV_X7_exists wL_X10_146 ((on_st (on_wr hW)).o rfl) rfl rfl hl.1 rfl (Nat.le_of_ble_eq_true rfl) dX10_off_8 ⟨Nat.le_of_ble_eq_true rfl, Nat.le_of_ble_eq_true rfl⟩ ⟨Nat.zero_le _, Nat.zero_le _⟩ (fun r1 H1 locs hp1 hT1 hS1 hk1 => ?_)
  obtain ⟨hp1, he⟩ := hp1
  have he := he.symm
  subst he
  have hp1 : r1 = 0 := hp1
  subst hp1
  refine lv_if_ne (tgt := 20) hx hb dX10_off_11 (by decide) (fun h => absurd (by decide) h) (fun _ => ?_)
  refine lv_aload_n hx hb dX10_off_14 rfl (lv_at hl 0 rfl) ?_
  refine lv_iconst (v := 2) hx hb dX10_off_15 (by decide) ?_
  refine h_callVi (T := TX10) (rest := []) (As := [.int 2]) hx hb hml hown hts hK hT0 (fun _ h => h) hS1 (c_X10_refuse l G Y (o) hW 2) trivial wd_X10_refuse wV_X10_refuse wL_X10_258 (on_w0 hW) rfl rfl hl.1 rfl (Nat.le_of_ble_eq_true rfl) dX10_off_16 ⟨Nat.le_of_ble_eq_true rfl, Nat.le_of_ble_eq_true rfl⟩ ⟨Nat.zero_le _, Nat.zero_le _⟩ (fun r3 H2 locs hp2 hT2 hS2 hk2 => ?_)
  have hp2 : r3 = 0 := hp2
  subst hp2
  exact hret _ _ _ _ _ hT2 hS2 ⟨by decide, rfl⟩ dX10_off_19
set_option maxHeartbeats 4000000 in
set_option maxRecDepth 100000 in
theorem c_X10_on (l : Launch) (G : hG) (Y : hW) (o : Nat) (hW : h_On Y o (wldE tF o)) (u1 : Int32) : hMi l yX10_on cX10_on 2 (some .boolean) 1 21 G Y [.ref (o), .int u1] (fun H => True) (fun H r H1 => r = 0) := by
  refine h_ofz (by decide +kernel) (Nat.le_of_ble_eq_true rfl) ?_
  intro p e s m args below meth c H0 ls Q hx hb hts hown hml hK hT0 hpr hS0 hl hret
  have hl : lv_has ls 2 [(0, .ref (o)), (1, .int u1)] := hl
  refine lv_aload_n hx hb dX10_on_0 rfl (lv_at hl 0 rfl) ?_
  refine h_getr (C := RX10) (T := TX10) (N := 9) hx hb hts inX10 hown hK hT0 (on_w0 hW) rfl 1 rfl wF_X10_19 rfl dX10_on_1 ?_
  refine h_getr (C := RX5) (T := TX5) (N := 11) hx hb hts inX5 hown hK hT0 (on_rg (on_wr hW)) rfl 0 rfl wF_X10_86 rfl dX10_on_4 ?_
  refine lv_iload_n hx hb dX10_on_7 rfl (lv_at hl 1 rfl) ?_
  refine h_callVi (T := TX7) (rest := []) (As := [.int u1]) hx hb hml hown hts hK hT0 (fun _ h => h) hS0 (c_X7_exists l G Y (o + 3 + 1) (on_st (on_wr hW)) u1) trivial wd_X7_exists wV_X7_exists wL_X10_146 ((on_st (on_wr hW)).o rfl) rfl rfl hl.1 rfl (Nat.le_of_ble_eq_true rfl) dX10_on_8 ⟨Nat.le_of_ble_eq_true rfl, Nat.le_of_ble_eq_true rfl⟩ ⟨Nat.zero_le _, Nat.zero_le _⟩ (fun r1 H1 locs hp1 hT1 hS1 hk1 => ?_)
  obtain ⟨hp1, he⟩ := hp1
  have he := he.symm
  subst he
  have hp1 : r1 = 0 := hp1
  subst hp1
  refine lv_if_ne (tgt := 20) hx hb dX10_on_11 (by decide) (fun h => absurd (by decide) h) (fun _ => ?_)
  refine lv_aload_n hx hb dX10_on_14 rfl (lv_at hl 0 rfl) ?_
  refine lv_iconst (v := 2) hx hb dX10_on_15 (by decide) ?_
  refine h_callVi (T := TX10) (rest := []) (As := [.int 2]) hx hb hml hown hts hK hT0 (fun _ h => h) hS1 (c_X10_refuse l G Y (o) hW 2) trivial wd_X10_refuse wV_X10_refuse wL_X10_258 (on_w0 hW) rfl rfl hl.1 rfl (Nat.le_of_ble_eq_true rfl) dX10_on_16 ⟨Nat.le_of_ble_eq_true rfl, Nat.le_of_ble_eq_true rfl⟩ ⟨Nat.zero_le _, Nat.zero_le _⟩ (fun r3 H2 locs hp2 hT2 hS2 hk2 => ?_)
  have hp2 : r3 = 0 := hp2
  subst hp2
  exact hret _ _ _ _ _ hT2 hS2 ⟨by decide, rfl⟩ dX10_on_19
set_option maxHeartbeats 4000000 in
set_option maxRecDepth 100000 in
theorem c_X10_monitor (l : Launch) (G : hG) (Y : hW) (o : Nat) (hW : h_On Y o (wldE tF o)) (u1 : Int32) : hMi l yX10_monitor cX10_monitor 2 (some .boolean) 1 21 G Y [.ref (o), .int u1] (fun H => True) (fun H r H1 => r = 0) := by
  refine h_ofz (by decide +kernel) (Nat.le_of_ble_eq_true rfl) ?_
  intro p e s m args below meth c H0 ls Q hx hb hts hown hml hK hT0 hpr hS0 hl hret
  have hl : lv_has ls 2 [(0, .ref (o)), (1, .int u1)] := hl
  refine lv_aload_n hx hb dX10_monitor_0 rfl (lv_at hl 0 rfl) ?_
  refine h_getr (C := RX10) (T := TX10) (N := 9) hx hb hts inX10 hown hK hT0 (on_w0 hW) rfl 1 rfl wF_X10_19 rfl dX10_monitor_1 ?_
  refine h_getr (C := RX5) (T := TX5) (N := 11) hx hb hts inX5 hown hK hT0 (on_rg (on_wr hW)) rfl 0 rfl wF_X10_86 rfl dX10_monitor_4 ?_
  refine lv_iload_n hx hb dX10_monitor_7 rfl (lv_at hl 1 rfl) ?_
  refine h_callVi (T := TX7) (rest := []) (As := [.int u1]) hx hb hml hown hts hK hT0 (fun _ h => h) hS0 (c_X7_exists l G Y (o + 3 + 1) (on_st (on_wr hW)) u1) trivial wd_X7_exists wV_X7_exists wL_X10_146 ((on_st (on_wr hW)).o rfl) rfl rfl hl.1 rfl (Nat.le_of_ble_eq_true rfl) dX10_monitor_8 ⟨Nat.le_of_ble_eq_true rfl, Nat.le_of_ble_eq_true rfl⟩ ⟨Nat.zero_le _, Nat.zero_le _⟩ (fun r1 H1 locs hp1 hT1 hS1 hk1 => ?_)
  obtain ⟨hp1, he⟩ := hp1
  have he := he.symm
  subst he
  have hp1 : r1 = 0 := hp1
  subst hp1
  refine lv_if_ne (tgt := 20) hx hb dX10_monitor_11 (by decide) (fun h => absurd (by decide) h) (fun _ => ?_)
  refine lv_aload_n hx hb dX10_monitor_14 rfl (lv_at hl 0 rfl) ?_
  refine lv_iconst (v := 2) hx hb dX10_monitor_15 (by decide) ?_
  refine h_callVi (T := TX10) (rest := []) (As := [.int 2]) hx hb hml hown hts hK hT0 (fun _ h => h) hS1 (c_X10_refuse l G Y (o) hW 2) trivial wd_X10_refuse wV_X10_refuse wL_X10_258 (on_w0 hW) rfl rfl hl.1 rfl (Nat.le_of_ble_eq_true rfl) dX10_monitor_16 ⟨Nat.le_of_ble_eq_true rfl, Nat.le_of_ble_eq_true rfl⟩ ⟨Nat.zero_le _, Nat.zero_le _⟩ (fun r3 H2 locs hp2 hT2 hS2 hk2 => ?_)
  have hp2 : r3 = 0 := hp2
  subst hp2
  exact hret _ _ _ _ _ hT2 hS2 ⟨by decide, rfl⟩ dX10_monitor_19
set_option maxHeartbeats 4000000 in
set_option maxRecDepth 100000 in
theorem c_X10_lose (l : Launch) (G : hG) (Y : hW) (o : Nat) (hW : h_On Y o (wldE tF o)) : hMi l yX10_lose cX10_lose 1 (some .boolean) 1 21 G Y [.ref (o)] (fun H => True) (fun H r H1 => r = 0) := by
  refine h_ofz (by decide +kernel) (Nat.le_of_ble_eq_true rfl) ?_
  intro p e s m args below meth c H0 ls Q hx hb hts hown hml hK hT0 hpr hS0 hl hret
  have hl : lv_has ls 1 [(0, .ref (o))] := hl
  refine lv_aload_n hx hb dX10_lose_0 rfl (lv_at hl 0 rfl) ?_
  refine h_getr (C := RX10) (T := TX10) (N := 9) hx hb hts inX10 hown hK hT0 (on_w0 hW) rfl 1 rfl wF_X10_19 rfl dX10_lose_1 ?_
  refine h_getr (C := RX5) (T := TX5) (N := 11) hx hb hts inX5 hown hK hT0 (on_rg (on_wr hW)) rfl 3 rfl wF_X10_120 rfl dX10_lose_4 ?_
  refine h_getc (v := 0) (C := RX9) (T := TX9) (N := 11) hx hb hts inX9 hown hK hT0 ((on_wa (on_wr hW)).o rfl) rfl 0 rfl wF_X10_124 rfl (fun _ h => h) dX10_lose_7 ?_
  refine lv_if_ne (tgt := 20) hx hb dX10_lose_10 (by decide) (fun h => absurd (by decide) h) (fun _ => ?_)
  refine lv_aload_n hx hb dX10_lose_13 rfl (lv_at hl 0 rfl) ?_
  refine lv_bipush (v := 6) hx hb dX10_lose_14 (by decide) ?_
  refine h_callVi (T := TX10) (rest := []) (As := [.int 6]) hx hb hml hown hts hK hT0 (fun _ h => h) hS0 (c_X10_refuse l G Y (o) hW 6) trivial wd_X10_refuse wV_X10_refuse wL_X10_258 (on_w0 hW) rfl rfl hl.1 rfl (Nat.le_of_ble_eq_true rfl) dX10_lose_16 ⟨Nat.le_of_ble_eq_true rfl, Nat.le_of_ble_eq_true rfl⟩ ⟨Nat.zero_le _, Nat.zero_le _⟩ (fun r2 H1 locs hp1 hT1 hS1 hk1 => ?_)
  have hp1 : r2 = 0 := hp1
  subst hp1
  exact hret _ _ _ _ _ hT1 hS1 ⟨by decide, rfl⟩ dX10_lose_19
set_option maxHeartbeats 4000000 in
set_option maxRecDepth 100000 in
theorem c_X10_snap (l : Launch) (G : hG) (Y : hW) (o : Nat) (hW : h_On Y o (wldE tF o)) (u1 u2 : Int32) : hMi l yX10_snap cX10_snap 3 (some .boolean) 1 21 G Y [.ref (o), .int u1, .int u2] (fun H => True) (fun H r H1 => r = 0) := by
  refine h_ofz (by decide +kernel) (Nat.le_of_ble_eq_true rfl) ?_
  intro p e s m args below meth c H0 ls Q hx hb hts hown hml hK hT0 hpr hS0 hl hret
  have hl : lv_has ls 3 [(0, .ref (o)), (1, .int u1), (2, .int u2)] := hl
  refine lv_iload_n hx hb dX10_snap_0 rfl (lv_at hl 2 rfl) ?_
  refine lv_if_lt (tgt := 9) hx hb dX10_snap_1 (by decide) (fun c1 => ?_) (fun c1 => ?_)
  · skip
    refine lv_aload_n hx hb dX10_snap_9 rfl (lv_at hl 0 rfl) ?_
    refine lv_iconst (v := 1) hx hb dX10_snap_10 (by decide) ?_
    refine h_callVi (T := TX10) (rest := []) (As := [.int 1]) hx hb hml hown hts hK hT0 (fun _ h => h) hS0 (c_X10_refuse l G Y (o) hW 1) trivial wd_X10_refuse wV_X10_refuse wL_X10_258 (on_w0 hW) rfl rfl hl.1 rfl (Nat.le_of_ble_eq_true rfl) dX10_snap_11 ⟨Nat.le_of_ble_eq_true rfl, Nat.le_of_ble_eq_true rfl⟩ ⟨Nat.zero_le _, Nat.zero_le _⟩ (fun r2 H1 locs hp1 hT1 hS1 hk1 => ?_)
    have hp1 : r2 = 0 := hp1
    subst hp1
    exact hret _ _ _ _ _ hT1 hS1 ⟨by decide, rfl⟩ dX10_snap_14
  · skip
    refine lv_iload_n hx hb dX10_snap_4 rfl (lv_at hl 2 rfl) ?_
    refine lv_iconst (v := 3) hx hb dX10_snap_5 (by decide) ?_
    refine lv_icmp_lt (tgt := 15) hx hb dX10_snap_6 (by decide) (fun c3 => ?_) (fun c3 => ?_)
    · skip
      refine lv_aload_n hx hb dX10_snap_15 rfl (lv_at hl 0 rfl) ?_
      refine h_getr (C := RX10) (T := TX10) (N := 9) hx hb hts inX10 hown hK hT0 (on_w0 hW) rfl 1 rfl wF_X10_19 rfl dX10_snap_16 ?_
      refine h_getr (C := RX5) (T := TX5) (N := 11) hx hb hts inX5 hown hK hT0 (on_rg (on_wr hW)) rfl 0 rfl wF_X10_86 rfl dX10_snap_19 ?_
      refine lv_iload_n hx hb dX10_snap_22 rfl (lv_at hl 1 rfl) ?_
      refine h_callVi (T := TX7) (rest := []) (As := [.int u1]) hx hb hml hown hts hK hT0 (fun _ h => h) hS0 (c_X7_exists l G Y (o + 3 + 1) (on_st (on_wr hW)) u1) trivial wd_X7_exists wV_X7_exists wL_X10_146 ((on_st (on_wr hW)).o rfl) rfl rfl hl.1 rfl (Nat.le_of_ble_eq_true rfl) dX10_snap_23 ⟨Nat.le_of_ble_eq_true rfl, Nat.le_of_ble_eq_true rfl⟩ ⟨Nat.zero_le _, Nat.zero_le _⟩ (fun r4 H2 locs hp2 hT2 hS2 hk2 => ?_)
      obtain ⟨hp2, he⟩ := hp2
      have he := he.symm
      subst he
      have hp2 : r4 = 0 := hp2
      subst hp2
      refine lv_if_ne (tgt := 35) hx hb dX10_snap_26 (by decide) (fun h => absurd (by decide) h) (fun _ => ?_)
      refine lv_aload_n hx hb dX10_snap_29 rfl (lv_at hl 0 rfl) ?_
      refine lv_iconst (v := 2) hx hb dX10_snap_30 (by decide) ?_
      refine h_callVi (T := TX10) (rest := []) (As := [.int 2]) hx hb hml hown hts hK hT0 (fun _ h => h) hS2 (c_X10_refuse l G Y (o) hW 2) trivial wd_X10_refuse wV_X10_refuse wL_X10_258 (on_w0 hW) rfl rfl hl.1 rfl (Nat.le_of_ble_eq_true rfl) dX10_snap_31 ⟨Nat.le_of_ble_eq_true rfl, Nat.le_of_ble_eq_true rfl⟩ ⟨Nat.zero_le _, Nat.zero_le _⟩ (fun r6 H3 locs hp3 hT3 hS3 hk3 => ?_)
      have hp3 : r6 = 0 := hp3
      subst hp3
      exact hret _ _ _ _ _ hT3 hS3 ⟨by decide, rfl⟩ dX10_snap_34
    · skip
      refine lv_aload_n hx hb dX10_snap_9 rfl (lv_at hl 0 rfl) ?_
      refine lv_iconst (v := 1) hx hb dX10_snap_10 (by decide) ?_
      refine h_callVi (T := TX10) (rest := []) (As := [.int 1]) hx hb hml hown hts hK hT0 (fun _ h => h) hS0 (c_X10_refuse l G Y (o) hW 1) trivial wd_X10_refuse wV_X10_refuse wL_X10_258 (on_w0 hW) rfl rfl hl.1 rfl (Nat.le_of_ble_eq_true rfl) dX10_snap_11 ⟨Nat.le_of_ble_eq_true rfl, Nat.le_of_ble_eq_true rfl⟩ ⟨Nat.zero_le _, Nat.zero_le _⟩ (fun r7 H4 locs hp4 hT4 hS4 hk4 => ?_)
      have hp4 : r7 = 0 := hp4
      subst hp4
      exact hret _ _ _ _ _ hT4 hS4 ⟨by decide, rfl⟩ dX10_snap_14
set_option maxHeartbeats 4000000 in
set_option maxRecDepth 100000 in
theorem c_X10_mend (l : Launch) (G : hG) (Y : hW) (o : Nat) (hW : h_On Y o (wldE tF o)) : hMi l yX10_mend cX10_mend 1 (some .boolean) 1 21 G Y [.ref (o)] (fun H => True) (fun H r H1 => r = 0) := by
  refine h_ofz (by decide +kernel) (Nat.le_of_ble_eq_true rfl) ?_
  intro p e s m args below meth c H0 ls Q hx hb hts hown hml hK hT0 hpr hS0 hl hret
  have hl : lv_has ls 1 [(0, .ref (o))] := hl
  refine lv_aload_n hx hb dX10_mend_0 rfl (lv_at hl 0 rfl) ?_
  refine h_getr (C := RX10) (T := TX10) (N := 9) hx hb hts inX10 hown hK hT0 (on_w0 hW) rfl 1 rfl wF_X10_19 rfl dX10_mend_1 ?_
  refine h_getr (C := RX5) (T := TX5) (N := 11) hx hb hts inX5 hown hK hT0 (on_rg (on_wr hW)) rfl 0 rfl wF_X10_86 rfl dX10_mend_4 ?_
  refine h_getc (v := (-1)) (C := RX7) (T := TX7) (N := 9) hx hb hts inX7 hown hK hT0 ((on_st (on_wr hW)).o rfl) rfl 7 rfl wF_X10_140 rfl (fun _ h => h) dX10_mend_7 ?_
  refine lv_iconst (v := (-1)) hx hb dX10_mend_10 (by decide) ?_
  refine lv_icmp_ne (tgt := 20) hx hb dX10_mend_11 (by decide) (fun h => absurd (by decide) h) (fun _ => ?_)
  refine lv_aload_n hx hb dX10_mend_14 rfl (lv_at hl 0 rfl) ?_
  refine lv_iconst (v := 5) hx hb dX10_mend_15 (by decide) ?_
  refine h_callVi (T := TX10) (rest := []) (As := [.int 5]) hx hb hml hown hts hK hT0 (fun _ h => h) hS0 (c_X10_refuse l G Y (o) hW 5) trivial wd_X10_refuse wV_X10_refuse wL_X10_258 (on_w0 hW) rfl rfl hl.1 rfl (Nat.le_of_ble_eq_true rfl) dX10_mend_16 ⟨Nat.le_of_ble_eq_true rfl, Nat.le_of_ble_eq_true rfl⟩ ⟨Nat.zero_le _, Nat.zero_le _⟩ (fun r2 H1 locs hp1 hT1 hS1 hk1 => ?_)
  have hp1 : r2 = 0 := hp1
  subst hp1
  exact hret _ _ _ _ _ hT1 hS1 ⟨by decide, rfl⟩ dX10_mend_19
set_option maxHeartbeats 4000000 in
set_option maxRecDepth 100000 in
theorem c_X10_notice (l : Launch) (G : hG) (Y : hW) (o : Nat) (hW : h_On Y o (wldE tF o)) : hMi l yX10_notice cX10_notice 1 (some .int) 3 63 G Y [.ref (o)] (fun H => True) (fun H r H1 => r = (-1)) := by
  refine h_ofi (by decide +kernel) (Nat.le_of_ble_eq_true rfl) ?_
  intro p e s m args below meth c H0 ls Q hx hb hts hown hml hK hT0 hpr hS0 hl hret
  have hl : lv_has ls 1 [(0, .ref (o))] := hl
  refine lv_aload_n hx hb dX10_notice_0 rfl (lv_at hl 0 rfl) ?_
  refine h_getr (C := RX10) (T := TX10) (N := 9) hx hb hts inX10 hown hK hT0 (on_w0 hW) rfl 1 rfl wF_X10_19 rfl dX10_notice_1 ?_
  refine h_getr (C := RX5) (T := TX5) (N := 11) hx hb hts inX5 hown hK hT0 (on_rg (on_wr hW)) rfl 0 rfl wF_X10_86 rfl dX10_notice_4 ?_
  refine h_callVi (T := TX7) (rest := []) (As := []) hx hb hml hown hts hK hT0 (fun _ h => h) hS0 (c_X7_breakCounts l G Y (o + 3 + 1) (on_st (on_wr hW))) trivial wd_X7_breakCounts wV_X7_breakCounts wL_X10_136 ((on_st (on_wr hW)).o rfl) rfl rfl hl.1 rfl (Nat.le_of_ble_eq_true rfl) dX10_notice_7 ⟨Nat.le_of_ble_eq_true rfl, Nat.le_of_ble_eq_true rfl⟩ ⟨Nat.zero_le _, Nat.zero_le _⟩ (fun r1 H1 locs hp1 hT1 hS1 hk1 => ?_)
  obtain ⟨hp1, he⟩ := hp1
  have he := he.symm
  subst he
  have hp1 : r1 = 0 := hp1
  subst hp1
  refine lv_if_eq (tgt := 19) hx hb dX10_notice_10 (by decide) (fun _ => ?_) (fun h => absurd (by decide) h)
  refine lv_aload_n hx hb dX10_notice_19 rfl (lv_at hl 0 rfl) ?_
  refine h_getr (C := RX10) (T := TX10) (N := 9) hx hb hts inX10 hown hK hT0 (on_w0 hW) rfl 1 rfl wF_X10_19 rfl dX10_notice_20 ?_
  refine h_getr (C := RX5) (T := TX5) (N := 11) hx hb hts inX5 hown hK hT0 (on_rg (on_wr hW)) rfl 0 rfl wF_X10_86 rfl dX10_notice_23 ?_
  refine h_callVi (T := TX7) (rest := []) (As := []) hx hb hml hown hts hK hT0 (fun _ h => h) hS1 (c_X7_chiefIsOn l G Y (o + 3 + 1) (on_st (on_wr hW))) trivial wd_X7_chiefIsOn wV_X7_chiefIsOn wL_X10_284 ((on_st (on_wr hW)).o rfl) rfl rfl hl.1 rfl (Nat.le_of_ble_eq_true rfl) dX10_notice_26 ⟨Nat.le_of_ble_eq_true rfl, Nat.le_of_ble_eq_true rfl⟩ ⟨Nat.zero_le _, Nat.zero_le _⟩ (fun r3 H2 locs hp2 hT2 hS2 hk2 => ?_)
  obtain ⟨hp2, he⟩ := hp2
  have he := he.symm
  subst he
  have hp2 : r3 = 0 := hp2
  subst hp2
  refine lv_if_ne (tgt := 38) hx hb dX10_notice_29 (by decide) (fun h => absurd (by decide) h) (fun _ => ?_)
  refine lv_aload_n hx hb dX10_notice_32 rfl (lv_at hl 0 rfl) ?_
  refine lv_iconst (v := 5) hx hb dX10_notice_33 (by decide) ?_
  refine h_callVi (T := TX10) (rest := []) (As := [.int 5]) hx hb hml hown hts hK hT0 (fun _ h => h) hS2 (c_X10_fail l G Y (o) hW 5) trivial wd_X10_fail wV_X10_fail wL_X10_66 (on_w0 hW) rfl rfl hl.1 rfl (Nat.le_of_ble_eq_true rfl) dX10_notice_34 ⟨Nat.le_of_ble_eq_true rfl, Nat.le_of_ble_eq_true rfl⟩ ⟨Nat.zero_le _, Nat.zero_le _⟩ (fun r5 H3 locs hp3 hT3 hS3 hk3 => ?_)
  have hp3 : r5 = (-1) := hp3
  subst hp3
  exact hret _ _ _ _ _ hT3 hS3 rfl dX10_notice_37
set_option maxHeartbeats 4000000 in
set_option maxRecDepth 100000 in
theorem c_X10_stale (l : Launch) (G : hG) (Y : hW) (o : Nat) (hW : h_On Y o (wldE tF o)) : hMi l yX10_stale cX10_stale 1 (some .int) 1 22 G Y [.ref (o)] (fun H => True) (fun H r H1 => r = 0) := by
  refine h_ofi (by decide +kernel) (Nat.le_of_ble_eq_true rfl) ?_
  intro p e s m args below meth c H0 ls Q hx hb hts hown hml hK hT0 hpr hS0 hl hret
  have hl : lv_has ls 1 [(0, .ref (o))] := hl
  refine lv_aload_n hx hb dX10_stale_0 rfl (lv_at hl 0 rfl) ?_
  refine lv_aload_n hx hb dX10_stale_1 rfl (lv_at hl 0 rfl) ?_
  refine h_getr (C := RX10) (T := TX10) (N := 9) hx hb hts inX10 hown hK hT0 (on_w0 hW) rfl 1 rfl wF_X10_19 rfl dX10_stale_2 ?_
  refine h_getr (C := RX5) (T := TX5) (N := 11) hx hb hts inX5 hown hK hT0 (on_rg (on_wr hW)) rfl 0 rfl wF_X10_86 rfl dX10_stale_5 ?_
  refine h_callVi (T := TX7) (rest := [.ref (o)]) (As := []) hx hb hml hown hts hK hT0 (fun _ h => h) hS0 (c_X7_staleBits l G Y (o + 3 + 1) (on_st (on_wr hW))) trivial wd_X7_staleBits wV_X7_staleBits wL_X10_290 ((on_st (on_wr hW)).o rfl) rfl rfl hl.1 rfl (Nat.le_of_ble_eq_true rfl) dX10_stale_8 ⟨Nat.le_of_ble_eq_true rfl, Nat.le_of_ble_eq_true rfl⟩ ⟨Nat.zero_le _, Nat.zero_le _⟩ (fun r1 H1 locs hp1 hT1 hS1 hk1 => ?_)
  obtain ⟨hp1, he⟩ := hp1
  have he := he.symm
  subst he
  have hp1 : r1 = 0 := hp1
  subst hp1
  refine h_callVi (T := TX10) (rest := []) (As := [.int 0]) hx hb hml hown hts hK hT0 (fun _ h => h) hS1 (c_X10_give l G Y (o) hW 0) trivial wd_X10_give wV_X10_give wL_X10_95 (on_w0 hW) rfl rfl hl.1 rfl (Nat.le_of_ble_eq_true rfl) dX10_stale_11 ⟨Nat.le_of_ble_eq_true rfl, Nat.le_of_ble_eq_true rfl⟩ ⟨Nat.zero_le _, Nat.zero_le _⟩ (fun r2 H2 locs hp2 hT2 hS2 hk2 => ?_)
  have hp2 : r2 = 0 := hp2
  subst hp2
  exact hret _ _ _ _ _ hT2 hS2 rfl dX10_stale_14
set_option maxHeartbeats 4000000 in
set_option maxRecDepth 100000 in
theorem c_X10_quiet (l : Launch) (G : hG) (Y : hW) (o : Nat) (hW : h_On Y o (wldE tF o)) (u1 : Int32) : hMi l yX10_quiet cX10_quiet 2 (some .int) 4 126 G Y [.ref (o), .int u1] (fun H => True) (fun H r H1 => r = 0) := by
  refine h_ofi (by decide +kernel) (Nat.le_of_ble_eq_true rfl) ?_
  intro p e s m args below meth c H0 ls Q hx hb hts hown hml hK hT0 hpr hS0 hl hret
  have hl : lv_has ls 2 [(0, .ref (o)), (1, .int u1)] := hl
  refine lv_aload_n hx hb dX10_quiet_0 rfl (lv_at hl 0 rfl) ?_
  refine lv_aload_n hx hb dX10_quiet_1 rfl (lv_at hl 0 rfl) ?_
  refine h_getr (C := RX10) (T := TX10) (N := 9) hx hb hts inX10 hown hK hT0 (on_w0 hW) rfl 3 rfl wF_X10_31 rfl dX10_quiet_2 ?_
  refine lv_iconst (v := 0) hx hb dX10_quiet_5 (by decide) ?_
  refine lv_iconst (v := (-1)) hx hb dX10_quiet_6 (by decide) ?_
  refine lv_iload_n hx hb dX10_quiet_7 rfl (lv_at hl 1 rfl) ?_
  refine h_callVi (T := TX1) (rest := [.ref (o)]) (As := [.int 0, .int (-1), .int u1]) hx hb hml hown hts hK hT0 (fun _ h => h) hS0 (c_ticksTill_0 l G Y (o + 53) (o + 3) (o + 28) (on_wp hW) (on_wr hW) (on_ws hW) (-1) u1) trivial wd_X1_ticksTill wV_X1_ticksTill wL_X10_296 ((on_wp hW).o rfl) rfl rfl hl.1 rfl (Nat.le_of_ble_eq_true rfl) dX10_quiet_8 ⟨Nat.le_of_ble_eq_true rfl, Nat.le_of_ble_eq_true rfl⟩ ⟨Nat.zero_le _, Nat.zero_le _⟩ (fun r1 H1 locs hp1 hT1 hS1 hk1 => ?_)
  have hp1 : r1 = 0 := hp1
  subst hp1
  refine h_callVi (T := TX10) (rest := []) (As := [.int 0]) hx hb hml hown hts hK hT1 (fun _ h => h) hS1 (c_X10_giveReached l G Y (o) hW 0) trivial wd_X10_giveReached wV_X10_giveReached wL_X10_300 (on_w0 hW) rfl rfl hl.1 rfl (Nat.le_of_ble_eq_true rfl) dX10_quiet_11 ⟨Nat.le_of_ble_eq_true rfl, Nat.le_of_ble_eq_true rfl⟩ ⟨Nat.zero_le _, Nat.zero_le _⟩ (fun r2 H2 locs hp2 hT2 hS2 hk2 => ?_)
  have hp2 : r2 = 0 := hp2
  subst hp2
  exact hret _ _ _ _ _ hT2 hS2 rfl dX10_quiet_14
set_option maxHeartbeats 4000000 in
set_option maxRecDepth 100000 in
theorem c_X10_when (l : Launch) (G : hG) (Y : hW) (o : Nat) (hW : h_On Y o (wldE tF o)) (u1 u2 : Int32) : hMi l yX10_when cX10_when 3 (some .int) 2 44 G Y [.ref (o), .int u1, .int u2] (fun H => True) (fun H r H1 => r = (-1)) := by
  refine h_ofi (by decide +kernel) (Nat.le_of_ble_eq_true rfl) ?_
  intro p e s m args below meth c H0 ls Q hx hb hts hown hml hK hT0 hpr hS0 hl hret
  have hl : lv_has ls 3 [(0, .ref (o)), (1, .int u1), (2, .int u2)] := hl
  refine lv_iload_n hx hb dX10_when_0 rfl (lv_at hl 1 rfl) ?_
  refine lv_if_ge (tgt := 10) hx hb dX10_when_1 (by decide) (fun c1 => ?_) (fun c1 => ?_)
  · skip
    refine lv_aload_n hx hb dX10_when_10 rfl (lv_at hl 0 rfl) ?_
    refine h_getr (C := RX10) (T := TX10) (N := 9) hx hb hts inX10 hown hK hT0 (on_w0 hW) rfl 1 rfl wF_X10_19 rfl dX10_when_11 ?_
    refine lv_iload_n hx hb dX10_when_14 rfl (lv_at hl 1 rfl) ?_
    refine h_callVi (T := TX5) (rest := []) (As := [.int u1]) hx hb hml hown hts hK hT0 (fun _ h => h) hS0 (c_X5_hasFrame l G Y (o + 3) (on_wr hW) u1) trivial wd_X5_hasFrame wV_X5_hasFrame wL_X10_303 (on_rg (on_wr hW)) rfl rfl hl.1 rfl (Nat.le_of_ble_eq_true rfl) dX10_when_15 ⟨Nat.le_of_ble_eq_true rfl, Nat.le_of_ble_eq_true rfl⟩ ⟨Nat.zero_le _, Nat.zero_le _⟩ (fun r2 H1 locs hp1 hT1 hS1 hk1 => ?_)
    obtain ⟨hp1, he⟩ := hp1
    have he := he.symm
    subst he
    have hp1 : r2 = 0 := hp1
    subst hp1
    refine lv_if_ne (tgt := 27) hx hb dX10_when_18 (by decide) (fun h => absurd (by decide) h) (fun _ => ?_)
    refine lv_aload_n hx hb dX10_when_21 rfl (lv_at hl 0 rfl) ?_
    refine lv_iconst (v := 5) hx hb dX10_when_22 (by decide) ?_
    refine h_callVi (T := TX10) (rest := []) (As := [.int 5]) hx hb hml hown hts hK hT0 (fun _ h => h) hS1 (c_X10_fail l G Y (o) hW 5) trivial wd_X10_fail wV_X10_fail wL_X10_66 (on_w0 hW) rfl rfl hl.1 rfl (Nat.le_of_ble_eq_true rfl) dX10_when_23 ⟨Nat.le_of_ble_eq_true rfl, Nat.le_of_ble_eq_true rfl⟩ ⟨Nat.zero_le _, Nat.zero_le _⟩ (fun r4 H2 locs hp2 hT2 hS2 hk2 => ?_)
    have hp2 : r4 = (-1) := hp2
    subst hp2
    exact hret _ _ _ _ _ hT2 hS2 rfl dX10_when_26
  · skip
    refine lv_aload_n hx hb dX10_when_4 rfl (lv_at hl 0 rfl) ?_
    refine lv_iconst (v := 1) hx hb dX10_when_5 (by decide) ?_
    refine h_callVi (T := TX10) (rest := []) (As := [.int 1]) hx hb hml hown hts hK hT0 (fun _ h => h) hS0 (c_X10_fail l G Y (o) hW 1) trivial wd_X10_fail wV_X10_fail wL_X10_66 (on_w0 hW) rfl rfl hl.1 rfl (Nat.le_of_ble_eq_true rfl) dX10_when_6 ⟨Nat.le_of_ble_eq_true rfl, Nat.le_of_ble_eq_true rfl⟩ ⟨Nat.zero_le _, Nat.zero_le _⟩ (fun r5 H3 locs hp3 hT3 hS3 hk3 => ?_)
    have hp3 : r5 = (-1) := hp3
    subst hp3
    exact hret _ _ _ _ _ hT3 hS3 rfl dX10_when_9
set_option maxHeartbeats 4000000 in
set_option maxRecDepth 100000 in
theorem c_X10_next (l : Launch) (G : hG) (Y : hW) (o : Nat) (hW : h_On Y o (wldE tF o)) (u1 u2 : Int32) : hMi l yX10_next cX10_next 3 (some .int) 5 126 G Y [.ref (o), .int u1, .int u2] (fun H => True) (fun H r H1 => r = (-1)) := by
  refine h_ofi (by decide +kernel) (Nat.le_of_ble_eq_true rfl) ?_
  intro p e s m args below meth c H0 ls Q hx hb hts hown hml hK hT0 hpr hS0 hl hret
  have hl : lv_has ls 3 [(0, .ref (o)), (1, .int u1), (2, .int u2)] := hl
  refine lv_iload_n hx hb dX10_next_0 rfl (lv_at hl 1 rfl) ?_
  refine lv_if_ge (tgt := 10) hx hb dX10_next_1 (by decide) (fun c1 => ?_) (fun c1 => ?_)
  · skip
    refine lv_aload_n hx hb dX10_next_10 rfl (lv_at hl 0 rfl) ?_
    refine lv_aload_n hx hb dX10_next_11 rfl (lv_at hl 0 rfl) ?_
    refine h_getr (C := RX10) (T := TX10) (N := 9) hx hb hts inX10 hown hK hT0 (on_w0 hW) rfl 3 rfl wF_X10_31 rfl dX10_next_12 ?_
    refine lv_iload_n hx hb dX10_next_15 rfl (lv_at hl 1 rfl) ?_
    refine lv_iload_n hx hb dX10_next_16 rfl (lv_at hl 2 rfl) ?_
    refine h_callVi (T := TX1) (rest := [.ref (o)]) (As := [.int u1, .int u2]) hx hb hml hown hts hK hT0 (fun _ h => h) hS0 (c_X1_numberGot l G Y (o + 53) (o + 3) (o + 28) (on_wp hW) (on_wr hW) (on_ws hW) u1 u2) trivial wd_X1_numberGot wV_X1_numberGot wL_X10_306 ((on_wp hW).o rfl) rfl rfl hl.1 rfl (Nat.le_of_ble_eq_true rfl) dX10_next_17 ⟨Nat.le_of_ble_eq_true rfl, Nat.le_of_ble_eq_true rfl⟩ ⟨Nat.zero_le _, Nat.zero_le _⟩ (fun r2 H1 locs hp1 hT1 hS1 hk1 => ?_)
    have hp1 : r2 = (-1) := hp1
    subst hp1
    refine h_callVi (T := TX10) (rest := []) (As := [.int (-1)]) hx hb hml hown hts hK hT1 (fun _ h => h) hS1 (c_X10_giveReached l G Y (o) hW (-1)) trivial wd_X10_giveReached wV_X10_giveReached wL_X10_300 (on_w0 hW) rfl rfl hl.1 rfl (Nat.le_of_ble_eq_true rfl) dX10_next_20 ⟨Nat.le_of_ble_eq_true rfl, Nat.le_of_ble_eq_true rfl⟩ ⟨Nat.zero_le _, Nat.zero_le _⟩ (fun r3 H2 locs hp2 hT2 hS2 hk2 => ?_)
    have hp2 : r3 = (-1) := hp2
    subst hp2
    exact hret _ _ _ _ _ hT2 hS2 rfl dX10_next_23
  · skip
    refine lv_aload_n hx hb dX10_next_4 rfl (lv_at hl 0 rfl) ?_
    refine lv_iconst (v := 1) hx hb dX10_next_5 (by decide) ?_
    refine h_callVi (T := TX10) (rest := []) (As := [.int 1]) hx hb hml hown hts hK hT0 (fun _ h => h) hS0 (c_X10_fail l G Y (o) hW 1) trivial wd_X10_fail wV_X10_fail wL_X10_66 (on_w0 hW) rfl rfl hl.1 rfl (Nat.le_of_ble_eq_true rfl) dX10_next_6 ⟨Nat.le_of_ble_eq_true rfl, Nat.le_of_ble_eq_true rfl⟩ ⟨Nat.zero_le _, Nat.zero_le _⟩ (fun r4 H3 locs hp3 hT3 hS3 hk3 => ?_)
    have hp3 : r4 = (-1) := hp3
    subst hp3
    exact hret _ _ _ _ _ hT3 hS3 rfl dX10_next_9
set_option maxHeartbeats 4000000 in
set_option maxRecDepth 100000 in
theorem c_X10_peak (l : Launch) (G : hG) (Y : hW) (o : Nat) (hW : h_On Y o (wldE tF o)) : hMi l yX10_peak cX10_peak 1 (some .int) 4 124 G Y [.ref (o)] (fun H => True) (fun H r H1 => r = 0) := by
  refine h_ofi (by decide +kernel) (Nat.le_of_ble_eq_true rfl) ?_
  intro p e s m args below meth c H0 ls Q hx hb hts hown hml hK hT0 hpr hS0 hl hret
  have hl : lv_has ls 1 [(0, .ref (o))] := hl
  refine lv_aload_n hx hb dX10_peak_0 rfl (lv_at hl 0 rfl) ?_
  refine lv_aload_n hx hb dX10_peak_1 rfl (lv_at hl 0 rfl) ?_
  refine h_getr (C := RX10) (T := TX10) (N := 9) hx hb hts inX10 hown hK hT0 (on_w0 hW) rfl 3 rfl wF_X10_31 rfl dX10_peak_2 ?_
  refine h_callVi (T := TX1) (rest := [.ref (o)]) (As := []) hx hb hml hown hts hK hT0 (fun _ h => h) hS0 (c_X1_greatestLevel l G Y (o + 53) (o + 3) (o + 28) (on_wp hW) (on_wr hW) (on_ws hW)) trivial wd_X1_greatestLevel wV_X1_greatestLevel wL_X10_310 ((on_wp hW).o rfl) rfl rfl hl.1 rfl (Nat.le_of_ble_eq_true rfl) dX10_peak_5 ⟨Nat.le_of_ble_eq_true rfl, Nat.le_of_ble_eq_true rfl⟩ ⟨Nat.zero_le _, Nat.zero_le _⟩ (fun r1 H1 locs hp1 hT1 hS1 hk1 => ?_)
  have hp1 : r1 = 0 := hp1
  subst hp1
  refine h_callVi (T := TX10) (rest := []) (As := [.int 0]) hx hb hml hown hts hK hT1 (fun _ h => h) hS1 (c_X10_giveReached l G Y (o) hW 0) trivial wd_X10_giveReached wV_X10_giveReached wL_X10_300 (on_w0 hW) rfl rfl hl.1 rfl (Nat.le_of_ble_eq_true rfl) dX10_peak_8 ⟨Nat.le_of_ble_eq_true rfl, Nat.le_of_ble_eq_true rfl⟩ ⟨Nat.zero_le _, Nat.zero_le _⟩ (fun r2 H2 locs hp2 hT2 hS2 hk2 => ?_)
  have hp2 : r2 = 0 := hp2
  subst hp2
  exact hret _ _ _ _ _ hT2 hS2 rfl dX10_peak_11
set_option maxHeartbeats 4000000 in
set_option maxRecDepth 100000 in
theorem c_X10_lowered (l : Launch) (G : hG) (Y : hW) (o : Nat) (hW : h_On Y o (wldE tF o)) : hMi l yX10_lowered cX10_lowered 1 (some .int) 4 126 G Y [.ref (o)] (fun H => True) (fun H r H1 => r = 0) := by
  refine h_ofi (by decide +kernel) (Nat.le_of_ble_eq_true rfl) ?_
  intro p e s m args below meth c H0 ls Q hx hb hts hown hml hK hT0 hpr hS0 hl hret
  have hl : lv_has ls 1 [(0, .ref (o))] := hl
  refine lv_aload_n hx hb dX10_lowered_0 rfl (lv_at hl 0 rfl) ?_
  refine lv_aload_n hx hb dX10_lowered_1 rfl (lv_at hl 0 rfl) ?_
  refine h_getr (C := RX10) (T := TX10) (N := 9) hx hb hts inX10 hown hK hT0 (on_w0 hW) rfl 3 rfl wF_X10_31 rfl dX10_lowered_2 ?_
  refine lv_iconst (v := 2) hx hb dX10_lowered_5 (by decide) ?_
  refine lv_iconst (v := (-1)) hx hb dX10_lowered_6 (by decide) ?_
  refine lv_iconst (v := 0) hx hb dX10_lowered_7 (by decide) ?_
  refine h_callVi (T := TX1) (rest := [.ref (o)]) (As := [.int 2, .int (-1), .int 0]) hx hb hml hown hts hK hT0 (fun _ h => h) hS0 (c_ticksTill_2 l G Y (o + 53) (o + 3) (o + 28) (on_wp hW) (on_wr hW) (on_ws hW) (-1) 0) trivial wd_X1_ticksTill wV_X1_ticksTill wL_X10_296 ((on_wp hW).o rfl) rfl rfl hl.1 rfl (Nat.le_of_ble_eq_true rfl) dX10_lowered_8 ⟨Nat.le_of_ble_eq_true rfl, Nat.le_of_ble_eq_true rfl⟩ ⟨Nat.zero_le _, Nat.zero_le _⟩ (fun r1 H1 locs hp1 hT1 hS1 hk1 => ?_)
  have hp1 : r1 = 0 := hp1
  subst hp1
  refine h_callVi (T := TX10) (rest := []) (As := [.int 0]) hx hb hml hown hts hK hT1 (fun _ h => h) hS1 (c_X10_giveReached l G Y (o) hW 0) trivial wd_X10_giveReached wV_X10_giveReached wL_X10_300 (on_w0 hW) rfl rfl hl.1 rfl (Nat.le_of_ble_eq_true rfl) dX10_lowered_11 ⟨Nat.le_of_ble_eq_true rfl, Nat.le_of_ble_eq_true rfl⟩ ⟨Nat.zero_le _, Nat.zero_le _⟩ (fun r2 H2 locs hp2 hT2 hS2 hk2 => ?_)
  have hp2 : r2 = 0 := hp2
  subst hp2
  exact hret _ _ _ _ _ hT2 hS2 rfl dX10_lowered_14
set_option maxHeartbeats 4000000 in
set_option maxRecDepth 100000 in
theorem c_X10_healed (l : Launch) (G : hG) (Y : hW) (o : Nat) (hW : h_On Y o (wldE tF o)) : hMi l yX10_healed cX10_healed 1 (some .int) 5 126 G Y [.ref (o)] (fun H => True) (fun H r H1 => r = (-1)) := by
  refine h_ofi (by decide +kernel) (Nat.le_of_ble_eq_true rfl) ?_
  intro p e s m args below meth c H0 ls Q hx hb hts hown hml hK hT0 hpr hS0 hl hret
  have hl : lv_has ls 1 [(0, .ref (o))] := hl
  refine lv_aload_n hx hb dX10_healed_0 rfl (lv_at hl 0 rfl) ?_
  refine lv_aload_n hx hb dX10_healed_1 rfl (lv_at hl 0 rfl) ?_
  refine h_getr (C := RX10) (T := TX10) (N := 9) hx hb hts inX10 hown hK hT0 (on_w0 hW) rfl 3 rfl wF_X10_31 rfl dX10_healed_2 ?_
  refine lv_iconst (v := 3) hx hb dX10_healed_5 (by decide) ?_
  refine lv_iconst (v := (-1)) hx hb dX10_healed_6 (by decide) ?_
  refine lv_iconst (v := 0) hx hb dX10_healed_7 (by decide) ?_
  refine h_callVi (T := TX1) (rest := [.ref (o)]) (As := [.int 3, .int (-1), .int 0]) hx hb hml hown hts hK hT0 (fun _ h => h) hS0 (c_ticksTill_3 l G Y (o + 53) (o + 3) (o + 28) (on_wp hW) (on_wr hW) (on_ws hW) (-1) 0) trivial wd_X1_ticksTill wV_X1_ticksTill wL_X10_296 ((on_wp hW).o rfl) rfl rfl hl.1 rfl (Nat.le_of_ble_eq_true rfl) dX10_healed_8 ⟨Nat.le_of_ble_eq_true rfl, Nat.le_of_ble_eq_true rfl⟩ ⟨Nat.zero_le _, Nat.zero_le _⟩ (fun r1 H1 locs hp1 hT1 hS1 hk1 => ?_)
  have hp1 : r1 = (-1) := hp1
  subst hp1
  refine h_callVi (T := TX10) (rest := []) (As := [.int (-1)]) hx hb hml hown hts hK hT1 (fun _ h => h) hS1 (c_X10_giveReached l G Y (o) hW (-1)) trivial wd_X10_giveReached wV_X10_giveReached wL_X10_300 (on_w0 hW) rfl rfl hl.1 rfl (Nat.le_of_ble_eq_true rfl) dX10_healed_11 ⟨Nat.le_of_ble_eq_true rfl, Nat.le_of_ble_eq_true rfl⟩ ⟨Nat.zero_le _, Nat.zero_le _⟩ (fun r2 H2 locs hp2 hT2 hS2 hk2 => ?_)
  have hp2 : r2 = (-1) := hp2
  subst hp2
  exact hret _ _ _ _ _ hT2 hS2 rfl dX10_healed_14
set_option maxHeartbeats 4000000 in
set_option maxRecDepth 100000 in
theorem c_X10_purged (l : Launch) (G : hG) (Y : hW) (o : Nat) (hW : h_On Y o (wldE tF o)) : hMi l yX10_purged cX10_purged 1 (some .int) 5 126 G Y [.ref (o)] (fun H => True) (fun H r H1 => r = (-1)) := by
  refine h_ofi (by decide +kernel) (Nat.le_of_ble_eq_true rfl) ?_
  intro p e s m args below meth c H0 ls Q hx hb hts hown hml hK hT0 hpr hS0 hl hret
  have hl : lv_has ls 1 [(0, .ref (o))] := hl
  refine lv_aload_n hx hb dX10_purged_0 rfl (lv_at hl 0 rfl) ?_
  refine lv_aload_n hx hb dX10_purged_1 rfl (lv_at hl 0 rfl) ?_
  refine h_getr (C := RX10) (T := TX10) (N := 9) hx hb hts inX10 hown hK hT0 (on_w0 hW) rfl 3 rfl wF_X10_31 rfl dX10_purged_2 ?_
  refine lv_iconst (v := 4) hx hb dX10_purged_5 (by decide) ?_
  refine lv_iconst (v := (-1)) hx hb dX10_purged_6 (by decide) ?_
  refine lv_iconst (v := 0) hx hb dX10_purged_7 (by decide) ?_
  refine h_callVi (T := TX1) (rest := [.ref (o)]) (As := [.int 4, .int (-1), .int 0]) hx hb hml hown hts hK hT0 (fun _ h => h) hS0 (c_ticksTill_4 l G Y (o + 53) (o + 3) (o + 28) (on_wp hW) (on_wr hW) (on_ws hW) (-1) 0) trivial wd_X1_ticksTill wV_X1_ticksTill wL_X10_296 ((on_wp hW).o rfl) rfl rfl hl.1 rfl (Nat.le_of_ble_eq_true rfl) dX10_purged_8 ⟨Nat.le_of_ble_eq_true rfl, Nat.le_of_ble_eq_true rfl⟩ ⟨Nat.zero_le _, Nat.zero_le _⟩ (fun r1 H1 locs hp1 hT1 hS1 hk1 => ?_)
  have hp1 : r1 = (-1) := hp1
  subst hp1
  refine h_callVi (T := TX10) (rest := []) (As := [.int (-1)]) hx hb hml hown hts hK hT1 (fun _ h => h) hS1 (c_X10_giveReached l G Y (o) hW (-1)) trivial wd_X10_giveReached wV_X10_giveReached wL_X10_300 (on_w0 hW) rfl rfl hl.1 rfl (Nat.le_of_ble_eq_true rfl) dX10_purged_11 ⟨Nat.le_of_ble_eq_true rfl, Nat.le_of_ble_eq_true rfl⟩ ⟨Nat.zero_le _, Nat.zero_le _⟩ (fun r2 H2 locs hp2 hT2 hS2 hk2 => ?_)
  have hp2 : r2 = (-1) := hp2
  subst hp2
  exact hret _ _ _ _ _ hT2 hS2 rfl dX10_purged_14
set_option maxHeartbeats 4000000 in
set_option maxRecDepth 100000 in
theorem c_X10_blamed (l : Launch) (G : hG) (Y : hW) (o : Nat) (hW : h_On Y o (wldE tF o)) : hMi l yX10_blamed cX10_blamed 2 (some .int) 5 126 G Y [.ref (o)] (fun H => True) (fun H r H1 => r = (-1)) := by
  refine h_ofi (by decide +kernel) (Nat.le_of_ble_eq_true rfl) ?_
  intro p e s m args below meth c H0 ls Q hx hb hts hown hml hK hT0 hpr hS0 hl hret
  have hl : lv_has ls 2 [(0, .ref (o))] := hl
  refine lv_aload_n hx hb dX10_blamed_0 rfl (lv_at hl 0 rfl) ?_
  refine h_getr (C := RX10) (T := TX10) (N := 9) hx hb hts inX10 hown hK hT0 (on_w0 hW) rfl 3 rfl wF_X10_31 rfl dX10_blamed_1 ?_
  refine lv_iconst (v := 5) hx hb dX10_blamed_4 (by decide) ?_
  refine lv_iconst (v := (-1)) hx hb dX10_blamed_5 (by decide) ?_
  refine lv_iconst (v := 0) hx hb dX10_blamed_6 (by decide) ?_
  refine h_callVi (T := TX1) (rest := []) (As := [.int 5, .int (-1), .int 0]) hx hb hml hown hts hK hT0 (fun _ h => h) hS0 (c_ticksTill_5 l G Y (o + 53) (o + 3) (o + 28) (on_wp hW) (on_wr hW) (on_ws hW) (-1) 0) trivial wd_X1_ticksTill wV_X1_ticksTill wL_X10_296 ((on_wp hW).o rfl) rfl rfl hl.1 rfl (Nat.le_of_ble_eq_true rfl) dX10_blamed_7 ⟨Nat.le_of_ble_eq_true rfl, Nat.le_of_ble_eq_true rfl⟩ ⟨Nat.zero_le _, Nat.zero_le _⟩ (fun r1 H1 locs hp1 hT1 hS1 hk1 => ?_)
  have hp1 : r1 = (-1) := hp1
  subst hp1
  refine lv_istore_n (lv' := [(1, .int (-1)), (0, .ref (o))]) hx hb dX10_blamed_10 rfl hl (by decide) rfl (fun ls hl => ?_)
  refine lv_aload_n hx hb dX10_blamed_11 rfl (lv_at hl 1 rfl) ?_
  refine lv_iload_n hx hb dX10_blamed_12 rfl (lv_at hl 0 rfl) ?_
  refine lv_iconst (v := (-1)) hx hb dX10_blamed_13 (by decide) ?_
  refine lv_icmp_ne (tgt := 21) hx hb dX10_blamed_14 (by decide) (fun h => absurd (by decide) h) (fun _ => ?_)
  refine lv_iconst (v := (-1)) hx hb dX10_blamed_17 (by decide) ?_
  refine lv_goto (tgt := 28) hx hb dX10_blamed_18 (by decide) ?_
  refine h_callVi (T := TX10) (rest := []) (As := [.int (-1)]) hx hb hml hown hts hK hT1 (fun _ h => h) hS1 (c_X10_giveReached l G Y (o) hW (-1)) trivial wd_X10_giveReached wV_X10_giveReached wL_X10_300 (on_w0 hW) rfl rfl hl.1 rfl (Nat.le_of_ble_eq_true rfl) dX10_blamed_28 ⟨Nat.le_of_ble_eq_true rfl, Nat.le_of_ble_eq_true rfl⟩ ⟨Nat.zero_le _, Nat.zero_le _⟩ (fun r3 H2 locs hp2 hT2 hS2 hk2 => ?_)
  have hp2 : r3 = (-1) := hp2
  subst hp2
  exact hret _ _ _ _ _ hT2 hS2 rfl dX10_blamed_31
set_option maxHeartbeats 4000000 in
set_option maxRecDepth 100000 in
theorem c_X10_gain (l : Launch) (G : hG) (Y : hW) (o : Nat) (hW : h_On Y o (wldE tF o)) : hMi l yX10_gain cX10_gain 1 (some .int) 5 126 G Y [.ref (o)] (fun H => True) (fun H r H1 => r = 0) := by
  refine h_ofi (by decide +kernel) (Nat.le_of_ble_eq_true rfl) ?_
  intro p e s m args below meth c H0 ls Q hx hb hts hown hml hK hT0 hpr hS0 hl hret
  have hl : lv_has ls 1 [(0, .ref (o))] := hl
  refine lv_aload_n hx hb dX10_gain_0 rfl (lv_at hl 0 rfl) ?_
  refine h_getr (C := RX10) (T := TX10) (N := 9) hx hb hts inX10 hown hK hT0 (on_w0 hW) rfl 3 rfl wF_X10_31 rfl dX10_gain_1 ?_
  refine lv_iconst (v := 0) hx hb dX10_gain_4 (by decide) ?_
  refine h_callVv (T := TX1) (rest := []) (As := [.int 0]) hx hb hml hown hts hK hT0 (fun _ h => h) hS0 (c_X1_noteGot l G Y (o + 53) (o + 3) (o + 28) (on_wp hW) (on_wr hW) (on_ws hW) 0) trivial wd_X1_noteGot wV_X1_noteGot wL_X10_316 ((on_wp hW).o rfl) rfl rfl hl.1 rfl (Nat.le_of_ble_eq_true rfl) dX10_gain_5 ⟨Nat.le_of_ble_eq_true rfl, Nat.le_of_ble_eq_true rfl⟩ ⟨Nat.zero_le _, Nat.zero_le _⟩ (fun H1 locs hp1 hT1 hS1 hk1 => ?_)
  refine lv_aload_n hx hb dX10_gain_8 rfl (lv_at hl 0 rfl) ?_
  refine h_getr (C := RX10) (T := TX10) (N := 9) hx hb hts inX10 hown hK hT1 (on_w0 hW) rfl 3 rfl wF_X10_31 rfl dX10_gain_9 ?_
  refine lv_iconst (v := 1) hx hb dX10_gain_12 (by decide) ?_
  refine h_callVv (T := TX1) (rest := []) (As := [.int 1]) hx hb hml hown hts hK hT1 (fun _ h => h) hS1 (c_X1_noteGot l G Y (o + 53) (o + 3) (o + 28) (on_wp hW) (on_wr hW) (on_ws hW) 1) trivial wd_X1_noteGot wV_X1_noteGot wL_X10_316 ((on_wp hW).o rfl) rfl rfl hl.1 rfl (Nat.le_of_ble_eq_true rfl) dX10_gain_13 ⟨Nat.le_of_ble_eq_true rfl, Nat.le_of_ble_eq_true rfl⟩ ⟨Nat.zero_le _, Nat.zero_le _⟩ (fun H2 locs hp2 hT2 hS2 hk2 => ?_)
  refine lv_aload_n hx hb dX10_gain_16 rfl (lv_at hl 0 rfl) ?_
  refine lv_aload_n hx hb dX10_gain_17 rfl (lv_at hl 0 rfl) ?_
  refine h_getr (C := RX10) (T := TX10) (N := 9) hx hb hts inX10 hown hK hT2 (on_w0 hW) rfl 3 rfl wF_X10_31 rfl dX10_gain_18 ?_
  refine h_callVi (T := TX1) (rest := [.ref (o)]) (As := []) hx hb hml hown hts hK hT2 (fun _ h => h) hS2 (c_X1_ticksGained l G Y (o + 53) (o + 3) (o + 28) (on_wp hW) (on_wr hW) (on_ws hW)) trivial wd_X1_ticksGained wV_X1_ticksGained wL_X10_319 ((on_wp hW).o rfl) rfl rfl hl.1 rfl (Nat.le_of_ble_eq_true rfl) dX10_gain_21 ⟨Nat.le_of_ble_eq_true rfl, Nat.le_of_ble_eq_true rfl⟩ ⟨Nat.zero_le _, Nat.zero_le _⟩ (fun r1 H3 locs hp3 hT3 hS3 hk3 => ?_)
  have hp3 : r1 = 0 := hp3
  subst hp3
  refine h_callVi (T := TX10) (rest := []) (As := [.int 0]) hx hb hml hown hts hK hT3 (fun _ h => h) hS3 (c_X10_give l G Y (o) hW 0) trivial wd_X10_give wV_X10_give wL_X10_95 (on_w0 hW) rfl rfl hl.1 rfl (Nat.le_of_ble_eq_true rfl) dX10_gain_24 ⟨Nat.le_of_ble_eq_true rfl, Nat.le_of_ble_eq_true rfl⟩ ⟨Nat.zero_le _, Nat.zero_le _⟩ (fun r2 H4 locs hp4 hT4 hS4 hk4 => ?_)
  have hp4 : r2 = 0 := hp4
  subst hp4
  exact hret _ _ _ _ _ hT4 hS4 rfl dX10_gain_27
end
section
set_option maxHeartbeats 4000000 in
set_option maxRecDepth 100000 in
theorem c_X10_status (l : Launch) (G : hG) (Y : hW) (o : Nat) (hW : h_On Y o (wldE tF o)) : hMi l yX10_status cX10_status 1 (some .int) 0 0 G Y [.ref (o)] (fun H => h_gi G H 10 o 8 = 0) (fun H r H1 => r = 0) := by
  refine h_ofi (by decide +kernel) (Nat.le_of_ble_eq_true rfl) ?_
  intro p e s m args below meth c H0 ls Q hx hb hts hown hml hK hT0 hpr hS0 hl hret
  have hl : lv_has ls 1 [(0, .ref (o))] := hl
  refine lv_aload_n hx hb dX10_status_0 rfl (lv_at hl 0 rfl) ?_
  refine h_geti (C := RX10) (T := TX10) (N := 9) hx hb hts inX10 hown hK hT0 (on_w0 hW) rfl 8 rfl wF_X10_56 rfl dX10_status_1 (fun p1 => ?_)
  refine h_top (v := 0) hpr ?_
  exact hret _ _ _ _ _ hT0 hS0 rfl dX10_status_4
set_option maxHeartbeats 4000000 in
set_option maxRecDepth 100000 in
theorem c_X10_back (l : Launch) (G : hG) (Y : hW) (o : Nat) (hW : h_On Y o (wldE tF o)) : hMi l yX10_back cX10_back 1 (some .int) 1 21 G Y [.ref (o)] (fun H => h_gi G H 10 o 7 = 0) (fun H r H1 => r = -1) := by
  refine h_ofi (by decide +kernel) (Nat.le_of_ble_eq_true rfl) ?_
  intro p e s m args below meth c H0 ls Q hx hb hts hown hml hK hT0 hpr hS0 hl hret
  have hl : lv_has ls 1 [(0, .ref (o))] := hl
  refine lv_aload_n hx hb dX10_back_0 rfl (lv_at hl 0 rfl) ?_
  refine h_geti (C := RX10) (T := TX10) (N := 9) hx hb hts inX10 hown hK hT0 (on_w0 hW) rfl 7 rfl wF_X10_52 rfl dX10_back_1 (fun p1 => ?_)
  refine h_top (v := 0) hpr ?_
  refine lv_iconst (v := 1) hx hb dX10_back_4 (by decide) ?_
  refine lv_icmp_lt (tgt := 16) hx hb dX10_back_5 (by decide) (fun _ => ?_) (fun h => absurd (by decide) h)
  refine lv_aload_n hx hb dX10_back_16 rfl (lv_at hl 0 rfl) ?_
  refine lv_iconst (v := 5) hx hb dX10_back_17 (by decide) ?_
  refine h_callVi (T := TX10) (rest := []) (As := [.int 5]) hx hb hml hown hts hK hT0 (fun _ h => h) hS0 (c_X10_fail l G Y (o) hW 5) trivial wd_X10_fail wV_X10_fail wL_X10_66 (on_w0 hW) rfl rfl hl.1 rfl (Nat.le_of_ble_eq_true rfl) dX10_back_18 ⟨Nat.le_of_ble_eq_true rfl, Nat.le_of_ble_eq_true rfl⟩ ⟨Nat.zero_le _, Nat.zero_le _⟩ (fun r3 H1 locs hp1 hT1 hS1 hk1 => ?_)
  have hp1 : r3 = (-1) := hp1
  subst hp1
  exact hret _ _ _ _ _ hT1 hS1 rfl dX10_back_21
set_option maxHeartbeats 4000000 in
set_option maxRecDepth 100000 in
theorem c_X10_fault (l : Launch) (G : hG) (Y : hW) (o : Nat) (hW : h_On Y o (wldE tF o)) (u1 : Int32) : hMi l yX10_fault cX10_fault 2 (some .int) 0 0 G Y [.ref (o), .int u1] (fun H => h_gi G H 8 (o + 1) 2 = -1 ∧ h_gi G H 8 (o + 1) 3 = -1) (fun H r H1 => r = -1) := by
  refine h_ofi (by decide +kernel) (Nat.le_of_ble_eq_true rfl) ?_
  intro p e s m args below meth c H0 ls Q hx hb hts hown hml hK hT0 hpr hS0 hl hret
  have hl : lv_has ls 2 [(0, .ref (o)), (1, .int u1)] := hl
  refine lv_iload_n hx hb dX10_fault_0 rfl (lv_at hl 1 rfl) ?_
  refine lv_if_ne (tgt := 12) hx hb dX10_fault_1 (by decide) (fun c1 => ?_) (fun c1 => ?_)
  · skip
    refine lv_iload_n hx hb dX10_fault_12 rfl (lv_at hl 1 rfl) ?_
    refine lv_iconst (v := 1) hx hb dX10_fault_13 (by decide) ?_
    refine lv_icmp_ne (tgt := 27) hx hb dX10_fault_14 (by decide) (fun c2 => ?_) (fun c2 => ?_)
    · skip
      refine lv_iconst (v := (-1)) hx hb dX10_fault_27 (by decide) ?_
      exact hret _ _ _ _ _ hT0 hS0 rfl dX10_fault_28
    · skip
      refine lv_aload_n hx hb dX10_fault_17 rfl (lv_at hl 0 rfl) ?_
      refine h_getr (C := RX10) (T := TX10) (N := 9) hx hb hts inX10 hown hK hT0 (on_w0 hW) rfl 0 rfl wF_X10_10 rfl dX10_fault_18 ?_
      refine h_geti (C := RX8) (T := TX8) (N := 4) hx hb hts inX8 hown hK hT0 ((on_wt hW).o rfl) rfl 3 rfl wF_X10_81 rfl dX10_fault_21 (fun p3 => ?_)
      refine h_top (v := (-1)) hpr.2 ?_
      refine lv_goto (tgt := 28) hx hb dX10_fault_24 (by decide) ?_
      exact hret _ _ _ _ _ hT0 hS0 rfl dX10_fault_28
  · skip
    refine lv_aload_n hx hb dX10_fault_4 rfl (lv_at hl 0 rfl) ?_
    refine h_getr (C := RX10) (T := TX10) (N := 9) hx hb hts inX10 hown hK hT0 (on_w0 hW) rfl 0 rfl wF_X10_10 rfl dX10_fault_5 ?_
    refine h_geti (C := RX8) (T := TX8) (N := 4) hx hb hts inX8 hown hK hT0 ((on_wt hW).o rfl) rfl 2 rfl wF_X10_77 rfl dX10_fault_8 (fun p4 => ?_)
    refine h_top (v := (-1)) hpr.1 ?_
    exact hret _ _ _ _ _ hT0 hS0 rfl dX10_fault_11
set_option maxHeartbeats 4000000 in
set_option maxRecDepth 100000 in
theorem c_X10_many (l : Launch) (G : hG) (Y : hW) (o : Nat) (hW : h_On Y o (wldE tF o)) (u1 : Int32) : hMi l yX10_many cX10_many 3 (some .int) 3 63 G Y [.ref (o), .int u1] (fun H => h_gi G H 10 o 7 = 0 ∧ h_gi G H 5 (o + 3) 6 = 0 ∧ h_gi G H 6 (o + 3 + 18) 0 = 0) (fun H r H1 => (((0 ≤ u1.toInt ∧ u1.toInt ≤ 8) ∧ u1.toInt ≠ 2) → r = 0) ∧ (¬ ((0 ≤ u1.toInt ∧ u1.toInt ≤ 8) ∧ u1.toInt ≠ 2) → r = -1)) := by
  refine h_ofi (by decide +kernel) (Nat.le_of_ble_eq_true rfl) ?_
  intro p e s m args below meth c H0 ls Q hx hb hts hown hml hK hT0 hpr hS0 hl hret
  have hl : lv_has ls 3 [(0, .ref (o)), (1, .int u1)] := hl
  refine lv_aload_n hx hb dX10_many_0 rfl (lv_at hl 0 rfl) ?_
  refine h_getr (C := RX10) (T := TX10) (N := 9) hx hb hts inX10 hown hK hT0 (on_w0 hW) rfl 1 rfl wF_X10_19 rfl dX10_many_1 ?_
  refine h_getr (C := RX5) (T := TX5) (N := 11) hx hb hts inX5 hown hK hT0 (on_rg (on_wr hW)) rfl 0 rfl wF_X10_86 rfl dX10_many_4 ?_
  refine lv_astore_n (lv' := [(2, .ref (o + 3 + 1)), (0, .ref (o)), (1, .int u1)]) hx hb dX10_many_7 rfl hl (by decide) rfl (fun ls hl => ?_)
  refine lv_iload_n hx hb dX10_many_8 rfl (lv_at hl 2 rfl) ?_
  rcases h_sw11 u1 with c1 | c1 | c1 | c1 | c1 | c1 | c1 | c1 | c1 | c1 | c1 | c1
  · skip
    refine lv_tableOut (tgt := 210) hx hb dX10_many_9 c1 (by decide) ?_
    refine lv_aload_n hx hb dX10_many_210 rfl (lv_at hl 1 rfl) ?_
    refine lv_iconst (v := 1) hx hb dX10_many_211 (by decide) ?_
    refine h_callVi (T := TX10) (rest := []) (As := [.int 1]) hx hb hml hown hts hK hT0 (fun _ h => h) hS0 (c_X10_fail l G Y (o) hW 1) trivial wd_X10_fail wV_X10_fail wL_X10_66 (on_w0 hW) rfl rfl hl.1 rfl (Nat.le_of_ble_eq_true rfl) dX10_many_212 ⟨Nat.le_of_ble_eq_true rfl, Nat.le_of_ble_eq_true rfl⟩ ⟨Nat.zero_le _, Nat.zero_le _⟩ (fun r2 H1 locs hp1 hT1 hS1 hk1 => ?_)
    have hp1 : r2 = (-1) := hp1
    subst hp1
    exact hret _ _ _ _ _ hT1 hS1 (by refine ⟨fun h => ?_, fun h => ?_⟩ <;> first | rfl | exact absurd h (by decide) | (exfalso; omega)) dX10_many_215
  · subst c1
    refine lv_tableIn (tgt := 68) hx hb dX10_many_9 (by decide) (by decide) rfl (by decide) ?_
    refine lv_aload_n hx hb dX10_many_68 rfl (lv_at hl 1 rfl) ?_
    refine lv_aload_n hx hb dX10_many_69 rfl (lv_at hl 0 rfl) ?_
    refine h_getc (v := 0) (C := RX7) (T := TX7) (N := 9) hx hb hts inX7 hown hK hT0 ((on_st (on_wr hW)).o rfl) rfl 5 rfl wF_X10_90 rfl (fun _ h => h) dX10_many_70 ?_
    refine h_callVi (T := TX10) (rest := []) (As := [.int 0]) hx hb hml hown hts hK hT0 (fun _ h => h) hS0 (c_X10_give l G Y (o) hW 0) trivial wd_X10_give wV_X10_give wL_X10_95 (on_w0 hW) rfl rfl hl.1 rfl (Nat.le_of_ble_eq_true rfl) dX10_many_73 ⟨Nat.le_of_ble_eq_true rfl, Nat.le_of_ble_eq_true rfl⟩ ⟨Nat.zero_le _, Nat.zero_le _⟩ (fun r3 H2 locs hp2 hT2 hS2 hk2 => ?_)
    have hp2 : r3 = 0 := hp2
    subst hp2
    exact hret _ _ _ _ _ hT2 hS2 (by refine ⟨fun h => ?_, fun h => ?_⟩ <;> first | rfl | exact absurd h (by decide) | (exfalso; omega)) dX10_many_76
  · subst c1
    refine lv_tableIn (tgt := 77) hx hb dX10_many_9 (by decide) (by decide) rfl (by decide) ?_
    refine lv_aload_n hx hb dX10_many_77 rfl (lv_at hl 1 rfl) ?_
    refine lv_aload_n hx hb dX10_many_78 rfl (lv_at hl 0 rfl) ?_
    refine h_callVi (T := TX7) (rest := [.ref (o)]) (As := []) hx hb hml hown hts hK hT0 (fun _ h => h) hS0 (c_X7_onBits l G Y (o + 3 + 1) (on_st (on_wr hW))) trivial wd_X7_onBits wV_X7_onBits wL_X10_98 ((on_st (on_wr hW)).o rfl) rfl rfl hl.1 rfl (Nat.le_of_ble_eq_true rfl) dX10_many_79 ⟨Nat.le_of_ble_eq_true rfl, Nat.le_of_ble_eq_true rfl⟩ ⟨Nat.zero_le _, Nat.zero_le _⟩ (fun r4 H3 locs hp3 hT3 hS3 hk3 => ?_)
    obtain ⟨hp3, he⟩ := hp3
    have he := he.symm
    subst he
    have hp3 : r4 = 0 := hp3
    subst hp3
    refine h_callVi (T := TX10) (rest := []) (As := [.int 0]) hx hb hml hown hts hK hT0 (fun _ h => h) hS3 (c_X10_give l G Y (o) hW 0) trivial wd_X10_give wV_X10_give wL_X10_95 (on_w0 hW) rfl rfl hl.1 rfl (Nat.le_of_ble_eq_true rfl) dX10_many_82 ⟨Nat.le_of_ble_eq_true rfl, Nat.le_of_ble_eq_true rfl⟩ ⟨Nat.zero_le _, Nat.zero_le _⟩ (fun r5 H4 locs hp4 hT4 hS4 hk4 => ?_)
    have hp4 : r5 = 0 := hp4
    subst hp4
    exact hret _ _ _ _ _ hT4 hS4 (by refine ⟨fun h => ?_, fun h => ?_⟩ <;> first | rfl | exact absurd h (by decide) | (exfalso; omega)) dX10_many_85
  · subst c1
    refine lv_tableIn (tgt := 86) hx hb dX10_many_9 (by decide) (by decide) rfl (by decide) ?_
    refine lv_aload_n hx hb dX10_many_86 rfl (lv_at hl 1 rfl) ?_
    refine lv_aload_n hx hb dX10_many_87 rfl (lv_at hl 0 rfl) ?_
    refine h_getc (v := (-1)) (C := RX7) (T := TX7) (N := 9) hx hb hts inX7 hown hK hT0 ((on_st (on_wr hW)).o rfl) rfl 6 rfl wF_X10_102 rfl (fun _ h => h) dX10_many_88 ?_
    refine h_callVi (T := TX10) (rest := []) (As := [.int (-1)]) hx hb hml hown hts hK hT0 (fun _ h => h) hS0 (c_X10_give l G Y (o) hW (-1)) trivial wd_X10_give wV_X10_give wL_X10_95 (on_w0 hW) rfl rfl hl.1 rfl (Nat.le_of_ble_eq_true rfl) dX10_many_91 ⟨Nat.le_of_ble_eq_true rfl, Nat.le_of_ble_eq_true rfl⟩ ⟨Nat.zero_le _, Nat.zero_le _⟩ (fun r6 H5 locs hp5 hT5 hS5 hk5 => ?_)
    have hp5 : r6 = (-1) := hp5
    subst hp5
    exact hret _ _ _ _ _ hT5 hS5 (by refine ⟨fun h => ?_, fun h => ?_⟩ <;> first | rfl | exact absurd h (by decide) | (exfalso; omega)) dX10_many_94
  · subst c1
    refine lv_tableIn (tgt := 95) hx hb dX10_many_9 (by decide) (by decide) rfl (by decide) ?_
    refine lv_aload_n hx hb dX10_many_95 rfl (lv_at hl 1 rfl) ?_
    refine lv_aload_n hx hb dX10_many_96 rfl (lv_at hl 1 rfl) ?_
    refine h_getr (C := RX10) (T := TX10) (N := 9) hx hb hts inX10 hown hK hT0 (on_w0 hW) rfl 1 rfl wF_X10_19 rfl dX10_many_97 ?_
    refine h_getr (C := RX5) (T := TX5) (N := 11) hx hb hts inX5 hown hK hT0 (on_rg (on_wr hW)) rfl 1 rfl wF_X10_105 rfl dX10_many_100 ?_
    refine h_callVi (T := TX2) (rest := [.ref (o)]) (As := []) hx hb hml hown hts hK hT0 (fun _ h => h) hS0 (c_X2_total l G Y (o + 3 + 7) (on_qu (on_wr hW))) trivial wd_X2_total wV_X2_total wL_X10_109 ((on_qu (on_wr hW)).o rfl) rfl rfl hl.1 rfl (Nat.le_of_ble_eq_true rfl) dX10_many_103 ⟨Nat.le_of_ble_eq_true rfl, Nat.le_of_ble_eq_true rfl⟩ ⟨Nat.zero_le _, Nat.zero_le _⟩ (fun r7 H6 locs hp6 hT6 hS6 hk6 => ?_)
    obtain ⟨hp6, he⟩ := hp6
    have he := he.symm
    subst he
    have hp6 : r7 = 0 := hp6
    subst hp6
    refine h_callVi (T := TX10) (rest := []) (As := [.int 0]) hx hb hml hown hts hK hT0 (fun _ h => h) hS6 (c_X10_give l G Y (o) hW 0) trivial wd_X10_give wV_X10_give wL_X10_95 (on_w0 hW) rfl rfl hl.1 rfl (Nat.le_of_ble_eq_true rfl) dX10_many_106 ⟨Nat.le_of_ble_eq_true rfl, Nat.le_of_ble_eq_true rfl⟩ ⟨Nat.zero_le _, Nat.zero_le _⟩ (fun r8 H7 locs hp7 hT7 hS7 hk7 => ?_)
    have hp7 : r8 = 0 := hp7
    subst hp7
    exact hret _ _ _ _ _ hT7 hS7 (by refine ⟨fun h => ?_, fun h => ?_⟩ <;> first | rfl | exact absurd h (by decide) | (exfalso; omega)) dX10_many_109
  · subst c1
    refine lv_tableIn (tgt := 110) hx hb dX10_many_9 (by decide) (by decide) rfl (by decide) ?_
    refine lv_aload_n hx hb dX10_many_110 rfl (lv_at hl 1 rfl) ?_
    refine lv_aload_n hx hb dX10_many_111 rfl (lv_at hl 1 rfl) ?_
    refine h_getr (C := RX10) (T := TX10) (N := 9) hx hb hts inX10 hown hK hT0 (on_w0 hW) rfl 1 rfl wF_X10_19 rfl dX10_many_112 ?_
    refine h_getc (v := 0) (C := RX5) (T := TX5) (N := 11) hx hb hts inX5 hown hK hT0 (on_rg (on_wr hW)) rfl 7 rfl wF_X10_114 rfl (fun _ h => h) dX10_many_115 ?_
    refine h_callVi (T := TX10) (rest := []) (As := [.int 0]) hx hb hml hown hts hK hT0 (fun _ h => h) hS0 (c_X10_give l G Y (o) hW 0) trivial wd_X10_give wV_X10_give wL_X10_95 (on_w0 hW) rfl rfl hl.1 rfl (Nat.le_of_ble_eq_true rfl) dX10_many_118 ⟨Nat.le_of_ble_eq_true rfl, Nat.le_of_ble_eq_true rfl⟩ ⟨Nat.zero_le _, Nat.zero_le _⟩ (fun r9 H8 locs hp8 hT8 hS8 hk8 => ?_)
    have hp8 : r9 = 0 := hp8
    subst hp8
    exact hret _ _ _ _ _ hT8 hS8 (by refine ⟨fun h => ?_, fun h => ?_⟩ <;> first | rfl | exact absurd h (by decide) | (exfalso; omega)) dX10_many_121
  · subst c1
    refine lv_tableIn (tgt := 122) hx hb dX10_many_9 (by decide) (by decide) rfl (by decide) ?_
    refine lv_aload_n hx hb dX10_many_122 rfl (lv_at hl 1 rfl) ?_
    refine lv_aload_n hx hb dX10_many_123 rfl (lv_at hl 1 rfl) ?_
    refine h_getr (C := RX10) (T := TX10) (N := 9) hx hb hts inX10 hown hK hT0 (on_w0 hW) rfl 1 rfl wF_X10_19 rfl dX10_many_124 ?_
    refine h_geti (C := RX5) (T := TX5) (N := 11) hx hb hts inX5 hown hK hT0 (on_rg (on_wr hW)) rfl 6 rfl wF_X10_117 rfl dX10_many_127 (fun p10 => ?_)
    refine h_top (v := 0) hpr.2.1 ?_
    refine h_callVi (T := TX10) (rest := []) (As := [.int 0]) hx hb hml hown hts hK hT0 (fun _ h => h) hS0 (c_X10_give l G Y (o) hW 0) trivial wd_X10_give wV_X10_give wL_X10_95 (on_w0 hW) rfl rfl hl.1 rfl (Nat.le_of_ble_eq_true rfl) dX10_many_130 ⟨Nat.le_of_ble_eq_true rfl, Nat.le_of_ble_eq_true rfl⟩ ⟨Nat.zero_le _, Nat.zero_le _⟩ (fun r11 H9 locs hp9 hT9 hS9 hk9 => ?_)
    have hp9 : r11 = 0 := hp9
    subst hp9
    exact hret _ _ _ _ _ hT9 hS9 (by refine ⟨fun h => ?_, fun h => ?_⟩ <;> first | rfl | exact absurd h (by decide) | (exfalso; omega)) dX10_many_133
  · subst c1
    refine lv_tableIn (tgt := 134) hx hb dX10_many_9 (by decide) (by decide) rfl (by decide) ?_
    refine lv_aload_n hx hb dX10_many_134 rfl (lv_at hl 1 rfl) ?_
    refine lv_aload_n hx hb dX10_many_135 rfl (lv_at hl 1 rfl) ?_
    refine h_getr (C := RX10) (T := TX10) (N := 9) hx hb hts inX10 hown hK hT0 (on_w0 hW) rfl 1 rfl wF_X10_19 rfl dX10_many_136 ?_
    refine h_getr (C := RX5) (T := TX5) (N := 11) hx hb hts inX5 hown hK hT0 (on_rg (on_wr hW)) rfl 3 rfl wF_X10_120 rfl dX10_many_139 ?_
    refine h_getc (v := 0) (C := RX9) (T := TX9) (N := 11) hx hb hts inX9 hown hK hT0 ((on_wa (on_wr hW)).o rfl) rfl 0 rfl wF_X10_124 rfl (fun _ h => h) dX10_many_142 ?_
    refine lv_if_ne (tgt := 161) hx hb dX10_many_145 (by decide) (fun h => absurd (by decide) h) (fun _ => ?_)
    refine lv_aload_n hx hb dX10_many_148 rfl (lv_at hl 1 rfl) ?_
    refine h_getr (C := RX10) (T := TX10) (N := 9) hx hb hts inX10 hown hK hT0 (on_w0 hW) rfl 1 rfl wF_X10_19 rfl dX10_many_149 ?_
    refine h_getr (C := RX5) (T := TX5) (N := 11) hx hb hts inX5 hown hK hT0 (on_rg (on_wr hW)) rfl 4 rfl wF_X10_129 rfl dX10_many_152 ?_
    refine h_geti (C := RX6) (T := TX6) (N := 4) hx hb hts inX6 hown hK hT0 ((on_si (on_wr hW)).o rfl) rfl 0 rfl wF_X10_133 rfl dX10_many_155 (fun p13 => ?_)
    refine h_top (v := 0) hpr.2.2 ?_
    refine lv_goto (tgt := 162) hx hb dX10_many_158 (by decide) ?_
    refine h_callVi (T := TX10) (rest := []) (As := [.int 0]) hx hb hml hown hts hK hT0 (fun _ h => h) hS0 (c_X10_give l G Y (o) hW 0) trivial wd_X10_give wV_X10_give wL_X10_95 (on_w0 hW) rfl rfl hl.1 rfl (Nat.le_of_ble_eq_true rfl) dX10_many_162 ⟨Nat.le_of_ble_eq_true rfl, Nat.le_of_ble_eq_true rfl⟩ ⟨Nat.zero_le _, Nat.zero_le _⟩ (fun r14 H10 locs hp10 hT10 hS10 hk10 => ?_)
    have hp10 : r14 = 0 := hp10
    subst hp10
    exact hret _ _ _ _ _ hT10 hS10 (by refine ⟨fun h => ?_, fun h => ?_⟩ <;> first | rfl | exact absurd h (by decide) | (exfalso; omega)) dX10_many_165
  · subst c1
    refine lv_tableIn (tgt := 166) hx hb dX10_many_9 (by decide) (by decide) rfl (by decide) ?_
    refine lv_aload_n hx hb dX10_many_166 rfl (lv_at hl 1 rfl) ?_
    refine lv_aload_n hx hb dX10_many_167 rfl (lv_at hl 1 rfl) ?_
    refine h_geti (C := RX10) (T := TX10) (N := 9) hx hb hts inX10 hown hK hT0 (on_w0 hW) rfl 7 rfl wF_X10_52 rfl dX10_many_168 (fun p15 => ?_)
    refine h_top (v := 0) hpr.1 ?_
    refine h_callVi (T := TX10) (rest := []) (As := [.int 0]) hx hb hml hown hts hK hT0 (fun _ h => h) hS0 (c_X10_give l G Y (o) hW 0) trivial wd_X10_give wV_X10_give wL_X10_95 (on_w0 hW) rfl rfl hl.1 rfl (Nat.le_of_ble_eq_true rfl) dX10_many_171 ⟨Nat.le_of_ble_eq_true rfl, Nat.le_of_ble_eq_true rfl⟩ ⟨Nat.zero_le _, Nat.zero_le _⟩ (fun r16 H11 locs hp11 hT11 hS11 hk11 => ?_)
    have hp11 : r16 = 0 := hp11
    subst hp11
    exact hret _ _ _ _ _ hT11 hS11 (by refine ⟨fun h => ?_, fun h => ?_⟩ <;> first | rfl | exact absurd h (by decide) | (exfalso; omega)) dX10_many_174
  · subst c1
    refine lv_tableIn (tgt := 175) hx hb dX10_many_9 (by decide) (by decide) rfl (by decide) ?_
    refine lv_aload_n hx hb dX10_many_175 rfl (lv_at hl 1 rfl) ?_
    refine lv_aload_n hx hb dX10_many_176 rfl (lv_at hl 0 rfl) ?_
    refine h_callVi (T := TX7) (rest := [.ref (o)]) (As := []) hx hb hml hown hts hK hT0 (fun _ h => h) hS0 (c_X7_breakCounts l G Y (o + 3 + 1) (on_st (on_wr hW))) trivial wd_X7_breakCounts wV_X7_breakCounts wL_X10_136 ((on_st (on_wr hW)).o rfl) rfl rfl hl.1 rfl (Nat.le_of_ble_eq_true rfl) dX10_many_177 ⟨Nat.le_of_ble_eq_true rfl, Nat.le_of_ble_eq_true rfl⟩ ⟨Nat.zero_le _, Nat.zero_le _⟩ (fun r17 H12 locs hp12 hT12 hS12 hk12 => ?_)
    obtain ⟨hp12, he⟩ := hp12
    have he := he.symm
    subst he
    have hp12 : r17 = 0 := hp12
    subst hp12
    refine lv_if_eq (tgt := 187) hx hb dX10_many_180 (by decide) (fun _ => ?_) (fun h => absurd (by decide) h)
    refine lv_iconst (v := 0) hx hb dX10_many_187 (by decide) ?_
    refine h_callVi (T := TX10) (rest := []) (As := [.int 0]) hx hb hml hown hts hK hT0 (fun _ h => h) hS12 (c_X10_give l G Y (o) hW 0) trivial wd_X10_give wV_X10_give wL_X10_95 (on_w0 hW) rfl rfl hl.1 rfl (Nat.le_of_ble_eq_true rfl) dX10_many_188 ⟨Nat.le_of_ble_eq_true rfl, Nat.le_of_ble_eq_true rfl⟩ ⟨Nat.zero_le _, Nat.zero_le _⟩ (fun r19 H13 locs hp13 hT13 hS13 hk13 => ?_)
    have hp13 : r19 = 0 := hp13
    subst hp13
    exact hret _ _ _ _ _ hT13 hS13 (by refine ⟨fun h => ?_, fun h => ?_⟩ <;> first | rfl | exact absurd h (by decide) | (exfalso; omega)) dX10_many_191
  · subst c1
    refine lv_tableIn (tgt := 192) hx hb dX10_many_9 (by decide) (by decide) rfl (by decide) ?_
    refine lv_aload_n hx hb dX10_many_192 rfl (lv_at hl 1 rfl) ?_
    refine lv_aload_n hx hb dX10_many_193 rfl (lv_at hl 0 rfl) ?_
    refine h_getc (v := (-1)) (C := RX7) (T := TX7) (N := 9) hx hb hts inX7 hown hK hT0 ((on_st (on_wr hW)).o rfl) rfl 7 rfl wF_X10_140 rfl (fun _ h => h) dX10_many_194 ?_
    refine h_callVi (T := TX10) (rest := []) (As := [.int (-1)]) hx hb hml hown hts hK hT0 (fun _ h => h) hS0 (c_X10_give l G Y (o) hW (-1)) trivial wd_X10_give wV_X10_give wL_X10_95 (on_w0 hW) rfl rfl hl.1 rfl (Nat.le_of_ble_eq_true rfl) dX10_many_197 ⟨Nat.le_of_ble_eq_true rfl, Nat.le_of_ble_eq_true rfl⟩ ⟨Nat.zero_le _, Nat.zero_le _⟩ (fun r20 H14 locs hp14 hT14 hS14 hk14 => ?_)
    have hp14 : r20 = (-1) := hp14
    subst hp14
    exact hret _ _ _ _ _ hT14 hS14 (by refine ⟨fun h => ?_, fun h => ?_⟩ <;> first | rfl | exact absurd h (by decide) | (exfalso; omega)) dX10_many_200
  · subst c1
    refine lv_tableIn (tgt := 201) hx hb dX10_many_9 (by decide) (by decide) rfl (by decide) ?_
    refine lv_aload_n hx hb dX10_many_201 rfl (lv_at hl 1 rfl) ?_
    refine lv_aload_n hx hb dX10_many_202 rfl (lv_at hl 0 rfl) ?_
    refine h_getc (v := (-1)) (C := RX7) (T := TX7) (N := 9) hx hb hts inX7 hown hK hT0 ((on_st (on_wr hW)).o rfl) rfl 8 rfl wF_X10_143 rfl (fun _ h => h) dX10_many_203 ?_
    refine h_callVi (T := TX10) (rest := []) (As := [.int (-1)]) hx hb hml hown hts hK hT0 (fun _ h => h) hS0 (c_X10_give l G Y (o) hW (-1)) trivial wd_X10_give wV_X10_give wL_X10_95 (on_w0 hW) rfl rfl hl.1 rfl (Nat.le_of_ble_eq_true rfl) dX10_many_206 ⟨Nat.le_of_ble_eq_true rfl, Nat.le_of_ble_eq_true rfl⟩ ⟨Nat.zero_le _, Nat.zero_le _⟩ (fun r21 H15 locs hp15 hT15 hS15 hk15 => ?_)
    have hp15 : r21 = (-1) := hp15
    subst hp15
    exact hret _ _ _ _ _ hT15 hS15 (by refine ⟨fun h => ?_, fun h => ?_⟩ <;> first | rfl | exact absurd h (by decide) | (exfalso; omega)) dX10_many_209
set_option maxHeartbeats 4000000 in
set_option maxRecDepth 100000 in
theorem c_X10_feed (l : Launch) (G : hG) (Y : hW) (o : Nat) (hW : h_On Y o (wldE tF o)) (u1 u2 u3 u4 u5 : Int32) : hMi l yX10_feed cX10_feed 6 (some .int) 1 22 G Y [.ref (o), .int u1, .int u2, .int u3, .int u4, .int u5] (fun H => h_gi G H 8 (o + 1) 1 = 0) (fun H r H1 => r = 20) := by
  refine h_ofi (by decide +kernel) (Nat.le_of_ble_eq_true rfl) ?_
  intro p e s m args below meth c H0 ls Q hx hb hts hown hml hK hT0 hpr hS0 hl hret
  have hl : lv_has ls 6 [(0, .ref (o)), (1, .int u1), (2, .int u2), (3, .int u3), (4, .int u4), (5, .int u5)] := hl
  refine lv_aload_n hx hb dX10_feed_0 rfl (lv_at hl 0 rfl) ?_
  refine h_getr (C := RX10) (T := TX10) (N := 9) hx hb hts inX10 hown hK hT0 (on_w0 hW) rfl 0 rfl wF_X10_10 rfl dX10_feed_1 ?_
  refine h_geti (C := RX8) (T := TX8) (N := 4) hx hb hts inX8 hown hK hT0 ((on_wt hW).o rfl) rfl 1 rfl wF_X10_59 rfl dX10_feed_4 (fun p1 => ?_)
  refine h_top (v := 0) hpr ?_
  refine lv_bipush (v := 20) hx hb dX10_feed_7 (by decide) ?_
  refine lv_iadd hx hb dX10_feed_9 ?_
  refine h_top (v := 20) (by decide) ?_
  refine lv_sipush (v := 500) hx hb dX10_feed_10 (by decide) ?_
  refine lv_icmp_le (tgt := 18) hx hb dX10_feed_13 (by decide) (fun _ => ?_) (fun h => absurd (by decide) h)
  refine lv_aload_n hx hb dX10_feed_18 rfl (lv_at hl 0 rfl) ?_
  refine h_getr (C := RX10) (T := TX10) (N := 9) hx hb hts inX10 hown hK hT0 (on_w0 hW) rfl 0 rfl wF_X10_10 rfl dX10_feed_19 ?_
  refine lv_iload_n hx hb dX10_feed_22 rfl (lv_at hl 1 rfl) ?_
  refine h_callVv (T := TX8) (rest := []) (As := [.int u1]) hx hb hml hown hts hK hT0 (fun _ h => h) hS0 (c_append_0 l G Y (o + 1) (on_wt hW) u1) hpr wd_X8_append wV_X8_append wL_X10_62 ((on_wt hW).o rfl) rfl rfl hl.1 rfl (Nat.le_of_ble_eq_true rfl) dX10_feed_23 ⟨Nat.le_of_ble_eq_true rfl, Nat.le_of_ble_eq_true rfl⟩ ⟨Nat.zero_le _, Nat.zero_le _⟩ (fun H1 locs hp1 hT1 hS1 hk1 => ?_)
  refine lv_aload_n hx hb dX10_feed_26 rfl (lv_at hl 0 rfl) ?_
  refine h_getr (C := RX10) (T := TX10) (N := 9) hx hb hts inX10 hown hK hT1 (on_w0 hW) rfl 0 rfl wF_X10_10 rfl dX10_feed_27 ?_
  refine lv_iload_n hx hb dX10_feed_30 rfl (lv_at hl 2 rfl) ?_
  refine h_callVv (T := TX8) (rest := []) (As := [.int u2]) hx hb hml hown hts hK hT1 (fun _ h => h) hS1 (c_append_4 l G Y (o + 1) (on_wt hW) u2) hp1 wd_X8_append wV_X8_append wL_X10_62 ((on_wt hW).o rfl) rfl rfl hl.1 rfl (Nat.le_of_ble_eq_true rfl) dX10_feed_31 ⟨Nat.le_of_ble_eq_true rfl, Nat.le_of_ble_eq_true rfl⟩ ⟨Nat.zero_le _, Nat.zero_le _⟩ (fun H2 locs hp2 hT2 hS2 hk2 => ?_)
  refine lv_aload_n hx hb dX10_feed_34 rfl (lv_at hl 0 rfl) ?_
  refine h_getr (C := RX10) (T := TX10) (N := 9) hx hb hts inX10 hown hK hT2 (on_w0 hW) rfl 0 rfl wF_X10_10 rfl dX10_feed_35 ?_
  refine lv_iload_n hx hb dX10_feed_38 rfl (lv_at hl 3 rfl) ?_
  refine h_callVv (T := TX8) (rest := []) (As := [.int u3]) hx hb hml hown hts hK hT2 (fun _ h => h) hS2 (c_append_8 l G Y (o + 1) (on_wt hW) u3) hp2 wd_X8_append wV_X8_append wL_X10_62 ((on_wt hW).o rfl) rfl rfl hl.1 rfl (Nat.le_of_ble_eq_true rfl) dX10_feed_39 ⟨Nat.le_of_ble_eq_true rfl, Nat.le_of_ble_eq_true rfl⟩ ⟨Nat.zero_le _, Nat.zero_le _⟩ (fun H3 locs hp3 hT3 hS3 hk3 => ?_)
  refine lv_aload_n hx hb dX10_feed_42 rfl (lv_at hl 0 rfl) ?_
  refine h_getr (C := RX10) (T := TX10) (N := 9) hx hb hts inX10 hown hK hT3 (on_w0 hW) rfl 0 rfl wF_X10_10 rfl dX10_feed_43 ?_
  refine lv_iload hx hb dX10_feed_46 (lv_at hl 4 rfl) ?_
  refine h_callVv (T := TX8) (rest := []) (As := [.int u4]) hx hb hml hown hts hK hT3 (fun _ h => h) hS3 (c_append_12 l G Y (o + 1) (on_wt hW) u4) hp3 wd_X8_append wV_X8_append wL_X10_62 ((on_wt hW).o rfl) rfl rfl hl.1 rfl (Nat.le_of_ble_eq_true rfl) dX10_feed_48 ⟨Nat.le_of_ble_eq_true rfl, Nat.le_of_ble_eq_true rfl⟩ ⟨Nat.zero_le _, Nat.zero_le _⟩ (fun H4 locs hp4 hT4 hS4 hk4 => ?_)
  refine lv_aload_n hx hb dX10_feed_51 rfl (lv_at hl 0 rfl) ?_
  refine h_getr (C := RX10) (T := TX10) (N := 9) hx hb hts inX10 hown hK hT4 (on_w0 hW) rfl 0 rfl wF_X10_10 rfl dX10_feed_52 ?_
  refine lv_iload hx hb dX10_feed_55 (lv_at hl 5 rfl) ?_
  refine h_callVv (T := TX8) (rest := []) (As := [.int u5]) hx hb hml hown hts hK hT4 (fun _ h => h) hS4 (c_append_16 l G Y (o + 1) (on_wt hW) u5) hp4 wd_X8_append wV_X8_append wL_X10_62 ((on_wt hW).o rfl) rfl rfl hl.1 rfl (Nat.le_of_ble_eq_true rfl) dX10_feed_57 ⟨Nat.le_of_ble_eq_true rfl, Nat.le_of_ble_eq_true rfl⟩ ⟨Nat.zero_le _, Nat.zero_le _⟩ (fun H5 locs hp5 hT5 hS5 hk5 => ?_)
  refine lv_aload_n hx hb dX10_feed_60 rfl (lv_at hl 0 rfl) ?_
  refine h_getr (C := RX10) (T := TX10) (N := 9) hx hb hts inX10 hown hK hT5 (on_w0 hW) rfl 0 rfl wF_X10_10 rfl dX10_feed_61 ?_
  refine h_geti (C := RX8) (T := TX8) (N := 4) hx hb hts inX8 hown hK hT5 ((on_wt hW).o rfl) rfl 1 rfl wF_X10_59 rfl dX10_feed_64 (fun p3 => ?_)
  refine h_top (v := 20) hp5 ?_
  exact hret _ _ _ _ _ hT5 hS5 rfl dX10_feed_67
set_option maxHeartbeats 4000000 in
set_option maxRecDepth 100000 in
theorem c_X10_load (l : Launch) (G : hG) (Y : hW) (o : Nat) (hW : h_On Y o (wldE tF o)) (u1 : Int32) : hMi l yX10_load cX10_load 3 (some .int) 4 102 G Y [.ref (o), .int u1] (fun H => h_gi G H 8 (o + 1) 1 = 0) (fun H r H1 => ((u1.toInt = 0) → r = 0) ∧ (¬ (u1.toInt = 0) → r = -1)) := by
  refine h_ofi (by decide +kernel) (Nat.le_of_ble_eq_true rfl) ?_
  intro p e s m args below meth c H0 ls Q hx hb hts hown hml hK hT0 hpr hS0 hl hret
  have hl : lv_has ls 3 [(0, .ref (o)), (1, .int u1)] := hl
  refine lv_iload_n hx hb dX10_load_0 rfl (lv_at hl 1 rfl) ?_
  refine lv_if_lt (tgt := 15) hx hb dX10_load_1 (by decide) (fun c1 => ?_) (fun c1 => ?_)
  · skip
    refine lv_aload_n hx hb dX10_load_15 rfl (lv_at hl 0 rfl) ?_
    refine lv_iconst (v := 1) hx hb dX10_load_16 (by decide) ?_
    refine h_callVi (T := TX10) (rest := []) (As := [.int 1]) hx hb hml hown hts hK hT0 (fun _ h => h) hS0 (c_X10_fail l G Y (o) hW 1) trivial wd_X10_fail wV_X10_fail wL_X10_66 (on_w0 hW) rfl rfl hl.1 rfl (Nat.le_of_ble_eq_true rfl) dX10_load_17 ⟨Nat.le_of_ble_eq_true rfl, Nat.le_of_ble_eq_true rfl⟩ ⟨Nat.zero_le _, Nat.zero_le _⟩ (fun r2 H1 locs hp1 hT1 hS1 hk1 => ?_)
    have hp1 : r2 = (-1) := hp1
    subst hp1
    exact hret _ _ _ _ _ hT1 hS1 (by refine ⟨fun h => ?_, fun h => ?_⟩ <;> first | rfl | exact absurd h (by decide) | (exfalso; simp only [Int32.lt_iff_toInt_lt, Int32.le_iff_toInt_le, ← Int32.toInt_inj, Int32.reduceToInt, (show (-1 : Int32).toInt = -1 from rfl)] at c1 <;> omega)) dX10_load_20
  · skip
    refine lv_iload_n hx hb dX10_load_4 rfl (lv_at hl 1 rfl) ?_
    refine lv_aload_n hx hb dX10_load_5 rfl (lv_at hl 0 rfl) ?_
    refine h_getr (C := RX10) (T := TX10) (N := 9) hx hb hts inX10 hown hK hT0 (on_w0 hW) rfl 0 rfl wF_X10_10 rfl dX10_load_6 ?_
    refine h_geti (C := RX8) (T := TX8) (N := 4) hx hb hts inX8 hown hK hT0 ((on_wt hW).o rfl) rfl 1 rfl wF_X10_59 rfl dX10_load_9 (fun p3 => ?_)
    refine h_top (v := 0) hpr ?_
    refine lv_icmp_le (tgt := 21) hx hb dX10_load_12 (by decide) (fun c4 => ?_) (fun c4 => ?_)
    · skip
      obtain rfl : u1 = 0 := (by simp only [Int32.lt_iff_toInt_lt, Int32.le_iff_toInt_le, ← Int32.toInt_inj, Int32.reduceToInt, (show (-1 : Int32).toInt = -1 from rfl)] at c1 c4 ⊢; omega)
      refine lv_aload_n hx hb dX10_load_21 rfl (lv_at hl 0 rfl) ?_
      refine h_getr (C := RX10) (T := TX10) (N := 9) hx hb hts inX10 hown hK hT0 (on_w0 hW) rfl 4 rfl wF_X10_40 rfl dX10_load_22 ?_
      refine lv_iload_n hx hb dX10_load_25 rfl (lv_at hl 1 rfl) ?_
      refine h_callVi (T := TX4) (rest := []) (As := [.int 0]) hx hb hml hown hts hK hT0 (fun _ h => h) hS0 (c_X4_readText l G Y (o + 56) (o + 1) (o + 28) (on_we hW) (on_wt hW) (on_ws hW)) trivial wd_X4_readText wV_X4_readText wL_X10_70 ((on_we hW).o rfl) rfl rfl hl.1 rfl (Nat.le_of_ble_eq_true rfl) dX10_load_26 ⟨Nat.le_of_ble_eq_true rfl, Nat.le_of_ble_eq_true rfl⟩ ⟨Nat.zero_le _, Nat.zero_le _⟩ (fun r5 H2 locs hp2 hT2 hS2 hk2 => ?_)
      have hp2 : r5 = 1 := hp2
      subst hp2
      refine lv_istore_n (lv' := [(2, .int 1), (0, .ref (o)), (1, .int 0)]) hx hb dX10_load_29 rfl hl (by decide) rfl (fun ls hl => ?_)
      refine lv_aload_n hx hb dX10_load_30 rfl (lv_at hl 1 rfl) ?_
      refine h_getr (C := RX10) (T := TX10) (N := 9) hx hb hts inX10 hown hK hT2 (on_w0 hW) rfl 0 rfl wF_X10_10 rfl dX10_load_31 ?_
      refine lv_iconst (v := 0) hx hb dX10_load_34 (by decide) ?_
      refine h_puti (C := RX8) (T := TX8) (N := 4) hx hb hts inX8 tyX8 tyX8_ok nmX8 hown hK hT2 (fun _ h => h) hS2 ((on_wt hW).o rfl) rfl 1 rfl wF_X10_59 rfl rfl trivial rfl rfl dX10_load_35 (fun H3 locs hT3 hS3 hu3 => ?_)
      refine lv_aload_n hx hb dX10_load_38 rfl (lv_at hl 1 rfl) ?_
      refine h_getr (C := RX10) (T := TX10) (N := 9) hx hb hts inX10 hown hK hT3 (on_w0 hW) rfl 0 rfl wF_X10_10 rfl dX10_load_39 ?_
      refine lv_aload_n hx hb dX10_load_42 rfl (lv_at hl 1 rfl) ?_
      refine h_getr (C := RX10) (T := TX10) (N := 9) hx hb hts inX10 hown hK hT3 (on_w0 hW) rfl 4 rfl wF_X10_40 rfl dX10_load_43 ?_
      refine h_geti (C := RX4) (T := TX4) (N := 13) hx hb hts inX4 hown hK hT3 ((on_we hW).o rfl) rfl 11 rfl wF_X10_74 rfl dX10_load_46 (fun p6 => ?_)
      refine lv_topi (fun x7 ex7 => ?_)
      refine h_puti (C := RX8) (T := TX8) (N := 4) hx hb hts inX8 tyX8 tyX8_ok nmX8 hown hK hT3 (fun _ h => h) hS3 ((on_wt hW).o rfl) rfl 2 rfl wF_X10_77 rfl rfl trivial rfl rfl dX10_load_49 (fun H4 locs hT4 hS4 hu4 => ?_)
      refine lv_aload_n hx hb dX10_load_52 rfl (lv_at hl 1 rfl) ?_
      refine h_getr (C := RX10) (T := TX10) (N := 9) hx hb hts inX10 hown hK hT4 (on_w0 hW) rfl 0 rfl wF_X10_10 rfl dX10_load_53 ?_
      refine lv_aload_n hx hb dX10_load_56 rfl (lv_at hl 1 rfl) ?_
      refine h_getr (C := RX10) (T := TX10) (N := 9) hx hb hts inX10 hown hK hT4 (on_w0 hW) rfl 4 rfl wF_X10_40 rfl dX10_load_57 ?_
      refine h_geti (C := RX4) (T := TX4) (N := 13) hx hb hts inX4 hown hK hT4 ((on_we hW).o rfl) rfl 12 rfl wF_X10_78 rfl dX10_load_60 (fun p8 => ?_)
      refine lv_topi (fun x9 ex9 => ?_)
      refine h_puti (C := RX8) (T := TX8) (N := 4) hx hb hts inX8 tyX8 tyX8_ok nmX8 hown hK hT4 (fun _ h => h) hS4 ((on_wt hW).o rfl) rfl 3 rfl wF_X10_81 rfl rfl trivial rfl rfl dX10_load_63 (fun H5 locs hT5 hS5 hu5 => ?_)
      refine lv_iload_n hx hb dX10_load_66 rfl (lv_at hl 0 rfl) ?_
      refine lv_if_ne (tgt := 77) hx hb dX10_load_67 (by decide) (fun _ => ?_) (fun h => absurd h (by decide))
      refine lv_aload_n hx hb dX10_load_77 rfl (lv_at hl 1 rfl) ?_
      refine h_getr (C := RX10) (T := TX10) (N := 9) hx hb hts inX10 hown hK hT5 (on_w0 hW) rfl 1 rfl wF_X10_19 rfl dX10_load_78 ?_
      refine lv_aload_n hx hb dX10_load_81 rfl (lv_at hl 1 rfl) ?_
      refine h_getr (C := RX10) (T := TX10) (N := 9) hx hb hts inX10 hown hK hT5 (on_w0 hW) rfl 2 rfl wF_X10_23 rfl dX10_load_82 ?_
      refine h_callVv (T := TX5) (rest := []) (As := [.ref (o + 28)]) hx hb hml hown hts hK hT5 (fun _ h => h) hS5 (c_X5_copyFrom l G Y (o + 3) (o + 28) (on_wr hW) (on_ws hW)) trivial wd_X5_copyFrom wV_X5_copyFrom wL_X10_82 (on_rg (on_wr hW)) rfl rfl hl.1 rfl (Nat.le_of_ble_eq_true rfl) dX10_load_85 ⟨Nat.le_of_ble_eq_true rfl, Nat.le_of_ble_eq_true rfl⟩ ⟨Nat.zero_le _, Nat.zero_le _⟩ (fun H6 locs hp6 hT6 hS6 hk6 => ?_)
      refine lv_aload_n hx hb dX10_load_88 rfl (lv_at hl 1 rfl) ?_
      refine lv_aload_n hx hb dX10_load_89 rfl (lv_at hl 1 rfl) ?_
      refine h_getr (C := RX10) (T := TX10) (N := 9) hx hb hts inX10 hown hK hT6 (on_w0 hW) rfl 1 rfl wF_X10_19 rfl dX10_load_90 ?_
      refine h_getr (C := RX5) (T := TX5) (N := 11) hx hb hts inX5 hown hK hT6 (on_rg (on_wr hW)) rfl 0 rfl wF_X10_86 rfl dX10_load_93 ?_
      refine h_getc (v := 0) (C := RX7) (T := TX7) (N := 9) hx hb hts inX7 hown hK hT6 ((on_st (on_wr hW)).o rfl) rfl 5 rfl wF_X10_90 rfl (fun _ h => h) dX10_load_96 ?_
      refine h_callVi (T := TX10) (rest := []) (As := [.int 0]) hx hb hml hown hts hK hT6 (fun _ h => h) hS6 (c_X10_give l G Y (o) hW 0) trivial wd_X10_give wV_X10_give wL_X10_95 (on_w0 hW) rfl rfl hl.1 rfl (Nat.le_of_ble_eq_true rfl) dX10_load_99 ⟨Nat.le_of_ble_eq_true rfl, Nat.le_of_ble_eq_true rfl⟩ ⟨Nat.zero_le _, Nat.zero_le _⟩ (fun r11 H7 locs hp7 hT7 hS7 hk7 => ?_)
      have hp7 : r11 = 0 := hp7
      subst hp7
      exact hret _ _ _ _ _ hT7 hS7 (by refine ⟨fun h => ?_, fun h => ?_⟩ <;> first | rfl | exact absurd h (by decide) | (exfalso; simp only [Int32.lt_iff_toInt_lt, Int32.le_iff_toInt_le, ← Int32.toInt_inj, Int32.reduceToInt, (show (-1 : Int32).toInt = -1 from rfl)] at c1 c4 <;> omega)) dX10_load_102
    · skip
      refine lv_aload_n hx hb dX10_load_15 rfl (lv_at hl 0 rfl) ?_
      refine lv_iconst (v := 1) hx hb dX10_load_16 (by decide) ?_
      refine h_callVi (T := TX10) (rest := []) (As := [.int 1]) hx hb hml hown hts hK hT0 (fun _ h => h) hS0 (c_X10_fail l G Y (o) hW 1) trivial wd_X10_fail wV_X10_fail wL_X10_66 (on_w0 hW) rfl rfl hl.1 rfl (Nat.le_of_ble_eq_true rfl) dX10_load_17 ⟨Nat.le_of_ble_eq_true rfl, Nat.le_of_ble_eq_true rfl⟩ ⟨Nat.zero_le _, Nat.zero_le _⟩ (fun r12 H8 locs hp8 hT8 hS8 hk8 => ?_)
      have hp8 : r12 = (-1) := hp8
      subst hp8
      exact hret _ _ _ _ _ hT8 hS8 (by refine ⟨fun h => ?_, fun h => ?_⟩ <;> first | rfl | exact absurd h (by decide) | (exfalso; simp only [Int32.lt_iff_toInt_lt, Int32.le_iff_toInt_le, ← Int32.toInt_inj, Int32.reduceToInt, (show (-1 : Int32).toInt = -1 from rfl)] at c1 c4 <;> omega)) dX10_load_20
set_option maxHeartbeats 4000000 in
set_option maxRecDepth 100000 in
theorem c_X10_tick (l : Launch) (G : hG) (Y : hW) (o : Nat) (hW : h_On Y o (wldE tF o)) (u1 : Int32) : hMi l yX10_tick cX10_tick 3 (some .int) 4 84 G Y [.ref (o), .int u1] (fun H => h_gi G H 5 (o + 3) 6 = 0) (fun H r H1 => ((1 ≤ u1.toInt ∧ u1.toInt ≤ 500) → r = u1) ∧ (¬ (1 ≤ u1.toInt ∧ u1.toInt ≤ 500) → r = -1)) := by
  refine h_ofi (by decide +kernel) (Nat.le_of_ble_eq_true rfl) ?_
  intro p e s m args below meth c H0 ls Q hx hb hts hown hml hK hT0 hpr hS0 hl hret
  have hl : lv_has ls 3 [(0, .ref (o)), (1, .int u1)] := hl
  refine lv_iload_n hx hb dX10_tick_0 rfl (lv_at hl 1 rfl) ?_
  refine lv_iconst (v := 1) hx hb dX10_tick_1 (by decide) ?_
  refine lv_icmp_lt (tgt := 12) hx hb dX10_tick_2 (by decide) (fun c1 => ?_) (fun c1 => ?_)
  · skip
    refine lv_aload_n hx hb dX10_tick_12 rfl (lv_at hl 0 rfl) ?_
    refine lv_iconst (v := 1) hx hb dX10_tick_13 (by decide) ?_
    refine h_callVi (T := TX10) (rest := []) (As := [.int 1]) hx hb hml hown hts hK hT0 (fun _ h => h) hS0 (c_X10_fail l G Y (o) hW 1) trivial wd_X10_fail wV_X10_fail wL_X10_66 (on_w0 hW) rfl rfl hl.1 rfl (Nat.le_of_ble_eq_true rfl) dX10_tick_14 ⟨Nat.le_of_ble_eq_true rfl, Nat.le_of_ble_eq_true rfl⟩ ⟨Nat.zero_le _, Nat.zero_le _⟩ (fun r2 H1 locs hp1 hT1 hS1 hk1 => ?_)
    have hp1 : r2 = (-1) := hp1
    subst hp1
    exact hret _ _ _ _ _ hT1 hS1 (by refine ⟨fun h => ?_, fun h => ?_⟩ <;> first | rfl | exact absurd h (by decide) | (exfalso; simp only [Int32.lt_iff_toInt_lt, Int32.le_iff_toInt_le, ← Int32.toInt_inj, Int32.reduceToInt, (show (-1 : Int32).toInt = -1 from rfl)] at c1 <;> omega)) dX10_tick_17
  · skip
    refine lv_iload_n hx hb dX10_tick_5 rfl (lv_at hl 1 rfl) ?_
    refine lv_sipush (v := 500) hx hb dX10_tick_6 (by decide) ?_
    refine lv_icmp_le (tgt := 18) hx hb dX10_tick_9 (by decide) (fun c3 => ?_) (fun c3 => ?_)
    · skip
      refine lv_iconst (v := 0) hx hb dX10_tick_18 (by decide) ?_
      refine lv_istore_n (lv' := [(2, .int 0), (0, .ref (o)), (1, .int u1)]) hx hb dX10_tick_19 rfl hl (by decide) rfl (fun ls hl => ?_)
      have hcond : 1 ≤ u1.toInt ∧ u1.toInt ≤ 500 := (by simp only [Int32.lt_iff_toInt_lt, Int32.le_iff_toInt_le, ← Int32.toInt_inj, Int32.reduceToInt, (show (-1 : Int32).toInt = -1 from rfl)] at c1 c3 ⊢; omega)
      obtain ⟨M, hM, hu⟩ : ∃ M : Nat, M ≤ 500 ∧ u1 = nI M := nI_of2 (M := 500) rfl (by simp only [Int32.lt_iff_toInt_lt, Int32.le_iff_toInt_le, ← Int32.toInt_inj, Int32.reduceToInt, (show (-1 : Int32).toInt = -1 from rfl)] at c1 c3 ⊢; omega) (by simp only [Int32.lt_iff_toInt_lt, Int32.le_iff_toInt_le, ← Int32.toInt_inj, Int32.reduceToInt, (show (-1 : Int32).toInt = -1 from rfl)] at c1 c3 ⊢; omega)
      subst hu
      have LP : ∀ (q k : Nat), q + k = M → ∀ (H0 : Heap) (locs : List Loc) (ls : Array Slot), hT G Y H0 → va_S (h_A Y) s.heap H0 locs → h_gi G H0 5 (o + 3) 6 = nI k → lv_has ls 3 [(2, .int (nI k)), (0, .ref (o)), (1, .int (nI M))] → W p l e (h_rm 4 84) s m args below meth c H0 locs 0 0 Q (F0 m 20 ls []) := by
        intro q
        induction q with
        | zero =>
          intro k hk H0 locs ls  hT0 hS0 hf0 hl
          have hkM : k = M := by omega
          subst hkM
          refine lv_iload_n hx hb dX10_tick_20 rfl (lv_at hl 0 rfl) ?_
          refine lv_iload_n hx hb dX10_tick_21 rfl (lv_at hl 2 rfl) ?_
          refine lv_icmp_ge (tgt := 39) hx hb dX10_tick_22 (by decide) (fun _ => ?_) (fun h => absurd (Int32.le_refl _) h)
          refine lv_aload_n hx hb dX10_tick_39 rfl (lv_at hl 1 rfl) ?_
          refine lv_aload_n hx hb dX10_tick_40 rfl (lv_at hl 1 rfl) ?_
          refine h_getr (C := RX10) (T := TX10) (N := 9) hx hb hts inX10 hown hK hT0 (on_w0 hW) rfl 1 rfl wF_X10_19 rfl dX10_tick_41 ?_
          refine h_geti (C := RX5) (T := TX5) (N := 11) hx hb hts inX5 hown hK hT0 (on_rg (on_wr hW)) rfl 6 rfl wF_X10_117 rfl dX10_tick_44 (fun p4 => ?_)
          refine h_top (v := (nI k)) hf0 ?_
          refine h_callVi (T := TX10) (rest := []) (As := [.int (nI k)]) hx hb hml hown hts hK hT0 (fun _ h => h) hS0 (c_X10_give l G Y (o) hW (nI k)) trivial wd_X10_give wV_X10_give wL_X10_95 (on_w0 hW) rfl rfl hl.1 rfl (Nat.le_of_ble_eq_true rfl) dX10_tick_47 ⟨Nat.le_of_ble_eq_true rfl, Nat.le_of_ble_eq_true rfl⟩ ⟨Nat.zero_le _, Nat.zero_le _⟩ (fun r5 H1 locs hp1 hT1 hS1 hk1 => ?_)
          have hp1 : r5 = (nI k) := hp1
          subst hp1
          exact hret _ _ _ _ _ hT1 hS1 ⟨fun _ => rfl, fun h => absurd hcond h⟩ dX10_tick_50
        | succ q ih =>
          intro k hk H0 locs ls  hT0 hS0 hf0 hl
          refine lv_iload_n hx hb dX10_tick_20 rfl (lv_at hl 0 rfl) ?_
          refine lv_iload_n hx hb dX10_tick_21 rfl (lv_at hl 2 rfl) ?_
          refine lv_icmp_ge (tgt := 39) hx hb dX10_tick_22 (by decide) (fun h => absurd h (nI_ge (by omega) (by omega))) (fun _ => ?_)
          refine lv_aload_n hx hb dX10_tick_25 rfl (lv_at hl 1 rfl) ?_
          refine h_getr (C := RX10) (T := TX10) (N := 9) hx hb hts inX10 hown hK hT0 (on_w0 hW) rfl 1 rfl wF_X10_19 rfl dX10_tick_26 ?_
          refine lv_iconst (v := 0) hx hb dX10_tick_29 (by decide) ?_
          refine h_callVv (T := TX5) (rest := []) (As := [.int 0]) hx hb hml hown hts hK hT0 (fun _ h => h) hS0 (c_X5_passTick l G Y (o + 3) (on_wr hW) 0 (nI k)) hf0 wd_X5_passTick wV_X5_passTick wL_X10_277 (on_rg (on_wr hW)) rfl rfl hl.1 rfl (Nat.le_of_ble_eq_true rfl) dX10_tick_30 ⟨Nat.le_of_ble_eq_true rfl, Nat.le_of_ble_eq_true rfl⟩ ⟨Nat.zero_le _, Nat.zero_le _⟩ (fun H1 locs hp1 hT1 hS1 hk1 => ?_)
          refine lv_iinc (v := (nI (k + 1))) (lv' := [(2, .int (nI (k + 1))), (0, .ref (o)), (1, .int (nI M))]) hx hb dX10_tick_33 hl (k := 0) rfl (nI_1 k) (by decide) rfl (fun ls hl => ?_)
          refine lv_goto (tgt := 20) hx hb dX10_tick_36 (by decide) ?_
          exact ih (k + 1) (by omega) _ _ _  hT1 hS1 (hp1.trans (nI_1 _)) (lv_sub hl [0, 1, 2] rfl)
      exact LP M 0 (by omega) _ _ _  hT0 hS0 hpr (lv_sub hl [0, 1, 2] rfl)
    · skip
      refine lv_aload_n hx hb dX10_tick_12 rfl (lv_at hl 0 rfl) ?_
      refine lv_iconst (v := 1) hx hb dX10_tick_13 (by decide) ?_
      refine h_callVi (T := TX10) (rest := []) (As := [.int 1]) hx hb hml hown hts hK hT0 (fun _ h => h) hS0 (c_X10_fail l G Y (o) hW 1) trivial wd_X10_fail wV_X10_fail wL_X10_66 (on_w0 hW) rfl rfl hl.1 rfl (Nat.le_of_ble_eq_true rfl) dX10_tick_14 ⟨Nat.le_of_ble_eq_true rfl, Nat.le_of_ble_eq_true rfl⟩ ⟨Nat.zero_le _, Nat.zero_le _⟩ (fun r6 H2 locs hp2 hT2 hS2 hk2 => ?_)
      have hp2 : r6 = (-1) := hp2
      subst hp2
      exact hret _ _ _ _ _ hT2 hS2 (by refine ⟨fun h => ?_, fun h => ?_⟩ <;> first | rfl | exact absurd h (by decide) | (exfalso; simp only [Int32.lt_iff_toInt_lt, Int32.le_iff_toInt_le, ← Int32.toInt_inj, Int32.reduceToInt, (show (-1 : Int32).toInt = -1 from rfl)] at c1 c3 <;> omega)) dX10_tick_17
set_option maxHeartbeats 4000000 in
set_option maxRecDepth 100000 in
theorem c_X10_run (l : Launch) (G : hG) (Y : hW) (o : Nat) (hW : h_On Y o (wldE tF o)) (u1 u2 u3 : Int32) : hMi l yX10_run cX10_run 7 (some .int) 4 84 G Y [.ref (o), .int u1, .int u2, .int u3] (fun H => True) (fun H r H1 => (((1 ≤ u1.toInt ∧ u1.toInt ≤ 500) ∧ (0 ≤ u2.toInt ∧ u2.toInt ≤ 9999) ∧ (0 ≤ u3.toInt ∧ u3.toInt ≤ 16)) → r = 0) ∧ (¬ ((1 ≤ u1.toInt ∧ u1.toInt ≤ 500) ∧ (0 ≤ u2.toInt ∧ u2.toInt ≤ 9999) ∧ (0 ≤ u3.toInt ∧ u3.toInt ≤ 16)) → r = -1)) := by
  refine h_ofi (by decide +kernel) (Nat.le_of_ble_eq_true rfl) ?_
  intro p e s m args below meth c H0 ls Q hx hb hts hown hml hK hT0 hpr hS0 hl hret
  have hl : lv_has ls 7 [(0, .ref (o)), (1, .int u1), (2, .int u2), (3, .int u3)] := hl
  refine lv_iload_n hx hb dX10_run_0 rfl (lv_at hl 1 rfl) ?_
  refine lv_iconst (v := 1) hx hb dX10_run_1 (by decide) ?_
  refine lv_icmp_lt (tgt := 33) hx hb dX10_run_2 (by decide) (fun c1 => ?_) (fun c1 => ?_)
  · skip
    refine lv_aload_n hx hb dX10_run_33 rfl (lv_at hl 0 rfl) ?_
    refine lv_iconst (v := 1) hx hb dX10_run_34 (by decide) ?_
    refine h_callVi (T := TX10) (rest := []) (As := [.int 1]) hx hb hml hown hts hK hT0 (fun _ h => h) hS0 (c_X10_fail l G Y (o) hW 1) trivial wd_X10_fail wV_X10_fail wL_X10_66 (on_w0 hW) rfl rfl hl.1 rfl (Nat.le_of_ble_eq_true rfl) dX10_run_35 ⟨Nat.le_of_ble_eq_true rfl, Nat.le_of_ble_eq_true rfl⟩ ⟨Nat.zero_le _, Nat.zero_le _⟩ (fun r2 H1 locs hp1 hT1 hS1 hk1 => ?_)
    have hp1 : r2 = (-1) := hp1
    subst hp1
    exact hret _ _ _ _ _ hT1 hS1 (by refine ⟨fun h => ?_, fun h => ?_⟩ <;> first | rfl | exact absurd h (by decide) | (exfalso; simp only [Int32.lt_iff_toInt_lt, Int32.le_iff_toInt_le, ← Int32.toInt_inj, Int32.reduceToInt, (show (-1 : Int32).toInt = -1 from rfl)] at c1 <;> omega)) dX10_run_38
  · skip
    refine lv_iload_n hx hb dX10_run_5 rfl (lv_at hl 1 rfl) ?_
    refine lv_sipush (v := 500) hx hb dX10_run_6 (by decide) ?_
    refine lv_icmp_gt (tgt := 33) hx hb dX10_run_9 (by decide) (fun c3 => ?_) (fun c3 => ?_)
    · skip
      refine lv_aload_n hx hb dX10_run_33 rfl (lv_at hl 0 rfl) ?_
      refine lv_iconst (v := 1) hx hb dX10_run_34 (by decide) ?_
      refine h_callVi (T := TX10) (rest := []) (As := [.int 1]) hx hb hml hown hts hK hT0 (fun _ h => h) hS0 (c_X10_fail l G Y (o) hW 1) trivial wd_X10_fail wV_X10_fail wL_X10_66 (on_w0 hW) rfl rfl hl.1 rfl (Nat.le_of_ble_eq_true rfl) dX10_run_35 ⟨Nat.le_of_ble_eq_true rfl, Nat.le_of_ble_eq_true rfl⟩ ⟨Nat.zero_le _, Nat.zero_le _⟩ (fun r4 H2 locs hp2 hT2 hS2 hk2 => ?_)
      have hp2 : r4 = (-1) := hp2
      subst hp2
      exact hret _ _ _ _ _ hT2 hS2 (by refine ⟨fun h => ?_, fun h => ?_⟩ <;> first | rfl | exact absurd h (by decide) | (exfalso; simp only [Int32.lt_iff_toInt_lt, Int32.le_iff_toInt_le, ← Int32.toInt_inj, Int32.reduceToInt, (show (-1 : Int32).toInt = -1 from rfl)] at c1 c3 <;> omega)) dX10_run_38
    · skip
      refine lv_iload_n hx hb dX10_run_12 rfl (lv_at hl 2 rfl) ?_
      refine lv_if_lt (tgt := 33) hx hb dX10_run_13 (by decide) (fun c5 => ?_) (fun c5 => ?_)
      · skip
        refine lv_aload_n hx hb dX10_run_33 rfl (lv_at hl 0 rfl) ?_
        refine lv_iconst (v := 1) hx hb dX10_run_34 (by decide) ?_
        refine h_callVi (T := TX10) (rest := []) (As := [.int 1]) hx hb hml hown hts hK hT0 (fun _ h => h) hS0 (c_X10_fail l G Y (o) hW 1) trivial wd_X10_fail wV_X10_fail wL_X10_66 (on_w0 hW) rfl rfl hl.1 rfl (Nat.le_of_ble_eq_true rfl) dX10_run_35 ⟨Nat.le_of_ble_eq_true rfl, Nat.le_of_ble_eq_true rfl⟩ ⟨Nat.zero_le _, Nat.zero_le _⟩ (fun r6 H3 locs hp3 hT3 hS3 hk3 => ?_)
        have hp3 : r6 = (-1) := hp3
        subst hp3
        exact hret _ _ _ _ _ hT3 hS3 (by refine ⟨fun h => ?_, fun h => ?_⟩ <;> first | rfl | exact absurd h (by decide) | (exfalso; simp only [Int32.lt_iff_toInt_lt, Int32.le_iff_toInt_le, ← Int32.toInt_inj, Int32.reduceToInt, (show (-1 : Int32).toInt = -1 from rfl)] at c1 c3 c5 <;> omega)) dX10_run_38
      · skip
        refine lv_iload_n hx hb dX10_run_16 rfl (lv_at hl 2 rfl) ?_
        refine lv_sipush (v := 9999) hx hb dX10_run_17 (by decide) ?_
        refine lv_icmp_gt (tgt := 33) hx hb dX10_run_20 (by decide) (fun c7 => ?_) (fun c7 => ?_)
        · skip
          refine lv_aload_n hx hb dX10_run_33 rfl (lv_at hl 0 rfl) ?_
          refine lv_iconst (v := 1) hx hb dX10_run_34 (by decide) ?_
          refine h_callVi (T := TX10) (rest := []) (As := [.int 1]) hx hb hml hown hts hK hT0 (fun _ h => h) hS0 (c_X10_fail l G Y (o) hW 1) trivial wd_X10_fail wV_X10_fail wL_X10_66 (on_w0 hW) rfl rfl hl.1 rfl (Nat.le_of_ble_eq_true rfl) dX10_run_35 ⟨Nat.le_of_ble_eq_true rfl, Nat.le_of_ble_eq_true rfl⟩ ⟨Nat.zero_le _, Nat.zero_le _⟩ (fun r8 H4 locs hp4 hT4 hS4 hk4 => ?_)
          have hp4 : r8 = (-1) := hp4
          subst hp4
          exact hret _ _ _ _ _ hT4 hS4 (by refine ⟨fun h => ?_, fun h => ?_⟩ <;> first | rfl | exact absurd h (by decide) | (exfalso; simp only [Int32.lt_iff_toInt_lt, Int32.le_iff_toInt_le, ← Int32.toInt_inj, Int32.reduceToInt, (show (-1 : Int32).toInt = -1 from rfl)] at c1 c3 c5 c7 <;> omega)) dX10_run_38
        · skip
          refine lv_iload_n hx hb dX10_run_23 rfl (lv_at hl 3 rfl) ?_
          refine lv_if_lt (tgt := 33) hx hb dX10_run_24 (by decide) (fun c9 => ?_) (fun c9 => ?_)
          · skip
            refine lv_aload_n hx hb dX10_run_33 rfl (lv_at hl 0 rfl) ?_
            refine lv_iconst (v := 1) hx hb dX10_run_34 (by decide) ?_
            refine h_callVi (T := TX10) (rest := []) (As := [.int 1]) hx hb hml hown hts hK hT0 (fun _ h => h) hS0 (c_X10_fail l G Y (o) hW 1) trivial wd_X10_fail wV_X10_fail wL_X10_66 (on_w0 hW) rfl rfl hl.1 rfl (Nat.le_of_ble_eq_true rfl) dX10_run_35 ⟨Nat.le_of_ble_eq_true rfl, Nat.le_of_ble_eq_true rfl⟩ ⟨Nat.zero_le _, Nat.zero_le _⟩ (fun r10 H5 locs hp5 hT5 hS5 hk5 => ?_)
            have hp5 : r10 = (-1) := hp5
            subst hp5
            exact hret _ _ _ _ _ hT5 hS5 (by refine ⟨fun h => ?_, fun h => ?_⟩ <;> first | rfl | exact absurd h (by decide) | (exfalso; simp only [Int32.lt_iff_toInt_lt, Int32.le_iff_toInt_le, ← Int32.toInt_inj, Int32.reduceToInt, (show (-1 : Int32).toInt = -1 from rfl)] at c1 c3 c5 c7 c9 <;> omega)) dX10_run_38
          · skip
            refine lv_iload_n hx hb dX10_run_27 rfl (lv_at hl 3 rfl) ?_
            refine lv_bipush (v := 16) hx hb dX10_run_28 (by decide) ?_
            refine lv_icmp_le (tgt := 39) hx hb dX10_run_30 (by decide) (fun c11 => ?_) (fun c11 => ?_)
            · skip
              refine lv_aload_n hx hb dX10_run_39 rfl (lv_at hl 0 rfl) ?_
              refine h_getr (C := RX10) (T := TX10) (N := 9) hx hb hts inX10 hown hK hT0 (on_w0 hW) rfl 1 rfl wF_X10_19 rfl dX10_run_40 ?_
              refine h_getr (C := RX5) (T := TX5) (N := 11) hx hb hts inX5 hown hK hT0 (on_rg (on_wr hW)) rfl 5 rfl wF_X10_180 rfl dX10_run_43 ?_
              refine lv_iconst (v := 0) hx hb dX10_run_46 (by decide) ?_
              refine h_callVi (T := TX0) (rest := []) (As := [.int 0]) hx hb hml hown hts hK hT0 (fun _ h => h) hS0 (c_X0_counted l G Y (o + 3 + 19) (on_bo (on_wr hW)) 0) trivial wd_X0_counted wV_X0_counted wL_X10_184 ((on_bo (on_wr hW)).o rfl) rfl rfl hl.1 rfl (Nat.le_of_ble_eq_true rfl) dX10_run_47 ⟨Nat.le_of_ble_eq_true rfl, Nat.le_of_ble_eq_true rfl⟩ ⟨Nat.zero_le _, Nat.zero_le _⟩ (fun r12 H6 locs hp6 hT6 hS6 hk6 => ?_)
              obtain ⟨hp6, he⟩ := hp6
              have he := he.symm
              subst he
              have hp6 : r12 = 0 := hp6
              subst hp6
              refine lv_istore (lv' := [(4, .int 0), (0, .ref (o)), (1, .int u1), (2, .int u2), (3, .int u3)]) hx hb dX10_run_50 hl (by decide) rfl (fun ls hl => ?_)
              refine lv_iload_n hx hb dX10_run_52 rfl (lv_at hl 3 rfl) ?_
              refine lv_istore (lv' := [(5, .int u2), (4, .int 0), (0, .ref (o)), (1, .int u1), (2, .int u2), (3, .int u3)]) hx hb dX10_run_53 hl (by decide) rfl (fun ls hl => ?_)
              refine lv_iconst (v := 0) hx hb dX10_run_55 (by decide) ?_
              refine lv_istore (lv' := [(6, .int 0), (5, .int u2), (4, .int 0), (0, .ref (o)), (1, .int u1), (2, .int u2), (3, .int u3)]) hx hb dX10_run_56 hl (by decide) rfl (fun ls hl => ?_)
              have hcond : (1 ≤ u1.toInt ∧ u1.toInt ≤ 500) ∧ (0 ≤ u2.toInt ∧ u2.toInt ≤ 9999) ∧ (0 ≤ u3.toInt ∧ u3.toInt ≤ 16) := (by simp only [Int32.lt_iff_toInt_lt, Int32.le_iff_toInt_le, ← Int32.toInt_inj, Int32.reduceToInt, (show (-1 : Int32).toInt = -1 from rfl)] at c1 c11 c3 c5 c7 c9 ⊢; omega)
              obtain ⟨M, hM, hu⟩ : ∃ M : Nat, M ≤ 500 ∧ u1 = nI M := nI_of2 (M := 500) rfl (by simp only [Int32.lt_iff_toInt_lt, Int32.le_iff_toInt_le, ← Int32.toInt_inj, Int32.reduceToInt, (show (-1 : Int32).toInt = -1 from rfl)] at c1 c3 ⊢; omega) (by simp only [Int32.lt_iff_toInt_lt, Int32.le_iff_toInt_le, ← Int32.toInt_inj, Int32.reduceToInt, (show (-1 : Int32).toInt = -1 from rfl)] at c1 c3 ⊢; omega)
              subst hu
              have LP : ∀ (q k : Nat), q + k = M → ∀ (H0 : Heap) (locs : List Loc) (ls : Array Slot), ∀ (w5 : Int32), hT G Y H0 → va_S (h_A Y) s.heap H0 locs → lv_has ls 7 [(6, .int (nI k)), (0, .ref (o)), (1, .int (nI M)), (3, .int u3), (4, .int 0), (5, .int w5)] → W p l e (h_rm 4 84) s m args below meth c H0 locs 0 0 Q (F0 m 58 ls []) := by
                intro q
                induction q with
                | zero =>
                  intro k hk H0 locs ls w5 hT0 hS0  hl
                  have hkM : k = M := by omega
                  subst hkM
                  refine lv_iload hx hb dX10_run_58 (lv_at hl 0 rfl) ?_
                  refine lv_iload_n hx hb dX10_run_60 rfl (lv_at hl 2 rfl) ?_
                  refine lv_icmp_ge (tgt := 90) hx hb dX10_run_61 (by decide) (fun _ => ?_) (fun h => absurd (Int32.le_refl _) h)
                  refine lv_aload_n hx hb dX10_run_90 rfl (lv_at hl 1 rfl) ?_
                  refine lv_aload_n hx hb dX10_run_91 rfl (lv_at hl 1 rfl) ?_
                  refine h_getr (C := RX10) (T := TX10) (N := 9) hx hb hts inX10 hown hK hT0 (on_w0 hW) rfl 1 rfl wF_X10_19 rfl dX10_run_92 ?_
                  refine h_getr (C := RX5) (T := TX5) (N := 11) hx hb hts inX5 hown hK hT0 (on_rg (on_wr hW)) rfl 5 rfl wF_X10_180 rfl dX10_run_95 ?_
                  refine lv_iconst (v := 0) hx hb dX10_run_98 (by decide) ?_
                  refine h_callVi (T := TX0) (rest := [.ref (o)]) (As := [.int 0]) hx hb hml hown hts hK hT0 (fun _ h => h) hS0 (c_X0_counted l G Y (o + 3 + 19) (on_bo (on_wr hW)) 0) trivial wd_X0_counted wV_X0_counted wL_X10_184 ((on_bo (on_wr hW)).o rfl) rfl rfl hl.1 rfl (Nat.le_of_ble_eq_true rfl) dX10_run_99 ⟨Nat.le_of_ble_eq_true rfl, Nat.le_of_ble_eq_true rfl⟩ ⟨Nat.zero_le _, Nat.zero_le _⟩ (fun r13 H1 locs hp1 hT1 hS1 hk1 => ?_)
                  obtain ⟨hp1, he⟩ := hp1
                  have he := he.symm
                  subst he
                  have hp1 : r13 = 0 := hp1
                  subst hp1
                  refine lv_iload hx hb dX10_run_102 (lv_at hl 4 rfl) ?_
                  refine lv_isub hx hb dX10_run_104 ?_
                  refine h_top (v := 0) (by decide) ?_
                  refine h_callVi (T := TX10) (rest := []) (As := [.int 0]) hx hb hml hown hts hK hT0 (fun _ h => h) hS1 (c_X10_give l G Y (o) hW 0) trivial wd_X10_give wV_X10_give wL_X10_95 (on_w0 hW) rfl rfl hl.1 rfl (Nat.le_of_ble_eq_true rfl) dX10_run_105 ⟨Nat.le_of_ble_eq_true rfl, Nat.le_of_ble_eq_true rfl⟩ ⟨Nat.zero_le _, Nat.zero_le _⟩ (fun r14 H2 locs hp2 hT2 hS2 hk2 => ?_)
                  have hp2 : r14 = 0 := hp2
                  subst hp2
                  exact hret _ _ _ _ _ hT2 hS2 ⟨fun _ => rfl, fun h => absurd hcond h⟩ dX10_run_108
                | succ q ih =>
                  intro k hk H0 locs ls w5 hT0 hS0  hl
                  refine lv_iload hx hb dX10_run_58 (lv_at hl 0 rfl) ?_
                  refine lv_iload_n hx hb dX10_run_60 rfl (lv_at hl 2 rfl) ?_
                  refine lv_icmp_ge (tgt := 90) hx hb dX10_run_61 (by decide) (fun h => absurd h (nI_ge (by omega) (by omega))) (fun _ => ?_)
                  refine lv_aload_n hx hb dX10_run_64 rfl (lv_at hl 1 rfl) ?_
                  refine h_getr (C := RX10) (T := TX10) (N := 9) hx hb hts inX10 hown hK hT0 (on_w0 hW) rfl 1 rfl wF_X10_19 rfl dX10_run_65 ?_
                  refine lv_iload hx hb dX10_run_68 (lv_at hl 5 rfl) ?_
                  refine lv_iload_n hx hb dX10_run_70 rfl (lv_at hl 3 rfl) ?_
                  refine h_callVi (T := TX5) (rest := []) (As := [.int w5, .int u3]) hx hb hml hown hts hK hT0 (fun _ h => h) hS0 (c_X5_drawFrame l G Y (o + 3) (on_wr hW) w5 u3) trivial wd_X5_drawFrame wV_X5_drawFrame wL_X10_281 (on_rg (on_wr hW)) rfl rfl hl.1 rfl (Nat.le_of_ble_eq_true rfl) dX10_run_71 ⟨Nat.le_of_ble_eq_true rfl, Nat.le_of_ble_eq_true rfl⟩ ⟨Nat.zero_le _, Nat.zero_le _⟩ (fun r15 H1 locs hp1 hT1 hS1 hk1 => ?_)
                  refine lv_istore (lv' := [(5, .int r15), (6, .int (nI k)), (0, .ref (o)), (1, .int (nI M)), (3, .int u3), (4, .int 0)]) hx hb dX10_run_74 hl (by decide) rfl (fun ls hl => ?_)
                  refine lv_aload_n hx hb dX10_run_76 rfl (lv_at hl 2 rfl) ?_
                  refine h_getr (C := RX10) (T := TX10) (N := 9) hx hb hts inX10 hown hK hT1 (on_w0 hW) rfl 1 rfl wF_X10_19 rfl dX10_run_77 ?_
                  refine lv_iconst (v := 0) hx hb dX10_run_80 (by decide) ?_
                  refine h_callVv (T := TX5) (rest := []) (As := [.int 0]) hx hb hml hown hts hK hT1 (fun _ h => h) hS1 (c_X5_passTick l G Y (o + 3) (on_wr hW) 0 _) rfl wd_X5_passTick wV_X5_passTick wL_X10_277 (on_rg (on_wr hW)) rfl rfl hl.1 rfl (Nat.le_of_ble_eq_true rfl) dX10_run_81 ⟨Nat.le_of_ble_eq_true rfl, Nat.le_of_ble_eq_true rfl⟩ ⟨Nat.zero_le _, Nat.zero_le _⟩ (fun H2 locs hp2 hT2 hS2 hk2 => ?_)
                  refine lv_iinc (v := (nI (k + 1))) (lv' := [(6, .int (nI (k + 1))), (5, .int r15), (0, .ref (o)), (1, .int (nI M)), (3, .int u3), (4, .int 0)]) hx hb dX10_run_84 hl (k := 1) rfl (nI_1 k) (by decide) rfl (fun ls hl => ?_)
                  refine lv_goto (tgt := 58) hx hb dX10_run_87 (by decide) ?_
                  exact ih (k + 1) (by omega) _ _ _ _ hT2 hS2 (lv_sub hl [0, 2, 3, 4, 5, 1] rfl)
              exact LP M 0 (by omega) _ _ _ _ hT0 hS6 (lv_sub hl [0, 3, 4, 6, 2, 1] rfl)
            · skip
              refine lv_aload_n hx hb dX10_run_33 rfl (lv_at hl 0 rfl) ?_
              refine lv_iconst (v := 1) hx hb dX10_run_34 (by decide) ?_
              refine h_callVi (T := TX10) (rest := []) (As := [.int 1]) hx hb hml hown hts hK hT0 (fun _ h => h) hS0 (c_X10_fail l G Y (o) hW 1) trivial wd_X10_fail wV_X10_fail wL_X10_66 (on_w0 hW) rfl rfl hl.1 rfl (Nat.le_of_ble_eq_true rfl) dX10_run_35 ⟨Nat.le_of_ble_eq_true rfl, Nat.le_of_ble_eq_true rfl⟩ ⟨Nat.zero_le _, Nat.zero_le _⟩ (fun r16 H7 locs hp7 hT7 hS7 hk7 => ?_)
              have hp7 : r16 = (-1) := hp7
              subst hp7
              exact hret _ _ _ _ _ hT7 hS7 (by refine ⟨fun h => ?_, fun h => ?_⟩ <;> first | rfl | exact absurd h (by decide) | (exfalso; simp only [Int32.lt_iff_toInt_lt, Int32.le_iff_toInt_le, ← Int32.toInt_inj, Int32.reduceToInt, (show (-1 : Int32).toInt = -1 from rfl)] at c1 c11 c3 c5 c7 c9 <;> omega)) dX10_run_38
set_option maxHeartbeats 4000000 in
set_option maxRecDepth 100000 in
theorem c_X10_mark (l : Launch) (G : hG) (Y : hW) (o : Nat) (hW : h_On Y o (wldE tF o)) : hMi l yX10_mark cX10_mark 1 (some .int) 3 102 G Y [.ref (o)] (fun H => h_gi G H 10 o 7 = 0) (fun H r H1 => r = 1) := by
  refine h_ofi (by decide +kernel) (Nat.le_of_ble_eq_true rfl) ?_
  intro p e s m args below meth c H0 ls Q hx hb hts hown hml hK hT0 hpr hS0 hl hret
  have hl : lv_has ls 1 [(0, .ref (o))] := hl
  refine lv_aload_n hx hb dX10_mark_0 rfl (lv_at hl 0 rfl) ?_
  refine h_geti (C := RX10) (T := TX10) (N := 9) hx hb hts inX10 hown hK hT0 (on_w0 hW) rfl 7 rfl wF_X10_52 rfl dX10_mark_1 (fun p1 => ?_)
  refine h_top (v := 0) hpr ?_
  refine lv_if_lt (tgt := 15) hx hb dX10_mark_4 (by decide) (fun h => absurd h (by decide)) (fun _ => ?_)
  refine lv_aload_n hx hb dX10_mark_7 rfl (lv_at hl 0 rfl) ?_
  refine h_geti (C := RX10) (T := TX10) (N := 9) hx hb hts inX10 hown hK hT0 (on_w0 hW) rfl 7 rfl wF_X10_52 rfl dX10_mark_8 (fun p3 => ?_)
  refine h_top (v := 0) hpr ?_
  refine lv_iconst (v := 4) hx hb dX10_mark_11 (by decide) ?_
  refine lv_icmp_lt (tgt := 21) hx hb dX10_mark_12 (by decide) (fun _ => ?_) (fun h => absurd (by decide) h)
  refine lv_aload_n hx hb dX10_mark_21 rfl (lv_at hl 0 rfl) ?_
  refine h_getr (C := RX10) (T := TX10) (N := 9) hx hb hts inX10 hown hK hT0 (on_w0 hW) rfl 5 rfl wF_X10_44 rfl dX10_mark_22 ?_
  refine lv_aload_n hx hb dX10_mark_25 rfl (lv_at hl 0 rfl) ?_
  refine h_geti (C := RX10) (T := TX10) (N := 9) hx hb hts inX10 hown hK hT0 (on_w0 hW) rfl 7 rfl wF_X10_52 rfl dX10_mark_26 (fun p5 => ?_)
  refine h_top (v := 0) hpr ?_
  refine h_aal hx hb hK hT0 (by decide) ((on_wm hW).o rfl) (h_inc (by decide)) 0 (by decide) dX10_mark_29 ?_
  refine lv_aload_n hx hb dX10_mark_30 rfl (lv_at hl 0 rfl) ?_
  refine h_getr (C := RX10) (T := TX10) (N := 9) hx hb hts inX10 hown hK hT0 (on_w0 hW) rfl 1 rfl wF_X10_19 rfl dX10_mark_31 ?_
  refine h_callVv (T := TX5) (rest := []) (As := [.ref (o + 3)]) hx hb hml hown hts hK hT0 (fun _ h => h) hS0 (c_X5_copyFrom l G Y (o + 61 + 27 * 0) (o + 3) (on_kr hW (j := 0) (by decide)) (on_wr hW)) trivial wd_X5_copyFrom wV_X5_copyFrom wL_X10_82 (on_rg (on_kr hW (j := 0) (by decide))) rfl rfl hl.1 rfl (Nat.le_of_ble_eq_true rfl) dX10_mark_34 ⟨Nat.le_of_ble_eq_true rfl, Nat.le_of_ble_eq_true rfl⟩ ⟨Nat.zero_le _, Nat.zero_le _⟩ (fun H1 locs hp1 hT1 hS1 hk1 => ?_)
  refine lv_aload_n hx hb dX10_mark_37 rfl (lv_at hl 0 rfl) ?_
  refine h_getr (C := RX10) (T := TX10) (N := 9) hx hb hts inX10 hown hK hT1 (on_w0 hW) rfl 6 rfl wF_X10_48 rfl dX10_mark_38 ?_
  refine lv_aload_n hx hb dX10_mark_41 rfl (lv_at hl 0 rfl) ?_
  refine h_geti (C := RX10) (T := TX10) (N := 9) hx hb hts inX10 hown hK hT1 (on_w0 hW) rfl 7 rfl wF_X10_52 rfl dX10_mark_42 (fun p6 => ?_)
  refine h_top (v := 0) ((h_gi_same (hp1 (o) (by omega))).trans hpr) ?_
  refine h_aal hx hb hK hT1 (by decide) ((on_wm hW).at 1 rfl) (h_inc (by decide)) 0 (by decide) dX10_mark_45 ?_
  refine lv_aload_n hx hb dX10_mark_46 rfl (lv_at hl 0 rfl) ?_
  refine h_getr (C := RX10) (T := TX10) (N := 9) hx hb hts inX10 hown hK hT1 (on_w0 hW) rfl 0 rfl wF_X10_10 rfl dX10_mark_47 ?_
  refine h_callVv (T := TX8) (rest := []) (As := [.ref (o + 1)]) hx hb hml hown hts hK hT1 (fun _ h => h) hS1 (c_X8_copyFrom l G Y (o + 61 + 27 * 0 + 25) (o + 1) (on_kt hW (j := 0) (by decide)) (on_wt hW)) trivial wd_X8_copyFrom wV_X8_copyFrom wL_X10_293 ((on_kt hW (j := 0) (by decide)).o rfl) rfl rfl hl.1 rfl (Nat.le_of_ble_eq_true rfl) dX10_mark_50 ⟨Nat.le_of_ble_eq_true rfl, Nat.le_of_ble_eq_true rfl⟩ ⟨Nat.zero_le _, Nat.zero_le _⟩ (fun H2 locs hp2 hT2 hS2 hk2 => ?_)
  refine lv_aload_n hx hb dX10_mark_53 rfl (lv_at hl 0 rfl) ?_
  refine lv_dup hx hb dX10_mark_54 rfl ?_
  refine h_geti (C := RX10) (T := TX10) (N := 9) hx hb hts inX10 hown hK hT2 (on_w0 hW) rfl 7 rfl wF_X10_52 rfl dX10_mark_55 (fun p7 => ?_)
  refine h_top (v := 0) ((h_gi_same (hp2 (o) (by omega))).trans ((h_gi_same (hp1 (o) (by omega))).trans hpr)) ?_
  refine lv_iconst (v := 1) hx hb dX10_mark_58 (by decide) ?_
  refine lv_iadd hx hb dX10_mark_59 ?_
  refine h_top (v := 1) (by decide) ?_
  refine h_puti (C := RX10) (T := TX10) (N := 9) hx hb hts inX10 tyX10 tyX10_ok nmX10 hown hK hT2 (fun _ h => h) hS2 (on_w0 hW) rfl 7 rfl wF_X10_52 rfl rfl trivial rfl rfl dX10_mark_60 (fun H3 locs hT3 hS3 hu3 => ?_)
  refine lv_aload_n hx hb dX10_mark_63 rfl (lv_at hl 0 rfl) ?_
  refine lv_aload_n hx hb dX10_mark_64 rfl (lv_at hl 0 rfl) ?_
  refine h_geti (C := RX10) (T := TX10) (N := 9) hx hb hts inX10 hown hK hT3 (on_w0 hW) rfl 7 rfl wF_X10_52 rfl dX10_mark_65 (fun p8 => ?_)
  refine h_top (v := 1) (h_pu hu3) ?_
  refine h_callVi (T := TX10) (rest := []) (As := [.int 1]) hx hb hml hown hts hK hT3 (fun _ h => h) hS3 (c_X10_give l G Y (o) hW 1) trivial wd_X10_give wV_X10_give wL_X10_95 (on_w0 hW) rfl rfl hl.1 rfl (Nat.le_of_ble_eq_true rfl) dX10_mark_68 ⟨Nat.le_of_ble_eq_true rfl, Nat.le_of_ble_eq_true rfl⟩ ⟨Nat.zero_le _, Nat.zero_le _⟩ (fun r9 H4 locs hp4 hT4 hS4 hk4 => ?_)
  have hp4 : r9 = 1 := hp4
  subst hp4
  exact hret _ _ _ _ _ hT4 hS4 rfl dX10_mark_71
end
section
def tA : hTb := (fun ci k => if ci = 7 ∧ k = 5 then (fun _ => True) else tF.1 ci k, fun r => if r = 1100 then (fun _ _ => True) else tF.2 r)
set_option maxHeartbeats 4000000 in
set_option maxRecDepth 100000 in
theorem cA_hasAddress (l : Launch) (G : hG) (Y : hW) (o : Nat) (hY : h_On Y o (stE tA o)) (u1 : Int32) : hMi l yX7_hasAddress cX7_hasAddress 3 (some .boolean) 0 0 G Y [.ref (o), .int u1] (fun H => h_gi G H 7 o 5 = 0) (fun H r H1 => r = 0 ∧ H1 = H) := by
  refine h_ofz (by decide +kernel) (Nat.le_of_ble_eq_true rfl) ?_
  intro p e s m args below meth c H0 ls Q hx hb hts hown hml hK hT0 hpr hS0 hl hret
  have hl : lv_has ls 3 [(0, .ref (o)), (1, .int u1)] := hl
  refine lv_iconst (v := 0) hx hb dX7_hasAddress_0 (by decide) ?_
  refine lv_istore_n (lv' := [(2, .int 0), (0, .ref (o)), (1, .int u1)]) hx hb dX7_hasAddress_1 rfl hl (by decide) rfl (fun ls hl => ?_)
  refine lv_iload_n hx hb dX7_hasAddress_2 rfl (lv_at hl 0 rfl) ?_
  refine lv_aload_n hx hb dX7_hasAddress_3 rfl (lv_at hl 1 rfl) ?_
  refine h_geti (C := RX7) (T := TX7) (N := 9) hx hb hts inX7 hown hK hT0 (hY.o rfl) rfl 5 rfl wF_X7_28 rfl dX7_hasAddress_4 (fun p1 => ?_)
  refine h_top (v := 0) hpr ?_
  refine lv_icmp_ge (tgt := 36) hx hb dX7_hasAddress_7 (by decide) (fun _ => ?_) (fun h => absurd (by decide) h)
  refine lv_iconst (v := 0) hx hb dX7_hasAddress_36 (by decide) ?_
  exact hret _ _ _ _ _ hT0 hS0 ⟨by decide, rfl, rfl⟩ dX7_hasAddress_37
set_option maxHeartbeats 4000000 in
set_option maxRecDepth 100000 in
theorem cA_append (l : Launch) (G : hG) (Y : hW) (o : Nat) (hY : h_On Y o (stE tA o)) (u1 : Int32) : hMv l yX7_append cX7_append 2 none 0 0 G Y [.ref (o), .int u1] (fun H => h_gi G H 7 o 5 = 0) (fun H H1 => h_gi G H1 7 o 5 = 1) := by
  refine h_ofv (by decide +kernel) (Nat.le_of_ble_eq_true rfl) ?_
  intro p e s m args below meth c H0 ls Q hx hb hts hown hml hK hT0 hpr hS0 hl hret
  have hl : lv_has ls 2 [(0, .ref (o)), (1, .int u1)] := hl
  refine lv_aload_n hx hb dX7_append_0 rfl (lv_at hl 0 rfl) ?_
  refine h_geti (C := RX7) (T := TX7) (N := 9) hx hb hts inX7 hown hK hT0 (hY.o rfl) rfl 5 rfl wF_X7_28 rfl dX7_append_1 (fun p1 => ?_)
  refine h_top (v := 0) hpr ?_
  refine lv_if_lt (tgt := 16) hx hb dX7_append_4 (by decide) (fun h => absurd h (by decide)) (fun _ => ?_)
  refine lv_aload_n hx hb dX7_append_7 rfl (lv_at hl 0 rfl) ?_
  refine h_geti (C := RX7) (T := TX7) (N := 9) hx hb hts inX7 hown hK hT0 (hY.o rfl) rfl 5 rfl wF_X7_28 rfl dX7_append_8 (fun p3 => ?_)
  refine h_top (v := 0) hpr ?_
  refine lv_bipush (v := 8) hx hb dX7_append_11 (by decide) ?_
  refine lv_icmp_lt (tgt := 17) hx hb dX7_append_13 (by decide) (fun _ => ?_) (fun h => absurd (by decide) h)
  refine lv_aload_n hx hb dX7_append_17 rfl (lv_at hl 0 rfl) ?_
  refine h_getr (C := RX7) (T := TX7) (N := 9) hx hb hts inX7 hown hK hT0 (hY.o rfl) rfl 0 rfl wF_X7_9 rfl dX7_append_18 ?_
  refine lv_aload_n hx hb dX7_append_21 rfl (lv_at hl 0 rfl) ?_
  refine h_geti (C := RX7) (T := TX7) (N := 9) hx hb hts inX7 hown hK hT0 (hY.o rfl) rfl 5 rfl wF_X7_28 rfl dX7_append_22 (fun p5 => ?_)
  refine h_top (v := 0) hpr ?_
  refine lv_iload_n hx hb dX7_append_25 rfl (lv_at hl 1 rfl) ?_
  refine h_iast hx hb hK hT0 (fun _ h => h) hS0 (hY.at 1 rfl) (h_inc (by decide)) trivial dX7_append_26 (fun H1 locs hT1 hS1 hu1 => ?_)
  refine lv_aload_n hx hb dX7_append_27 rfl (lv_at hl 0 rfl) ?_
  refine h_getr (C := RX7) (T := TX7) (N := 9) hx hb hts inX7 hown hK hT1 (hY.o rfl) rfl 1 rfl wF_X7_15 rfl dX7_append_28 ?_
  refine lv_aload_n hx hb dX7_append_31 rfl (lv_at hl 0 rfl) ?_
  refine h_geti (C := RX7) (T := TX7) (N := 9) hx hb hts inX7 hown hK hT1 (hY.o rfl) rfl 5 rfl wF_X7_28 rfl dX7_append_32 (fun p6 => ?_)
  refine h_top (v := 0) ((h_gi_same (hu1.2.1 _ (by omega))).trans hpr) ?_
  refine lv_iconst (v := 1) hx hb dX7_append_35 (by decide) ?_
  refine h_zast hx hb hK hT1 (fun _ h => h) hS1 (hY.at 2 rfl) (h_inc (by decide)) (by decide) trivial dX7_append_36 (fun H2 locs hT2 hS2 hu2 => ?_)
  refine lv_aload_n hx hb dX7_append_37 rfl (lv_at hl 0 rfl) ?_
  refine h_getr (C := RX7) (T := TX7) (N := 9) hx hb hts inX7 hown hK hT2 (hY.o rfl) rfl 2 rfl wF_X7_19 rfl dX7_append_38 ?_
  refine lv_aload_n hx hb dX7_append_41 rfl (lv_at hl 0 rfl) ?_
  refine h_geti (C := RX7) (T := TX7) (N := 9) hx hb hts inX7 hown hK hT2 (hY.o rfl) rfl 5 rfl wF_X7_28 rfl dX7_append_42 (fun p7 => ?_)
  refine h_top (v := 0) ((h_gi_same (hu2.2.1 _ (by omega))).trans ((h_gi_same (hu1.2.1 _ (by omega))).trans hpr)) ?_
  refine lv_iconst (v := (-1)) hx hb dX7_append_45 (by decide) ?_
  refine h_iast hx hb hK hT2 (fun _ h => h) hS2 (hY.at 3 rfl) (h_inc (by decide)) trivial dX7_append_46 (fun H3 locs hT3 hS3 hu3 => ?_)
  refine lv_aload_n hx hb dX7_append_47 rfl (lv_at hl 0 rfl) ?_
  refine h_getr (C := RX7) (T := TX7) (N := 9) hx hb hts inX7 hown hK hT3 (hY.o rfl) rfl 3 rfl wF_X7_22 rfl dX7_append_48 ?_
  refine lv_aload_n hx hb dX7_append_51 rfl (lv_at hl 0 rfl) ?_
  refine h_geti (C := RX7) (T := TX7) (N := 9) hx hb hts inX7 hown hK hT3 (hY.o rfl) rfl 5 rfl wF_X7_28 rfl dX7_append_52 (fun p8 => ?_)
  refine h_top (v := 0) ((h_gi_same (hu3.2.1 _ (by omega))).trans ((h_gi_same (hu2.2.1 _ (by omega))).trans ((h_gi_same (hu1.2.1 _ (by omega))).trans hpr))) ?_
  refine lv_iconst (v := 0) hx hb dX7_append_55 (by decide) ?_
  refine h_iast hx hb hK hT3 (fun _ h => h) hS3 (hY.at 4 rfl) (h_inc (by decide)) trivial dX7_append_56 (fun H4 locs hT4 hS4 hu4 => ?_)
  refine lv_aload_n hx hb dX7_append_57 rfl (lv_at hl 0 rfl) ?_
  refine h_getr (C := RX7) (T := TX7) (N := 9) hx hb hts inX7 hown hK hT4 (hY.o rfl) rfl 4 rfl wF_X7_25 rfl dX7_append_58 ?_
  refine lv_aload_n hx hb dX7_append_61 rfl (lv_at hl 0 rfl) ?_
  refine h_geti (C := RX7) (T := TX7) (N := 9) hx hb hts inX7 hown hK hT4 (hY.o rfl) rfl 5 rfl wF_X7_28 rfl dX7_append_62 (fun p9 => ?_)
  refine h_top (v := 0) ((h_gi_same (hu4.2.1 _ (by omega))).trans ((h_gi_same (hu3.2.1 _ (by omega))).trans ((h_gi_same (hu2.2.1 _ (by omega))).trans ((h_gi_same (hu1.2.1 _ (by omega))).trans hpr)))) ?_
  refine lv_iconst (v := 0) hx hb dX7_append_65 (by decide) ?_
  refine h_iast hx hb hK hT4 (fun _ h => h) hS4 (hY.at 5 rfl) (h_inc (by decide)) trivial dX7_append_66 (fun H5 locs hT5 hS5 hu5 => ?_)
  refine lv_aload_n hx hb dX7_append_67 rfl (lv_at hl 0 rfl) ?_
  refine lv_dup hx hb dX7_append_68 rfl ?_
  refine h_geti (C := RX7) (T := TX7) (N := 9) hx hb hts inX7 hown hK hT5 (hY.o rfl) rfl 5 rfl wF_X7_28 rfl dX7_append_69 (fun p10 => ?_)
  refine h_top (v := 0) ((h_gi_same (hu5.2.1 _ (by omega))).trans ((h_gi_same (hu4.2.1 _ (by omega))).trans ((h_gi_same (hu3.2.1 _ (by omega))).trans ((h_gi_same (hu2.2.1 _ (by omega))).trans ((h_gi_same (hu1.2.1 _ (by omega))).trans hpr))))) ?_
  refine lv_iconst (v := 1) hx hb dX7_append_72 (by decide) ?_
  refine lv_iadd hx hb dX7_append_73 ?_
  refine h_top (v := 1) (by decide) ?_
  refine h_puti (C := RX7) (T := TX7) (N := 9) hx hb hts inX7 tyX7 tyX7_ok nmX7 hown hK hT5 (fun _ h => h) hS5 (hY.o rfl) rfl 5 rfl wF_X7_28 rfl rfl trivial rfl rfl dX7_append_74 (fun H6 locs hT6 hS6 hu6 => ?_)
  exact hret _ _ _ _ hT6 hS6 (h_pu hu6) dX7_append_77
set_option maxHeartbeats 4000000 in
set_option maxRecDepth 100000 in
theorem cA_restart (l : Launch) (G : hG) (Y : hW) (o : Nat) (hY : h_On Y o (siE tA o)) : hMv l yX6_restart cX6_restart 1 none 0 0 G Y [.ref (o)] (fun H => True) (fun H H1 => ∀ q : Nat, q ≠ o → H1[q]? = H[q]?) := by
  refine h_ofv (by decide +kernel) (Nat.le_of_ble_eq_true rfl) ?_
  intro p e s m args below meth c H0 ls Q hx hb hts hown hml hK hT0 hpr hS0 hl hret
  have hl : lv_has ls 1 [(0, .ref (o))] := hl
  refine lv_aload_n hx hb dX6_restart_0 rfl (lv_at hl 0 rfl) ?_
  refine lv_iconst (v := 0) hx hb dX6_restart_1 (by decide) ?_
  refine h_puti (C := RX6) (T := TX6) (N := 4) hx hb hts inX6 tyX6 tyX6_ok nmX6 hown hK hT0 (fun _ h => h) hS0 (hY.o rfl) rfl 0 rfl wF_X6_9 rfl rfl trivial rfl rfl dX6_restart_2 (fun H1 locs hT1 hS1 hu1 => ?_)
  refine lv_aload_n hx hb dX6_restart_5 rfl (lv_at hl 0 rfl) ?_
  refine lv_iconst (v := 0) hx hb dX6_restart_6 (by decide) ?_
  refine h_puti (C := RX6) (T := TX6) (N := 4) hx hb hts inX6 tyX6 tyX6_ok nmX6 hown hK hT1 (fun _ h => h) hS1 (hY.o rfl) rfl 1 rfl wF_X6_15 rfl rfl rfl rfl rfl dX6_restart_7 (fun H2 locs hT2 hS2 hu2 => ?_)
  refine lv_aload_n hx hb dX6_restart_10 rfl (lv_at hl 0 rfl) ?_
  refine lv_iconst (v := (-1)) hx hb dX6_restart_11 (by decide) ?_
  refine h_puti (C := RX6) (T := TX6) (N := 4) hx hb hts inX6 tyX6 tyX6_ok nmX6 hown hK hT2 (fun _ h => h) hS2 (hY.o rfl) rfl 2 rfl wF_X6_18 rfl rfl rfl rfl rfl dX6_restart_12 (fun H3 locs hT3 hS3 hu3 => ?_)
  refine lv_aload_n hx hb dX6_restart_15 rfl (lv_at hl 0 rfl) ?_
  refine lv_iconst (v := (-1)) hx hb dX6_restart_16 (by decide) ?_
  refine h_puti (C := RX6) (T := TX6) (N := 4) hx hb hts inX6 tyX6 tyX6_ok nmX6 hown hK hT3 (fun _ h => h) hS3 (hY.o rfl) rfl 3 rfl wF_X6_21 rfl rfl rfl rfl rfl dX6_restart_17 (fun H4 locs hT4 hS4 hu4 => ?_)
  exact hret _ _ _ _ hT4 hS4 (fun q hq => ((hu4.2.1 q hq).trans ((hu3.2.1 q hq).trans ((hu2.2.1 q hq).trans (hu1.2.1 q hq))))) dX6_restart_20
set_option maxHeartbeats 4000000 in
set_option maxRecDepth 100000 in
theorem cA_startSilence (l : Launch) (G : hG) (Y : hW) (o : Nat) (hY : h_On Y o (ringE tA o)) : hMv l yX5_startSilence cX5_startSilence 1 none 1 20 G Y [.ref (o)] (fun H => True) (fun H H1 => ∀ q : Nat, q ≠ o + 18 → H1[q]? = H[q]?) := by
  refine h_ofv (by decide +kernel) (Nat.le_of_ble_eq_true rfl) ?_
  intro p e s m args below meth c H0 ls Q hx hb hts hown hml hK hT0 hpr hS0 hl hret
  have hl : lv_has ls 1 [(0, .ref (o))] := hl
  refine lv_aload_n hx hb dX5_startSilence_0 rfl (lv_at hl 0 rfl) ?_
  refine h_getr (C := RX5) (T := TX5) (N := 11) hx hb hts inX5 hown hK hT0 (on_rg hY) rfl 3 rfl wF_X5_35 rfl dX5_startSilence_1 ?_
  refine h_getc (v := 0) (C := RX9) (T := TX9) (N := 11) hx hb hts inX9 hown hK hT0 ((on_wa hY).o rfl) rfl 0 rfl wF_X5_142 rfl (fun _ h => h) dX5_startSilence_4 ?_
  refine lv_if_ne (tgt := 17) hx hb dX5_startSilence_7 (by decide) (fun h => absurd (by decide) h) (fun _ => ?_)
  refine lv_aload_n hx hb dX5_startSilence_10 rfl (lv_at hl 0 rfl) ?_
  refine h_getr (C := RX5) (T := TX5) (N := 11) hx hb hts inX5 hown hK hT0 (on_rg hY) rfl 4 rfl wF_X5_42 rfl dX5_startSilence_11 ?_
  refine h_callVv (T := TX6) (rest := []) (As := []) hx hb hml hown hts hK hT0 (fun _ h => h) hS0 (cA_restart l G Y (o + 18) (on_si hY)) trivial wd_X6_restart wV_X6_restart wL_X5_76 ((on_si hY).o rfl) rfl rfl hl.1 rfl (Nat.le_of_ble_eq_true rfl) dX5_startSilence_14 ⟨Nat.le_of_ble_eq_true rfl, Nat.le_of_ble_eq_true rfl⟩ ⟨Nat.zero_le _, Nat.zero_le _⟩ (fun H1 locs hp1 hT1 hS1 hk1 => ?_)
  exact hret _ _ _ _ hT1 hS1 (fun q hq => (hp1 q hq)) dX5_startSilence_17
set_option maxHeartbeats 4000000 in
set_option maxRecDepth 100000 in
theorem cA_give (l : Launch) (G : hG) (Y : hW) (o : Nat) (hW : h_On Y o (wldE tA o)) (u1 : Int32) : hMi l yX10_give cX10_give 2 (some .int) 0 0 G Y [.ref (o), .int u1] (fun H => True) (fun H r H1 => r = u1) := by
  refine h_ofi (by decide +kernel) (Nat.le_of_ble_eq_true rfl) ?_
  intro p e s m args below meth c H0 ls Q hx hb hts hown hml hK hT0 hpr hS0 hl hret
  have hl : lv_has ls 2 [(0, .ref (o)), (1, .int u1)] := hl
  refine lv_aload_n hx hb dX10_give_0 rfl (lv_at hl 0 rfl) ?_
  refine lv_iconst (v := 0) hx hb dX10_give_1 (by decide) ?_
  refine h_puti (C := RX10) (T := TX10) (N := 9) hx hb hts inX10 tyX10 tyX10_ok nmX10 hown hK hT0 (fun _ h => h) hS0 (on_w0 hW) rfl 8 rfl wF_X10_56 rfl rfl trivial rfl rfl dX10_give_2 (fun H1 locs hT1 hS1 hu1 => ?_)
  refine lv_iload_n hx hb dX10_give_5 rfl (lv_at hl 1 rfl) ?_
  exact hret _ _ _ _ _ hT1 hS1 rfl dX10_give_6
set_option maxHeartbeats 4000000 in
set_option maxRecDepth 100000 in
theorem cA_fail (l : Launch) (G : hG) (Y : hW) (o : Nat) (hW : h_On Y o (wldE tA o)) (u1 : Int32) : hMi l yX10_fail cX10_fail 2 (some .int) 0 0 G Y [.ref (o), .int u1] (fun H => True) (fun H r H1 => r = -1) := by
  refine h_ofi (by decide +kernel) (Nat.le_of_ble_eq_true rfl) ?_
  intro p e s m args below meth c H0 ls Q hx hb hts hown hml hK hT0 hpr hS0 hl hret
  have hl : lv_has ls 2 [(0, .ref (o)), (1, .int u1)] := hl
  refine lv_aload_n hx hb dX10_fail_0 rfl (lv_at hl 0 rfl) ?_
  refine lv_iload_n hx hb dX10_fail_1 rfl (lv_at hl 1 rfl) ?_
  refine h_puti (C := RX10) (T := TX10) (N := 9) hx hb hts inX10 tyX10 tyX10_ok nmX10 hown hK hT0 (fun _ h => h) hS0 (on_w0 hW) rfl 8 rfl wF_X10_56 rfl rfl trivial rfl rfl dX10_fail_2 (fun H1 locs hT1 hS1 hu1 => ?_)
  refine lv_iconst (v := (-1)) hx hb dX10_fail_5 (by decide) ?_
  exact hret _ _ _ _ _ hT1 hS1 rfl dX10_fail_6
set_option maxHeartbeats 4000000 in
set_option maxRecDepth 100000 in
theorem cA_add (l : Launch) (G : hG) (Y : hW) (o : Nat) (hW : h_On Y o (wldE tA o)) (u1 : Int32) : hMi l yX10_add cX10_add 2 (some .int) 2 40 G Y [.ref (o), .int u1] (fun H => h_gi G H 7 (o + 3 + 1) 5 = 0) (fun H r H1 => ((0 ≤ u1.toInt ∧ u1.toInt ≤ 99) → r = 0) ∧ (¬ (0 ≤ u1.toInt ∧ u1.toInt ≤ 99) → r = -1)) := by
  refine h_ofi (by decide +kernel) (Nat.le_of_ble_eq_true rfl) ?_
  intro p e s m args below meth c H0 ls Q hx hb hts hown hml hK hT0 hpr hS0 hl hret
  have hl : lv_has ls 2 [(0, .ref (o)), (1, .int u1)] := hl
  refine lv_iload_n hx hb dX10_add_0 rfl (lv_at hl 1 rfl) ?_
  refine lv_if_lt (tgt := 10) hx hb dX10_add_1 (by decide) (fun c1 => ?_) (fun c1 => ?_)
  · skip
    refine lv_aload_n hx hb dX10_add_10 rfl (lv_at hl 0 rfl) ?_
    refine lv_iconst (v := 1) hx hb dX10_add_11 (by decide) ?_
    refine h_callVi (T := TX10) (rest := []) (As := [.int 1]) hx hb hml hown hts hK hT0 (fun _ h => h) hS0 (cA_fail l G Y (o) hW 1) trivial wd_X10_fail wV_X10_fail wL_X10_66 (on_w0 hW) rfl rfl hl.1 rfl (Nat.le_of_ble_eq_true rfl) dX10_add_12 ⟨Nat.le_of_ble_eq_true rfl, Nat.le_of_ble_eq_true rfl⟩ ⟨Nat.zero_le _, Nat.zero_le _⟩ (fun r2 H1 locs hp1 hT1 hS1 hk1 => ?_)
    have hp1 : r2 = (-1) := hp1
    subst hp1
    exact hret _ _ _ _ _ hT1 hS1 (by refine ⟨fun h => ?_, fun h => ?_⟩ <;> first | rfl | exact absurd h (by decide) | (exfalso; simp only [Int32.lt_iff_toInt_lt, Int32.le_iff_toInt_le, ← Int32.toInt_inj, Int32.reduceToInt, (show (-1 : Int32).toInt = -1 from rfl)] at c1 <;> omega)) dX10_add_15
  · skip
    refine lv_iload_n hx hb dX10_add_4 rfl (lv_at hl 1 rfl) ?_
    refine lv_bipush (v := 100) hx hb dX10_add_5 (by decide) ?_
    refine lv_icmp_lt (tgt := 16) hx hb dX10_add_7 (by decide) (fun c3 => ?_) (fun c3 => ?_)
    · skip
      refine lv_aload_n hx hb dX10_add_16 rfl (lv_at hl 0 rfl) ?_
      refine h_getr (C := RX10) (T := TX10) (N := 9) hx hb hts inX10 hown hK hT0 (on_w0 hW) rfl 1 rfl wF_X10_19 rfl dX10_add_17 ?_
      refine h_getr (C := RX5) (T := TX5) (N := 11) hx hb hts inX5 hown hK hT0 (on_rg (on_wr hW)) rfl 0 rfl wF_X10_86 rfl dX10_add_20 ?_
      refine h_geti (C := RX7) (T := TX7) (N := 9) hx hb hts inX7 hown hK hT0 ((on_st (on_wr hW)).o rfl) rfl 5 rfl wF_X10_90 rfl dX10_add_23 (fun p4 => ?_)
      refine h_top (v := 0) hpr ?_
      refine lv_bipush (v := 8) hx hb dX10_add_26 (by decide) ?_
      refine lv_icmp_lt (tgt := 37) hx hb dX10_add_28 (by decide) (fun _ => ?_) (fun h => absurd (by decide) h)
      refine lv_aload_n hx hb dX10_add_37 rfl (lv_at hl 0 rfl) ?_
      refine h_getr (C := RX10) (T := TX10) (N := 9) hx hb hts inX10 hown hK hT0 (on_w0 hW) rfl 1 rfl wF_X10_19 rfl dX10_add_38 ?_
      refine h_getr (C := RX5) (T := TX5) (N := 11) hx hb hts inX5 hown hK hT0 (on_rg (on_wr hW)) rfl 0 rfl wF_X10_86 rfl dX10_add_41 ?_
      refine lv_iload_n hx hb dX10_add_44 rfl (lv_at hl 1 rfl) ?_
      refine h_callVi (T := TX7) (rest := []) (As := [.int u1]) hx hb hml hown hts hK hT0 (fun _ h => h) hS0 (cA_hasAddress l G Y (o + 3 + 1) (on_st (on_wr hW)) u1) hpr wd_X7_hasAddress wV_X7_hasAddress wL_X10_235 ((on_st (on_wr hW)).o rfl) rfl rfl hl.1 rfl (Nat.le_of_ble_eq_true rfl) dX10_add_45 ⟨Nat.le_of_ble_eq_true rfl, Nat.le_of_ble_eq_true rfl⟩ ⟨Nat.zero_le _, Nat.zero_le _⟩ (fun r6 H2 locs hp2 hT2 hS2 hk2 => ?_)
      obtain ⟨hp2, he⟩ := hp2
      have he := he.symm
      subst he
      have hp2 : r6 = 0 := hp2
      subst hp2
      refine lv_if_eq (tgt := 58) hx hb dX10_add_48 (by decide) (fun _ => ?_) (fun h => absurd (by decide) h)
      refine lv_aload_n hx hb dX10_add_58 rfl (lv_at hl 0 rfl) ?_
      refine h_getr (C := RX10) (T := TX10) (N := 9) hx hb hts inX10 hown hK hT0 (on_w0 hW) rfl 1 rfl wF_X10_19 rfl dX10_add_59 ?_
      refine h_getr (C := RX5) (T := TX5) (N := 11) hx hb hts inX5 hown hK hT0 (on_rg (on_wr hW)) rfl 0 rfl wF_X10_86 rfl dX10_add_62 ?_
      refine lv_iload_n hx hb dX10_add_65 rfl (lv_at hl 1 rfl) ?_
      refine h_callVv (T := TX7) (rest := []) (As := [.int u1]) hx hb hml hown hts hK hT0 (fun _ h => h) hS2 (cA_append l G Y (o + 3 + 1) (on_st (on_wr hW)) u1) hpr wd_X7_append wV_X7_append wL_X10_238 ((on_st (on_wr hW)).o rfl) rfl rfl hl.1 rfl (Nat.le_of_ble_eq_true rfl) dX10_add_66 ⟨Nat.le_of_ble_eq_true rfl, Nat.le_of_ble_eq_true rfl⟩ ⟨Nat.zero_le _, Nat.zero_le _⟩ (fun H3 locs hp3 hT3 hS3 hk3 => ?_)
      refine lv_aload_n hx hb dX10_add_69 rfl (lv_at hl 0 rfl) ?_
      refine h_getr (C := RX10) (T := TX10) (N := 9) hx hb hts inX10 hown hK hT3 (on_w0 hW) rfl 1 rfl wF_X10_19 rfl dX10_add_70 ?_
      refine h_callVv (T := TX5) (rest := []) (As := []) hx hb hml hown hts hK hT3 (fun _ h => h) hS3 (cA_startSilence l G Y (o + 3) (on_wr hW)) trivial wd_X5_startSilence wV_X5_startSilence wL_X10_239 (on_rg (on_wr hW)) rfl rfl hl.1 rfl (Nat.le_of_ble_eq_true rfl) dX10_add_73 ⟨Nat.le_of_ble_eq_true rfl, Nat.le_of_ble_eq_true rfl⟩ ⟨Nat.zero_le _, Nat.zero_le _⟩ (fun H4 locs hp4 hT4 hS4 hk4 => ?_)
      refine lv_aload_n hx hb dX10_add_76 rfl (lv_at hl 0 rfl) ?_
      refine lv_aload_n hx hb dX10_add_77 rfl (lv_at hl 0 rfl) ?_
      refine h_getr (C := RX10) (T := TX10) (N := 9) hx hb hts inX10 hown hK hT4 (on_w0 hW) rfl 1 rfl wF_X10_19 rfl dX10_add_78 ?_
      refine h_getr (C := RX5) (T := TX5) (N := 11) hx hb hts inX5 hown hK hT4 (on_rg (on_wr hW)) rfl 0 rfl wF_X10_86 rfl dX10_add_81 ?_
      refine h_geti (C := RX7) (T := TX7) (N := 9) hx hb hts inX7 hown hK hT4 ((on_st (on_wr hW)).o rfl) rfl 5 rfl wF_X10_90 rfl dX10_add_84 (fun p8 => ?_)
      refine h_top (v := 1) ((h_gi_same (hp4 (o + 3 + 1) (by omega))).trans hp3) ?_
      refine lv_iconst (v := 1) hx hb dX10_add_87 (by decide) ?_
      refine lv_isub hx hb dX10_add_88 ?_
      refine h_top (v := 0) (by decide) ?_
      refine h_callVi (T := TX10) (rest := []) (As := [.int 0]) hx hb hml hown hts hK hT4 (fun _ h => h) hS4 (cA_give l G Y (o) hW 0) trivial wd_X10_give wV_X10_give wL_X10_95 (on_w0 hW) rfl rfl hl.1 rfl (Nat.le_of_ble_eq_true rfl) dX10_add_89 ⟨Nat.le_of_ble_eq_true rfl, Nat.le_of_ble_eq_true rfl⟩ ⟨Nat.zero_le _, Nat.zero_le _⟩ (fun r9 H5 locs hp5 hT5 hS5 hk5 => ?_)
      have hp5 : r9 = 0 := hp5
      subst hp5
      exact hret _ _ _ _ _ hT5 hS5 (by refine ⟨fun h => ?_, fun h => ?_⟩ <;> first | rfl | exact absurd h (by decide) | (exfalso; simp only [Int32.lt_iff_toInt_lt, Int32.le_iff_toInt_le, ← Int32.toInt_inj, Int32.reduceToInt, (show (-1 : Int32).toInt = -1 from rfl)] at c1 c3 <;> omega)) dX10_add_92
    · skip
      refine lv_aload_n hx hb dX10_add_10 rfl (lv_at hl 0 rfl) ?_
      refine lv_iconst (v := 1) hx hb dX10_add_11 (by decide) ?_
      refine h_callVi (T := TX10) (rest := []) (As := [.int 1]) hx hb hml hown hts hK hT0 (fun _ h => h) hS0 (cA_fail l G Y (o) hW 1) trivial wd_X10_fail wV_X10_fail wL_X10_66 (on_w0 hW) rfl rfl hl.1 rfl (Nat.le_of_ble_eq_true rfl) dX10_add_12 ⟨Nat.le_of_ble_eq_true rfl, Nat.le_of_ble_eq_true rfl⟩ ⟨Nat.zero_le _, Nat.zero_le _⟩ (fun r10 H6 locs hp6 hT6 hS6 hk6 => ?_)
      have hp6 : r10 = (-1) := hp6
      subst hp6
      exact hret _ _ _ _ _ hT6 hS6 (by refine ⟨fun h => ?_, fun h => ?_⟩ <;> first | rfl | exact absurd h (by decide) | (exfalso; simp only [Int32.lt_iff_toInt_lt, Int32.le_iff_toInt_le, ← Int32.toInt_inj, Int32.reduceToInt, (show (-1 : Int32).toInt = -1 from rfl)] at c1 c3 <;> omega)) dX10_add_15
end
