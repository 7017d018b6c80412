-- ===== PART A: goes FIRST, ahead of the names: the tables' words, and 'selects' of the private methods out of them =====
/-- a private method of a class that the tables say can be made, by its rows of tables_1 -/
def lw_okq (q : MethodName × Nat) : Prop := (q.1.cls ≠ "java/lang/invoke/MethodHandle" ∧ q.1.cls ≠ "java/lang/invoke/VarHandle") ∧ Cond.instantiable q.1.cls q.2 ∈ tables_1 ∧ Cond.privateMethod q.1 ∈ tables_1 ∧ Cond.instanceMethod q.1 ∈ tables_1
theorem lw_p0 : lw_okq (⟨"WorldMake", "beginAnew", "()V"⟩, 17) := ⟨⟨by decide +kernel, by decide +kernel⟩, List.mem_of_getElem? (i := 17) (by decide +kernel), List.mem_of_getElem? (i := 369) (by decide +kernel), List.mem_of_getElem? (i := 370) (by decide +kernel)⟩
theorem lw_p1 : lw_okq (⟨"WorldMake$Values", "emptyCell", "(I)J"⟩, 10) := ⟨⟨by decide +kernel, by decide +kernel⟩, List.mem_of_getElem? (i := 88) (by decide +kernel), List.mem_of_getElem? (i := 466) (by decide +kernel), List.mem_of_getElem? (i := 467) (by decide +kernel)⟩
theorem lw_p2 : lw_okq (⟨"WorldMake", "faulted", "(I)I"⟩, 17) := ⟨⟨by decide +kernel, by decide +kernel⟩, List.mem_of_getElem? (i := 17) (by decide +kernel), List.mem_of_getElem? (i := 493) (by decide +kernel), List.mem_of_getElem? (i := 494) (by decide +kernel)⟩
theorem lw_p3 : lw_okq (⟨"WorldMake$Rooms", "write", "(IIIII)V"⟩, 7) := ⟨⟨by decide +kernel, by decide +kernel⟩, List.mem_of_getElem? (i := 294) (by decide +kernel), List.mem_of_getElem? (i := 521) (by decide +kernel), List.mem_of_getElem? (i := 522) (by decide +kernel)⟩
theorem lw_p4 : lw_okq (⟨"WorldMake$Things", "isCarrier", "(I)Z"⟩, 8) := ⟨⟨by decide +kernel, by decide +kernel⟩, List.mem_of_getElem? (i := 41) (by decide +kernel), List.mem_of_getElem? (i := 547) (by decide +kernel), List.mem_of_getElem? (i := 548) (by decide +kernel)⟩
theorem lw_p5 : lw_okq (⟨"WorldMake$Places", "isLaid", "(I)Z"⟩, 16) := ⟨⟨by decide +kernel, by decide +kernel⟩, List.mem_of_getElem? (i := 164) (by decide +kernel), List.mem_of_getElem? (i := 580) (by decide +kernel), List.mem_of_getElem? (i := 581) (by decide +kernel)⟩
theorem lw_p6 : lw_okq (⟨"WorldMake$Places", "partner", "(II)I"⟩, 16) := ⟨⟨by decide +kernel, by decide +kernel⟩, List.mem_of_getElem? (i := 164) (by decide +kernel), List.mem_of_getElem? (i := 603) (by decide +kernel), List.mem_of_getElem? (i := 604) (by decide +kernel)⟩
theorem lw_p7 : lw_okq (⟨"WorldMake", "saying", "(II)I"⟩, 17) := ⟨⟨by decide +kernel, by decide +kernel⟩, List.mem_of_getElem? (i := 17) (by decide +kernel), List.mem_of_getElem? (i := 688) (by decide +kernel), List.mem_of_getElem? (i := 689) (by decide +kernel)⟩
theorem lw_p8 : lw_okq (⟨"WorldMake$Places", "bulkAlone", "(I)I"⟩, 16) := ⟨⟨by decide +kernel, by decide +kernel⟩, List.mem_of_getElem? (i := 164) (by decide +kernel), List.mem_of_getElem? (i := 701) (by decide +kernel), List.mem_of_getElem? (i := 702) (by decide +kernel)⟩
theorem lw_p9 : lw_okq (⟨"WorldMake", "stride", "(I)I"⟩, 17) := ⟨⟨by decide +kernel, by decide +kernel⟩, List.mem_of_getElem? (i := 17) (by decide +kernel), List.mem_of_getElem? (i := 718) (by decide +kernel), List.mem_of_getElem? (i := 719) (by decide +kernel)⟩
theorem lw_p10 : lw_okq (⟨"WorldMake$Places", "earliestBarInto", "(IJ)I"⟩, 16) := ⟨⟨by decide +kernel, by decide +kernel⟩, List.mem_of_getElem? (i := 164) (by decide +kernel), List.mem_of_getElem? (i := 758) (by decide +kernel), List.mem_of_getElem? (i := 759) (by decide +kernel)⟩
theorem lw_p11 : lw_okq (⟨"WorldMake$Settler", "layFrom", "(II)Z"⟩, 4) := ⟨⟨by decide +kernel, by decide +kernel⟩, List.mem_of_getElem? (i := 220) (by decide +kernel), List.mem_of_getElem? (i := 825) (by decide +kernel), List.mem_of_getElem? (i := 826) (by decide +kernel)⟩
theorem lw_p12 : lw_okq (⟨"WorldMake$Settler", "lets", "(II)Z"⟩, 4) := ⟨⟨by decide +kernel, by decide +kernel⟩, List.mem_of_getElem? (i := 220) (by decide +kernel), List.mem_of_getElem? (i := 830) (by decide +kernel), List.mem_of_getElem? (i := 831) (by decide +kernel)⟩
theorem lw_p13 : lw_okq (⟨"WorldMake", "areRelatable", "(III)Z"⟩, 17) := ⟨⟨by decide +kernel, by decide +kernel⟩, List.mem_of_getElem? (i := 17) (by decide +kernel), List.mem_of_getElem? (i := 864) (by decide +kernel), List.mem_of_getElem? (i := 865) (by decide +kernel)⟩
theorem lw_p14 : lw_okq (⟨"WorldMake$Relations", "rowOf", "(II)J"⟩, 7) := ⟨⟨by decide +kernel, by decide +kernel⟩, List.mem_of_getElem? (i := 264) (by decide +kernel), List.mem_of_getElem? (i := 877) (by decide +kernel), List.mem_of_getElem? (i := 878) (by decide +kernel)⟩
theorem lw_p15 : lw_okq (⟨"WorldMake$Relations", "earliestDeny", "(III)I"⟩, 7) := ⟨⟨by decide +kernel, by decide +kernel⟩, List.mem_of_getElem? (i := 264) (by decide +kernel), List.mem_of_getElem? (i := 885) (by decide +kernel), List.mem_of_getElem? (i := 886) (by decide +kernel)⟩
def lw_privs_1 : List (MethodName × Nat) := [(⟨"WorldMake", "beginAnew", "()V"⟩, 17), (⟨"WorldMake$Values", "emptyCell", "(I)J"⟩, 10), (⟨"WorldMake", "faulted", "(I)I"⟩, 17), (⟨"WorldMake$Rooms", "write", "(IIIII)V"⟩, 7), (⟨"WorldMake$Things", "isCarrier", "(I)Z"⟩, 8), (⟨"WorldMake$Places", "isLaid", "(I)Z"⟩, 16), (⟨"WorldMake$Places", "partner", "(II)I"⟩, 16), (⟨"WorldMake", "saying", "(II)I"⟩, 17), (⟨"WorldMake$Places", "bulkAlone", "(I)I"⟩, 16), (⟨"WorldMake", "stride", "(I)I"⟩, 17), (⟨"WorldMake$Places", "earliestBarInto", "(IJ)I"⟩, 16), (⟨"WorldMake$Settler", "layFrom", "(II)Z"⟩, 4), (⟨"WorldMake$Settler", "lets", "(II)Z"⟩, 4), (⟨"WorldMake", "areRelatable", "(III)Z"⟩, 17), (⟨"WorldMake$Relations", "rowOf", "(II)J"⟩, 7), (⟨"WorldMake$Relations", "earliestDeny", "(III)I"⟩, 7)]
theorem lw_r1 : ∀ q ∈ lw_privs_1, lw_okq q := List.forall_mem_cons.mpr ⟨lw_p0, List.forall_mem_cons.mpr ⟨lw_p1, List.forall_mem_cons.mpr ⟨lw_p2, List.forall_mem_cons.mpr ⟨lw_p3, List.forall_mem_cons.mpr ⟨lw_p4, List.forall_mem_cons.mpr ⟨lw_p5, List.forall_mem_cons.mpr ⟨lw_p6, List.forall_mem_cons.mpr ⟨lw_p7, List.forall_mem_cons.mpr ⟨lw_p8, List.forall_mem_cons.mpr ⟨lw_p9, List.forall_mem_cons.mpr ⟨lw_p10, List.forall_mem_cons.mpr ⟨lw_p11, List.forall_mem_cons.mpr ⟨lw_p12, List.forall_mem_cons.mpr ⟨lw_p13, List.forall_mem_cons.mpr ⟨lw_p14, List.forall_mem_cons.mpr ⟨lw_p15, fun _ h => absurd h List.not_mem_nil⟩⟩⟩⟩⟩⟩⟩⟩⟩⟩⟩⟩⟩⟩⟩⟩
theorem lw_p16 : lw_okq (⟨"WorldMake$Relations", "earliestRelate", "(III)I"⟩, 7) := ⟨⟨by decide +kernel, by decide +kernel⟩, List.mem_of_getElem? (i := 264) (by decide +kernel), List.mem_of_getElem? (i := 889) (by decide +kernel), List.mem_of_getElem? (i := 890) (by decide +kernel)⟩
theorem lw_p17 : lw_okq (⟨"WorldMake$Relations", "togetherBy", "(III)I"⟩, 7) := ⟨⟨by decide +kernel, by decide +kernel⟩, List.mem_of_getElem? (i := 264) (by decide +kernel), List.mem_of_getElem? (i := 909) (by decide +kernel), List.mem_of_getElem? (i := 910) (by decide +kernel)⟩
theorem lw_p18 : lw_okq (⟨"WorldMake$Rooms", "isPassable", "(IIZ)Z"⟩, 7) := ⟨⟨by decide +kernel, by decide +kernel⟩, List.mem_of_getElem? (i := 294) (by decide +kernel), List.mem_of_getElem? (i := 996) (by decide +kernel), List.mem_of_getElem? (i := 997) (by decide +kernel)⟩
theorem lw_p19 : lw_okq (⟨"WorldMake", "shelfTakes", "(LWorldMake$Shelf;I)Z"⟩, 17) := ⟨⟨by decide +kernel, by decide +kernel⟩, List.mem_of_getElem? (i := 17) (by decide +kernel), List.mem_of_getElem? (i := 1018) (by decide +kernel), List.mem_of_getElem? (i := 1019) (by decide +kernel)⟩
theorem lw_p20 : lw_okq (⟨"WorldMake$Table", "isAhead", "(IIIZ)Z"⟩, 6) := ⟨⟨by decide +kernel, by decide +kernel⟩, List.mem_of_getElem? (i := 343) (by decide +kernel), List.mem_of_getElem? (i := 1101) (by decide +kernel), List.mem_of_getElem? (i := 1102) (by decide +kernel)⟩
theorem lw_p21 : lw_okq (⟨"WorldMake$Table", "swap", "(II)V"⟩, 6) := ⟨⟨by decide +kernel, by decide +kernel⟩, List.mem_of_getElem? (i := 343) (by decide +kernel), List.mem_of_getElem? (i := 1105) (by decide +kernel), List.mem_of_getElem? (i := 1106) (by decide +kernel)⟩
theorem lw_p22 : lw_okq (⟨"WorldMake", "addWord", "(I)V"⟩, 17) := ⟨⟨by decide +kernel, by decide +kernel⟩, List.mem_of_getElem? (i := 17) (by decide +kernel), List.mem_of_getElem? (i := 1133) (by decide +kernel), List.mem_of_getElem? (i := 1134) (by decide +kernel)⟩
theorem lw_p23 : lw_okq (⟨"WorldMake", "addWordsOfThing", "(I)V"⟩, 17) := ⟨⟨by decide +kernel, by decide +kernel⟩, List.mem_of_getElem? (i := 17) (by decide +kernel), List.mem_of_getElem? (i := 1137) (by decide +kernel), List.mem_of_getElem? (i := 1138) (by decide +kernel)⟩
theorem lw_p24 : lw_okq (⟨"WorldMake", "addWordsOfRoom", "(I)V"⟩, 17) := ⟨⟨by decide +kernel, by decide +kernel⟩, List.mem_of_getElem? (i := 17) (by decide +kernel), List.mem_of_getElem? (i := 1141) (by decide +kernel), List.mem_of_getElem? (i := 1142) (by decide +kernel)⟩
theorem lw_p25 : lw_okq (⟨"WorldMakeModel", "begin", "()V"⟩, 58) := ⟨⟨by decide +kernel, by decide +kernel⟩, List.mem_of_getElem? (i := 1177) (by decide +kernel), List.mem_of_getElem? (i := 1183) (by decide +kernel), List.mem_of_getElem? (i := 1184) (by decide +kernel)⟩
theorem lw_p26 : lw_okq (⟨"WorldMakeModel", "isKind", "(I)Z"⟩, 58) := ⟨⟨by decide +kernel, by decide +kernel⟩, List.mem_of_getElem? (i := 1177) (by decide +kernel), List.mem_of_getElem? (i := 1367) (by decide +kernel), List.mem_of_getElem? (i := 1368) (by decide +kernel)⟩
theorem lw_p27 : lw_okq (⟨"WorldMakeModel", "comesTo", "(II)Z"⟩, 58) := ⟨⟨by decide +kernel, by decide +kernel⟩, List.mem_of_getElem? (i := 1177) (by decide +kernel), List.mem_of_getElem? (i := 1378) (by decide +kernel), List.mem_of_getElem? (i := 1379) (by decide +kernel)⟩
theorem lw_p28 : lw_okq (⟨"WorldMakeModel", "baseOf", "(I)I"⟩, 58) := ⟨⟨by decide +kernel, by decide +kernel⟩, List.mem_of_getElem? (i := 1177) (by decide +kernel), List.mem_of_getElem? (i := 1387) (by decide +kernel), List.mem_of_getElem? (i := 1388) (by decide +kernel)⟩
theorem lw_p29 : lw_okq (⟨"WorldMakeModel", "isProperty", "(I)Z"⟩, 58) := ⟨⟨by decide +kernel, by decide +kernel⟩, List.mem_of_getElem? (i := 1177) (by decide +kernel), List.mem_of_getElem? (i := 1395) (by decide +kernel), List.mem_of_getElem? (i := 1396) (by decide +kernel)⟩
theorem lw_p30 : lw_okq (⟨"WorldMakeModel", "isUnknown", "(IJ)Z"⟩, 58) := ⟨⟨by decide +kernel, by decide +kernel⟩, List.mem_of_getElem? (i := 1177) (by decide +kernel), List.mem_of_getElem? (i := 1399) (by decide +kernel), List.mem_of_getElem? (i := 1400) (by decide +kernel)⟩
theorem lw_p31 : lw_okq (⟨"WorldMakeModel", "isStored", "(IJ)Z"⟩, 58) := ⟨⟨by decide +kernel, by decide +kernel⟩, List.mem_of_getElem? (i := 1177) (by decide +kernel), List.mem_of_getElem? (i := 1404) (by decide +kernel), List.mem_of_getElem? (i := 1405) (by decide +kernel)⟩
def lw_privs_2 : List (MethodName × Nat) := [(⟨"WorldMake$Relations", "earliestRelate", "(III)I"⟩, 7), (⟨"WorldMake$Relations", "togetherBy", "(III)I"⟩, 7), (⟨"WorldMake$Rooms", "isPassable", "(IIZ)Z"⟩, 7), (⟨"WorldMake", "shelfTakes", "(LWorldMake$Shelf;I)Z"⟩, 17), (⟨"WorldMake$Table", "isAhead", "(IIIZ)Z"⟩, 6), (⟨"WorldMake$Table", "swap", "(II)V"⟩, 6), (⟨"WorldMake", "addWord", "(I)V"⟩, 17), (⟨"WorldMake", "addWordsOfThing", "(I)V"⟩, 17), (⟨"WorldMake", "addWordsOfRoom", "(I)V"⟩, 17), (⟨"WorldMakeModel", "begin", "()V"⟩, 58), (⟨"WorldMakeModel", "isKind", "(I)Z"⟩, 58), (⟨"WorldMakeModel", "comesTo", "(II)Z"⟩, 58), (⟨"WorldMakeModel", "baseOf", "(I)I"⟩, 58), (⟨"WorldMakeModel", "isProperty", "(I)Z"⟩, 58), (⟨"WorldMakeModel", "isUnknown", "(IJ)Z"⟩, 58), (⟨"WorldMakeModel", "isStored", "(IJ)Z"⟩, 58)]
theorem lw_r2 : ∀ q ∈ lw_privs_2, lw_okq q := List.forall_mem_cons.mpr ⟨lw_p16, List.forall_mem_cons.mpr ⟨lw_p17, List.forall_mem_cons.mpr ⟨lw_p18, List.forall_mem_cons.mpr ⟨lw_p19, List.forall_mem_cons.mpr ⟨lw_p20, List.forall_mem_cons.mpr ⟨lw_p21, List.forall_mem_cons.mpr ⟨lw_p22, List.forall_mem_cons.mpr ⟨lw_p23, List.forall_mem_cons.mpr ⟨lw_p24, List.forall_mem_cons.mpr ⟨lw_p25, List.forall_mem_cons.mpr ⟨lw_p26, List.forall_mem_cons.mpr ⟨lw_p27, List.forall_mem_cons.mpr ⟨lw_p28, List.forall_mem_cons.mpr ⟨lw_p29, List.forall_mem_cons.mpr ⟨lw_p30, List.forall_mem_cons.mpr ⟨lw_p31, fun _ h => absurd h List.not_mem_nil⟩⟩⟩⟩⟩⟩⟩⟩⟩⟩⟩⟩⟩⟩⟩⟩
theorem lw_p32 : lw_okq (⟨"WorldMakeModel", "faulty", "(I)I"⟩, 58) := ⟨⟨by decide +kernel, by decide +kernel⟩, List.mem_of_getElem? (i := 1177) (by decide +kernel), List.mem_of_getElem? (i := 1408) (by decide +kernel), List.mem_of_getElem? (i := 1409) (by decide +kernel)⟩
theorem lw_p33 : lw_okq (⟨"WorldMakeModel", "isThing", "(J)Z"⟩, 58) := ⟨⟨by decide +kernel, by decide +kernel⟩, List.mem_of_getElem? (i := 1177) (by decide +kernel), List.mem_of_getElem? (i := 1425) (by decide +kernel), List.mem_of_getElem? (i := 1426) (by decide +kernel)⟩
theorem lw_p34 : lw_okq (⟨"WorldMakeModel", "isBackdrop", "(I)Z"⟩, 58) := ⟨⟨by decide +kernel, by decide +kernel⟩, List.mem_of_getElem? (i := 1177) (by decide +kernel), List.mem_of_getElem? (i := 1429) (by decide +kernel), List.mem_of_getElem? (i := 1430) (by decide +kernel)⟩
theorem lw_p35 : lw_okq (⟨"WorldMakeModel", "base", "(I)I"⟩, 58) := ⟨⟨by decide +kernel, by decide +kernel⟩, List.mem_of_getElem? (i := 1177) (by decide +kernel), List.mem_of_getElem? (i := 1433) (by decide +kernel), List.mem_of_getElem? (i := 1434) (by decide +kernel)⟩
theorem lw_p36 : lw_okq (⟨"WorldMakeModel", "isHolder", "(I)Z"⟩, 58) := ⟨⟨by decide +kernel, by decide +kernel⟩, List.mem_of_getElem? (i := 1177) (by decide +kernel), List.mem_of_getElem? (i := 1437) (by decide +kernel), List.mem_of_getElem? (i := 1438) (by decide +kernel)⟩
theorem lw_p37 : lw_okq (⟨"WorldMakeModel", "isCarrier", "(I)Z"⟩, 58) := ⟨⟨by decide +kernel, by decide +kernel⟩, List.mem_of_getElem? (i := 1177) (by decide +kernel), List.mem_of_getElem? (i := 1441) (by decide +kernel), List.mem_of_getElem? (i := 1442) (by decide +kernel)⟩
theorem lw_p38 : lw_okq (⟨"WorldMakeModel", "isFixed", "(I)Z"⟩, 58) := ⟨⟨by decide +kernel, by decide +kernel⟩, List.mem_of_getElem? (i := 1177) (by decide +kernel), List.mem_of_getElem? (i := 1445) (by decide +kernel), List.mem_of_getElem? (i := 1446) (by decide +kernel)⟩
theorem lw_p39 : lw_okq (⟨"WorldMakeModel", "isWithin", "(II)Z"⟩, 58) := ⟨⟨by decide +kernel, by decide +kernel⟩, List.mem_of_getElem? (i := 1177) (by decide +kernel), List.mem_of_getElem? (i := 1449) (by decide +kernel), List.mem_of_getElem? (i := 1450) (by decide +kernel)⟩
theorem lw_p40 : lw_okq (⟨"WorldMakeModel", "nth", "(II)I"⟩, 58) := ⟨⟨by decide +kernel, by decide +kernel⟩, List.mem_of_getElem? (i := 1177) (by decide +kernel), List.mem_of_getElem? (i := 1453) (by decide +kernel), List.mem_of_getElem? (i := 1454) (by decide +kernel)⟩
theorem lw_p41 : lw_okq (⟨"WorldMakeModel", "putAgainst", "(II)I"⟩, 58) := ⟨⟨by decide +kernel, by decide +kernel⟩, List.mem_of_getElem? (i := 1177) (by decide +kernel), List.mem_of_getElem? (i := 1457) (by decide +kernel), List.mem_of_getElem? (i := 1458) (by decide +kernel)⟩
theorem lw_p42 : lw_okq (⟨"WorldMakeModel", "first", "(III)I"⟩, 58) := ⟨⟨by decide +kernel, by decide +kernel⟩, List.mem_of_getElem? (i := 1177) (by decide +kernel), List.mem_of_getElem? (i := 1461) (by decide +kernel), List.mem_of_getElem? (i := 1462) (by decide +kernel)⟩
theorem lw_p43 : lw_okq (⟨"WorldMakeModel", "latestAmong", "(I)I"⟩, 58) := ⟨⟨by decide +kernel, by decide +kernel⟩, List.mem_of_getElem? (i := 1177) (by decide +kernel), List.mem_of_getElem? (i := 1465) (by decide +kernel), List.mem_of_getElem? (i := 1466) (by decide +kernel)⟩
theorem lw_p44 : lw_okq (⟨"WorldMakeModel", "held", "(I)I"⟩, 58) := ⟨⟨by decide +kernel, by decide +kernel⟩, List.mem_of_getElem? (i := 1177) (by decide +kernel), List.mem_of_getElem? (i := 1469) (by decide +kernel), List.mem_of_getElem? (i := 1470) (by decide +kernel)⟩
theorem lw_p45 : lw_okq (⟨"WorldMakeModel", "placeOf", "(I)I"⟩, 58) := ⟨⟨by decide +kernel, by decide +kernel⟩, List.mem_of_getElem? (i := 1177) (by decide +kernel), List.mem_of_getElem? (i := 1473) (by decide +kernel), List.mem_of_getElem? (i := 1474) (by decide +kernel)⟩
theorem lw_p46 : lw_okq (⟨"WorldMakeModel", "pairAgainst", "(II)I"⟩, 58) := ⟨⟨by decide +kernel, by decide +kernel⟩, List.mem_of_getElem? (i := 1177) (by decide +kernel), List.mem_of_getElem? (i := 1477) (by decide +kernel), List.mem_of_getElem? (i := 1478) (by decide +kernel)⟩
theorem lw_p47 : lw_okq (⟨"WorldMakeModel", "lies", "(II)I"⟩, 58) := ⟨⟨by decide +kernel, by decide +kernel⟩, List.mem_of_getElem? (i := 1177) (by decide +kernel), List.mem_of_getElem? (i := 1484) (by decide +kernel), List.mem_of_getElem? (i := 1485) (by decide +kernel)⟩
def lw_privs_3 : List (MethodName × Nat) := [(⟨"WorldMakeModel", "faulty", "(I)I"⟩, 58), (⟨"WorldMakeModel", "isThing", "(J)Z"⟩, 58), (⟨"WorldMakeModel", "isBackdrop", "(I)Z"⟩, 58), (⟨"WorldMakeModel", "base", "(I)I"⟩, 58), (⟨"WorldMakeModel", "isHolder", "(I)Z"⟩, 58), (⟨"WorldMakeModel", "isCarrier", "(I)Z"⟩, 58), (⟨"WorldMakeModel", "isFixed", "(I)Z"⟩, 58), (⟨"WorldMakeModel", "isWithin", "(II)Z"⟩, 58), (⟨"WorldMakeModel", "nth", "(II)I"⟩, 58), (⟨"WorldMakeModel", "putAgainst", "(II)I"⟩, 58), (⟨"WorldMakeModel", "first", "(III)I"⟩, 58), (⟨"WorldMakeModel", "latestAmong", "(I)I"⟩, 58), (⟨"WorldMakeModel", "held", "(I)I"⟩, 58), (⟨"WorldMakeModel", "placeOf", "(I)I"⟩, 58), (⟨"WorldMakeModel", "pairAgainst", "(II)I"⟩, 58), (⟨"WorldMakeModel", "lies", "(II)I"⟩, 58)]
theorem lw_r3 : ∀ q ∈ lw_privs_3, lw_okq q := List.forall_mem_cons.mpr ⟨lw_p32, List.forall_mem_cons.mpr ⟨lw_p33, List.forall_mem_cons.mpr ⟨lw_p34, List.forall_mem_cons.mpr ⟨lw_p35, List.forall_mem_cons.mpr ⟨lw_p36, List.forall_mem_cons.mpr ⟨lw_p37, List.forall_mem_cons.mpr ⟨lw_p38, List.forall_mem_cons.mpr ⟨lw_p39, List.forall_mem_cons.mpr ⟨lw_p40, List.forall_mem_cons.mpr ⟨lw_p41, List.forall_mem_cons.mpr ⟨lw_p42, List.forall_mem_cons.mpr ⟨lw_p43, List.forall_mem_cons.mpr ⟨lw_p44, List.forall_mem_cons.mpr ⟨lw_p45, List.forall_mem_cons.mpr ⟨lw_p46, List.forall_mem_cons.mpr ⟨lw_p47, fun _ h => absurd h List.not_mem_nil⟩⟩⟩⟩⟩⟩⟩⟩⟩⟩⟩⟩⟩⟩⟩⟩
theorem lw_p48 : lw_okq (⟨"WorldMakeModel", "tell", "(IIII)I"⟩, 58) := ⟨⟨by decide +kernel, by decide +kernel⟩, List.mem_of_getElem? (i := 1177) (by decide +kernel), List.mem_of_getElem? (i := 1488) (by decide +kernel), List.mem_of_getElem? (i := 1489) (by decide +kernel)⟩
theorem lw_p49 : lw_okq (⟨"WorldMakeModel", "valueOf", "(II)J"⟩, 58) := ⟨⟨by decide +kernel, by decide +kernel⟩, List.mem_of_getElem? (i := 1177) (by decide +kernel), List.mem_of_getElem? (i := 1506) (by decide +kernel), List.mem_of_getElem? (i := 1507) (by decide +kernel)⟩
theorem lw_p50 : lw_okq (⟨"WorldMakeModel", "said", "(II)I"⟩, 58) := ⟨⟨by decide +kernel, by decide +kernel⟩, List.mem_of_getElem? (i := 1177) (by decide +kernel), List.mem_of_getElem? (i := 1529) (by decide +kernel), List.mem_of_getElem? (i := 1530) (by decide +kernel)⟩
theorem lw_p51 : lw_okq (⟨"WorldMakeModel", "loadOf", "(I)I"⟩, 58) := ⟨⟨by decide +kernel, by decide +kernel⟩, List.mem_of_getElem? (i := 1177) (by decide +kernel), List.mem_of_getElem? (i := 1533) (by decide +kernel), List.mem_of_getElem? (i := 1534) (by decide +kernel)⟩
theorem lw_p52 : lw_okq (⟨"WorldMakeModel", "bulkOf", "(I)I"⟩, 58) := ⟨⟨by decide +kernel, by decide +kernel⟩, List.mem_of_getElem? (i := 1177) (by decide +kernel), List.mem_of_getElem? (i := 1537) (by decide +kernel), List.mem_of_getElem? (i := 1538) (by decide +kernel)⟩
theorem lw_p53 : lw_okq (⟨"WorldMakeModel", "worthOf", "(I)I"⟩, 58) := ⟨⟨by decide +kernel, by decide +kernel⟩, List.mem_of_getElem? (i := 1177) (by decide +kernel), List.mem_of_getElem? (i := 1541) (by decide +kernel), List.mem_of_getElem? (i := 1542) (by decide +kernel)⟩
theorem lw_p54 : lw_okq (⟨"WorldMakeModel", "lidOf", "(I)I"⟩, 58) := ⟨⟨by decide +kernel, by decide +kernel⟩, List.mem_of_getElem? (i := 1177) (by decide +kernel), List.mem_of_getElem? (i := 1545) (by decide +kernel), List.mem_of_getElem? (i := 1546) (by decide +kernel)⟩
theorem lw_p55 : lw_okq (⟨"WorldMakeModel", "hasOwn", "(I)Z"⟩, 58) := ⟨⟨by decide +kernel, by decide +kernel⟩, List.mem_of_getElem? (i := 1177) (by decide +kernel), List.mem_of_getElem? (i := 1557) (by decide +kernel), List.mem_of_getElem? (i := 1558) (by decide +kernel)⟩
theorem lw_p56 : lw_okq (⟨"WorldMakeModel", "unsettled", "()I"⟩, 58) := ⟨⟨by decide +kernel, by decide +kernel⟩, List.mem_of_getElem? (i := 1177) (by decide +kernel), List.mem_of_getElem? (i := 1586) (by decide +kernel), List.mem_of_getElem? (i := 1587) (by decide +kernel)⟩
theorem lw_p57 : lw_okq (⟨"WorldMakeModel", "isUnsettled", "(I)Z"⟩, 58) := ⟨⟨by decide +kernel, by decide +kernel⟩, List.mem_of_getElem? (i := 1177) (by decide +kernel), List.mem_of_getElem? (i := 1590) (by decide +kernel), List.mem_of_getElem? (i := 1591) (by decide +kernel)⟩
theorem lw_p58 : lw_okq (⟨"WorldMakeModel", "keeps", "()Z"⟩, 58) := ⟨⟨by decide +kernel, by decide +kernel⟩, List.mem_of_getElem? (i := 1177) (by decide +kernel), List.mem_of_getElem? (i := 1601) (by decide +kernel), List.mem_of_getElem? (i := 1602) (by decide +kernel)⟩
theorem lw_p59 : lw_okq (⟨"WorldMakeModel", "goesOn", "()Z"⟩, 58) := ⟨⟨by decide +kernel, by decide +kernel⟩, List.mem_of_getElem? (i := 1177) (by decide +kernel), List.mem_of_getElem? (i := 1605) (by decide +kernel), List.mem_of_getElem? (i := 1606) (by decide +kernel)⟩
theorem lw_p60 : lw_okq (⟨"WorldMakeModel", "isCouple", "(III)Z"⟩, 58) := ⟨⟨by decide +kernel, by decide +kernel⟩, List.mem_of_getElem? (i := 1177) (by decide +kernel), List.mem_of_getElem? (i := 1622) (by decide +kernel), List.mem_of_getElem? (i := 1623) (by decide +kernel)⟩
theorem lw_p61 : lw_okq (⟨"WorldMakeModel", "isRelation", "(I)Z"⟩, 58) := ⟨⟨by decide +kernel, by decide +kernel⟩, List.mem_of_getElem? (i := 1177) (by decide +kernel), List.mem_of_getElem? (i := 1626) (by decide +kernel), List.mem_of_getElem? (i := 1627) (by decide +kernel)⟩
theorem lw_p62 : lw_okq (⟨"WorldMakeModel", "has", "(III)Z"⟩, 58) := ⟨⟨by decide +kernel, by decide +kernel⟩, List.mem_of_getElem? (i := 1177) (by decide +kernel), List.mem_of_getElem? (i := 1630) (by decide +kernel), List.mem_of_getElem? (i := 1631) (by decide +kernel)⟩
theorem lw_p63 : lw_okq (⟨"WorldMakeModel", "hasBy", "(III)I"⟩, 58) := ⟨⟨by decide +kernel, by decide +kernel⟩, List.mem_of_getElem? (i := 1177) (by decide +kernel), List.mem_of_getElem? (i := 1634) (by decide +kernel), List.mem_of_getElem? (i := 1635) (by decide +kernel)⟩
def lw_privs_4 : List (MethodName × Nat) := [(⟨"WorldMakeModel", "tell", "(IIII)I"⟩, 58), (⟨"WorldMakeModel", "valueOf", "(II)J"⟩, 58), (⟨"WorldMakeModel", "said", "(II)I"⟩, 58), (⟨"WorldMakeModel", "loadOf", "(I)I"⟩, 58), (⟨"WorldMakeModel", "bulkOf", "(I)I"⟩, 58), (⟨"WorldMakeModel", "worthOf", "(I)I"⟩, 58), (⟨"WorldMakeModel", "lidOf", "(I)I"⟩, 58), (⟨"WorldMakeModel", "hasOwn", "(I)Z"⟩, 58), (⟨"WorldMakeModel", "unsettled", "()I"⟩, 58), (⟨"WorldMakeModel", "isUnsettled", "(I)Z"⟩, 58), (⟨"WorldMakeModel", "keeps", "()Z"⟩, 58), (⟨"WorldMakeModel", "goesOn", "()Z"⟩, 58), (⟨"WorldMakeModel", "isCouple", "(III)Z"⟩, 58), (⟨"WorldMakeModel", "isRelation", "(I)Z"⟩, 58), (⟨"WorldMakeModel", "has", "(III)Z"⟩, 58), (⟨"WorldMakeModel", "hasBy", "(III)I"⟩, 58)]
theorem lw_r4 : ∀ q ∈ lw_privs_4, lw_okq q := List.forall_mem_cons.mpr ⟨lw_p48, List.forall_mem_cons.mpr ⟨lw_p49, List.forall_mem_cons.mpr ⟨lw_p50, List.forall_mem_cons.mpr ⟨lw_p51, List.forall_mem_cons.mpr ⟨lw_p52, List.forall_mem_cons.mpr ⟨lw_p53, List.forall_mem_cons.mpr ⟨lw_p54, List.forall_mem_cons.mpr ⟨lw_p55, List.forall_mem_cons.mpr ⟨lw_p56, List.forall_mem_cons.mpr ⟨lw_p57, List.forall_mem_cons.mpr ⟨lw_p58, List.forall_mem_cons.mpr ⟨lw_p59, List.forall_mem_cons.mpr ⟨lw_p60, List.forall_mem_cons.mpr ⟨lw_p61, List.forall_mem_cons.mpr ⟨lw_p62, List.forall_mem_cons.mpr ⟨lw_p63, fun _ h => absurd h List.not_mem_nil⟩⟩⟩⟩⟩⟩⟩⟩⟩⟩⟩⟩⟩⟩⟩⟩
theorem lw_p64 : lw_okq (⟨"WorldMakeModel", "groupUp", "(II)V"⟩, 58) := ⟨⟨by decide +kernel, by decide +kernel⟩, List.mem_of_getElem? (i := 1177) (by decide +kernel), List.mem_of_getElem? (i := 1638) (by decide +kernel), List.mem_of_getElem? (i := 1639) (by decide +kernel)⟩
theorem lw_p65 : lw_okq (⟨"WorldMakeModel", "told", "(IIII)I"⟩, 58) := ⟨⟨by decide +kernel, by decide +kernel⟩, List.mem_of_getElem? (i := 1177) (by decide +kernel), List.mem_of_getElem? (i := 1642) (by decide +kernel), List.mem_of_getElem? (i := 1643) (by decide +kernel)⟩
theorem lw_p66 : lw_okq (⟨"WorldMakeModel", "deniedBy", "(III)I"⟩, 58) := ⟨⟨by decide +kernel, by decide +kernel⟩, List.mem_of_getElem? (i := 1177) (by decide +kernel), List.mem_of_getElem? (i := 1649) (by decide +kernel), List.mem_of_getElem? (i := 1650) (by decide +kernel)⟩
theorem lw_p67 : lw_okq (⟨"WorldMakeModel", "oneOnly", "(III)I"⟩, 58) := ⟨⟨by decide +kernel, by decide +kernel⟩, List.mem_of_getElem? (i := 1177) (by decide +kernel), List.mem_of_getElem? (i := 1653) (by decide +kernel), List.mem_of_getElem? (i := 1654) (by decide +kernel)⟩
theorem lw_p68 : lw_okq (⟨"WorldMakeModel", "couples", "(I)V"⟩, 58) := ⟨⟨by decide +kernel, by decide +kernel⟩, List.mem_of_getElem? (i := 1177) (by decide +kernel), List.mem_of_getElem? (i := 1669) (by decide +kernel), List.mem_of_getElem? (i := 1670) (by decide +kernel)⟩
theorem lw_p69 : lw_okq (⟨"WorldMakeModel", "goBack", "(I)V"⟩, 58) := ⟨⟨by decide +kernel, by decide +kernel⟩, List.mem_of_getElem? (i := 1177) (by decide +kernel), List.mem_of_getElem? (i := 1673) (by decide +kernel), List.mem_of_getElem? (i := 1674) (by decide +kernel)⟩
theorem lw_p70 : lw_okq (⟨"WorldMakeModel", "isRoom", "(I)Z"⟩, 58) := ⟨⟨by decide +kernel, by decide +kernel⟩, List.mem_of_getElem? (i := 1177) (by decide +kernel), List.mem_of_getElem? (i := 1685) (by decide +kernel), List.mem_of_getElem? (i := 1686) (by decide +kernel)⟩
theorem lw_p71 : lw_okq (⟨"WorldMakeModel", "lead", "(IIIII)V"⟩, 58) := ⟨⟨by decide +kernel, by decide +kernel⟩, List.mem_of_getElem? (i := 1177) (by decide +kernel), List.mem_of_getElem? (i := 1690) (by decide +kernel), List.mem_of_getElem? (i := 1691) (by decide +kernel)⟩
theorem lw_p72 : lw_okq (⟨"WorldMakeModel", "routeBack", "(IZ)V"⟩, 58) := ⟨⟨by decide +kernel, by decide +kernel⟩, List.mem_of_getElem? (i := 1177) (by decide +kernel), List.mem_of_getElem? (i := 1710) (by decide +kernel), List.mem_of_getElem? (i := 1711) (by decide +kernel)⟩
theorem lw_p73 : lw_okq (⟨"WorldMakeModel", "goes", "(IZ)Z"⟩, 58) := ⟨⟨by decide +kernel, by decide +kernel⟩, List.mem_of_getElem? (i := 1177) (by decide +kernel), List.mem_of_getElem? (i := 1714) (by decide +kernel), List.mem_of_getElem? (i := 1715) (by decide +kernel)⟩
theorem lw_p74 : lw_okq (⟨"WorldMakeModel", "isShelf", "(I)Z"⟩, 58) := ⟨⟨by decide +kernel, by decide +kernel⟩, List.mem_of_getElem? (i := 1177) (by decide +kernel), List.mem_of_getElem? (i := 1730) (by decide +kernel), List.mem_of_getElem? (i := 1731) (by decide +kernel)⟩
theorem lw_p75 : lw_okq (⟨"WorldMakeModel", "takes", "(II)Z"⟩, 58) := ⟨⟨by decide +kernel, by decide +kernel⟩, List.mem_of_getElem? (i := 1177) (by decide +kernel), List.mem_of_getElem? (i := 1734) (by decide +kernel), List.mem_of_getElem? (i := 1735) (by decide +kernel)⟩
theorem lw_p76 : lw_okq (⟨"WorldMakeModel", "isTable", "(I)Z"⟩, 58) := ⟨⟨by decide +kernel, by decide +kernel⟩, List.mem_of_getElem? (i := 1177) (by decide +kernel), List.mem_of_getElem? (i := 1759) (by decide +kernel), List.mem_of_getElem? (i := 1760) (by decide +kernel)⟩
theorem lw_p77 : lw_okq (⟨"WorldMakeModel", "isCell", "(III)Z"⟩, 58) := ⟨⟨by decide +kernel, by decide +kernel⟩, List.mem_of_getElem? (i := 1177) (by decide +kernel), List.mem_of_getElem? (i := 1763) (by decide +kernel), List.mem_of_getElem? (i := 1764) (by decide +kernel)⟩
theorem lw_p78 : lw_okq (⟨"WorldMakeModel", "isColumn", "(II)Z"⟩, 58) := ⟨⟨by decide +kernel, by decide +kernel⟩, List.mem_of_getElem? (i := 1177) (by decide +kernel), List.mem_of_getElem? (i := 1767) (by decide +kernel), List.mem_of_getElem? (i := 1768) (by decide +kernel)⟩
theorem lw_p79 : lw_okq (⟨"WorldMakeModel", "isAhead", "(IIIIZ)Z"⟩, 58) := ⟨⟨by decide +kernel, by decide +kernel⟩, List.mem_of_getElem? (i := 1177) (by decide +kernel), List.mem_of_getElem? (i := 1791) (by decide +kernel), List.mem_of_getElem? (i := 1792) (by decide +kernel)⟩
def lw_privs_5 : List (MethodName × Nat) := [(⟨"WorldMakeModel", "groupUp", "(II)V"⟩, 58), (⟨"WorldMakeModel", "told", "(IIII)I"⟩, 58), (⟨"WorldMakeModel", "deniedBy", "(III)I"⟩, 58), (⟨"WorldMakeModel", "oneOnly", "(III)I"⟩, 58), (⟨"WorldMakeModel", "couples", "(I)V"⟩, 58), (⟨"WorldMakeModel", "goBack", "(I)V"⟩, 58), (⟨"WorldMakeModel", "isRoom", "(I)Z"⟩, 58), (⟨"WorldMakeModel", "lead", "(IIIII)V"⟩, 58), (⟨"WorldMakeModel", "routeBack", "(IZ)V"⟩, 58), (⟨"WorldMakeModel", "goes", "(IZ)Z"⟩, 58), (⟨"WorldMakeModel", "isShelf", "(I)Z"⟩, 58), (⟨"WorldMakeModel", "takes", "(II)Z"⟩, 58), (⟨"WorldMakeModel", "isTable", "(I)Z"⟩, 58), (⟨"WorldMakeModel", "isCell", "(III)Z"⟩, 58), (⟨"WorldMakeModel", "isColumn", "(II)Z"⟩, 58), (⟨"WorldMakeModel", "isAhead", "(IIIIZ)Z"⟩, 58)]
theorem lw_r5 : ∀ q ∈ lw_privs_5, lw_okq q := List.forall_mem_cons.mpr ⟨lw_p64, List.forall_mem_cons.mpr ⟨lw_p65, List.forall_mem_cons.mpr ⟨lw_p66, List.forall_mem_cons.mpr ⟨lw_p67, List.forall_mem_cons.mpr ⟨lw_p68, List.forall_mem_cons.mpr ⟨lw_p69, List.forall_mem_cons.mpr ⟨lw_p70, List.forall_mem_cons.mpr ⟨lw_p71, List.forall_mem_cons.mpr ⟨lw_p72, List.forall_mem_cons.mpr ⟨lw_p73, List.forall_mem_cons.mpr ⟨lw_p74, List.forall_mem_cons.mpr ⟨lw_p75, List.forall_mem_cons.mpr ⟨lw_p76, List.forall_mem_cons.mpr ⟨lw_p77, List.forall_mem_cons.mpr ⟨lw_p78, List.forall_mem_cons.mpr ⟨lw_p79, fun _ h => absurd h List.not_mem_nil⟩⟩⟩⟩⟩⟩⟩⟩⟩⟩⟩⟩⟩⟩⟩⟩
theorem lw_p80 : lw_okq (⟨"WorldMakeModel", "sumOf", "(II)J"⟩, 58) := ⟨⟨by decide +kernel, by decide +kernel⟩, List.mem_of_getElem? (i := 1177) (by decide +kernel), List.mem_of_getElem? (i := 1799) (by decide +kernel), List.mem_of_getElem? (i := 1800) (by decide +kernel)⟩
theorem lw_p81 : lw_okq (⟨"WorldMakeModel", "filledIn", "(II)I"⟩, 58) := ⟨⟨by decide +kernel, by decide +kernel⟩, List.mem_of_getElem? (i := 1177) (by decide +kernel), List.mem_of_getElem? (i := 1807) (by decide +kernel), List.mem_of_getElem? (i := 1808) (by decide +kernel)⟩
theorem lw_p82 : lw_okq (⟨"WorldMakeModel", "add", "(I)V"⟩, 58) := ⟨⟨by decide +kernel, by decide +kernel⟩, List.mem_of_getElem? (i := 1177) (by decide +kernel), List.mem_of_getElem? (i := 1815) (by decide +kernel), List.mem_of_getElem? (i := 1816) (by decide +kernel)⟩
def lw_privs_6 : List (MethodName × Nat) := [(⟨"WorldMakeModel", "sumOf", "(II)J"⟩, 58), (⟨"WorldMakeModel", "filledIn", "(II)I"⟩, 58), (⟨"WorldMakeModel", "add", "(I)V"⟩, 58)]
theorem lw_r6 : ∀ q ∈ lw_privs_6, lw_okq q := List.forall_mem_cons.mpr ⟨lw_p80, List.forall_mem_cons.mpr ⟨lw_p81, List.forall_mem_cons.mpr ⟨lw_p82, fun _ h => absurd h List.not_mem_nil⟩⟩⟩
def lw_privs : List (MethodName × Nat) := lw_privs_1 ++ (lw_privs_2 ++ (lw_privs_3 ++ (lw_privs_4 ++ (lw_privs_5 ++ (lw_privs_6)))))
def lw_tbl : List Cond := k2_sels lw_privs ++ tables_1
theorem lw_privs_ok : ∀ q ∈ lw_privs, lw_okq q := by
  show ∀ q ∈ lw_privs_1 ++ (lw_privs_2 ++ (lw_privs_3 ++ (lw_privs_4 ++ (lw_privs_5 ++ (lw_privs_6))))), lw_okq q
  exact List.forall_mem_append.mpr ⟨lw_r1, List.forall_mem_append.mpr ⟨lw_r2, List.forall_mem_append.mpr ⟨lw_r3, List.forall_mem_append.mpr ⟨lw_r4, List.forall_mem_append.mpr ⟨lw_r5, lw_r6⟩⟩⟩⟩⟩
/-- the streams that the claim lets the run draw from -/
abbrev lw_cs : List Choice := [Jvm.Choice.named "NaN.bits"]
theorem lw_bits : nanBits ∈ lw_cs := by first | decide | exact List.mem_cons_self | simp [lw_cs, nanBits]
def RX0 : String := "WorldMake$Kinds"
def TX0 : u_T := fun k => match k with
  | 0 => ("WorldMake$Kinds", "parents", "[I", true)
  | _ => ("WorldMake$Kinds", "number", "I", false)
def tyX0 : Nat → FieldType := fun k => match k with
  | 0 => .array .int
  | _ => .int
abbrev wsX00 : List Cond := u_ws RX0 TX0 2
theorem nmX0 : ∀ a, a < 2 → ∀ b, b < 2 → a ≠ b → (TX0 a).2.1 ≠ (TX0 b).2.1 := by decide +kernel
theorem tyX0_ok : ∀ k, k < 2 → parseFieldDescriptor (TX0 k).2.2.1 = some (tyX0 k) := by decide +kernel
abbrev cX0_init : ByteArray := prog_2_method_1_code
def yX0_init : MethodName := ⟨RX0, "<init>", "()V"⟩
abbrev cX0_begin : ByteArray := prog_2_method_2_code
def yX0_begin : MethodName := ⟨RX0, "begin", "()V"⟩
abbrev cX0_add : ByteArray := prog_2_method_3_code
def yX0_add : MethodName := ⟨RX0, "add", "(I)I"⟩
abbrev cX0_has : ByteArray := prog_2_method_4_code
def yX0_has : MethodName := ⟨RX0, "has", "(I)Z"⟩
abbrev cX0_fits : ByteArray := prog_2_method_5_code
def yX0_fits : MethodName := ⟨RX0, "fits", "(II)Z"⟩
abbrev cX0_baseOf : ByteArray := prog_2_method_6_code
def yX0_baseOf : MethodName := ⟨RX0, "baseOf", "(I)I"⟩
def RX1 : String := "WorldMake$Places"
def TX1 : u_T := fun k => match k with
  | 0 => ("WorldMake$Places", "things", "LWorldMake$Things;", true)
  | 1 => ("WorldMake$Places", "sentences", "LWorldMake$Sentences;", true)
  | 2 => ("WorldMake$Places", "homes", "[I", true)
  | 3 => ("WorldMake$Places", "homeCounts", "[I", true)
  | 4 => ("WorldMake$Places", "putIn", "[I", true)
  | 5 => ("WorldMake$Places", "barred", "[J", true)
  | 6 => ("WorldMake$Places", "sets", "[J", true)
  | 7 => ("WorldMake$Places", "amongIn", "[I", true)
  | 8 => ("WorldMake$Places", "inside", "[I", true)
  | 9 => ("WorldMake$Places", "mosts", "[I", true)
  | 10 => ("WorldMake$Places", "mostIn", "[I", true)
  | 11 => ("WorldMake$Places", "pairOnes", "[I", true)
  | 12 => ("WorldMake$Places", "pairOthers", "[I", true)
  | 13 => ("WorldMake$Places", "pairAlike", "[Z", true)
  | 14 => ("WorldMake$Places", "pairIn", "[I", true)
  | _ => ("WorldMake$Places", "pairs", "I", false)
def tyX1 : Nat → FieldType := fun k => match k with
  | 0 => .object "WorldMake$Things"
  | 1 => .object "WorldMake$Sentences"
  | 2 => .array .int
  | 3 => .array .int
  | 4 => .array .int
  | 5 => .array .long
  | 6 => .array .long
  | 7 => .array .int
  | 8 => .array .int
  | 9 => .array .int
  | 10 => .array .int
  | 11 => .array .int
  | 12 => .array .int
  | 13 => .array .boolean
  | 14 => .array .int
  | _ => .int
abbrev wsX10 : List Cond := u_ws RX1 TX1 16
theorem nmX1 : ∀ a, a < 16 → ∀ b, b < 16 → a ≠ b → (TX1 a).2.1 ≠ (TX1 b).2.1 := by decide +kernel
theorem tyX1_ok : ∀ k, k < 16 → parseFieldDescriptor (TX1 k).2.2.1 = some (tyX1 k) := by decide +kernel
abbrev cX1_init : ByteArray := prog_3_method_1_code
def yX1_init : MethodName := ⟨RX1, "<init>", "(LWorldMake$Things;LWorldMake$Sentences;)V"⟩
abbrev cX1_begin : ByteArray := prog_3_method_2_code
def yX1_begin : MethodName := ⟨RX1, "begin", "(I)V"⟩
abbrev cX1_homeAt : ByteArray := prog_3_method_3_code
def yX1_homeAt : MethodName := ⟨RX1, "homeAt", "(II)I"⟩
abbrev cX1_isLaid : ByteArray := prog_3_method_4_code
def yX1_isLaid : MethodName := ⟨RX1, "isLaid", "(I)Z"⟩
abbrev cX1_liesIn : ByteArray := prog_3_method_5_code
def yX1_liesIn : MethodName := ⟨RX1, "liesIn", "(II)Z"⟩
abbrev cX1_hasAllHomes : ByteArray := prog_3_method_6_code
def yX1_hasAllHomes : MethodName := ⟨RX1, "hasAllHomes", "(I)Z"⟩
abbrev cX1_isWithin : ByteArray := prog_3_method_7_code
def yX1_isWithin : MethodName := ⟨RX1, "isWithin", "(II)Z"⟩
abbrev cX1_lay : ByteArray := prog_3_method_8_code
def yX1_lay : MethodName := ⟨RX1, "lay", "(III)V"⟩
abbrev cX1_lift : ByteArray := prog_3_method_9_code
def yX1_lift : MethodName := ⟨RX1, "lift", "(I)V"⟩
abbrev cX1_againstPut : ByteArray := prog_3_method_10_code
def yX1_againstPut : MethodName := ⟨RX1, "againstPut", "(II)I"⟩
abbrev cX1_isCrowded : ByteArray := prog_3_method_11_code
def yX1_isCrowded : MethodName := ⟨RX1, "isCrowded", "(I)Z"⟩
abbrev cX1_againstPairs : ByteArray := prog_3_method_12_code
def yX1_againstPairs : MethodName := ⟨RX1, "againstPairs", "(II)I"⟩
abbrev cX1_partner : ByteArray := prog_3_method_13_code
def yX1_partner : MethodName := ⟨RX1, "partner", "(II)I"⟩
abbrev cX1_againstBar : ByteArray := prog_3_method_14_code
def yX1_againstBar : MethodName := ⟨RX1, "againstBar", "(II)I"⟩
abbrev cX1_shut : ByteArray := prog_3_method_15_code
def yX1_shut : MethodName := ⟨RX1, "shut", "(II)V"⟩
abbrev cX1_againstAmong : ByteArray := prog_3_method_16_code
def yX1_againstAmong : MethodName := ⟨RX1, "againstAmong", "(IJ)I"⟩
abbrev cX1_earliestBarInto : ByteArray := prog_3_method_17_code
def yX1_earliestBarInto : MethodName := ⟨RX1, "earliestBarInto", "(IJ)I"⟩
abbrev cX1_narrow : ByteArray := prog_3_method_18_code
def yX1_narrow : MethodName := ⟨RX1, "narrow", "(IJI)V"⟩
abbrev cX1_setOf : ByteArray := prog_3_method_19_code
def yX1_setOf : MethodName := ⟨RX1, "setOf", "(I)J"⟩
abbrev cX1_isUnsettled : ByteArray := prog_3_method_20_code
def yX1_isUnsettled : MethodName := ⟨RX1, "isUnsettled", "(I)Z"⟩
abbrev cX1_unsettled : ByteArray := prog_3_method_21_code
def yX1_unsettled : MethodName := ⟨RX1, "unsettled", "()I"⟩
abbrev cX1_againstPairing : ByteArray := prog_3_method_22_code
def yX1_againstPairing : MethodName := ⟨RX1, "againstPairing", "(IIZ)I"⟩
abbrev cX1_addPair : ByteArray := prog_3_method_23_code
def yX1_addPair : MethodName := ⟨RX1, "addPair", "(IIZI)V"⟩
abbrev cX1_hasMost : ByteArray := prog_3_method_24_code
def yX1_hasMost : MethodName := ⟨RX1, "hasMost", "(I)Z"⟩
abbrev cX1_tellMost : ByteArray := prog_3_method_25_code
def yX1_tellMost : MethodName := ⟨RX1, "tellMost", "(III)V"⟩
abbrev cX1_putBehind : ByteArray := prog_3_method_26_code
def yX1_putBehind : MethodName := ⟨RX1, "putBehind", "(II)I"⟩
abbrev cX1_bulk : ByteArray := prog_3_method_27_code
def yX1_bulk : MethodName := ⟨RX1, "bulk", "(I)I"⟩
abbrev cX1_bulkAlone : ByteArray := prog_3_method_28_code
def yX1_bulkAlone : MethodName := ⟨RX1, "bulkAlone", "(I)I"⟩
abbrev cX1_load : ByteArray := prog_3_method_29_code
def yX1_load : MethodName := ⟨RX1, "load", "(I)I"⟩
def RX2 : String := "WorldMake$Relations"
def TX2 : u_T := fun k => match k with
  | 0 => ("WorldMake$Relations", "things", "LWorldMake$Things;", true)
  | 1 => ("WorldMake$Relations", "sentences", "LWorldMake$Sentences;", true)
  | 2 => ("WorldMake$Relations", "walk", "LWorldMake$Walk;", true)
  | 3 => ("WorldMake$Relations", "forms", "[I", true)
  | 4 => ("WorldMake$Relations", "rows", "[J", true)
  | 5 => ("WorldMake$Relations", "replayed", "[J", true)
  | _ => ("WorldMake$Relations", "number", "I", false)
def tyX2 : Nat → FieldType := fun k => match k with
  | 0 => .object "WorldMake$Things"
  | 1 => .object "WorldMake$Sentences"
  | 2 => .object "WorldMake$Walk"
  | 3 => .array .int
  | 4 => .array .long
  | 5 => .array .long
  | _ => .int
abbrev wsX20 : List Cond := u_ws RX2 TX2 7
theorem nmX2 : ∀ a, a < 7 → ∀ b, b < 7 → a ≠ b → (TX2 a).2.1 ≠ (TX2 b).2.1 := by decide +kernel
theorem tyX2_ok : ∀ k, k < 7 → parseFieldDescriptor (TX2 k).2.2.1 = some (tyX2 k) := by decide +kernel
abbrev cX2_init : ByteArray := prog_4_method_1_code
def yX2_init : MethodName := ⟨RX2, "<init>", "(LWorldMake$Things;LWorldMake$Sentences;LWorldMake$Walk;)V"⟩
abbrev cX2_add : ByteArray := prog_4_method_2_code
def yX2_add : MethodName := ⟨RX2, "add", "(I)I"⟩
abbrev cX2_has : ByteArray := prog_4_method_3_code
def yX2_has : MethodName := ⟨RX2, "has", "(I)Z"⟩
abbrev cX2_rowOf : ByteArray := prog_4_method_4_code
def yX2_rowOf : MethodName := ⟨RX2, "rowOf", "(II)J"⟩
abbrev cX2_holds : ByteArray := prog_4_method_5_code
def yX2_holds : MethodName := ⟨RX2, "holds", "(III)Z"⟩
abbrev cX2_join : ByteArray := prog_4_method_6_code
def yX2_join : MethodName := ⟨RX2, "join", "(III)V"⟩
abbrev cX2_merge : ByteArray := prog_4_method_7_code
def yX2_merge : MethodName := ⟨RX2, "merge", "([JIII)V"⟩
abbrev cX2_againstRelate : ByteArray := prog_4_method_8_code
def yX2_againstRelate : MethodName := ⟨RX2, "againstRelate", "(III)I"⟩
abbrev cX2_earliestDeny : ByteArray := prog_4_method_9_code
def yX2_earliestDeny : MethodName := ⟨RX2, "earliestDeny", "(III)I"⟩
abbrev cX2_earliestRelate : ByteArray := prog_4_method_10_code
def yX2_earliestRelate : MethodName := ⟨RX2, "earliestRelate", "(III)I"⟩
abbrev cX2_heldBy : ByteArray := prog_4_method_11_code
def yX2_heldBy : MethodName := ⟨RX2, "heldBy", "(III)I"⟩
abbrev cX2_togetherBy : ByteArray := prog_4_method_12_code
def yX2_togetherBy : MethodName := ⟨RX2, "togetherBy", "(III)I"⟩
abbrev cX2_walkFrom : ByteArray := prog_4_method_13_code
def yX2_walkFrom : MethodName := ⟨RX2, "walkFrom", "(II)LWorldMake$Walk;"⟩
abbrev cX2_couples : ByteArray := prog_4_method_14_code
def yX2_couples : MethodName := ⟨RX2, "couples", "(I)I"⟩
def RX3 : String := "WorldMake$Rooms"
def TX3 : u_T := fun k => match k with
  | 0 => ("WorldMake$Rooms", "things", "LWorldMake$Things;", true)
  | 1 => ("WorldMake$Rooms", "walk", "LWorldMake$Walk;", true)
  | 2 => ("WorldMake$Rooms", "sorts", "[I", true)
  | 3 => ("WorldMake$Rooms", "ends", "[I", true)
  | 4 => ("WorldMake$Rooms", "doors", "[I", true)
  | 5 => ("WorldMake$Rooms", "exitIn", "[I", true)
  | _ => ("WorldMake$Rooms", "doorIn", "[I", true)
def tyX3 : Nat → FieldType := fun k => match k with
  | 0 => .object "WorldMake$Things"
  | 1 => .object "WorldMake$Walk"
  | 2 => .array .int
  | 3 => .array .int
  | 4 => .array .int
  | 5 => .array .int
  | _ => .array .int
abbrev wsX30 : List Cond := u_ws RX3 TX3 7
theorem nmX3 : ∀ a, a < 7 → ∀ b, b < 7 → a ≠ b → (TX3 a).2.1 ≠ (TX3 b).2.1 := by decide +kernel
theorem tyX3_ok : ∀ k, k < 7 → parseFieldDescriptor (TX3 k).2.2.1 = some (tyX3 k) := by decide +kernel
abbrev cX3_init : ByteArray := prog_5_method_1_code
def yX3_init : MethodName := ⟨RX3, "<init>", "(LWorldMake$Things;LWorldMake$Walk;)V"⟩
abbrev cX3_begin : ByteArray := prog_5_method_2_code
def yX3_begin : MethodName := ⟨RX3, "begin", "(I)V"⟩
abbrev cX3_write : ByteArray := prog_5_method_3_code
def yX3_write : MethodName := ⟨RX3, "write", "(IIIII)V"⟩
abbrev cX3_sortOf : ByteArray := prog_5_method_4_code
def yX3_sortOf : MethodName := ⟨RX3, "sortOf", "(II)I"⟩
abbrev cX3_leadsTo : ByteArray := prog_5_method_5_code
def yX3_leadsTo : MethodName := ⟨RX3, "leadsTo", "(II)I"⟩
abbrev cX3_isTold : ByteArray := prog_5_method_6_code
def yX3_isTold : MethodName := ⟨RX3, "isTold", "(II)Z"⟩
abbrev cX3_toldIn : ByteArray := prog_5_method_7_code
def yX3_toldIn : MethodName := ⟨RX3, "toldIn", "(II)I"⟩
abbrev cX3_opposite : ByteArray := prog_5_method_8_code
def yX3_opposite : MethodName := ⟨RX3, "opposite", "(I)I"⟩
abbrev cX3_tellExit : ByteArray := prog_5_method_9_code
def yX3_tellExit : MethodName := ⟨RX3, "tellExit", "(IIII)V"⟩
abbrev cX3_againstDoor : ByteArray := prog_5_method_10_code
def yX3_againstDoor : MethodName := ⟨RX3, "againstDoor", "(IIII)I"⟩
abbrev cX3_tellDoor : ByteArray := prog_5_method_11_code
def yX3_tellDoor : MethodName := ⟨RX3, "tellDoor", "(IIIII)V"⟩
abbrev cX3_isPassable : ByteArray := prog_5_method_12_code
def yX3_isPassable : MethodName := ⟨RX3, "isPassable", "(IIZ)Z"⟩
abbrev cX3_walkFrom : ByteArray := prog_5_method_13_code
def yX3_walkFrom : MethodName := ⟨RX3, "walkFrom", "(IZ)LWorldMake$Walk;"⟩
def RX4 : String := "WorldMake$Sentences"
def TX4 : u_T := fun k => match k with
  | 0 => ("WorldMake$Sentences", "sorts", "[I", true)
  | 1 => ("WorldMake$Sentences", "ones", "[I", true)
  | 2 => ("WorldMake$Sentences", "twos", "[I", true)
  | 3 => ("WorldMake$Sentences", "threes", "[I", true)
  | _ => ("WorldMake$Sentences", "number", "I", false)
def tyX4 : Nat → FieldType := fun k => match k with
  | 0 => .array .int
  | 1 => .array .int
  | 2 => .array .int
  | 3 => .array .int
  | _ => .int
abbrev wsX40 : List Cond := u_ws RX4 TX4 5
theorem nmX4 : ∀ a, a < 5 → ∀ b, b < 5 → a ≠ b → (TX4 a).2.1 ≠ (TX4 b).2.1 := by decide +kernel
theorem tyX4_ok : ∀ k, k < 5 → parseFieldDescriptor (TX4 k).2.2.1 = some (tyX4 k) := by decide +kernel
abbrev cX4_init : ByteArray := prog_6_method_1_code
def yX4_init : MethodName := ⟨RX4, "<init>", "()V"⟩
abbrev cX4_areFull : ByteArray := prog_6_method_2_code
def yX4_areFull : MethodName := ⟨RX4, "areFull", "()Z"⟩
abbrev cX4_add : ByteArray := prog_6_method_3_code
def yX4_add : MethodName := ⟨RX4, "add", "(IIII)I"⟩
abbrev cX4_earliest : ByteArray := prog_6_method_4_code
def yX4_earliest : MethodName := ⟨RX4, "earliest", "(IIII)I"⟩
def RX5 : String := "WorldMake$Settler"
def TX5 : u_T := fun k => match k with
  | 0 => ("WorldMake$Settler", "things", "LWorldMake$Things;", true)
  | 1 => ("WorldMake$Settler", "places", "LWorldMake$Places;", true)
  | 2 => ("WorldMake$Settler", "unsettled", "[I", true)
  | _ => ("WorldMake$Settler", "number", "I", false)
def tyX5 : Nat → FieldType := fun k => match k with
  | 0 => .object "WorldMake$Things"
  | 1 => .object "WorldMake$Places"
  | 2 => .array .int
  | _ => .int
abbrev wsX50 : List Cond := u_ws RX5 TX5 4
theorem nmX5 : ∀ a, a < 4 → ∀ b, b < 4 → a ≠ b → (TX5 a).2.1 ≠ (TX5 b).2.1 := by decide +kernel
theorem tyX5_ok : ∀ k, k < 4 → parseFieldDescriptor (TX5 k).2.2.1 = some (tyX5 k) := by decide +kernel
abbrev cX5_init : ByteArray := prog_7_method_1_code
def yX5_init : MethodName := ⟨RX5, "<init>", "(LWorldMake$Things;LWorldMake$Places;)V"⟩
abbrev cX5_ways : ByteArray := prog_7_method_2_code
def yX5_ways : MethodName := ⟨RX5, "ways", "()I"⟩
abbrev cX5_thingAt : ByteArray := prog_7_method_3_code
def yX5_thingAt : MethodName := ⟨RX5, "thingAt", "(I)I"⟩
abbrev cX5_takeLeastWay : ByteArray := prog_7_method_4_code
def yX5_takeLeastWay : MethodName := ⟨RX5, "takeLeastWay", "(I)Z"⟩
abbrev cX5_layFrom : ByteArray := prog_7_method_5_code
def yX5_layFrom : MethodName := ⟨RX5, "layFrom", "(II)Z"⟩
abbrev cX5_lets : ByteArray := prog_7_method_6_code
def yX5_lets : MethodName := ⟨RX5, "lets", "(II)Z"⟩
def RX6 : String := "WorldMake$Shelf"
def TX6 : u_T := fun k => match k with
  | 0 => ("WorldMake$Shelf", "standing", "[I", true)
  | 1 => ("WorldMake$Shelf", "base", "I", false)
  | _ => ("WorldMake$Shelf", "length", "I", false)
def tyX6 : Nat → FieldType := fun k => match k with
  | 0 => .array .int
  | 1 => .int
  | _ => .int
abbrev wsX60 : List Cond := u_ws RX6 TX6 3
theorem nmX6 : ∀ a, a < 3 → ∀ b, b < 3 → a ≠ b → (TX6 a).2.1 ≠ (TX6 b).2.1 := by decide +kernel
theorem tyX6_ok : ∀ k, k < 3 → parseFieldDescriptor (TX6 k).2.2.1 = some (tyX6 k) := by decide +kernel
abbrev cX6_init : ByteArray := prog_8_method_1_code
def yX6_init : MethodName := ⟨RX6, "<init>", "()V"⟩
abbrev cX6_begin : ByteArray := prog_8_method_2_code
def yX6_begin : MethodName := ⟨RX6, "begin", "(II)V"⟩
abbrev cX6_spans : ByteArray := prog_8_method_3_code
def yX6_spans : MethodName := ⟨RX6, "spans", "(II)Z"⟩
def RX7 : String := "WorldMake$Table"
def TX7 : u_T := fun k => match k with
  | 0 => ("WorldMake$Table", "cells", "[J", true)
  | 1 => ("WorldMake$Table", "filled", "[Z", true)
  | 2 => ("WorldMake$Table", "lanes", "[I", true)
  | 3 => ("WorldMake$Table", "origins", "[I", true)
  | 4 => ("WorldMake$Table", "rows", "I", false)
  | _ => ("WorldMake$Table", "columns", "I", false)
def tyX7 : Nat → FieldType := fun k => match k with
  | 0 => .array .long
  | 1 => .array .boolean
  | 2 => .array .int
  | 3 => .array .int
  | 4 => .int
  | _ => .int
abbrev wsX70 : List Cond := u_ws RX7 TX7 6
theorem nmX7 : ∀ a, a < 6 → ∀ b, b < 6 → a ≠ b → (TX7 a).2.1 ≠ (TX7 b).2.1 := by decide +kernel
theorem tyX7_ok : ∀ k, k < 6 → parseFieldDescriptor (TX7 k).2.2.1 = some (tyX7 k) := by decide +kernel
abbrev cX7_init : ByteArray := prog_9_method_1_code
def yX7_init : MethodName := ⟨RX7, "<init>", "()V"⟩
abbrev cX7_begin : ByteArray := prog_9_method_2_code
def yX7_begin : MethodName := ⟨RX7, "begin", "(III)V"⟩
abbrev cX7_hasCell : ByteArray := prog_9_method_3_code
def yX7_hasCell : MethodName := ⟨RX7, "hasCell", "(II)Z"⟩
abbrev cX7_isBlank : ByteArray := prog_9_method_4_code
def yX7_isBlank : MethodName := ⟨RX7, "isBlank", "(II)Z"⟩
abbrev cX7_told : ByteArray := prog_9_method_5_code
def yX7_told : MethodName := ⟨RX7, "told", "(II)J"⟩
abbrev cX7_write : ByteArray := prog_9_method_6_code
def yX7_write : MethodName := ⟨RX7, "write", "(IIJ)V"⟩
abbrev cX7_wipe : ByteArray := prog_9_method_7_code
def yX7_wipe : MethodName := ⟨RX7, "wipe", "(II)Z"⟩
abbrev cX7_rowWith : ByteArray := prog_9_method_8_code
def yX7_rowWith : MethodName := ⟨RX7, "rowWith", "(IJI)I"⟩
abbrev cX7_order : ByteArray := prog_9_method_9_code
def yX7_order : MethodName := ⟨RX7, "order", "(IZ)I"⟩
abbrev cX7_isAhead : ByteArray := prog_9_method_10_code
def yX7_isAhead : MethodName := ⟨RX7, "isAhead", "(IIIZ)Z"⟩
abbrev cX7_swap : ByteArray := prog_9_method_11_code
def yX7_swap : MethodName := ⟨RX7, "swap", "(II)V"⟩
abbrev cX7_sum : ByteArray := prog_9_method_12_code
def yX7_sum : MethodName := ⟨RX7, "sum", "(I)J"⟩
abbrev cX7_filledIn : ByteArray := prog_9_method_13_code
def yX7_filledIn : MethodName := ⟨RX7, "filledIn", "(I)I"⟩
def RX8 : String := "WorldMake$Things"
def TX8 : u_T := fun k => match k with
  | 0 => ("WorldMake$Things", "kinds", "LWorldMake$Kinds;", true)
  | 1 => ("WorldMake$Things", "kindOf", "[I", true)
  | 2 => ("WorldMake$Things", "bases", "[I", true)
  | 3 => ("WorldMake$Things", "sizes", "[I", true)
  | 4 => ("WorldMake$Things", "marks", "[I", true)
  | 5 => ("WorldMake$Things", "ownMarks", "[I", true)
  | 6 => ("WorldMake$Things", "opened", "[Z", true)
  | _ => ("WorldMake$Things", "number", "I", false)
def tyX8 : Nat → FieldType := fun k => match k with
  | 0 => .object "WorldMake$Kinds"
  | 1 => .array .int
  | 2 => .array .int
  | 3 => .array .int
  | 4 => .array .int
  | 5 => .array .int
  | 6 => .array .boolean
  | _ => .int
abbrev wsX80 : List Cond := u_ws RX8 TX8 8
theorem nmX8 : ∀ a, a < 8 → ∀ b, b < 8 → a ≠ b → (TX8 a).2.1 ≠ (TX8 b).2.1 := by decide +kernel
theorem tyX8_ok : ∀ k, k < 8 → parseFieldDescriptor (TX8 k).2.2.1 = some (tyX8 k) := by decide +kernel
abbrev cX8_init : ByteArray := prog_10_method_1_code
def yX8_init : MethodName := ⟨RX8, "<init>", "(LWorldMake$Kinds;)V"⟩
abbrev cX8_add : ByteArray := prog_10_method_2_code
def yX8_add : MethodName := ⟨RX8, "add", "(II)I"⟩
abbrev cX8_has : ByteArray := prog_10_method_3_code
def yX8_has : MethodName := ⟨RX8, "has", "(J)Z"⟩
abbrev cX8_all : ByteArray := prog_10_method_4_code
def yX8_all : MethodName := ⟨RX8, "all", "()J"⟩
abbrev cX8_holders : ByteArray := prog_10_method_5_code
def yX8_holders : MethodName := ⟨RX8, "holders", "()J"⟩
abbrev cX8_isRoom : ByteArray := prog_10_method_6_code
def yX8_isRoom : MethodName := ⟨RX8, "isRoom", "(I)Z"⟩
abbrev cX8_haveRoom : ByteArray := prog_10_method_7_code
def yX8_haveRoom : MethodName := ⟨RX8, "haveRoom", "()Z"⟩
abbrev cX8_isCarrier : ByteArray := prog_10_method_8_code
def yX8_isCarrier : MethodName := ⟨RX8, "isCarrier", "(I)Z"⟩
abbrev cX8_isHolder : ByteArray := prog_10_method_9_code
def yX8_isHolder : MethodName := ⟨RX8, "isHolder", "(I)Z"⟩
abbrev cX8_hasLid : ByteArray := prog_10_method_10_code
def yX8_hasLid : MethodName := ⟨RX8, "hasLid", "(I)Z"⟩
abbrev cX8_isFixed : ByteArray := prog_10_method_11_code
def yX8_isFixed : MethodName := ⟨RX8, "isFixed", "(I)Z"⟩
abbrev cX8_liesInOne : ByteArray := prog_10_method_12_code
def yX8_liesInOne : MethodName := ⟨RX8, "liesInOne", "(I)Z"⟩
abbrev cX8_mayLieIn : ByteArray := prog_10_method_13_code
def yX8_mayLieIn : MethodName := ⟨RX8, "mayLieIn", "(II)Z"⟩
abbrev cX8_worth : ByteArray := prog_10_method_14_code
def yX8_worth : MethodName := ⟨RX8, "worth", "(I)I"⟩
abbrev cX8_lid : ByteArray := prog_10_method_15_code
def yX8_lid : MethodName := ⟨RX8, "lid", "(I)I"⟩
def RX9 : String := "WorldMake$Values"
def TX9 : u_T := fun k => match k with
  | 0 => ("WorldMake$Values", "kinds", "LWorldMake$Kinds;", true)
  | 1 => ("WorldMake$Values", "things", "LWorldMake$Things;", true)
  | 2 => ("WorldMake$Values", "owners", "[I", true)
  | 3 => ("WorldMake$Values", "lanes", "[I", true)
  | 4 => ("WorldMake$Values", "takenBases", "[I", true)
  | 5 => ("WorldMake$Values", "usuals", "[J", true)
  | 6 => ("WorldMake$Values", "hasUsual", "[Z", true)
  | 7 => ("WorldMake$Values", "givens", "[J", true)
  | 8 => ("WorldMake$Values", "givenIn", "[I", true)
  | _ => ("WorldMake$Values", "number", "I", false)
def tyX9 : Nat → FieldType := fun k => match k with
  | 0 => .object "WorldMake$Kinds"
  | 1 => .object "WorldMake$Things"
  | 2 => .array .int
  | 3 => .array .int
  | 4 => .array .int
  | 5 => .array .long
  | 6 => .array .boolean
  | 7 => .array .long
  | 8 => .array .int
  | _ => .int
abbrev wsX90 : List Cond := u_ws RX9 TX9 10
theorem nmX9 : ∀ a, a < 10 → ∀ b, b < 10 → a ≠ b → (TX9 a).2.1 ≠ (TX9 b).2.1 := by decide +kernel
theorem tyX9_ok : ∀ k, k < 10 → parseFieldDescriptor (TX9 k).2.2.1 = some (tyX9 k) := by decide +kernel
abbrev cX9_init : ByteArray := prog_11_method_1_code
def yX9_init : MethodName := ⟨RX9, "<init>", "(LWorldMake$Kinds;LWorldMake$Things;)V"⟩
abbrev cX9_add : ByteArray := prog_11_method_2_code
def yX9_add : MethodName := ⟨RX9, "add", "(III)I"⟩
abbrev cX9_has : ByteArray := prog_11_method_3_code
def yX9_has : MethodName := ⟨RX9, "has", "(I)Z"⟩
abbrev cX9_emptyCell : ByteArray := prog_11_method_4_code
def yX9_emptyCell : MethodName := ⟨RX9, "emptyCell", "(I)J"⟩
abbrev cX9_knows : ByteArray := prog_11_method_5_code
def yX9_knows : MethodName := ⟨RX9, "knows", "(IJ)Z"⟩
abbrev cX9_takes : ByteArray := prog_11_method_6_code
def yX9_takes : MethodName := ⟨RX9, "takes", "(IJ)Z"⟩
abbrev cX9_isFor : ByteArray := prog_11_method_7_code
def yX9_isFor : MethodName := ⟨RX9, "isFor", "(II)Z"⟩
abbrev cX9_tellUsual : ByteArray := prog_11_method_8_code
def yX9_tellUsual : MethodName := ⟨RX9, "tellUsual", "(IIJ)V"⟩
abbrev cX9_tellGiven : ByteArray := prog_11_method_9_code
def yX9_tellGiven : MethodName := ⟨RX9, "tellGiven", "(IIJI)V"⟩
abbrev cX9_givenBy : ByteArray := prog_11_method_10_code
def yX9_givenBy : MethodName := ⟨RX9, "givenBy", "(II)I"⟩
abbrev cX9_givenCell : ByteArray := prog_11_method_11_code
def yX9_givenCell : MethodName := ⟨RX9, "givenCell", "(II)J"⟩
abbrev cX9_isGivenOtherwise : ByteArray := prog_11_method_12_code
def yX9_isGivenOtherwise : MethodName := ⟨RX9, "isGivenOtherwise", "(IIJ)Z"⟩
abbrev cX9_valueOf : ByteArray := prog_11_method_13_code
def yX9_valueOf : MethodName := ⟨RX9, "valueOf", "(II)J"⟩
def RX10 : String := "WorldMake$Walk"
def TX10 : u_T := fun k => match k with
  | 0 => ("WorldMake$Walk", "far", "[I", true)
  | 1 => ("WorldMake$Walk", "heads", "[I", true)
  | 2 => ("WorldMake$Walk", "reached", "[I", true)
  | _ => ("WorldMake$Walk", "number", "I", false)
def tyX10 : Nat → FieldType := fun k => match k with
  | 0 => .array .int
  | 1 => .array .int
  | 2 => .array .int
  | _ => .int
abbrev wsX100 : List Cond := u_ws RX10 TX10 4
theorem nmX10 : ∀ a, a < 4 → ∀ b, b < 4 → a ≠ b → (TX10 a).2.1 ≠ (TX10 b).2.1 := by decide +kernel
theorem tyX10_ok : ∀ k, k < 4 → parseFieldDescriptor (TX10 k).2.2.1 = some (tyX10 k) := by decide +kernel
abbrev cX10_init : ByteArray := prog_12_method_1_code
def yX10_init : MethodName := ⟨RX10, "<init>", "()V"⟩
abbrev cX10_begin : ByteArray := prog_12_method_2_code
def yX10_begin : MethodName := ⟨RX10, "begin", "(I)V"⟩
abbrev cX10_step : ByteArray := prog_12_method_3_code
def yX10_step : MethodName := ⟨RX10, "step", "(III)V"⟩
def RX11 : String := "WorldMake"
def TX11 : u_T := fun k => match k with
  | 0 => ("WorldMake", "kinds", "LWorldMake$Kinds;", true)
  | 1 => ("WorldMake", "things", "LWorldMake$Things;", true)
  | 2 => ("WorldMake", "values", "LWorldMake$Values;", true)
  | 3 => ("WorldMake", "sentences", "LWorldMake$Sentences;", true)
  | 4 => ("WorldMake", "places", "LWorldMake$Places;", true)
  | 5 => ("WorldMake", "settler", "LWorldMake$Settler;", true)
  | 6 => ("WorldMake", "relations", "LWorldMake$Relations;", true)
  | 7 => ("WorldMake", "rooms", "LWorldMake$Rooms;", true)
  | 8 => ("WorldMake", "shelves", "[LWorldMake$Shelf;", true)
  | 9 => ("WorldMake", "tables", "[LWorldMake$Table;", true)
  | 10 => ("WorldMake", "hauled", "[I", true)
  | 11 => ("WorldMake", "words", "[I", true)
  | 12 => ("WorldMake", "shelfCount", "I", false)
  | 13 => ("WorldMake", "tableCount", "I", false)
  | 14 => ("WorldMake", "wordCount", "I", false)
  | 15 => ("WorldMake", "latestFault", "I", false)
  | _ => ("WorldMake", "latestCame", "I", false)
def tyX11 : Nat → FieldType := fun k => match k with
  | 0 => .object "WorldMake$Kinds"
  | 1 => .object "WorldMake$Things"
  | 2 => .object "WorldMake$Values"
  | 3 => .object "WorldMake$Sentences"
  | 4 => .object "WorldMake$Places"
  | 5 => .object "WorldMake$Settler"
  | 6 => .object "WorldMake$Relations"
  | 7 => .object "WorldMake$Rooms"
  | 8 => .array (.object "WorldMake$Shelf")
  | 9 => .array (.object "WorldMake$Table")
  | 10 => .array .int
  | 11 => .array .int
  | 12 => .int
  | 13 => .int
  | 14 => .int
  | 15 => .int
  | _ => .int
abbrev wsX110 : List Cond := u_ws RX11 TX11 17
theorem nmX11 : ∀ a, a < 17 → ∀ b, b < 17 → a ≠ b → (TX11 a).2.1 ≠ (TX11 b).2.1 := by decide +kernel
theorem tyX11_ok : ∀ k, k < 17 → parseFieldDescriptor (TX11 k).2.2.1 = some (tyX11 k) := by decide +kernel
abbrev cX11_init : ByteArray := prog_1_method_1_code
def yX11_init : MethodName := ⟨RX11, "<init>", "()V"⟩
abbrev cX11_beginAnew : ByteArray := prog_1_method_2_code
def yX11_beginAnew : MethodName := ⟨RX11, "beginAnew", "()V"⟩
abbrev cX11_faulted : ByteArray := prog_1_method_3_code
def yX11_faulted : MethodName := ⟨RX11, "faulted", "(I)I"⟩
abbrev cX11_against : ByteArray := prog_1_method_4_code
def yX11_against : MethodName := ⟨RX11, "against", "(I)I"⟩
abbrev cX11_inRange : ByteArray := prog_1_method_5_code
def yX11_inRange : MethodName := ⟨RX11, "inRange", "(II)Z"⟩
abbrev cX11_kind : ByteArray := prog_1_method_6_code
def yX11_kind : MethodName := ⟨RX11, "kind", "(I)I"⟩
abbrev cX11_is : ByteArray := prog_1_method_7_code
def yX11_is : MethodName := ⟨RX11, "is", "(II)I"⟩
abbrev cX11_property : ByteArray := prog_1_method_8_code
def yX11_property : MethodName := ⟨RX11, "property", "(III)I"⟩
abbrev cX11_usual : ByteArray := prog_1_method_9_code
def yX11_usual : MethodName := ⟨RX11, "usual", "(IIJ)I"⟩
abbrev cX11_thing : ByteArray := prog_1_method_10_code
def yX11_thing : MethodName := ⟨RX11, "thing", "(II)I"⟩
abbrev cX11_put : ByteArray := prog_1_method_11_code
def yX11_put : MethodName := ⟨RX11, "put", "(II)I"⟩
abbrev cX11_bar : ByteArray := prog_1_method_12_code
def yX11_bar : MethodName := ⟨RX11, "bar", "(II)I"⟩
abbrev cX11_give : ByteArray := prog_1_method_13_code
def yX11_give : MethodName := ⟨RX11, "give", "(IIJ)I"⟩
abbrev cX11_value : ByteArray := prog_1_method_14_code
def yX11_value : MethodName := ⟨RX11, "value", "(II)J"⟩
abbrev cX11_given : ByteArray := prog_1_method_15_code
def yX11_given : MethodName := ⟨RX11, "given", "(II)I"⟩
abbrev cX11_peek : ByteArray := prog_1_method_16_code
def yX11_peek : MethodName := ⟨RX11, "peek", "(III)J"⟩
abbrev cX11_place : ByteArray := prog_1_method_17_code
def yX11_place : MethodName := ⟨RX11, "place", "(II)I"⟩
abbrev cX11_says : ByteArray := prog_1_method_18_code
def yX11_says : MethodName := ⟨RX11, "says", "(II)I"⟩
abbrev cX11_saying : ByteArray := prog_1_method_19_code
def yX11_saying : MethodName := ⟨RX11, "saying", "(II)I"⟩
abbrev cX11_stride : ByteArray := prog_1_method_20_code
def yX11_stride : MethodName := ⟨RX11, "stride", "(I)I"⟩
abbrev cX11_follow : ByteArray := prog_1_method_21_code
def yX11_follow : MethodName := ⟨RX11, "follow", "(III)I"⟩
abbrev cX11_mark : ByteArray := prog_1_method_22_code
def yX11_mark : MethodName := ⟨RX11, "mark", "(II)I"⟩
abbrev cX11_remark : ByteArray := prog_1_method_23_code
def yX11_remark : MethodName := ⟨RX11, "remark", "(III)I"⟩
abbrev cX11_open : ByteArray := prog_1_method_24_code
def yX11_open : MethodName := ⟨RX11, "open", "(IZ)I"⟩
abbrev cX11_among : ByteArray := prog_1_method_25_code
def yX11_among : MethodName := ⟨RX11, "among", "(IJ)I"⟩
abbrev cX11_pair : ByteArray := prog_1_method_26_code
def yX11_pair : MethodName := ⟨RX11, "pair", "(IIZ)I"⟩
abbrev cX11_most : ByteArray := prog_1_method_27_code
def yX11_most : MethodName := ⟨RX11, "most", "(II)I"⟩
abbrev cX11_settle : ByteArray := prog_1_method_28_code
def yX11_settle : MethodName := ⟨RX11, "settle", "()I"⟩
abbrev cX11_set : ByteArray := prog_1_method_29_code
def yX11_set : MethodName := ⟨RX11, "set", "(I)J"⟩
abbrev cX11_relation : ByteArray := prog_1_method_30_code
def yX11_relation : MethodName := ⟨RX11, "relation", "(I)I"⟩
abbrev cX11_relate : ByteArray := prog_1_method_31_code
def yX11_relate : MethodName := ⟨RX11, "relate", "(III)I"⟩
abbrev cX11_deny : ByteArray := prog_1_method_32_code
def yX11_deny : MethodName := ⟨RX11, "deny", "(III)I"⟩
abbrev cX11_related : ByteArray := prog_1_method_33_code
def yX11_related : MethodName := ⟨RX11, "related", "(III)I"⟩
abbrev cX11_along : ByteArray := prog_1_method_34_code
def yX11_along : MethodName := ⟨RX11, "along", "(III)I"⟩
abbrev cX11_next : ByteArray := prog_1_method_35_code
def yX11_next : MethodName := ⟨RX11, "next", "(III)I"⟩
abbrev cX11_areRelatable : ByteArray := prog_1_method_36_code
def yX11_areRelatable : MethodName := ⟨RX11, "areRelatable", "(III)Z"⟩
abbrev cX11_exit : ByteArray := prog_1_method_37_code
def yX11_exit : MethodName := ⟨RX11, "exit", "(III)I"⟩
abbrev cX11_door : ByteArray := prog_1_method_38_code
def yX11_door : MethodName := ⟨RX11, "door", "(IIII)I"⟩
abbrev cX11_leads : ByteArray := prog_1_method_39_code
def yX11_leads : MethodName := ⟨RX11, "leads", "(II)I"⟩
abbrev cX11_sort : ByteArray := prog_1_method_40_code
def yX11_sort : MethodName := ⟨RX11, "sort", "(II)I"⟩
abbrev cX11_route : ByteArray := prog_1_method_41_code
def yX11_route : MethodName := ⟨RX11, "route", "(IIZ)I"⟩
abbrev cX11_first : ByteArray := prog_1_method_42_code
def yX11_first : MethodName := ⟨RX11, "first", "(IIZ)I"⟩
abbrev cX11_shelf : ByteArray := prog_1_method_43_code
def yX11_shelf : MethodName := ⟨RX11, "shelf", "(II)I"⟩
abbrev cX11_stand : ByteArray := prog_1_method_44_code
def yX11_stand : MethodName := ⟨RX11, "stand", "(III)I"⟩
abbrev cX11_shelfTakes : ByteArray := prog_1_method_45_code
def yX11_shelfTakes : MethodName := ⟨RX11, "shelfTakes", "(LWorldMake$Shelf;I)Z"⟩
abbrev cX11_stands : ByteArray := prog_1_method_46_code
def yX11_stands : MethodName := ⟨RX11, "stands", "(II)I"⟩
abbrev cX11_haul : ByteArray := prog_1_method_47_code
def yX11_haul : MethodName := ⟨RX11, "haul", "(IIIII)I"⟩
abbrev cX11_came : ByteArray := prog_1_method_48_code
def yX11_came : MethodName := ⟨RX11, "came", "()I"⟩
abbrev cX11_table : ByteArray := prog_1_method_49_code
def yX11_table : MethodName := ⟨RX11, "table", "(III)I"⟩
abbrev cX11_areLanes : ByteArray := prog_1_method_50_code
def yX11_areLanes : MethodName := ⟨RX11, "areLanes", "(II)Z"⟩
abbrev cX11_fill : ByteArray := prog_1_method_51_code
def yX11_fill : MethodName := ⟨RX11, "fill", "(IIIJ)I"⟩
abbrev cX11_blank : ByteArray := prog_1_method_52_code
def yX11_blank : MethodName := ⟨RX11, "blank", "(III)I"⟩
abbrev cX11_read : ByteArray := prog_1_method_53_code
def yX11_read : MethodName := ⟨RX11, "read", "(III)J"⟩
abbrev cX11_choose : ByteArray := prog_1_method_54_code
def yX11_choose : MethodName := ⟨RX11, "choose", "(IIJI)I"⟩
abbrev cX11_rank : ByteArray := prog_1_method_55_code
def yX11_rank : MethodName := ⟨RX11, "rank", "(IIZ)I"⟩
abbrev cX11_total : ByteArray := prog_1_method_56_code
def yX11_total : MethodName := ⟨RX11, "total", "(II)J"⟩
abbrev cX11_mean : ByteArray := prog_1_method_57_code
def yX11_mean : MethodName := ⟨RX11, "mean", "(II)J"⟩
abbrev cX11_make : ByteArray := prog_1_method_58_code
def yX11_make : MethodName := ⟨RX11, "make", "()I"⟩
abbrev cX11_addWord : ByteArray := prog_1_method_59_code
def yX11_addWord : MethodName := ⟨RX11, "addWord", "(I)V"⟩
abbrev cX11_addWordsOfThing : ByteArray := prog_1_method_60_code
def yX11_addWordsOfThing : MethodName := ⟨RX11, "addWordsOfThing", "(I)V"⟩
abbrev cX11_addWordsOfRoom : ByteArray := prog_1_method_61_code
def yX11_addWordsOfRoom : MethodName := ⟨RX11, "addWordsOfRoom", "(I)V"⟩
abbrev cX11_word : ByteArray := prog_1_method_62_code
def yX11_word : MethodName := ⟨RX11, "word", "(I)I"⟩
abbrev cX11_digest : ByteArray := prog_1_method_63_code
def yX11_digest : MethodName := ⟨RX11, "digest", "()J"⟩
abbrev cX11_sentence : ByteArray := prog_1_method_64_code
def yX11_sentence : MethodName := ⟨RX11, "sentence", "(II)I"⟩
abbrev cX11_count : ByteArray := prog_1_method_65_code
def yX11_count : MethodName := ⟨RX11, "count", "(I)I"⟩
abbrev cX11_fault : ByteArray := prog_1_method_66_code
def yX11_fault : MethodName := ⟨RX11, "fault", "()I"⟩
abbrev cX11_clear : ByteArray := prog_1_method_67_code
def yX11_clear : MethodName := ⟨RX11, "clear", "()I"⟩
abbrev cX11_bit : ByteArray := prog_1_method_68_code
def yX11_bit : MethodName := ⟨RX11, "bit", "(I)J"⟩
abbrev cX11_toldBy : ByteArray := prog_1_method_69_code
def yX11_toldBy : MethodName := ⟨RX11, "toldBy", "(IJ)J"⟩
def RX12 : String := "WorldMakeModel"
def TX12 : u_T := fun k => match k with
  | 0 => ("WorldMakeModel", "latest", "I", false)
  | 1 => ("WorldMakeModel", "kinds", "I", false)
  | 2 => ("WorldMakeModel", "parent", "[I", true)
  | 3 => ("WorldMakeModel", "properties", "I", false)
  | 4 => ("WorldMakeModel", "ofKind", "[I", true)
  | 5 => ("WorldMakeModel", "lane", "[I", true)
  | 6 => ("WorldMakeModel", "wants", "[I", true)
  | 7 => ("WorldMakeModel", "isUsual", "[Z", true)
  | 8 => ("WorldMakeModel", "usual", "[J", true)
  | 9 => ("WorldMakeModel", "things", "I", false)
  | 10 => ("WorldMakeModel", "kindOf", "[I", true)
  | 11 => ("WorldMakeModel", "size", "[I", true)
  | 12 => ("WorldMakeModel", "mark", "[I", true)
  | 13 => ("WorldMakeModel", "ownMark", "[I", true)
  | 14 => ("WorldMakeModel", "isOpen", "[Z", true)
  | 15 => ("WorldMakeModel", "holder", "[I", true)
  | 16 => ("WorldMakeModel", "holderBy", "[I", true)
  | 17 => ("WorldMakeModel", "holders", "[I", true)
  | 18 => ("WorldMakeModel", "sets", "[J", true)
  | 19 => ("WorldMakeModel", "mostBy", "[I", true)
  | 20 => ("WorldMakeModel", "givenBy", "[I", true)
  | 21 => ("WorldMakeModel", "given", "[J", true)
  | 22 => ("WorldMakeModel", "sentences", "I", false)
  | 23 => ("WorldMakeModel", "sort", "[I", true)
  | 24 => ("WorldMakeModel", "one", "[I", true)
  | 25 => ("WorldMakeModel", "two", "[I", true)
  | 26 => ("WorldMakeModel", "three", "[I", true)
  | 27 => ("WorldMakeModel", "pairs", "I", false)
  | 28 => ("WorldMakeModel", "way", "[I", true)
  | 29 => ("WorldMakeModel", "relations", "I", false)
  | 30 => ("WorldMakeModel", "form", "[I", true)
  | 31 => ("WorldMakeModel", "group", "[I", true)
  | 32 => ("WorldMakeModel", "far", "[I", true)
  | 33 => ("WorldMakeModel", "line", "[I", true)
  | 34 => ("WorldMakeModel", "couple", "[Z", true)
  | 35 => ("WorldMakeModel", "exitSort", "[I", true)
  | 36 => ("WorldMakeModel", "exitTo", "[I", true)
  | 37 => ("WorldMakeModel", "exitBy", "[I", true)
  | 38 => ("WorldMakeModel", "exitDoor", "[I", true)
  | 39 => ("WorldMakeModel", "shelves", "I", false)
  | 40 => ("WorldMakeModel", "shelfBase", "[I", true)
  | 41 => ("WorldMakeModel", "shelfMany", "[I", true)
  | 42 => ("WorldMakeModel", "stood", "[I", true)
  | 43 => ("WorldMakeModel", "hand", "[I", true)
  | 44 => ("WorldMakeModel", "came", "I", false)
  | 45 => ("WorldMakeModel", "tables", "I", false)
  | 46 => ("WorldMakeModel", "rows", "[I", true)
  | 47 => ("WorldMakeModel", "columns", "[I", true)
  | 48 => ("WorldMakeModel", "columnLane", "[I", true)
  | 49 => ("WorldMakeModel", "isBlank", "[Z", true)
  | 50 => ("WorldMakeModel", "cells", "[J", true)
  | 51 => ("WorldMakeModel", "reals", "[D", true)
  | 52 => ("WorldMakeModel", "order", "[I", true)
  | 53 => ("WorldMakeModel", "wasBlank", "[Z", true)
  | 54 => ("WorldMakeModel", "wereCells", "[J", true)
  | 55 => ("WorldMakeModel", "wereReals", "[D", true)
  | 56 => ("WorldMakeModel", "words", "I", false)
  | _ => ("WorldMakeModel", "word", "[I", true)
def tyX12 : Nat → FieldType := fun k => match k with
  | 0 => .int
  | 1 => .int
  | 2 => .array .int
  | 3 => .int
  | 4 => .array .int
  | 5 => .array .int
  | 6 => .array .int
  | 7 => .array .boolean
  | 8 => .array .long
  | 9 => .int
  | 10 => .array .int
  | 11 => .array .int
  | 12 => .array .int
  | 13 => .array .int
  | 14 => .array .boolean
  | 15 => .array .int
  | 16 => .array .int
  | 17 => .array .int
  | 18 => .array .long
  | 19 => .array .int
  | 20 => .array .int
  | 21 => .array .long
  | 22 => .int
  | 23 => .array .int
  | 24 => .array .int
  | 25 => .array .int
  | 26 => .array .int
  | 27 => .int
  | 28 => .array .int
  | 29 => .int
  | 30 => .array .int
  | 31 => .array .int
  | 32 => .array .int
  | 33 => .array .int
  | 34 => .array .boolean
  | 35 => .array .int
  | 36 => .array .int
  | 37 => .array .int
  | 38 => .array .int
  | 39 => .int
  | 40 => .array .int
  | 41 => .array .int
  | 42 => .array .int
  | 43 => .array .int
  | 44 => .int
  | 45 => .int
  | 46 => .array .int
  | 47 => .array .int
  | 48 => .array .int
  | 49 => .array .boolean
  | 50 => .array .long
  | 51 => .array .double
  | 52 => .array .int
  | 53 => .array .boolean
  | 54 => .array .long
  | 55 => .array .double
  | 56 => .int
  | _ => .array .int
abbrev wsX120 : List Cond := u_ws RX12 TX12 58
theorem nmX12 : ∀ a, a < 58 → ∀ b, b < 58 → a ≠ b → (TX12 a).2.1 ≠ (TX12 b).2.1 := by decide +kernel
theorem tyX12_ok : ∀ k, k < 58 → parseFieldDescriptor (TX12 k).2.2.1 = some (tyX12 k) := by decide +kernel
abbrev cX12_init : ByteArray := prog_14_method_1_code
def yX12_init : MethodName := ⟨RX12, "<init>", "()V"⟩
abbrev cX12_in : ByteArray := prog_14_method_3_code
def yX12_in : MethodName := ⟨RX12, "in", "(JJJ)Z"⟩
abbrev cX12_faulty : ByteArray := prog_14_method_4_code
def yX12_faulty : MethodName := ⟨RX12, "faulty", "(I)I"⟩
abbrev cX12_begin : ByteArray := prog_14_method_5_code
def yX12_begin : MethodName := ⟨RX12, "begin", "()V"⟩
abbrev cX12_isKind : ByteArray := prog_14_method_6_code
def yX12_isKind : MethodName := ⟨RX12, "isKind", "(I)Z"⟩
abbrev cX12_isProperty : ByteArray := prog_14_method_7_code
def yX12_isProperty : MethodName := ⟨RX12, "isProperty", "(I)Z"⟩
abbrev cX12_comesTo : ByteArray := prog_14_method_8_code
def yX12_comesTo : MethodName := ⟨RX12, "comesTo", "(II)Z"⟩
abbrev cX12_baseOf : ByteArray := prog_14_method_9_code
def yX12_baseOf : MethodName := ⟨RX12, "baseOf", "(I)I"⟩
abbrev cX12_kind : ByteArray := prog_14_method_10_code
def yX12_kind : MethodName := ⟨RX12, "kind", "(I)I"⟩
abbrev cX12_is : ByteArray := prog_14_method_11_code
def yX12_is : MethodName := ⟨RX12, "is", "(II)I"⟩
abbrev cX12_property : ByteArray := prog_14_method_12_code
def yX12_property : MethodName := ⟨RX12, "property", "(III)I"⟩
abbrev cX12_cell : ByteArray := prog_14_method_13_code
def yX12_cell : MethodName := ⟨RX12, "cell", "(IJ)J"⟩
abbrev cX12_isUnknown : ByteArray := prog_14_method_14_code
def yX12_isUnknown : MethodName := ⟨RX12, "isUnknown", "(IJ)Z"⟩
abbrev cX12_isStored : ByteArray := prog_14_method_15_code
def yX12_isStored : MethodName := ⟨RX12, "isStored", "(IJ)Z"⟩
abbrev cX12_usual : ByteArray := prog_14_method_16_code
def yX12_usual : MethodName := ⟨RX12, "usual", "(IIJ)I"⟩
abbrev cX12_isThing : ByteArray := prog_14_method_17_code
def yX12_isThing : MethodName := ⟨RX12, "isThing", "(J)Z"⟩
abbrev cX12_base : ByteArray := prog_14_method_18_code
def yX12_base : MethodName := ⟨RX12, "base", "(I)I"⟩
abbrev cX12_isCarrier : ByteArray := prog_14_method_19_code
def yX12_isCarrier : MethodName := ⟨RX12, "isCarrier", "(I)Z"⟩
abbrev cX12_isHolder : ByteArray := prog_14_method_20_code
def yX12_isHolder : MethodName := ⟨RX12, "isHolder", "(I)Z"⟩
abbrev cX12_isFixed : ByteArray := prog_14_method_21_code
def yX12_isFixed : MethodName := ⟨RX12, "isFixed", "(I)Z"⟩
abbrev cX12_isBackdrop : ByteArray := prog_14_method_22_code
def yX12_isBackdrop : MethodName := ⟨RX12, "isBackdrop", "(I)Z"⟩
abbrev cX12_thing : ByteArray := prog_14_method_23_code
def yX12_thing : MethodName := ⟨RX12, "thing", "(II)I"⟩
abbrev cX12_tell : ByteArray := prog_14_method_24_code
def yX12_tell : MethodName := ⟨RX12, "tell", "(IIII)I"⟩
abbrev cX12_against : ByteArray := prog_14_method_25_code
def yX12_against : MethodName := ⟨RX12, "against", "(I)I"⟩
abbrev cX12_first : ByteArray := prog_14_method_26_code
def yX12_first : MethodName := ⟨RX12, "first", "(III)I"⟩
abbrev cX12_latestAmong : ByteArray := prog_14_method_27_code
def yX12_latestAmong : MethodName := ⟨RX12, "latestAmong", "(I)I"⟩
abbrev cX12_isWithin : ByteArray := prog_14_method_28_code
def yX12_isWithin : MethodName := ⟨RX12, "isWithin", "(II)Z"⟩
abbrev cX12_placeOf : ByteArray := prog_14_method_29_code
def yX12_placeOf : MethodName := ⟨RX12, "placeOf", "(I)I"⟩
abbrev cX12_nth : ByteArray := prog_14_method_30_code
def yX12_nth : MethodName := ⟨RX12, "nth", "(II)I"⟩
abbrev cX12_held : ByteArray := prog_14_method_31_code
def yX12_held : MethodName := ⟨RX12, "held", "(I)I"⟩
abbrev cX12_pairAgainst : ByteArray := prog_14_method_32_code
def yX12_pairAgainst : MethodName := ⟨RX12, "pairAgainst", "(II)I"⟩
abbrev cX12_putAgainst : ByteArray := prog_14_method_33_code
def yX12_putAgainst : MethodName := ⟨RX12, "putAgainst", "(II)I"⟩
abbrev cX12_lies : ByteArray := prog_14_method_34_code
def yX12_lies : MethodName := ⟨RX12, "lies", "(II)I"⟩
abbrev cX12_put : ByteArray := prog_14_method_35_code
def yX12_put : MethodName := ⟨RX12, "put", "(II)I"⟩
abbrev cX12_bar : ByteArray := prog_14_method_36_code
def yX12_bar : MethodName := ⟨RX12, "bar", "(II)I"⟩
abbrev cX12_give : ByteArray := prog_14_method_37_code
def yX12_give : MethodName := ⟨RX12, "give", "(IIJ)I"⟩
abbrev cX12_valueOf : ByteArray := prog_14_method_38_code
def yX12_valueOf : MethodName := ⟨RX12, "valueOf", "(II)J"⟩
abbrev cX12_value : ByteArray := prog_14_method_39_code
def yX12_value : MethodName := ⟨RX12, "value", "(II)J"⟩
abbrev cX12_given : ByteArray := prog_14_method_40_code
def yX12_given : MethodName := ⟨RX12, "given", "(II)I"⟩
abbrev cX12_peek : ByteArray := prog_14_method_41_code
def yX12_peek : MethodName := ⟨RX12, "peek", "(III)J"⟩
abbrev cX12_place : ByteArray := prog_14_method_42_code
def yX12_place : MethodName := ⟨RX12, "place", "(II)I"⟩
abbrev cX12_loadOf : ByteArray := prog_14_method_43_code
def yX12_loadOf : MethodName := ⟨RX12, "loadOf", "(I)I"⟩
abbrev cX12_bulkOf : ByteArray := prog_14_method_44_code
def yX12_bulkOf : MethodName := ⟨RX12, "bulkOf", "(I)I"⟩
abbrev cX12_worthOf : ByteArray := prog_14_method_45_code
def yX12_worthOf : MethodName := ⟨RX12, "worthOf", "(I)I"⟩
abbrev cX12_lidOf : ByteArray := prog_14_method_46_code
def yX12_lidOf : MethodName := ⟨RX12, "lidOf", "(I)I"⟩
abbrev cX12_said : ByteArray := prog_14_method_47_code
def yX12_said : MethodName := ⟨RX12, "said", "(II)I"⟩
abbrev cX12_says : ByteArray := prog_14_method_48_code
def yX12_says : MethodName := ⟨RX12, "says", "(II)I"⟩
abbrev cX12_follow : ByteArray := prog_14_method_49_code
def yX12_follow : MethodName := ⟨RX12, "follow", "(III)I"⟩
abbrev cX12_hasOwn : ByteArray := prog_14_method_50_code
def yX12_hasOwn : MethodName := ⟨RX12, "hasOwn", "(I)Z"⟩
abbrev cX12_mark : ByteArray := prog_14_method_51_code
def yX12_mark : MethodName := ⟨RX12, "mark", "(II)I"⟩
abbrev cX12_remark : ByteArray := prog_14_method_52_code
def yX12_remark : MethodName := ⟨RX12, "remark", "(III)I"⟩
abbrev cX12_open : ByteArray := prog_14_method_53_code
def yX12_open : MethodName := ⟨RX12, "open", "(IZ)I"⟩
abbrev cX12_among : ByteArray := prog_14_method_55_code
def yX12_among : MethodName := ⟨RX12, "among", "(IJ)I"⟩
abbrev cX12_pair : ByteArray := prog_14_method_56_code
def yX12_pair : MethodName := ⟨RX12, "pair", "(IIZ)I"⟩
abbrev cX12_most : ByteArray := prog_14_method_57_code
def yX12_most : MethodName := ⟨RX12, "most", "(II)I"⟩
abbrev cX12_isUnsettled : ByteArray := prog_14_method_58_code
def yX12_isUnsettled : MethodName := ⟨RX12, "isUnsettled", "(I)Z"⟩
abbrev cX12_unsettled : ByteArray := prog_14_method_59_code
def yX12_unsettled : MethodName := ⟨RX12, "unsettled", "()I"⟩
abbrev cX12_keeps : ByteArray := prog_14_method_60_code
def yX12_keeps : MethodName := ⟨RX12, "keeps", "()Z"⟩
abbrev cX12_lowest : ByteArray := prog_14_method_61_code
def yX12_lowest : MethodName := ⟨RX12, "lowest", "(J)I"⟩
abbrev cX12_many : ByteArray := prog_14_method_62_code
def yX12_many : MethodName := ⟨RX12, "many", "(J)I"⟩
abbrev cX12_goesOn : ByteArray := prog_14_method_63_code
def yX12_goesOn : MethodName := ⟨RX12, "goesOn", "()Z"⟩
abbrev cX12_settle : ByteArray := prog_14_method_64_code
def yX12_settle : MethodName := ⟨RX12, "settle", "()I"⟩
abbrev cX12_set : ByteArray := prog_14_method_65_code
def yX12_set : MethodName := ⟨RX12, "set", "(I)J"⟩
abbrev cX12_isRelation : ByteArray := prog_14_method_66_code
def yX12_isRelation : MethodName := ⟨RX12, "isRelation", "(I)Z"⟩
abbrev cX12_groupUp : ByteArray := prog_14_method_67_code
def yX12_groupUp : MethodName := ⟨RX12, "groupUp", "(II)V"⟩
abbrev cX12_told : ByteArray := prog_14_method_68_code
def yX12_told : MethodName := ⟨RX12, "told", "(IIII)I"⟩
abbrev cX12_earlier : ByteArray := prog_14_method_69_code
def yX12_earlier : MethodName := ⟨RX12, "earlier", "(II)I"⟩
abbrev cX12_hasBy : ByteArray := prog_14_method_70_code
def yX12_hasBy : MethodName := ⟨RX12, "hasBy", "(III)I"⟩
abbrev cX12_has : ByteArray := prog_14_method_71_code
def yX12_has : MethodName := ⟨RX12, "has", "(III)Z"⟩
abbrev cX12_deniedBy : ByteArray := prog_14_method_72_code
def yX12_deniedBy : MethodName := ⟨RX12, "deniedBy", "(III)I"⟩
abbrev cX12_oneOnly : ByteArray := prog_14_method_73_code
def yX12_oneOnly : MethodName := ⟨RX12, "oneOnly", "(III)I"⟩
abbrev cX12_relation : ByteArray := prog_14_method_74_code
def yX12_relation : MethodName := ⟨RX12, "relation", "(I)I"⟩
abbrev cX12_isCouple : ByteArray := prog_14_method_75_code
def yX12_isCouple : MethodName := ⟨RX12, "isCouple", "(III)Z"⟩
abbrev cX12_relate : ByteArray := prog_14_method_76_code
def yX12_relate : MethodName := ⟨RX12, "relate", "(III)I"⟩
abbrev cX12_deny : ByteArray := prog_14_method_77_code
def yX12_deny : MethodName := ⟨RX12, "deny", "(III)I"⟩
abbrev cX12_related : ByteArray := prog_14_method_78_code
def yX12_related : MethodName := ⟨RX12, "related", "(III)I"⟩
abbrev cX12_couples : ByteArray := prog_14_method_79_code
def yX12_couples : MethodName := ⟨RX12, "couples", "(I)V"⟩
abbrev cX12_goBack : ByteArray := prog_14_method_80_code
def yX12_goBack : MethodName := ⟨RX12, "goBack", "(I)V"⟩
abbrev cX12_along : ByteArray := prog_14_method_81_code
def yX12_along : MethodName := ⟨RX12, "along", "(III)I"⟩
abbrev cX12_next : ByteArray := prog_14_method_82_code
def yX12_next : MethodName := ⟨RX12, "next", "(III)I"⟩
abbrev cX12_isRoom : ByteArray := prog_14_method_83_code
def yX12_isRoom : MethodName := ⟨RX12, "isRoom", "(I)Z"⟩
abbrev cX12_lead : ByteArray := prog_14_method_84_code
def yX12_lead : MethodName := ⟨RX12, "lead", "(IIIII)V"⟩
abbrev cX12_exit : ByteArray := prog_14_method_85_code
def yX12_exit : MethodName := ⟨RX12, "exit", "(III)I"⟩
abbrev cX12_door : ByteArray := prog_14_method_86_code
def yX12_door : MethodName := ⟨RX12, "door", "(IIII)I"⟩
abbrev cX12_leads : ByteArray := prog_14_method_87_code
def yX12_leads : MethodName := ⟨RX12, "leads", "(II)I"⟩
abbrev cX12_sort : ByteArray := prog_14_method_88_code
def yX12_sort : MethodName := ⟨RX12, "sort", "(II)I"⟩
abbrev cX12_goes : ByteArray := prog_14_method_89_code
def yX12_goes : MethodName := ⟨RX12, "goes", "(IZ)Z"⟩
abbrev cX12_routeBack : ByteArray := prog_14_method_90_code
def yX12_routeBack : MethodName := ⟨RX12, "routeBack", "(IZ)V"⟩
abbrev cX12_route : ByteArray := prog_14_method_91_code
def yX12_route : MethodName := ⟨RX12, "route", "(IIZ)I"⟩
abbrev cX12_first_ : ByteArray := prog_14_method_92_code
def yX12_first_ : MethodName := ⟨RX12, "first", "(IIZ)I"⟩
abbrev cX12_isShelf : ByteArray := prog_14_method_93_code
def yX12_isShelf : MethodName := ⟨RX12, "isShelf", "(I)Z"⟩
abbrev cX12_takes : ByteArray := prog_14_method_94_code
def yX12_takes : MethodName := ⟨RX12, "takes", "(II)Z"⟩
abbrev cX12_shelf : ByteArray := prog_14_method_95_code
def yX12_shelf : MethodName := ⟨RX12, "shelf", "(II)I"⟩
abbrev cX12_stand : ByteArray := prog_14_method_96_code
def yX12_stand : MethodName := ⟨RX12, "stand", "(III)I"⟩
abbrev cX12_stands : ByteArray := prog_14_method_97_code
def yX12_stands : MethodName := ⟨RX12, "stands", "(II)I"⟩
abbrev cX12_haul : ByteArray := prog_14_method_98_code
def yX12_haul : MethodName := ⟨RX12, "haul", "(IIIII)I"⟩
abbrev cX12_came : ByteArray := prog_14_method_99_code
def yX12_came : MethodName := ⟨RX12, "came", "()I"⟩
abbrev cX12_isTable : ByteArray := prog_14_method_100_code
def yX12_isTable : MethodName := ⟨RX12, "isTable", "(I)Z"⟩
abbrev cX12_table : ByteArray := prog_14_method_101_code
def yX12_table : MethodName := ⟨RX12, "table", "(III)I"⟩
abbrev cX12_isColumn : ByteArray := prog_14_method_102_code
def yX12_isColumn : MethodName := ⟨RX12, "isColumn", "(II)Z"⟩
abbrev cX12_isCell : ByteArray := prog_14_method_103_code
def yX12_isCell : MethodName := ⟨RX12, "isCell", "(III)Z"⟩
abbrev cX12_cellAt : ByteArray := prog_14_method_104_code
def yX12_cellAt : MethodName := ⟨RX12, "cellAt", "(III)I"⟩
abbrev cX12_fill : ByteArray := prog_14_method_105_code
def yX12_fill : MethodName := ⟨RX12, "fill", "(IIIJ)I"⟩
abbrev cX12_blank : ByteArray := prog_14_method_106_code
def yX12_blank : MethodName := ⟨RX12, "blank", "(III)I"⟩
abbrev cX12_read : ByteArray := prog_14_method_107_code
def yX12_read : MethodName := ⟨RX12, "read", "(III)J"⟩
abbrev cX12_choose : ByteArray := prog_14_method_108_code
def yX12_choose : MethodName := ⟨RX12, "choose", "(IIJI)I"⟩
abbrev cX12_isAhead : ByteArray := prog_14_method_109_code
def yX12_isAhead : MethodName := ⟨RX12, "isAhead", "(IIIIZ)Z"⟩
abbrev cX12_rank : ByteArray := prog_14_method_110_code
def yX12_rank : MethodName := ⟨RX12, "rank", "(IIZ)I"⟩
abbrev cX12_filledIn : ByteArray := prog_14_method_111_code
def yX12_filledIn : MethodName := ⟨RX12, "filledIn", "(II)I"⟩
abbrev cX12_sumOf : ByteArray := prog_14_method_112_code
def yX12_sumOf : MethodName := ⟨RX12, "sumOf", "(II)J"⟩
abbrev cX12_total : ByteArray := prog_14_method_113_code
def yX12_total : MethodName := ⟨RX12, "total", "(II)J"⟩
abbrev cX12_mean : ByteArray := prog_14_method_114_code
def yX12_mean : MethodName := ⟨RX12, "mean", "(II)J"⟩
abbrev cX12_add : ByteArray := prog_14_method_115_code
def yX12_add : MethodName := ⟨RX12, "add", "(I)V"⟩
abbrev cX12_make : ByteArray := prog_14_method_116_code
def yX12_make : MethodName := ⟨RX12, "make", "()I"⟩
abbrev cX12_word : ByteArray := prog_14_method_117_code
def yX12_word : MethodName := ⟨RX12, "word", "(I)I"⟩
abbrev cX12_digest : ByteArray := prog_14_method_118_code
def yX12_digest : MethodName := ⟨RX12, "digest", "()J"⟩
abbrev cX12_sentence : ByteArray := prog_14_method_119_code
def yX12_sentence : MethodName := ⟨RX12, "sentence", "(II)I"⟩
abbrev cX12_count : ByteArray := prog_14_method_120_code
def yX12_count : MethodName := ⟨RX12, "count", "(I)I"⟩
abbrev cX12_fault : ByteArray := prog_14_method_121_code
def yX12_fault : MethodName := ⟨RX12, "fault", "()I"⟩
abbrev cX12_clear : ByteArray := prog_14_method_122_code
def yX12_clear : MethodName := ⟨RX12, "clear", "()I"⟩
def RJ13 : String := "java/lang/Long"
def TJ13 : u_T := fun k => match k with
  | _ => ("", "", "", false)
def tyJ13 : Nat → FieldType := fun k => match k with
  | _ => .int
abbrev wsJ130 : List Cond := u_ws RJ13 TJ13 0
theorem nmJ13 : ∀ a, a < 0 → ∀ b, b < 0 → a ≠ b → (TJ13 a).2.1 ≠ (TJ13 b).2.1 := by decide +kernel
theorem tyJ13_ok : ∀ k, k < 0 → parseFieldDescriptor (TJ13 k).2.2.1 = some (tyJ13 k) := by decide +kernel
abbrev cJ13_bitCount_95d88 : ByteArray := prog_15_method_50_code
def yJ13_bitCount_95d88 : MethodName := ⟨RJ13, "bitCount", "(J)I"⟩
def RJ9 : String := "java/lang/Math"
def TJ9 : u_T := fun k => match k with
  | _ => ("", "", "", false)
def tyJ9 : Nat → FieldType := fun k => match k with
  | _ => .int
abbrev wsJ90 : List Cond := u_ws RJ9 TJ9 0
theorem nmJ9 : ∀ a, a < 0 → ∀ b, b < 0 → a ≠ b → (TJ9 a).2.1 ≠ (TJ9 b).2.1 := by decide +kernel
theorem tyJ9_ok : ∀ k, k < 0 → parseFieldDescriptor (TJ9 k).2.2.1 = some (tyJ9 k) := by decide +kernel
abbrev cJ9_max_7cf53 : ByteArray := prog_16_method_65_code
def yJ9_max_7cf53 : MethodName := ⟨RJ9, "max", "(II)I"⟩
def RL : String := "WorldMakeLaw"
abbrev cL_law : ByteArray := code
def yL_law : MethodName := ⟨RL, "law", "([I)Z"⟩
abbrev vwCl : List vw_C := [(RX0, TX0, 2), (RX1, TX1, 16), (RX2, TX2, 7), (RX3, TX3, 7), (RX4, TX4, 5), (RX5, TX5, 4), (RX6, TX6, 3), (RX7, TX7, 6), (RX8, TX8, 8), (RX9, TX9, 10), (RX10, TX10, 4), (RX11, TX11, 17), (RX12, TX12, 58)]
