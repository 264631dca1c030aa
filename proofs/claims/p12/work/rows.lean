section
-- ===== PART A: goes FIRST, ahead of the names: the tables' words, and 'selects' of the private methods out of them =====
/-- a private method of a class that the tables say can be made, by its rows of tables_1 -/
def lw_okq (q : MethodName × Nat) : Prop := (q.1.cls ≠ "java/lang/invoke/MethodHandle" ∧ q.1.cls ≠ "java/lang/invoke/VarHandle") ∧ Cond.instantiable q.1.cls q.2 ∈ tables_1 ∧ Cond.privateMethod q.1 ∈ tables_1 ∧ Cond.instanceMethod q.1 ∈ tables_1
theorem lw_p0 : lw_okq (⟨"Doublecoat$Casting", "prepare", "(LDoublecoat$Play;LDoublecoat$Company;I)V"⟩, 9) := ⟨⟨by decide +kernel, by decide +kernel⟩, List.mem_of_getElem? (i := 116) (by decide +kernel), List.mem_of_getElem? (i := 266) (by decide +kernel), List.mem_of_getElem? (i := 267) (by decide +kernel)⟩
theorem lw_p1 : lw_okq (⟨"Doublecoat$Play", "clashTogether", "(I[I)V"⟩, 7) := ⟨⟨by decide +kernel, by decide +kernel⟩, List.mem_of_getElem? (i := 46) (by decide +kernel), List.mem_of_getElem? (i := 277) (by decide +kernel), List.mem_of_getElem? (i := 278) (by decide +kernel)⟩
theorem lw_p2 : lw_okq (⟨"Doublecoat$Play", "clashInTurn", "(II[I)V"⟩, 7) := ⟨⟨by decide +kernel, by decide +kernel⟩, List.mem_of_getElem? (i := 46) (by decide +kernel), List.mem_of_getElem? (i := 281) (by decide +kernel), List.mem_of_getElem? (i := 282) (by decide +kernel)⟩
theorem lw_p3 : lw_okq (⟨"Doublecoat$Casting", "orderByChoice", "(I)V"⟩, 9) := ⟨⟨by decide +kernel, by decide +kernel⟩, List.mem_of_getElem? (i := 116) (by decide +kernel), List.mem_of_getElem? (i := 294) (by decide +kernel), List.mem_of_getElem? (i := 295) (by decide +kernel)⟩
theorem lw_p4 : lw_okq (⟨"Doublecoat$Casting", "canPlace", "(I)Z"⟩, 9) := ⟨⟨by decide +kernel, by decide +kernel⟩, List.mem_of_getElem? (i := 116) (by decide +kernel), List.mem_of_getElem? (i := 305) (by decide +kernel), List.mem_of_getElem? (i := 306) (by decide +kernel)⟩
theorem lw_p5 : lw_okq (⟨"Doublecoat$Casting", "keepFirst", "(LDoublecoat$Play;)V"⟩, 9) := ⟨⟨by decide +kernel, by decide +kernel⟩, List.mem_of_getElem? (i := 116) (by decide +kernel), List.mem_of_getElem? (i := 312) (by decide +kernel), List.mem_of_getElem? (i := 313) (by decide +kernel)⟩
theorem lw_p6 : lw_okq (⟨"Doublecoat$Casting", "orderByNumber", "(I)V"⟩, 9) := ⟨⟨by decide +kernel, by decide +kernel⟩, List.mem_of_getElem? (i := 116) (by decide +kernel), List.mem_of_getElem? (i := 316) (by decide +kernel), List.mem_of_getElem? (i := 317) (by decide +kernel)⟩
theorem lw_p7 : lw_okq (⟨"Doublecoat$Casting", "fewestCut", "(LDoublecoat$Play;LDoublecoat$Company;)I"⟩, 9) := ⟨⟨by decide +kernel, by decide +kernel⟩, List.mem_of_getElem? (i := 116) (by decide +kernel), List.mem_of_getElem? (i := 323) (by decide +kernel), List.mem_of_getElem? (i := 324) (by decide +kernel)⟩
theorem lw_p8 : lw_okq (⟨"java/lang/Throwable", "fillInStackTrace", "(I)Ljava/lang/Throwable;"⟩, 6) := ⟨⟨by decide +kernel, by decide +kernel⟩, List.mem_of_getElem? (i := 531) (by decide +kernel), List.mem_of_getElem? (i := 529) (by decide +kernel), List.mem_of_getElem? (i := 530) (by decide +kernel)⟩
theorem lw_p9 : lw_okq (⟨"Doublecoat", "filled", "(I)I"⟩, 9) := ⟨⟨by decide +kernel, by decide +kernel⟩, List.mem_of_getElem? (i := 38) (by decide +kernel), List.mem_of_getElem? (i := 663) (by decide +kernel), List.mem_of_getElem? (i := 664) (by decide +kernel)⟩
theorem lw_p10 : lw_okq (⟨"Doublecoat", "lack", "(I)I"⟩, 9) := ⟨⟨by decide +kernel, by decide +kernel⟩, List.mem_of_getElem? (i := 38) (by decide +kernel), List.mem_of_getElem? (i := 674) (by decide +kernel), List.mem_of_getElem? (i := 675) (by decide +kernel)⟩
theorem lw_p11 : lw_okq (⟨"Doublecoat", "excess", "(I)I"⟩, 9) := ⟨⟨by decide +kernel, by decide +kernel⟩, List.mem_of_getElem? (i := 38) (by decide +kernel), List.mem_of_getElem? (i := 678) (by decide +kernel), List.mem_of_getElem? (i := 679) (by decide +kernel)⟩
theorem lw_p12 : lw_okq (⟨"Doublecoat", "bestCastClashes", "()Z"⟩, 9) := ⟨⟨by decide +kernel, by decide +kernel⟩, List.mem_of_getElem? (i := 38) (by decide +kernel), List.mem_of_getElem? (i := 690) (by decide +kernel), List.mem_of_getElem? (i := 691) (by decide +kernel)⟩
theorem lw_p13 : lw_okq (⟨"Doublecoat$Company", "sharesOf", "(I)I"⟩, 6) := ⟨⟨by decide +kernel, by decide +kernel⟩, List.mem_of_getElem? (i := 85) (by decide +kernel), List.mem_of_getElem? (i := 768) (by decide +kernel), List.mem_of_getElem? (i := 769) (by decide +kernel)⟩
theorem lw_p14 : lw_okq (⟨"Doublecoat", "leastWaste", "(I)I"⟩, 9) := ⟨⟨by decide +kernel, by decide +kernel⟩, List.mem_of_getElem? (i := 38) (by decide +kernel), List.mem_of_getElem? (i := 776) (by decide +kernel), List.mem_of_getElem? (i := 777) (by decide +kernel)⟩
theorem lw_p15 : lw_okq (⟨"Doublecoat$Wardrobe", "wasteOf", "(III)I"⟩, 7) := ⟨⟨by decide +kernel, by decide +kernel⟩, List.mem_of_getElem? (i := 153) (by decide +kernel), List.mem_of_getElem? (i := 789) (by decide +kernel), List.mem_of_getElem? (i := 790) (by decide +kernel)⟩
def lw_privs_1 : List (MethodName × Nat) := [(⟨"Doublecoat$Casting", "prepare", "(LDoublecoat$Play;LDoublecoat$Company;I)V"⟩, 9), (⟨"Doublecoat$Play", "clashTogether", "(I[I)V"⟩, 7), (⟨"Doublecoat$Play", "clashInTurn", "(II[I)V"⟩, 7), (⟨"Doublecoat$Casting", "orderByChoice", "(I)V"⟩, 9), (⟨"Doublecoat$Casting", "canPlace", "(I)Z"⟩, 9), (⟨"Doublecoat$Casting", "keepFirst", "(LDoublecoat$Play;)V"⟩, 9), (⟨"Doublecoat$Casting", "orderByNumber", "(I)V"⟩, 9), (⟨"Doublecoat$Casting", "fewestCut", "(LDoublecoat$Play;LDoublecoat$Company;)I"⟩, 9), (⟨"java/lang/Throwable", "fillInStackTrace", "(I)Ljava/lang/Throwable;"⟩, 6), (⟨"Doublecoat", "filled", "(I)I"⟩, 9), (⟨"Doublecoat", "lack", "(I)I"⟩, 9), (⟨"Doublecoat", "excess", "(I)I"⟩, 9), (⟨"Doublecoat", "bestCastClashes", "()Z"⟩, 9), (⟨"Doublecoat$Company", "sharesOf", "(I)I"⟩, 6), (⟨"Doublecoat", "leastWaste", "(I)I"⟩, 9), (⟨"Doublecoat$Wardrobe", "wasteOf", "(III)I"⟩, 7)]
theorem lw_r1 : ∀ q ∈ lw_privs_1, lw_okq q := List.forall_mem_cons.mpr ⟨lw_p0, List.forall_mem_cons.mpr ⟨lw_p1, List.forall_mem_cons.mpr ⟨lw_p2, List.forall_mem_cons.mpr ⟨lw_p3, List.forall_mem_cons.mpr ⟨lw_p4, List.forall_mem_cons.mpr ⟨lw_p5, List.forall_mem_cons.mpr ⟨lw_p6, List.forall_mem_cons.mpr ⟨lw_p7, List.forall_mem_cons.mpr ⟨lw_p8, List.forall_mem_cons.mpr ⟨lw_p9, List.forall_mem_cons.mpr ⟨lw_p10, List.forall_mem_cons.mpr ⟨lw_p11, List.forall_mem_cons.mpr ⟨lw_p12, List.forall_mem_cons.mpr ⟨lw_p13, List.forall_mem_cons.mpr ⟨lw_p14, List.forall_mem_cons.mpr ⟨lw_p15, fun _ h => absurd h List.not_mem_nil⟩⟩⟩⟩⟩⟩⟩⟩⟩⟩⟩⟩⟩⟩⟩⟩
theorem lw_p16 : lw_okq (⟨"Doublecoat$Wardrobe", "keepLess", "(II)V"⟩, 7) := ⟨⟨by decide +kernel, by decide +kernel⟩, List.mem_of_getElem? (i := 153) (by decide +kernel), List.mem_of_getElem? (i := 797) (by decide +kernel), List.mem_of_getElem? (i := 798) (by decide +kernel)⟩
theorem lw_p17 : lw_okq (⟨"Doublecoat$Road", "measure", "(I)V"⟩, 6) := ⟨⟨by decide +kernel, by decide +kernel⟩, List.mem_of_getElem? (i := 186) (by decide +kernel), List.mem_of_getElem? (i := 959) (by decide +kernel), List.mem_of_getElem? (i := 960) (by decide +kernel)⟩
theorem lw_p18 : lw_okq (⟨"Doublecoat$Road", "milesOut", "(II)I"⟩, 6) := ⟨⟨by decide +kernel, by decide +kernel⟩, List.mem_of_getElem? (i := 186) (by decide +kernel), List.mem_of_getElem? (i := 963) (by decide +kernel), List.mem_of_getElem? (i := 964) (by decide +kernel)⟩
theorem lw_p19 : lw_okq (⟨"DoublecoatModel", "refuse", "(I)I"⟩, 20) := ⟨⟨by decide +kernel, by decide +kernel⟩, List.mem_of_getElem? (i := 1020) (by decide +kernel), List.mem_of_getElem? (i := 1123) (by decide +kernel), List.mem_of_getElem? (i := 1124) (by decide +kernel)⟩
theorem lw_p20 : lw_okq (⟨"java/util/ArrayList", "add", "(Ljava/lang/Object;[Ljava/lang/Object;I)V"⟩, 3) := ⟨⟨by decide +kernel, by decide +kernel⟩, List.mem_of_getElem? (i := 1026) (by decide +kernel), List.mem_of_getElem? (i := 1151) (by decide +kernel), List.mem_of_getElem? (i := 1152) (by decide +kernel)⟩
theorem lw_p21 : lw_okq (⟨"java/util/ArrayList", "grow", "()[Ljava/lang/Object;"⟩, 3) := ⟨⟨by decide +kernel, by decide +kernel⟩, List.mem_of_getElem? (i := 1026) (by decide +kernel), List.mem_of_getElem? (i := 1155) (by decide +kernel), List.mem_of_getElem? (i := 1156) (by decide +kernel)⟩
theorem lw_p22 : lw_okq (⟨"java/util/ArrayList", "grow", "(I)[Ljava/lang/Object;"⟩, 3) := ⟨⟨by decide +kernel, by decide +kernel⟩, List.mem_of_getElem? (i := 1026) (by decide +kernel), List.mem_of_getElem? (i := 1159) (by decide +kernel), List.mem_of_getElem? (i := 1160) (by decide +kernel)⟩
theorem lw_p23 : lw_okq (⟨"DoublecoatModel", "isScene", "(I)Z"⟩, 20) := ⟨⟨by decide +kernel, by decide +kernel⟩, List.mem_of_getElem? (i := 1020) (by decide +kernel), List.mem_of_getElem? (i := 1246) (by decide +kernel), List.mem_of_getElem? (i := 1247) (by decide +kernel)⟩
theorem lw_p24 : lw_okq (⟨"DoublecoatModel", "isPlayer", "(I)Z"⟩, 20) := ⟨⟨by decide +kernel, by decide +kernel⟩, List.mem_of_getElem? (i := 1020) (by decide +kernel), List.mem_of_getElem? (i := 1266) (by decide +kernel), List.mem_of_getElem? (i := 1267) (by decide +kernel)⟩
theorem lw_p25 : lw_okq (⟨"DoublecoatModel", "well", "()I"⟩, 20) := ⟨⟨by decide +kernel, by decide +kernel⟩, List.mem_of_getElem? (i := 1020) (by decide +kernel), List.mem_of_getElem? (i := 1270) (by decide +kernel), List.mem_of_getElem? (i := 1271) (by decide +kernel)⟩
theorem lw_p26 : lw_okq (⟨"DoublecoatModel", "isCoat", "(I)Z"⟩, 20) := ⟨⟨by decide +kernel, by decide +kernel⟩, List.mem_of_getElem? (i := 1020) (by decide +kernel), List.mem_of_getElem? (i := 1347) (by decide +kernel), List.mem_of_getElem? (i := 1348) (by decide +kernel)⟩
theorem lw_p27 : lw_okq (⟨"DoublecoatModel", "isTown", "(I)Z"⟩, 20) := ⟨⟨by decide +kernel, by decide +kernel⟩, List.mem_of_getElem? (i := 1020) (by decide +kernel), List.mem_of_getElem? (i := 1379) (by decide +kernel), List.mem_of_getElem? (i := 1380) (by decide +kernel)⟩
theorem lw_p28 : lw_okq (⟨"DoublecoatModel", "isCast", "()Z"⟩, 20) := ⟨⟨by decide +kernel, by decide +kernel⟩, List.mem_of_getElem? (i := 1020) (by decide +kernel), List.mem_of_getElem? (i := 1383) (by decide +kernel), List.mem_of_getElem? (i := 1384) (by decide +kernel)⟩
theorem lw_p29 : lw_okq (⟨"DoublecoatModel", "all", "()I"⟩, 20) := ⟨⟨by decide +kernel, by decide +kernel⟩, List.mem_of_getElem? (i := 1020) (by decide +kernel), List.mem_of_getElem? (i := 1387) (by decide +kernel), List.mem_of_getElem? (i := 1388) (by decide +kernel)⟩
theorem lw_p30 : lw_okq (⟨"DoublecoatModel", "needs", "(I)I"⟩, 20) := ⟨⟨by decide +kernel, by decide +kernel⟩, List.mem_of_getElem? (i := 1020) (by decide +kernel), List.mem_of_getElem? (i := 1391) (by decide +kernel), List.mem_of_getElem? (i := 1392) (by decide +kernel)⟩
theorem lw_p31 : lw_okq (⟨"DoublecoatModel", "clash", "(I)V"⟩, 20) := ⟨⟨by decide +kernel, by decide +kernel⟩, List.mem_of_getElem? (i := 1020) (by decide +kernel), List.mem_of_getElem? (i := 1395) (by decide +kernel), List.mem_of_getElem? (i := 1396) (by decide +kernel)⟩
def lw_privs_2 : List (MethodName × Nat) := [(⟨"Doublecoat$Wardrobe", "keepLess", "(II)V"⟩, 7), (⟨"Doublecoat$Road", "measure", "(I)V"⟩, 6), (⟨"Doublecoat$Road", "milesOut", "(II)I"⟩, 6), (⟨"DoublecoatModel", "refuse", "(I)I"⟩, 20), (⟨"java/util/ArrayList", "add", "(Ljava/lang/Object;[Ljava/lang/Object;I)V"⟩, 3), (⟨"java/util/ArrayList", "grow", "()[Ljava/lang/Object;"⟩, 3), (⟨"java/util/ArrayList", "grow", "(I)[Ljava/lang/Object;"⟩, 3), (⟨"DoublecoatModel", "isScene", "(I)Z"⟩, 20), (⟨"DoublecoatModel", "isPlayer", "(I)Z"⟩, 20), (⟨"DoublecoatModel", "well", "()I"⟩, 20), (⟨"DoublecoatModel", "isCoat", "(I)Z"⟩, 20), (⟨"DoublecoatModel", "isTown", "(I)Z"⟩, 20), (⟨"DoublecoatModel", "isCast", "()Z"⟩, 20), (⟨"DoublecoatModel", "all", "()I"⟩, 20), (⟨"DoublecoatModel", "needs", "(I)I"⟩, 20), (⟨"DoublecoatModel", "clash", "(I)V"⟩, 20)]
theorem lw_r2 : ∀ q ∈ lw_privs_2, lw_okq q := List.forall_mem_cons.mpr ⟨lw_p16, List.forall_mem_cons.mpr ⟨lw_p17, List.forall_mem_cons.mpr ⟨lw_p18, List.forall_mem_cons.mpr ⟨lw_p19, List.forall_mem_cons.mpr ⟨lw_p20, List.forall_mem_cons.mpr ⟨lw_p21, List.forall_mem_cons.mpr ⟨lw_p22, List.forall_mem_cons.mpr ⟨lw_p23, List.forall_mem_cons.mpr ⟨lw_p24, List.forall_mem_cons.mpr ⟨lw_p25, List.forall_mem_cons.mpr ⟨lw_p26, List.forall_mem_cons.mpr ⟨lw_p27, List.forall_mem_cons.mpr ⟨lw_p28, List.forall_mem_cons.mpr ⟨lw_p29, List.forall_mem_cons.mpr ⟨lw_p30, List.forall_mem_cons.mpr ⟨lw_p31, fun _ h => absurd h List.not_mem_nil⟩⟩⟩⟩⟩⟩⟩⟩⟩⟩⟩⟩⟩⟩⟩⟩
theorem lw_p32 : lw_okq (⟨"DoublecoatModel", "partsOf", "(I)I"⟩, 20) := ⟨⟨by decide +kernel, by decide +kernel⟩, List.mem_of_getElem? (i := 1020) (by decide +kernel), List.mem_of_getElem? (i := 1402) (by decide +kernel), List.mem_of_getElem? (i := 1403) (by decide +kernel)⟩
theorem lw_p33 : lw_okq (⟨"DoublecoatModel", "fills", "(IIII)Z"⟩, 20) := ⟨⟨by decide +kernel, by decide +kernel⟩, List.mem_of_getElem? (i := 1020) (by decide +kernel), List.mem_of_getElem? (i := 1406) (by decide +kernel), List.mem_of_getElem? (i := 1407) (by decide +kernel)⟩
theorem lw_p34 : lw_okq (⟨"DoublecoatModel", "plays", "(II)Z"⟩, 20) := ⟨⟨by decide +kernel, by decide +kernel⟩, List.mem_of_getElem? (i := 1020) (by decide +kernel), List.mem_of_getElem? (i := 1410) (by decide +kernel), List.mem_of_getElem? (i := 1411) (by decide +kernel)⟩
theorem lw_p35 : lw_okq (⟨"DoublecoatModel", "shareNow", "(II)I"⟩, 20) := ⟨⟨by decide +kernel, by decide +kernel⟩, List.mem_of_getElem? (i := 1020) (by decide +kernel), List.mem_of_getElem? (i := 1415) (by decide +kernel), List.mem_of_getElem? (i := 1416) (by decide +kernel)⟩
theorem lw_p36 : lw_okq (⟨"DoublecoatModel", "shares", "()I"⟩, 20) := ⟨⟨by decide +kernel, by decide +kernel⟩, List.mem_of_getElem? (i := 1020) (by decide +kernel), List.mem_of_getElem? (i := 1419) (by decide +kernel), List.mem_of_getElem? (i := 1420) (by decide +kernel)⟩
theorem lw_p37 : lw_okq (⟨"DoublecoatModel", "partsWith", "(I)I"⟩, 20) := ⟨⟨by decide +kernel, by decide +kernel⟩, List.mem_of_getElem? (i := 1020) (by decide +kernel), List.mem_of_getElem? (i := 1423) (by decide +kernel), List.mem_of_getElem? (i := 1424) (by decide +kernel)⟩
theorem lw_p38 : lw_okq (⟨"DoublecoatModel", "isPart", "(I)Z"⟩, 20) := ⟨⟨by decide +kernel, by decide +kernel⟩, List.mem_of_getElem? (i := 1020) (by decide +kernel), List.mem_of_getElem? (i := 1435) (by decide +kernel), List.mem_of_getElem? (i := 1436) (by decide +kernel)⟩
theorem lw_p39 : lw_okq (⟨"DoublecoatModel", "ofPartNow", "(II)I"⟩, 20) := ⟨⟨by decide +kernel, by decide +kernel⟩, List.mem_of_getElem? (i := 1020) (by decide +kernel), List.mem_of_getElem? (i := 1439) (by decide +kernel), List.mem_of_getElem? (i := 1440) (by decide +kernel)⟩
theorem lw_p40 : lw_okq (⟨"DoublecoatModel", "scenesWith", "(I)I"⟩, 20) := ⟨⟨by decide +kernel, by decide +kernel⟩, List.mem_of_getElem? (i := 1020) (by decide +kernel), List.mem_of_getElem? (i := 1443) (by decide +kernel), List.mem_of_getElem? (i := 1444) (by decide +kernel)⟩
theorem lw_p41 : lw_okq (⟨"DoublecoatModel", "players", "(I)I"⟩, 20) := ⟨⟨by decide +kernel, by decide +kernel⟩, List.mem_of_getElem? (i := 1020) (by decide +kernel), List.mem_of_getElem? (i := 1447) (by decide +kernel), List.mem_of_getElem? (i := 1448) (by decide +kernel)⟩
theorem lw_p42 : lw_okq (⟨"DoublecoatModel", "ofPlayerNow", "(II)I"⟩, 20) := ⟨⟨by decide +kernel, by decide +kernel⟩, List.mem_of_getElem? (i := 1020) (by decide +kernel), List.mem_of_getElem? (i := 1455) (by decide +kernel), List.mem_of_getElem? (i := 1456) (by decide +kernel)⟩
theorem lw_p43 : lw_okq (⟨"DoublecoatModel", "ofSceneNow", "(II)I"⟩, 20) := ⟨⟨by decide +kernel, by decide +kernel⟩, List.mem_of_getElem? (i := 1020) (by decide +kernel), List.mem_of_getElem? (i := 1463) (by decide +kernel), List.mem_of_getElem? (i := 1464) (by decide +kernel)⟩
theorem lw_p44 : lw_okq (⟨"DoublecoatModel", "filled", "(I)I"⟩, 20) := ⟨⟨by decide +kernel, by decide +kernel⟩, List.mem_of_getElem? (i := 1020) (by decide +kernel), List.mem_of_getElem? (i := 1467) (by decide +kernel), List.mem_of_getElem? (i := 1468) (by decide +kernel)⟩
theorem lw_p45 : lw_okq (⟨"DoublecoatModel", "finds", "(II[I[Z)Z"⟩, 20) := ⟨⟨by decide +kernel, by decide +kernel⟩, List.mem_of_getElem? (i := 1020) (by decide +kernel), List.mem_of_getElem? (i := 1471) (by decide +kernel), List.mem_of_getElem? (i := 1472) (by decide +kernel)⟩
theorem lw_p46 : lw_okq (⟨"DoublecoatModel", "lack", "(I)I"⟩, 20) := ⟨⟨by decide +kernel, by decide +kernel⟩, List.mem_of_getElem? (i := 1020) (by decide +kernel), List.mem_of_getElem? (i := 1475) (by decide +kernel), List.mem_of_getElem? (i := 1476) (by decide +kernel)⟩
theorem lw_p47 : lw_okq (⟨"DoublecoatModel", "excess", "(I)I"⟩, 20) := ⟨⟨by decide +kernel, by decide +kernel⟩, List.mem_of_getElem? (i := 1020) (by decide +kernel), List.mem_of_getElem? (i := 1479) (by decide +kernel), List.mem_of_getElem? (i := 1480) (by decide +kernel)⟩
def lw_privs_3 : List (MethodName × Nat) := [(⟨"DoublecoatModel", "partsOf", "(I)I"⟩, 20), (⟨"DoublecoatModel", "fills", "(IIII)Z"⟩, 20), (⟨"DoublecoatModel", "plays", "(II)Z"⟩, 20), (⟨"DoublecoatModel", "shareNow", "(II)I"⟩, 20), (⟨"DoublecoatModel", "shares", "()I"⟩, 20), (⟨"DoublecoatModel", "partsWith", "(I)I"⟩, 20), (⟨"DoublecoatModel", "isPart", "(I)Z"⟩, 20), (⟨"DoublecoatModel", "ofPartNow", "(II)I"⟩, 20), (⟨"DoublecoatModel", "scenesWith", "(I)I"⟩, 20), (⟨"DoublecoatModel", "players", "(I)I"⟩, 20), (⟨"DoublecoatModel", "ofPlayerNow", "(II)I"⟩, 20), (⟨"DoublecoatModel", "ofSceneNow", "(II)I"⟩, 20), (⟨"DoublecoatModel", "filled", "(I)I"⟩, 20), (⟨"DoublecoatModel", "finds", "(II[I[Z)Z"⟩, 20), (⟨"DoublecoatModel", "lack", "(I)I"⟩, 20), (⟨"DoublecoatModel", "excess", "(I)I"⟩, 20)]
theorem lw_r3 : ∀ q ∈ lw_privs_3, lw_okq q := List.forall_mem_cons.mpr ⟨lw_p32, List.forall_mem_cons.mpr ⟨lw_p33, List.forall_mem_cons.mpr ⟨lw_p34, List.forall_mem_cons.mpr ⟨lw_p35, List.forall_mem_cons.mpr ⟨lw_p36, List.forall_mem_cons.mpr ⟨lw_p37, List.forall_mem_cons.mpr ⟨lw_p38, List.forall_mem_cons.mpr ⟨lw_p39, List.forall_mem_cons.mpr ⟨lw_p40, List.forall_mem_cons.mpr ⟨lw_p41, List.forall_mem_cons.mpr ⟨lw_p42, List.forall_mem_cons.mpr ⟨lw_p43, List.forall_mem_cons.mpr ⟨lw_p44, List.forall_mem_cons.mpr ⟨lw_p45, List.forall_mem_cons.mpr ⟨lw_p46, List.forall_mem_cons.mpr ⟨lw_p47, fun _ h => absurd h List.not_mem_nil⟩⟩⟩⟩⟩⟩⟩⟩⟩⟩⟩⟩⟩⟩⟩⟩
theorem lw_p48 : lw_okq (⟨"DoublecoatModel", "dressed", "(I)I"⟩, 20) := ⟨⟨by decide +kernel, by decide +kernel⟩, List.mem_of_getElem? (i := 1020) (by decide +kernel), List.mem_of_getElem? (i := 1483) (by decide +kernel), List.mem_of_getElem? (i := 1484) (by decide +kernel)⟩
theorem lw_p49 : lw_okq (⟨"DoublecoatModel", "dress", "(III)V"⟩, 20) := ⟨⟨by decide +kernel, by decide +kernel⟩, List.mem_of_getElem? (i := 1020) (by decide +kernel), List.mem_of_getElem? (i := 1487) (by decide +kernel), List.mem_of_getElem? (i := 1488) (by decide +kernel)⟩
theorem lw_p50 : lw_okq (⟨"DoublecoatModel", "waste", "(LDoublecoatModel$Coat;I)I"⟩, 20) := ⟨⟨by decide +kernel, by decide +kernel⟩, List.mem_of_getElem? (i := 1020) (by decide +kernel), List.mem_of_getElem? (i := 1495) (by decide +kernel), List.mem_of_getElem? (i := 1496) (by decide +kernel)⟩
theorem lw_p51 : lw_okq (⟨"DoublecoatModel", "ofCoatNow", "(II)I"⟩, 20) := ⟨⟨by decide +kernel, by decide +kernel⟩, List.mem_of_getElem? (i := 1020) (by decide +kernel), List.mem_of_getElem? (i := 1505) (by decide +kernel), List.mem_of_getElem? (i := 1506) (by decide +kernel)⟩
theorem lw_p52 : lw_okq (⟨"DoublecoatModel", "ofTownNow", "(II)I"⟩, 20) := ⟨⟨by decide +kernel, by decide +kernel⟩, List.mem_of_getElem? (i := 1020) (by decide +kernel), List.mem_of_getElem? (i := 1513) (by decide +kernel), List.mem_of_getElem? (i := 1514) (by decide +kernel)⟩
theorem lw_p53 : lw_okq (⟨"DoublecoatModel", "houseNow", "(I)I"⟩, 20) := ⟨⟨by decide +kernel, by decide +kernel⟩, List.mem_of_getElem? (i := 1020) (by decide +kernel), List.mem_of_getElem? (i := 1524) (by decide +kernel), List.mem_of_getElem? (i := 1525) (by decide +kernel)⟩
theorem lw_p54 : lw_okq (⟨"DoublecoatModel", "pawned", "()I"⟩, 20) := ⟨⟨by decide +kernel, by decide +kernel⟩, List.mem_of_getElem? (i := 1020) (by decide +kernel), List.mem_of_getElem? (i := 1528) (by decide +kernel), List.mem_of_getElem? (i := 1529) (by decide +kernel)⟩
theorem lw_p55 : lw_okq (⟨"DoublecoatModel", "cutScenes", "()I"⟩, 20) := ⟨⟨by decide +kernel, by decide +kernel⟩, List.mem_of_getElem? (i := 1020) (by decide +kernel), List.mem_of_getElem? (i := 1532) (by decide +kernel), List.mem_of_getElem? (i := 1533) (by decide +kernel)⟩
theorem lw_p56 : lw_okq (⟨"DoublecoatModel", "purses", "()I"⟩, 20) := ⟨⟨by decide +kernel, by decide +kernel⟩, List.mem_of_getElem? (i := 1020) (by decide +kernel), List.mem_of_getElem? (i := 1536) (by decide +kernel), List.mem_of_getElem? (i := 1537) (by decide +kernel)⟩
theorem lw_p57 : lw_okq (⟨"DoublecoatModel", "castNow", "()Ljava/lang/String;"⟩, 20) := ⟨⟨by decide +kernel, by decide +kernel⟩, List.mem_of_getElem? (i := 1020) (by decide +kernel), List.mem_of_getElem? (i := 1544) (by decide +kernel), List.mem_of_getElem? (i := 1545) (by decide +kernel)⟩
theorem lw_p58 : lw_okq (⟨"DoublecoatModel", "tourNow", "(II)I"⟩, 20) := ⟨⟨by decide +kernel, by decide +kernel⟩, List.mem_of_getElem? (i := 1020) (by decide +kernel), List.mem_of_getElem? (i := 1557) (by decide +kernel), List.mem_of_getElem? (i := 1558) (by decide +kernel)⟩
theorem lw_p59 : lw_okq (⟨"DoublecoatModel", "go", "(IIIIII)V"⟩, 20) := ⟨⟨by decide +kernel, by decide +kernel⟩, List.mem_of_getElem? (i := 1020) (by decide +kernel), List.mem_of_getElem? (i := 1561) (by decide +kernel), List.mem_of_getElem? (i := 1562) (by decide +kernel)⟩
theorem lw_p60 : lw_okq (⟨"DoublecoatModel", "withoutNow", "(I)I"⟩, 20) := ⟨⟨by decide +kernel, by decide +kernel⟩, List.mem_of_getElem? (i := 1020) (by decide +kernel), List.mem_of_getElem? (i := 1573) (by decide +kernel), List.mem_of_getElem? (i := 1574) (by decide +kernel)⟩
theorem lw_p61 : lw_okq (⟨"DoublecoatModel", "isSoundNow", "()Z"⟩, 20) := ⟨⟨by decide +kernel, by decide +kernel⟩, List.mem_of_getElem? (i := 1020) (by decide +kernel), List.mem_of_getElem? (i := 1585) (by decide +kernel), List.mem_of_getElem? (i := 1586) (by decide +kernel)⟩
theorem lw_p62 : lw_okq (⟨"DoublecoatModel", "add", "(J)V"⟩, 20) := ⟨⟨by decide +kernel, by decide +kernel⟩, List.mem_of_getElem? (i := 1020) (by decide +kernel), List.mem_of_getElem? (i := 1594) (by decide +kernel), List.mem_of_getElem? (i := 1595) (by decide +kernel)⟩
def lw_privs_4 : List (MethodName × Nat) := [(⟨"DoublecoatModel", "dressed", "(I)I"⟩, 20), (⟨"DoublecoatModel", "dress", "(III)V"⟩, 20), (⟨"DoublecoatModel", "waste", "(LDoublecoatModel$Coat;I)I"⟩, 20), (⟨"DoublecoatModel", "ofCoatNow", "(II)I"⟩, 20), (⟨"DoublecoatModel", "ofTownNow", "(II)I"⟩, 20), (⟨"DoublecoatModel", "houseNow", "(I)I"⟩, 20), (⟨"DoublecoatModel", "pawned", "()I"⟩, 20), (⟨"DoublecoatModel", "cutScenes", "()I"⟩, 20), (⟨"DoublecoatModel", "purses", "()I"⟩, 20), (⟨"DoublecoatModel", "castNow", "()Ljava/lang/String;"⟩, 20), (⟨"DoublecoatModel", "tourNow", "(II)I"⟩, 20), (⟨"DoublecoatModel", "go", "(IIIIII)V"⟩, 20), (⟨"DoublecoatModel", "withoutNow", "(I)I"⟩, 20), (⟨"DoublecoatModel", "isSoundNow", "()Z"⟩, 20), (⟨"DoublecoatModel", "add", "(J)V"⟩, 20)]
theorem lw_r4 : ∀ q ∈ lw_privs_4, lw_okq q := List.forall_mem_cons.mpr ⟨lw_p48, List.forall_mem_cons.mpr ⟨lw_p49, List.forall_mem_cons.mpr ⟨lw_p50, List.forall_mem_cons.mpr ⟨lw_p51, List.forall_mem_cons.mpr ⟨lw_p52, List.forall_mem_cons.mpr ⟨lw_p53, List.forall_mem_cons.mpr ⟨lw_p54, List.forall_mem_cons.mpr ⟨lw_p55, List.forall_mem_cons.mpr ⟨lw_p56, List.forall_mem_cons.mpr ⟨lw_p57, List.forall_mem_cons.mpr ⟨lw_p58, List.forall_mem_cons.mpr ⟨lw_p59, List.forall_mem_cons.mpr ⟨lw_p60, List.forall_mem_cons.mpr ⟨lw_p61, List.forall_mem_cons.mpr ⟨lw_p62, fun _ h => absurd h List.not_mem_nil⟩⟩⟩⟩⟩⟩⟩⟩⟩⟩⟩⟩⟩⟩⟩
def lw_privs : List (MethodName × Nat) := lw_privs_1 ++ (lw_privs_2 ++ (lw_privs_3 ++ (lw_privs_4)))
def lw_tbl : List Cond := k2_sels lw_privs ++ tables_1
theorem lw_privs_ok : ∀ q ∈ lw_privs, lw_okq q := by
  show ∀ q ∈ lw_privs_1 ++ (lw_privs_2 ++ (lw_privs_3 ++ (lw_privs_4))), lw_okq q
  exact List.forall_mem_append.mpr ⟨lw_r1, List.forall_mem_append.mpr ⟨lw_r2, List.forall_mem_append.mpr ⟨lw_r3, lw_r4⟩⟩⟩
-- ===== end of PART A; then your names; then what follows =====
end
section
/-! ===== BEGIN words of one list among another's, by their places ===== -/
theorem goodIn_r {big : List Cond} (ws : List Cond) (ps : List Nat) (hp : ws = ps.filterMap (fun i => big[i]?)) (h : ws.all goodWord = true) : GoodIn big ws := by
  intro w hw
  have h1 := List.all_eq_true.mp h w hw
  rw [hp] at hw
  obtain ⟨i, -, hi⟩ := List.mem_filterMap.mp hw
  have hm : w ∈ big := by first | exact List.mem_of_getElem? hi | exact List.getElem?_mem hi
  exact ⟨hm, good_of_word h1⟩
theorem goodIn_app {big a b : List Cond} (ha : GoodIn big a) (hb : GoodIn big b) : GoodIn big (a ++ b) := fun w h => (List.mem_append.mp h).elim (ha w) (hb w)
theorem goodIn_ca {big a b : List Cond} {c : Cond} (ha : GoodIn big (c :: a)) (hb : GoodIn big b) : GoodIn big (c :: (a ++ b)) := fun w h => (List.mem_cons.mp h).elim (fun e => ha w (List.mem_cons.mpr (Or.inl e))) (fun h => (List.mem_append.mp h).elim (fun h => ha w (List.mem_cons.mpr (Or.inr h))) (hb w))
theorem goodIn_sub {big ws : List Cond} (hm : ∀ w ∈ ws, w ∈ big) (h : ws.all goodWord = true) : GoodIn big ws := fun w hw => ⟨hm w hw, good_of_word (List.all_eq_true.mp h w hw)⟩
/-! ===== END ===== -/


/-! ===== BEGIN exceptions that leave a method, and their catching by the caller (launches without stack traces) ===== -/
section VXA
/-! The laws vx_back, vx_callV, vx_callS, vx_callSW, vx_throw0, vx_throwS follow proofs of the library, with one case more: JvmDerived/Free/Laws.lean (Back.of_free), Shelf42/LK1.lean (callV, callS), Shelf/KitTraced.lean (throwNew0V, throwNewS). -/
/-- where a method has thrown q: the class by its name, the cell, what was written, the world -/
def vx_T (XC : String → State → State → Prop) (st : State) (q : Addr) (t : State) (mc ms : Nat) (free : Addr → Prop) : Prop :=
  ∃ (E : String) (ce : Cell) (L : List Loc), XC E st t ∧ t.heap[q]? = some ce ∧ ce.vm = .none ∧ st.vm.findClass E = some ce.cls ∧ st.WarmedH t.vm ∧ st.sameButNew ({ t with vm := st.vm } : State) L mc ms ∧ ∀ z ∈ L, free z.base
def vx_Q (Qc : Array Value → State → Outcome → State → Prop) (XC : String → State → State → Prop) (mc ms : Nat) (free : Addr → Prop) : Array Value → State → Outcome → State → Prop := fun a st o t =>
  (Qc a st o t ∧ ∃ L, FrameEnd st o t L mc ms ∧ ∀ q ∈ L, free q.base) ∨ ∃ q, o = .threw q ∧ vx_T XC st q t mc ms free
/-- a callee that returns or throws -/
def vx_Met (l : Launch) (y : MethodName) (ws : List Cond) (rm : Room) (Pc : Array Value → State → Prop) (Qc : Array Value → State → Outcome → State → Prop) (XC : String → State → State → Prop) (mc ms : Nat) (free : Addr → Prop) : Prop :=
  MetFree l y (headSpec ws rm) Pc (fun _ _ _ _ _ => True) (vx_Q Qc XC mc ms free)
def vx_Post (XC : String → State → State → Prop) (mc ms : Nat) (free : Addr → Prop) : Pt → Array Value → Addr → Pt → Prop := fun A a q B =>
  ∃ (g : JFrame) (mk : MethodId) (t : State) (L : List Loc) (E : String) (ce : Cell), B.U.heap = t.heap ∧ B.U.vm = t.vm ∧ XC E (A.U.calling g mk a) t ∧ t.heap[q]? = some ce ∧ ce.vm = .none ∧ A.U.vm.findClass E = some ce.cls ∧ B.locs = A.locs ++ L ∧ (∀ z ∈ L, free z.base) ∧ B.cells = A.cells + mc ∧ B.slots = A.slots + ms
def vx_Back (l : Launch) (R : Room) (p : Program) (e : Env) (below : List Frame) (s : State) (sargs : Array Value) (y : MethodName) (len W9 : Nat)
    (Pre : Pt → Array Value → Prop) (Post : Pt → Array Value → Option Value → Pt → Prop) (PostX : Pt → Array Value → Addr → Pt → Prop) : Prop :=
  ∀ (m : MethodId) (meth : Method) (c : Code) (A : Pt) (g : JFrame) (ig : Instr) (mk : MethodId) (a : Array Value),
    Stand p l e R s m sargs below meth c A.U A.locs A.cells A.slots → g.method = m → g.locals.size = c.maxLocals → decode c.code g.pc = .ok (ig, len) →
    2 * g.monitorRoom + (g.stack.map fun v => v.category).sum ≤ W9 → A.U.methodNamed? y = some mk → Pre A a →
    (∃ (v : Option Value) (B : Pt), Stand p l e R s m sargs below meth c B.U B.locs B.cells B.slots ∧ Post A a v B ∧
      Steps p.tables e below (doInvoke e (A.U.setTop g) [] mk a).1 (B.U.setTop { g with pc := g.pc + len, stack := v.toList ++ g.stack })) ∨
    (∃ (q : Addr) (B : Pt), Stand p l e R s m sargs below meth c B.U B.locs B.cells B.slots ∧ PostX A a q B ∧
      Steps p.tables e below (doInvoke e (A.U.setTop g) [] mk a).1 ((B.U.setTop g).pushFrame (.throwing q)))
section Payer
variable {l : Launch} {R : Room} {p : Program} {e : Env} {below : List Frame} {s : State} {sargs : Array Value} {y : MethodName} {len W9 : Nat}
theorem vx_back {ws : List Cond} {rm : Room} {Pc : Array Value → State → Prop} {Qc : Array Value → State → Outcome → State → Prop} {XC : String → State → State → Prop} {mc ms : Nat} {free : Addr → Prop} {bytes : ByteArray} {maxL : Nat} {ret : Option FieldType}
    (hM : vx_Met l y ws rm Pc Qc XC mc ms free) (hblind : FrameBlind Pc) (hrc : rm.cells = mc) (hrs : rm.slots = ms)
    (hframes : rm.frames + 1 ≤ R.frames) (hlocals : W9 + (maxL + 11) + rm.locals ≤ R.locals)
    (hws : ∀ w ∈ ws, ∀ a' U, s.WarmedH U.vm → w.before a' U = true) (hcode : Cond.code y bytes maxL ret ∈ ws) (hinit : ∀ a' U, s.WarmedH U.vm → (Cond.initialized y.cls).before a' U = true) :
    vx_Back l R p e below s sargs y len W9 (PreOf R mc ms Pc) (PostOf Qc mc ms free) (vx_Post XC mc ms free) := by
  intro m meth c A g ig mk a X hg hsize hdg hW hn hp
  have h1 : (headSpec ws rm).pre.before a A.U = true := atoms_intro fun w hw => hws w hw _ _ X.warmed
  have h2 : (Cond.code y bytes maxL ret).before a A.U = true := hws _ hcode _ _ X.warmed
  have h3 : (Cond.initialized y.cls).before a A.U = true := hinit _ _ X.warmed
  have h4 : A.cells + (headSpec ws rm).room.cells ≤ R.cells := by rw [show (headSpec ws rm).room.cells = mc from hrc]; exact hp.1
  have h5 : A.slots + (headSpec ws rm).room.slots ≤ R.slots := by rw [show (headSpec ws rm).room.slots = ms from hrs]; exact hp.2.1
  have hPc : Pc a (A.U.calling g mk a) := hblind _ _ _ _ hp.2.2
  obtain ⟨U, Ls, c0, s0⟩ := A
  dsimp only [Pt.U, Pt.locs, Pt.cells, Pt.slots] at h1 h2 h3 h4 h5 X hn hPc ⊢
  obtain ⟨methY, cY, hmY, hcY, -, hlY, -, -, -, -⟩ := Cond.code_spec hn h2
  obtain ⟨kY, hkY, -⟩ := className_of_methodNamed hn
  have hinitY : kY.init = .initialized := Cond.initialized_spec (findClass_of_methodNamed hn) hkY h3
  have h : At U g.method c below := by rw [hg]; exact X.here
  have hlocals9 : W9 + (maxL + 11) + (headSpec ws rm).room.locals ≤ R.locals := hlocals
  have happ : (headSpec ws rm).appliesLoose y e.platform (U.calling g mk a) = true :=
    Spec.appliesLoose_calling (g := g) h hdg hn hkY hinitY
      (X.room_calling (g := g) (R' := (headSpec ws rm).room) hsize hmY hcY hframes (by rw [hlY]; omega) h4 h5) h1
  obtain ⟨mid, hmid⟩ := h.above
  have hfr : (U.setTop g).frames = (.java g :: mid) ++ below := by rw [State.frames_setTop' g h.top, hmid]; rfl
  obtain ⟨o, s₂, hsteps, -, hend, hq⟩ := Steps.callFree hM p X.admits X.cas X.clock (acts := []) hfr happ hPc trivial
  have hq' : vx_Q Qc XC mc ms free a (U.calling g mk a) o s₂ := hq
  rw [State.frames_setTop' g h.top] at hend
  obtain ⟨g₀, hg0⟩ := Option.isSome_iff_exists.mp h.top
  obtain ⟨r, hr⟩ := State.topJava?_eq_some.mp hg0
  have hr' : (({ U with heap := s₂.heap, slotsUsed := s₂.slotsUsed } : State).setVm s₂.vm).frames = .java g₀ :: r := hr
  rcases hq' with ⟨hqc, L, hfe, hL⟩ | ⟨q, rfl, E, ce, L, hx, hce, hcv, hcl, hW₂, hsm, hL⟩
  · obtain ⟨⟨v, rfl⟩, hW₂, e2, q2, q3, q4, q5, q6⟩ := id hfe
    have e3 : s₂ = ({ (U.calling g mk a).setFrames s₂.frames with heap := s₂.heap, slotsUsed := s₂.slotsUsed } : State).setVm s₂.vm := by
      have : s₂ = ({ s₂ with vm := (U.calling g mk a).vm } : State).setVm s₂.vm := rfl
      rw [e2] at this
      exact this
    obtain ⟨c₂, i₂, len₂, hc₂, hd₂, hf₂⟩ := hend
    have hW' : U.WarmedH s₂.vm := hW₂
    have hcc : c₂ = c := by
      have h1 : s₂.code? g.method = U.code? g.method := by
        rw [State.code?_eq, State.code?_eq, hW'.alike.method?]
      exact Option.some.inj (hc₂.symm.trans (h1.trans h.code))
    subst hcc
    have hlen : len₂ = len := by rw [hdg] at hd₂; cases hd₂; rfl
    subst hlen
    have hs₂ : s₂ = (({ U with heap := s₂.heap, slotsUsed := s₂.slotsUsed } : State).setVm s₂.vm).setTop { g with pc := g.pc + len₂, stack := v.toList ++ g.stack } := by
      refine e3.trans ?_
      rw [hf₂, State.calling_eq h.top, State.setFrames_setFrames, State.setTop_of_frames _ hr', hr]
      rfl
    have hsame : U.sameButNew ({ U with heap := s₂.heap, slotsUsed := s₂.slotsUsed } : State) L mc ms := by
      refine ⟨?_, q2, q3, q4, q5, q6⟩
      obtain ⟨t, ht, -⟩ := State.frames_cons hr
      show ({ U with heap := s₂.heap, slotsUsed := s₂.slotsUsed } : State) = { U.setFrames U.frames with heap := s₂.heap, slotsUsed := s₂.slotsUsed }
      rw [State.setFrames_self ht]
    subst hg
    refine Or.inl ⟨v, ⟨(({ U with heap := s₂.heap, slotsUsed := s₂.slotsUsed } : State).setVm s₂.vm), Ls ++ L, c0 + mc, s0 + ms⟩,
      ⟨X.admits, X.cas, X.clock, X.frames, X.room, X.hears, X.method, X.code, (X.here.setHeapUsed s₂.heap s₂.slotsUsed).setVm hW'.alike, X.tail, State.WarmedH.trans X.warmed hW', X.limits, X.bytes, X.same.trans (hsame.setVm s.vm)⟩,
      ⟨g, mk, s₂, L, rfl, rfl, hqc, rfl, hL, rfl, rfl⟩, ?_⟩
    show Steps p.tables e below _ ((({ U with heap := s₂.heap, slotsUsed := s₂.slotsUsed } : State).setVm s₂.vm).setTop { g with pc := g.pc + len₂, stack := v.toList ++ g.stack })
    rw [← hs₂]
    exact hsteps
  · obtain ⟨e2, q2, q3, q4, q5, q6⟩ := id hsm
    have e3 : s₂ = ({ (U.calling g mk a).setFrames s₂.frames with heap := s₂.heap, slotsUsed := s₂.slotsUsed } : State).setVm s₂.vm := by
      have : s₂ = ({ s₂ with vm := (U.calling g mk a).vm } : State).setVm s₂.vm := rfl
      rw [e2] at this
      exact this
    have hf₂ : s₂.frames = .throwing q :: .java g :: U.frames.tail := hend
    have hW' : U.WarmedH s₂.vm := hW₂
    have hs₂ : s₂ = ((({ U with heap := s₂.heap, slotsUsed := s₂.slotsUsed } : State).setVm s₂.vm).setTop g).pushFrame (.throwing q) := by
      refine e3.trans ?_
      rw [hf₂, State.calling_eq h.top, State.setFrames_setFrames, State.pushFrame, State.frames_setTop _ hr', State.setTop_of_frames _ hr', State.setFrames_setFrames, hr]
      rfl
    have hsame : U.sameButNew ({ U with heap := s₂.heap, slotsUsed := s₂.slotsUsed } : State) L mc ms := by
      refine ⟨?_, q2, q3, q4, q5, q6⟩
      obtain ⟨t, ht, -⟩ := State.frames_cons hr
      show ({ U with heap := s₂.heap, slotsUsed := s₂.slotsUsed } : State) = { U.setFrames U.frames with heap := s₂.heap, slotsUsed := s₂.slotsUsed }
      rw [State.setFrames_self ht]
    subst hg
    refine Or.inr ⟨q, ⟨(({ U with heap := s₂.heap, slotsUsed := s₂.slotsUsed } : State).setVm s₂.vm), Ls ++ L, c0 + mc, s0 + ms⟩,
      ⟨X.admits, X.cas, X.clock, X.frames, X.room, X.hears, X.method, X.code, (X.here.setHeapUsed s₂.heap s₂.slotsUsed).setVm hW'.alike, X.tail, State.WarmedH.trans X.warmed hW', X.limits, X.bytes, X.same.trans (hsame.setVm s.vm)⟩,
      ⟨g, mk, s₂, L, E, ce, rfl, rfl, hx, hce, hcv, hcl, rfl, hL, rfl, rfl⟩, ?_⟩
    show Steps p.tables e below _ (((({ U with heap := s₂.heap, slotsUsed := s₂.slotsUsed } : State).setVm s₂.vm).setTop g).pushFrame (.throwing q))
    rw [← hs₂]
    exact hsteps
end Payer
section Calls
variable {p : Program} {l : Launch} {e : Env} {R : Room} {s : State} {m : MethodId} {args : Array Value} {below : List Frame} {meth : Method} {c : Code} {T : State} {locs : List Loc} {cells slots : Nat}
theorem vx_callV (X : Stand p l e R s m args below meth c T locs cells slots) (hexec : p.tables.exec = Jvm.exec) {own C : String} {index : Nat} {y : MethodName} {bytes : ByteArray} {maxL : Nat} {ret : Option FieldType}
    (hown : s.vm.findClass own = some m.cls) (hlink : (Cond.methodLink own index y).before args s = true) (hinst : (Cond.instanceMethod y).before args s = true) (hsel : (Cond.selects C y y).before args s = true)
    (hcode : (Cond.code y bytes maxL ret).before args s = true) (hy : y.cls ≠ "java/lang/invoke/MethodHandle" ∧ y.cls ≠ "java/lang/invoke/VarHandle")
    {W9 : Nat} {Pre : Pt → Array Value → Prop} {Post : Pt → Array Value → Option Value → Pt → Prop} {PostX : Pt → Array Value → Addr → Pt → Prop} (hK : vx_Back l R p e below s args y 3 W9 Pre Post PostX)
    {b : Addr} {cellB : Cell} (hcell : T.heap[b]? = some cellB) (hobj : cellB.vm.isStatics = false) (hcls : s.vm.findClass C = some cellB.cls)
    {g : JFrame} (hg : g.method = m) (hsize : g.locals.size = c.maxLocals) {argsL rest : List Value} (hlen : ∀ sig, parseMethodDescriptor y.desc = some sig → argsL.length = sig.parameters.length)
    (hstack : g.stack = argsL.reverse ++ .ref b :: rest) (hW : 2 * g.monitorRoom + (rest.map fun v => v.category).sum ≤ W9) (hdg : decode c.code g.pc = .ok (.invokevirtual index, 3))
    (hpre : ∀ vm₁, s.WarmedH vm₁ → Pre ⟨T.setVm vm₁, locs, cells, slots⟩ (Value.ref b :: argsL).toArray) :
    (∃ (v : Option Value) (vm₁ : Vm) (B : Pt), s.WarmedH vm₁ ∧ Stand p l e R s m args below meth c B.U B.locs B.cells B.slots ∧ Post ⟨T.setVm vm₁, locs, cells, slots⟩ (Value.ref b :: argsL).toArray v B ∧
      ∀ target, Steps p.tables e below (B.U.setTop { g with pc := g.pc + 3, stack := v.toList ++ rest }) target → Steps p.tables e below (T.setTop g) target) ∨
    (∃ (q : Addr) (vm₁ : Vm) (B : Pt), s.WarmedH vm₁ ∧ Stand p l e R s m args below meth c B.U B.locs B.cells B.slots ∧ PostX ⟨T.setVm vm₁, locs, cells, slots⟩ (Value.ref b :: argsL).toArray q B ∧
      Steps p.tables e below (T.setTop g) ((B.U.setTop { g with stack := rest }).pushFrame (.throwing q))) := by
  obtain ⟨mk, methM, hnamed, hmethM, hstM, habM⟩ := Cond.instanceMethod_spec hinst
  obtain ⟨methM', cM, hmethM', -, -, -, -, -, -, hsigM⟩ := Cond.code_spec hnamed hcode
  cases hmethM.symm.trans hmethM'
  obtain ⟨c2, r2, m2, q1, q2, q3, q4, kP, hkP, hkPi⟩ := Cond.selects_spec hsel
  cases hcls.symm.trans q1
  cases (State.methodFound?_of_named hnamed hy).symm.trans q2
  cases hnamed.symm.trans q3
  have hselP : selectMethod e.platform s.vm cellB.cls mk = .method mk := by rw [Launch.admits_selectMethod X.admits]; exact q4
  obtain ⟨vm₁, X₁, hstep₁⟩ := X.invokevirtual hexec hown hlink hnamed hmethM hstM hkP hkPi hy (a := b) (cell := cellB) hcell
    (fun z h => by rw [h] at hobj; cases hobj) hselP hmethM habM hkP hkPi (g := g) hg (argsL := argsL) (rest := rest) (hlen _ hsigM) hstack hdg
  rcases hK m meth c ⟨T.setVm vm₁, locs, cells, slots⟩ { g with stack := rest } (.invokevirtual index) mk (Value.ref b :: argsL).toArray X₁ hg hsize hdg hW (X₁.named hnamed) (hpre vm₁ X₁.warmed) with ⟨v, B, X', hpost, hsteps⟩ | ⟨q, B, X', hpost, hsteps⟩
  · exact Or.inl ⟨v, vm₁, B, X₁.warmed, X', hpost, fun target h => hstep₁ _ fun acts => by rw [doInvoke_state]; exact hsteps.trans h⟩
  · exact Or.inr ⟨q, vm₁, B, X₁.warmed, X', hpost, hstep₁ _ fun acts => by rw [doInvoke_state]; exact hsteps⟩
theorem vx_callS (X : Stand p l e R s m args below meth c T locs cells slots) (hexec : p.tables.exec = Jvm.exec) {own : String} {index : Nat} {y : MethodName} {bytes : ByteArray} {maxL : Nat} {ret : Option FieldType}
    (hown : s.vm.findClass own = some m.cls) (hlink : (Cond.methodLink own index y).before args s = true) (hstat : (Cond.static y).before args s = true) (hinit : (Cond.initialized y.cls).before args s = true)
    (hcode : (Cond.code y bytes maxL ret).before args s = true) (hy : y.cls ≠ "java/lang/invoke/MethodHandle" ∧ y.cls ≠ "java/lang/invoke/VarHandle")
    {W9 : Nat} {Pre : Pt → Array Value → Prop} {Post : Pt → Array Value → Option Value → Pt → Prop} {PostX : Pt → Array Value → Addr → Pt → Prop} (hK : vx_Back l R p e below s args y 3 W9 Pre Post PostX)
    {g : JFrame} (hg : g.method = m) (hsize : g.locals.size = c.maxLocals) {argsL rest : List Value} (hlen : ∀ sig, parseMethodDescriptor y.desc = some sig → argsL.length = sig.parameters.length)
    (hstack : g.stack = argsL.reverse ++ rest) (hW : 2 * g.monitorRoom + (rest.map fun v => v.category).sum ≤ W9) (hdg : decode c.code g.pc = .ok (.invokestatic index, 3))
    (hpre : ∀ vm₁, s.WarmedH vm₁ → Pre ⟨T.setVm vm₁, locs, cells, slots⟩ argsL.toArray) :
    (∃ (v : Option Value) (vm₁ : Vm) (B : Pt), s.WarmedH vm₁ ∧ Stand p l e R s m args below meth c B.U B.locs B.cells B.slots ∧ Post ⟨T.setVm vm₁, locs, cells, slots⟩ argsL.toArray v B ∧
      ∀ target, Steps p.tables e below (B.U.setTop { g with pc := g.pc + 3, stack := v.toList ++ rest }) target → Steps p.tables e below (T.setTop g) target) ∨
    (∃ (q : Addr) (vm₁ : Vm) (B : Pt), s.WarmedH vm₁ ∧ Stand p l e R s m args below meth c B.U B.locs B.cells B.slots ∧ PostX ⟨T.setVm vm₁, locs, cells, slots⟩ argsL.toArray q B ∧
      Steps p.tables e below (T.setTop g) ((B.U.setTop { g with stack := rest }).pushFrame (.throwing q))) := by
  obtain ⟨mk, hnamed⟩ := Cond.code_named hcode
  obtain ⟨methM, cM, hmethM, -, -, -, -, -, -, hsigM⟩ := Cond.code_spec hnamed hcode
  have hstatic : methM.isStatic = true := Cond.static_spec hnamed hmethM hstat
  obtain ⟨kP, hkP, -⟩ := className_of_methodNamed hnamed
  have hinitP : kP.init = .initialized := Cond.initialized_spec (findClass_of_methodNamed hnamed) hkP hinit
  obtain ⟨vm₁, X₁, hstep₁⟩ := X.invokestatic hexec hown hlink hnamed hmethM hstatic hkP hinitP hy (g := g) hg (argsL := argsL) (rest := rest) (hlen _ hsigM) hstack hdg
  rcases hK m meth c ⟨T.setVm vm₁, locs, cells, slots⟩ { g with stack := rest } (.invokestatic index) mk argsL.toArray X₁ hg hsize hdg hW (X₁.named hnamed) (hpre vm₁ X₁.warmed) with ⟨v, B, X', hpost, hsteps⟩ | ⟨q, B, X', hpost, hsteps⟩
  · exact Or.inl ⟨v, vm₁, B, X₁.warmed, X', hpost, fun target h => hstep₁ _ fun acts => by rw [doInvoke_state]; exact hsteps.trans h⟩
  · exact Or.inr ⟨q, vm₁, B, X₁.warmed, X', hpost, hstep₁ _ fun acts => by rw [doInvoke_state]; exact hsteps⟩
end Calls
theorem vx_cls {s : State} {T : State} {vm₁ : Vm} {E : String} {k : ClassId} (hW : s.WarmedH vm₁) (h : (T.setVm vm₁).vm.findClass E = some k) : s.vm.findClass E = some k := by
  have h1 : vm₁.findClass E = some k := h
  rw [hW.alike.findClass] at h1
  exact h1
/-- the method's frame g, with q thrown over it -/
def vx_W (p : Program) (l : Launch) (e : Env) (R : Room) (s : State) (m : MethodId) (args : Array Value) (below : List Frame) (meth : Method) (c : Code) (H : Heap) (locs : List Loc) (cells slots : Nat) (Q : State → Prop) (g : JFrame) (q : Addr) : Prop :=
  ∀ T : State, T.heap = H → Stand p l e R s m args below meth c T locs cells slots → ∃ t, Steps p.tables e below ((T.setTop g).pushFrame (.throwing q)) t ∧ Q t
def vx_Run (p : Program) (l : Launch) (e : Env) (R : Room) (s : State) (m : MethodId) (args : Array Value) (below : List Frame) (meth : Method) (c : Code) (H : Heap) (locs : List Loc) (cells slots mc ms : Nat) (g : JFrame) (rest : List Value) (Qa : State → Outcome → State → Prop) (XC : String → State → State → Prop) (free : Addr → Prop) : Prop :=
  ∀ T : State, T.heap = H → Stand p l e R s m args below meth c T locs cells slots →
    (∃ (v : Option Value) (st₀ t T' : State) (L : List Loc), st₀.heap = H ∧ Stand p l e R s m args below meth c T' (locs ++ L) (cells + mc) (slots + ms) ∧ (∀ q ∈ L, free q.base) ∧ T'.heap = t.heap ∧ T'.vm = t.vm ∧ Qa st₀ (.returned v) t ∧
      Goes p e below T g T' { g with pc := g.pc + 3, stack := v.toList ++ rest }) ∨
    (∃ (q : Addr) (st₀ t T' : State) (L : List Loc) (E : String) (ce : Cell), st₀.heap = H ∧ Stand p l e R s m args below meth c T' (locs ++ L) (cells + mc) (slots + ms) ∧ (∀ z ∈ L, free z.base) ∧ T'.heap = t.heap ∧ T'.vm = t.vm ∧ XC E st₀ t ∧ t.heap[q]? = some ce ∧ ce.vm = .none ∧ s.vm.findClass E = some ce.cls ∧
      Steps p.tables e below (T.setTop g) ((T'.setTop { g with stack := rest }).pushFrame (.throwing q)))
def vx_X {S : Type} (px : S → Prop) (B : String → S → State → Prop) (A : Nat → Prop) : String → State → State → Prop := fun E st t => ∃ u : S, px u ∧ B E u t ∧ va_F A st t
section Runs
variable {p : Program} {l : Launch} {e : Env} {R : Room} {s : State} {m : MethodId} {args : Array Value} {below : List Frame} {meth : Method} {c : Code} {H : Heap} {locs : List Loc} {cells slots : Nat}
variable {y : MethodName} {bytes cc : ByteArray} {maxL nL mc ms n index : Nat} {ret : Option FieldType} {ws : List Cond} {rm : Room} {Pc : Array Value → State → Prop} {Qc : Array Value → State → Outcome → State → Prop} {XC : String → State → State → Prop} {free : Addr → Prop} {Ts : List Cond} {own C : String} {b : Addr} {As rest : List Value} {g : JFrame}
theorem vx_callBack (cb : CallB R s args own index y bytes maxL ret ws rm mc ms n) (hM : vx_Met l y ws rm Pc Qc XC mc ms free) (hbl : FrameBlind Pc) : vx_Back l R p e below s args y 3 8 (PreOf R mc ms Pc) (PostOf Qc mc ms free) (vx_Post XC mc ms free) := by
  obtain ⟨hrc, hrs, hfr, hlo, hws, hcw, -, hini, -⟩ := cb
  exact vx_back (bytes := bytes) (maxL := maxL) (ret := ret) hM hbl hrc hrs hfr hlo hws hcw (fun a' U hW => word_at hW (Or.inl (by first | rfl | simp [Cond.onTables, Cond.keeps, Cond.steady])) hini)
theorem vx_runV (S : CallFix p m c cc nL s args Ts own) (hM : vx_Met l y ws rm Pc Qc XC mc ms free) (cw : CallW R s args own C index y bytes maxL ret ws rm mc ms n) (hp : PreV s H C b Pc As)
    (hg : g.method = m) (hn : As.length = n) (hsize : g.locals.size = nL) (hstack : g.stack = As.reverse ++ .ref b :: rest) (hW : 2 * g.monitorRoom + (rest.map fun v => v.category).sum ≤ 8) (hdg : decode cc g.pc = .ok (.invokevirtual index, 3)) (hf : cells + mc ≤ R.cells ∧ slots + ms ≤ R.slots) :
    vx_Run p l e R s m args below meth c H locs cells slots mc ms g rest (Qc (Value.ref b :: As).toArray) XC free := by
  have hK : vx_Back l R p e below s args y 3 8 (PreOf R mc ms Pc) (PostOf Qc mc ms free) (vx_Post XC mc ms free) := vx_callBack cw.1 hM hp.1
  obtain ⟨⟨-, -, -, -, -, -, hcode, -, hy, hlen, hl⟩, hin, hse⟩ := cw
  obtain ⟨hx, hb, hml, ho, -⟩ := S
  obtain ⟨-, ⟨cellB, hcB, hoB, hclB⟩, hPc⟩ := hp
  intro T hT X
  rcases vx_callV X hx (C := C) (bytes := bytes) (maxL := maxL) (ret := ret) ho hl hin hse hcode hy hK (by rw [hT]; exact hcB) hoB hclB hg (hsize.trans hml.symm) (argsL := As) (rest := rest) (fun sig h => hn.trans (hlen sig h)) hstack hW (by rw [hb]; exact hdg)
    (fun vm₁ hW₁ => ⟨hf.1, hf.2, hPc (T.setVm vm₁) hT hW₁⟩) with ⟨v, vm₁, ⟨U', l2, c2, s2⟩, hW₁, X', ⟨g', mk, t, L, e1, e2, hq, h1, hL, h2, h3⟩, st⟩ | ⟨q, vm₁, ⟨U', l2, c2, s2⟩, hW₁, X', ⟨g', mk, t, L, E, ce, e1, e2, hq, hce, hcv, hcl, h1, hL, h2, h3⟩, st⟩
  · dsimp only [Pt.U, Pt.locs, Pt.cells, Pt.slots] at X' e1 e2 h1 h2 h3 st
    subst h1; subst h2; subst h3
    exact Or.inl ⟨v, (T.setVm vm₁).calling g' mk (Value.ref b :: As).toArray, t, U', L, hT, X', hL, e1, e2, hq, st⟩
  · dsimp only [Pt.U, Pt.locs, Pt.cells, Pt.slots] at X' e1 e2 h1 h2 h3 st hcl
    subst h1; subst h2; subst h3
    exact Or.inr ⟨q, (T.setVm vm₁).calling g' mk (Value.ref b :: As).toArray, t, U', L, E, ce, hT, X', hL, e1, e2, hq, hce, hcv, vx_cls hW₁ hcl, st⟩
theorem vx_runS (S : CallFix p m c cc nL s args Ts own) (hM : vx_Met l y ws rm Pc Qc XC mc ms free) (cw : CallB R s args own index y bytes maxL ret ws rm mc ms n ∧ (Cond.static y).before args s = true) (hp : PreS s H Pc As)
    (hg : g.method = m) (hn : As.length = n) (hsize : g.locals.size = nL) (hstack : g.stack = As.reverse ++ rest) (hW : 2 * g.monitorRoom + (rest.map fun v => v.category).sum ≤ 8) (hdg : decode cc g.pc = .ok (.invokestatic index, 3)) (hf : cells + mc ≤ R.cells ∧ slots + ms ≤ R.slots) :
    vx_Run p l e R s m args below meth c H locs cells slots mc ms g rest (Qc As.toArray) XC free := by
  have hK : vx_Back l R p e below s args y 3 8 (PreOf R mc ms Pc) (PostOf Qc mc ms free) (vx_Post XC mc ms free) := vx_callBack cw.1 hM hp.1
  obtain ⟨⟨-, -, -, -, -, -, hcode, hini, hy, hlen, hl⟩, hstt⟩ := cw
  obtain ⟨hx, hb, hml, ho, -⟩ := S
  intro T hT X
  rcases vx_callS X hx (bytes := bytes) (maxL := maxL) (ret := ret) ho hl hstt hini hcode hy hK hg (hsize.trans hml.symm) (argsL := As) (rest := rest) (fun sig h => hn.trans (hlen sig h)) hstack hW (by rw [hb]; exact hdg)
    (fun vm₁ hW₁ => ⟨hf.1, hf.2, hp.2 (T.setVm vm₁) hT hW₁⟩) with ⟨v, vm₁, ⟨U', l2, c2, s2⟩, hW₁, X', ⟨g', mk, t, L, e1, e2, hq, h1, hL, h2, h3⟩, st⟩ | ⟨q, vm₁, ⟨U', l2, c2, s2⟩, hW₁, X', ⟨g', mk, t, L, E, ce, e1, e2, hq, hce, hcv, hcl, h1, hL, h2, h3⟩, st⟩
  · dsimp only [Pt.U, Pt.locs, Pt.cells, Pt.slots] at X' e1 e2 h1 h2 h3 st
    subst h1; subst h2; subst h3
    exact Or.inl ⟨v, (T.setVm vm₁).calling g' mk As.toArray, t, U', L, hT, X', hL, e1, e2, hq, st⟩
  · dsimp only [Pt.U, Pt.locs, Pt.cells, Pt.slots] at X' e1 e2 h1 h2 h3 st hcl
    subst h1; subst h2; subst h3
    exact Or.inr ⟨q, (T.setVm vm₁).calling g' mk As.toArray, t, U', L, E, ce, hT, X', hL, e1, e2, hq, hce, hcv, vx_cls hW₁ hcl, st⟩
end Runs
section Rows
variable {p : Program} {l : Launch} {e : Env} {R : Room} {s : State} {m : MethodId} {args : Array Value} {below : List Frame} {meth : Method} {c : Code} {H : Heap} {locs : List Loc} {cells slots : Nat} {Q : State → Prop}
variable {mc ms : Nat} {free : Addr → Prop} {A0 A1 : Nat → Prop} {H0 : Heap} {a : Array Value} {pc : Nat} {ls : Array Slot} {st0 rest : List Value}
theorem vx_keep {st₀ t T' : State} {L : List Loc} (h0 : st₀.heap = H) (e1 : T'.heap = t.heap) (hS : va_S A0 H0 H locs) (hA : ∀ q, q < H.size → A1 q → A0 q) (hf : ∀ q, free q → A0 q) (hL : ∀ q ∈ L, free q.base) (hF : va_F A1 st₀ t) :
    H.size ≤ T'.heap.size ∧ (∀ q : Nat, q < H.size → ¬ A1 q → T'.heap[q]? = H[q]?) ∧ va_S A0 H0 T'.heap (locs ++ L) := by
  obtain ⟨hz, hk⟩ := hF
  rw [h0] at hz hk
  exact ⟨by rw [e1]; exact hz, fun q h1 h2 => by rw [e1]; exact hk q h1 h2,
    ⟨Nat.le_trans hS.1 (by rw [e1]; exact hz), fun q h1 h2 => by rw [e1, hk q (Nat.lt_of_lt_of_le h1 hS.1) (fun z => h2 (hA q (Nat.lt_of_lt_of_le h1 hS.1) z))]; exact hS.2.1 q h1 h2, fun q hq => by
      rcases List.mem_append.mp hq with h | h
      · exact hS.2.2 q h
      · exact hf _ (hL q h)⟩⟩
theorem vx_calli {S SX : Type} {post : Int32 → S → Prop} {px : SX → Prop} {B : S → State → Prop} {BX : String → SX → State → Prop} {AX : Nat → Prop} (hr : vx_Run p l e R s m args below meth c H locs cells slots mc ms (F0 m pc ls st0) rest (va_Qi post B A1 a) (vx_X px BX AX) free) (hS : va_S A0 H0 H locs) (hA : ∀ q, q < H.size → A1 q → A0 q) (hf : ∀ q, free q → A0 q) (hAX : ∀ q, q < H.size → AX q → A0 q)
    (kx : ∀ (E : String) (ce : Cell) (q9 : Addr) (u : SX) (t : State) (H1 : Heap) (locs1 : List Loc), t.heap = H1 → s.vm.Alike t.vm → px u → BX E u t → H.size ≤ H1.size → (∀ q : Nat, q < H.size → ¬ AX q → H1[q]? = H[q]?) → va_S A0 H0 H1 locs1 → H1[q9]? = some ce → ce.vm = .none → s.vm.findClass E = some ce.cls → vx_W p l e R s m args below meth c H1 locs1 (cells + mc) (slots + ms) Q (F0 m pc ls rest) q9)
    (kk : ∀ (r : Int32) (u : S) (t : State) (H1 : Heap) (locs1 : List Loc), t.heap = H1 → s.vm.Alike t.vm → post r u → B u t → H.size ≤ H1.size → (∀ q : Nat, q < H.size → ¬ A1 q → H1[q]? = H[q]?) → va_S A0 H0 H1 locs1 → W p l e R s m args below meth c H1 locs1 (cells + mc) (slots + ms) Q (F0 m (pc + 3) ls (.int r :: rest))) : W p l e R s m args below meth c H locs cells slots Q (F0 m pc ls st0) := by
  intro T hT X
  rcases hr T hT X with ⟨v, st₀, t, T', L, h0, X', hL, e1, e2, ⟨⟨r, u, hv, hp, hb⟩, hF⟩, st⟩ | ⟨q, st₀, t, T', L, E, ce, h0, X', hL, e1, e2, ⟨u, hp, hb, hF⟩, hce, hcv, hcl, st⟩
  · cases hv
    obtain ⟨k1, k2, k3⟩ := vx_keep h0 e1 hS hA hf hL hF
    obtain ⟨t2, a1, b1⟩ := kk r u t T'.heap (locs ++ L) e1.symm (by rw [← e2]; exact X'.warmed.alike) hp hb k1 k2 k3 T' rfl X'
    exact ⟨t2, st t2 a1, b1⟩
  · obtain ⟨k1, k2, k3⟩ := vx_keep h0 e1 hS hAX hf hL hF
    obtain ⟨t2, a1, b1⟩ := kx E ce q u t T'.heap (locs ++ L) e1.symm (by rw [← e2]; exact X'.warmed.alike) hp hb k1 k2 k3 (by rw [e1]; exact hce) hcv hcl T' rfl X'
    exact ⟨t2, st.trans a1, b1⟩
theorem vx_calll {S SX : Type} {post : Int64 → S → Prop} {px : SX → Prop} {B : S → State → Prop} {BX : String → SX → State → Prop} {AX : Nat → Prop} (hr : vx_Run p l e R s m args below meth c H locs cells slots mc ms (F0 m pc ls st0) rest (va_Ql post B A1 a) (vx_X px BX AX) free) (hS : va_S A0 H0 H locs) (hA : ∀ q, q < H.size → A1 q → A0 q) (hf : ∀ q, free q → A0 q) (hAX : ∀ q, q < H.size → AX q → A0 q)
    (kx : ∀ (E : String) (ce : Cell) (q9 : Addr) (u : SX) (t : State) (H1 : Heap) (locs1 : List Loc), t.heap = H1 → s.vm.Alike t.vm → px u → BX E u t → H.size ≤ H1.size → (∀ q : Nat, q < H.size → ¬ AX q → H1[q]? = H[q]?) → va_S A0 H0 H1 locs1 → H1[q9]? = some ce → ce.vm = .none → s.vm.findClass E = some ce.cls → vx_W p l e R s m args below meth c H1 locs1 (cells + mc) (slots + ms) Q (F0 m pc ls rest) q9)
    (kk : ∀ (r : Int64) (u : S) (t : State) (H1 : Heap) (locs1 : List Loc), t.heap = H1 → s.vm.Alike t.vm → post r u → B u t → H.size ≤ H1.size → (∀ q : Nat, q < H.size → ¬ A1 q → H1[q]? = H[q]?) → va_S A0 H0 H1 locs1 → W p l e R s m args below meth c H1 locs1 (cells + mc) (slots + ms) Q (F0 m (pc + 3) ls (.long r :: rest))) : W p l e R s m args below meth c H locs cells slots Q (F0 m pc ls st0) := by
  intro T hT X
  rcases hr T hT X with ⟨v, st₀, t, T', L, h0, X', hL, e1, e2, ⟨⟨r, u, hv, hp, hb⟩, hF⟩, st⟩ | ⟨q, st₀, t, T', L, E, ce, h0, X', hL, e1, e2, ⟨u, hp, hb, hF⟩, hce, hcv, hcl, st⟩
  · cases hv
    obtain ⟨k1, k2, k3⟩ := vx_keep h0 e1 hS hA hf hL hF
    obtain ⟨t2, a1, b1⟩ := kk r u t T'.heap (locs ++ L) e1.symm (by rw [← e2]; exact X'.warmed.alike) hp hb k1 k2 k3 T' rfl X'
    exact ⟨t2, st t2 a1, b1⟩
  · obtain ⟨k1, k2, k3⟩ := vx_keep h0 e1 hS hAX hf hL hF
    obtain ⟨t2, a1, b1⟩ := kx E ce q u t T'.heap (locs ++ L) e1.symm (by rw [← e2]; exact X'.warmed.alike) hp hb k1 k2 k3 (by rw [e1]; exact hce) hcv hcl T' rfl X'
    exact ⟨t2, st.trans a1, b1⟩
theorem vx_callf {S SX : Type} {post : UInt32 → S → Prop} {px : SX → Prop} {B : S → State → Prop} {BX : String → SX → State → Prop} {AX : Nat → Prop} (hr : vx_Run p l e R s m args below meth c H locs cells slots mc ms (F0 m pc ls st0) rest (va_Qf post B A1 a) (vx_X px BX AX) free) (hS : va_S A0 H0 H locs) (hA : ∀ q, q < H.size → A1 q → A0 q) (hf : ∀ q, free q → A0 q) (hAX : ∀ q, q < H.size → AX q → A0 q)
    (kx : ∀ (E : String) (ce : Cell) (q9 : Addr) (u : SX) (t : State) (H1 : Heap) (locs1 : List Loc), t.heap = H1 → s.vm.Alike t.vm → px u → BX E u t → H.size ≤ H1.size → (∀ q : Nat, q < H.size → ¬ AX q → H1[q]? = H[q]?) → va_S A0 H0 H1 locs1 → H1[q9]? = some ce → ce.vm = .none → s.vm.findClass E = some ce.cls → vx_W p l e R s m args below meth c H1 locs1 (cells + mc) (slots + ms) Q (F0 m pc ls rest) q9)
    (kk : ∀ (r : UInt32) (u : S) (t : State) (H1 : Heap) (locs1 : List Loc), t.heap = H1 → s.vm.Alike t.vm → post r u → B u t → H.size ≤ H1.size → (∀ q : Nat, q < H.size → ¬ A1 q → H1[q]? = H[q]?) → va_S A0 H0 H1 locs1 → W p l e R s m args below meth c H1 locs1 (cells + mc) (slots + ms) Q (F0 m (pc + 3) ls (.float r :: rest))) : W p l e R s m args below meth c H locs cells slots Q (F0 m pc ls st0) := by
  intro T hT X
  rcases hr T hT X with ⟨v, st₀, t, T', L, h0, X', hL, e1, e2, ⟨⟨r, u, hv, hp, hb⟩, hF⟩, st⟩ | ⟨q, st₀, t, T', L, E, ce, h0, X', hL, e1, e2, ⟨u, hp, hb, hF⟩, hce, hcv, hcl, st⟩
  · cases hv
    obtain ⟨k1, k2, k3⟩ := vx_keep h0 e1 hS hA hf hL hF
    obtain ⟨t2, a1, b1⟩ := kk r u t T'.heap (locs ++ L) e1.symm (by rw [← e2]; exact X'.warmed.alike) hp hb k1 k2 k3 T' rfl X'
    exact ⟨t2, st t2 a1, b1⟩
  · obtain ⟨k1, k2, k3⟩ := vx_keep h0 e1 hS hAX hf hL hF
    obtain ⟨t2, a1, b1⟩ := kx E ce q u t T'.heap (locs ++ L) e1.symm (by rw [← e2]; exact X'.warmed.alike) hp hb k1 k2 k3 (by rw [e1]; exact hce) hcv hcl T' rfl X'
    exact ⟨t2, st.trans a1, b1⟩
theorem vx_calld {S SX : Type} {post : UInt64 → S → Prop} {px : SX → Prop} {B : S → State → Prop} {BX : String → SX → State → Prop} {AX : Nat → Prop} (hr : vx_Run p l e R s m args below meth c H locs cells slots mc ms (F0 m pc ls st0) rest (va_Qd post B A1 a) (vx_X px BX AX) free) (hS : va_S A0 H0 H locs) (hA : ∀ q, q < H.size → A1 q → A0 q) (hf : ∀ q, free q → A0 q) (hAX : ∀ q, q < H.size → AX q → A0 q)
    (kx : ∀ (E : String) (ce : Cell) (q9 : Addr) (u : SX) (t : State) (H1 : Heap) (locs1 : List Loc), t.heap = H1 → s.vm.Alike t.vm → px u → BX E u t → H.size ≤ H1.size → (∀ q : Nat, q < H.size → ¬ AX q → H1[q]? = H[q]?) → va_S A0 H0 H1 locs1 → H1[q9]? = some ce → ce.vm = .none → s.vm.findClass E = some ce.cls → vx_W p l e R s m args below meth c H1 locs1 (cells + mc) (slots + ms) Q (F0 m pc ls rest) q9)
    (kk : ∀ (r : UInt64) (u : S) (t : State) (H1 : Heap) (locs1 : List Loc), t.heap = H1 → s.vm.Alike t.vm → post r u → B u t → H.size ≤ H1.size → (∀ q : Nat, q < H.size → ¬ A1 q → H1[q]? = H[q]?) → va_S A0 H0 H1 locs1 → W p l e R s m args below meth c H1 locs1 (cells + mc) (slots + ms) Q (F0 m (pc + 3) ls (.double r :: rest))) : W p l e R s m args below meth c H locs cells slots Q (F0 m pc ls st0) := by
  intro T hT X
  rcases hr T hT X with ⟨v, st₀, t, T', L, h0, X', hL, e1, e2, ⟨⟨r, u, hv, hp, hb⟩, hF⟩, st⟩ | ⟨q, st₀, t, T', L, E, ce, h0, X', hL, e1, e2, ⟨u, hp, hb, hF⟩, hce, hcv, hcl, st⟩
  · cases hv
    obtain ⟨k1, k2, k3⟩ := vx_keep h0 e1 hS hA hf hL hF
    obtain ⟨t2, a1, b1⟩ := kk r u t T'.heap (locs ++ L) e1.symm (by rw [← e2]; exact X'.warmed.alike) hp hb k1 k2 k3 T' rfl X'
    exact ⟨t2, st t2 a1, b1⟩
  · obtain ⟨k1, k2, k3⟩ := vx_keep h0 e1 hS hAX hf hL hF
    obtain ⟨t2, a1, b1⟩ := kx E ce q u t T'.heap (locs ++ L) e1.symm (by rw [← e2]; exact X'.warmed.alike) hp hb k1 k2 k3 (by rw [e1]; exact hce) hcv hcl T' rfl X'
    exact ⟨t2, st.trans a1, b1⟩
theorem vx_callv {S SX : Type} {post : S → Prop} {px : SX → Prop} {B : S → State → Prop} {BX : String → SX → State → Prop} {AX : Nat → Prop} (hr : vx_Run p l e R s m args below meth c H locs cells slots mc ms (F0 m pc ls st0) rest (va_Qv post B A1 a) (vx_X px BX AX) free) (hS : va_S A0 H0 H locs) (hA : ∀ q, q < H.size → A1 q → A0 q) (hf : ∀ q, free q → A0 q) (hAX : ∀ q, q < H.size → AX q → A0 q)
    (kx : ∀ (E : String) (ce : Cell) (q9 : Addr) (u : SX) (t : State) (H1 : Heap) (locs1 : List Loc), t.heap = H1 → s.vm.Alike t.vm → px u → BX E u t → H.size ≤ H1.size → (∀ q : Nat, q < H.size → ¬ AX q → H1[q]? = H[q]?) → va_S A0 H0 H1 locs1 → H1[q9]? = some ce → ce.vm = .none → s.vm.findClass E = some ce.cls → vx_W p l e R s m args below meth c H1 locs1 (cells + mc) (slots + ms) Q (F0 m pc ls rest) q9)
    (kk : ∀ (u : S) (t : State) (H1 : Heap) (locs1 : List Loc), t.heap = H1 → s.vm.Alike t.vm → post u → B u t → H.size ≤ H1.size → (∀ q : Nat, q < H.size → ¬ A1 q → H1[q]? = H[q]?) → va_S A0 H0 H1 locs1 → W p l e R s m args below meth c H1 locs1 (cells + mc) (slots + ms) Q (F0 m (pc + 3) ls (rest))) : W p l e R s m args below meth c H locs cells slots Q (F0 m pc ls st0) := by
  intro T hT X
  rcases hr T hT X with ⟨v, st₀, t, T', L, h0, X', hL, e1, e2, ⟨⟨u, hv, hp, hb⟩, hF⟩, st⟩ | ⟨q, st₀, t, T', L, E, ce, h0, X', hL, e1, e2, ⟨u, hp, hb, hF⟩, hce, hcv, hcl, st⟩
  · cases hv
    obtain ⟨k1, k2, k3⟩ := vx_keep h0 e1 hS hA hf hL hF
    obtain ⟨t2, a1, b1⟩ := kk u t T'.heap (locs ++ L) e1.symm (by rw [← e2]; exact X'.warmed.alike) hp hb k1 k2 k3 T' rfl X'
    exact ⟨t2, st t2 a1, b1⟩
  · obtain ⟨k1, k2, k3⟩ := vx_keep h0 e1 hS hAX hf hL hF
    obtain ⟨t2, a1, b1⟩ := kx E ce q u t T'.heap (locs ++ L) e1.symm (by rw [← e2]; exact X'.warmed.alike) hp hb k1 k2 k3 (by rw [e1]; exact hce) hcv hcl T' rfl X'
    exact ⟨t2, st.trans a1, b1⟩
/-- caught by the row x of this method's table; the rows ahead don't take it -/
theorem vx_catch {own name : String} {E : String} {ce : Cell} {q : Addr} (hown : s.vm.findClass own = some m.cls) (pre : List ExceptionTableEntry) (x : ExceptionTableEntry) (suf : List ExceptionTableEntry) (hsplit : c.exceptionTable.toList = pre ++ x :: suf)
    (hpass : ∀ z ∈ pre, covers z pc = false ∨ (z.catchType ≠ 0 ∧ ∃ nm : String, (Cond.classLink own z.catchType nm).before args s = true ∧ va_Nc E nm s)) (hx : covers x pc = true) (h0 : x.catchType ≠ 0)
    (hlink : (Cond.classLink own x.catchType name).before args s = true) (hcast : (Cond.castable E name).before args s = true) (hcell : H[q]? = some ce) (hv : ce.vm = .none) (hcl : s.vm.findClass E = some ce.cls)
    (kk : W p l e R s m args below meth c H locs cells slots Q (F0 m x.handlerPc ls [.ref q])) : vx_W p l e R s m args below meth c H locs cells slots Q (F0 m pc ls rest) q := by
  intro T hT X
  have hpl : e.platform.magicAccessors = ({} : Platform).magicAccessors := by rw [X.admits.platform]
  obtain ⟨c3, c4, hc3, hc4, hasg⟩ := Cond.castable_spec hcast
  cases Option.some.inj (hc3.symm.trans hcl)
  obtain ⟨c5, hc5, hcl5⟩ := Cond.classLink_spec hown hlink e.platform hpl
  cases Option.some.inj (hc4.symm.trans hc5)
  obtain ⟨vm', X', st⟩ := X.thenCaughtThrough q (g := F0 m pc ls rest) rfl (Steps.refl _) (by rw [hT]; exact hcell) (by rw [hv]; rfl) (by obtain ⟨k9, h9, -⟩ := Vm.findClass_spec hcl; exact ⟨k9, h9⟩) pre x suf hsplit
    (fun z hz => by
      rcases hpass z hz with h | ⟨hz0, nm, hl1, hn1⟩
      · exact Or.inl h
      · obtain ⟨c6, hc6, hcl6⟩ := Cond.classLink_spec hown hl1 e.platform hpl
        obtain ⟨a8, b8, h1, h2, h3⟩ := hn1
        cases Option.some.inj (h1.symm.trans hcl)
        cases Option.some.inj (h2.symm.trans hc6)
        exact Or.inr ⟨hz0, _, hcl6, h3⟩) hx (Or.inr ⟨h0, c4, hcl5, hasg⟩)
  obtain ⟨t, a1, b1⟩ := kk (T.setVm vm') hT X'
  exact ⟨t, st.trans a1, b1⟩
end Rows
section Ends
variable {p : Program} {l : Launch} {e : Env} {R : Room} {s : State} {m : MethodId} {args : Array Value} {below : List Frame} {meth : Method} {c : Code} {H : Heap} {locs : List Loc} {cells slots : Nat} {Q : State → Prop}
variable {mc ms : Nat} {free : Addr → Prop} {A0 A1 : Nat → Prop} {H0 : Heap} {a : Array Value} {ls : Array Slot} {st0 rest : List Value}
variable {Qc : Array Value → State → Outcome → State → Prop} {XC : String → State → State → Prop}
/-- what a body that may throw owes at its end -/
def vx_MQ (below : List Frame) (Qc : Array Value → State → Outcome → State → Prop) (XC : String → State → State → Prop) (a : Array Value) (s : State) (mc ms : Nat) (free : Addr → Prop) : State → Prop := fun t =>
  ∃ o, t.status = .running ∧ Ended t below o ∧ vx_Q Qc XC mc ms free a s o t
theorem vx_ret {g : JFrame} {mc ms : Nat} (k : W p l e R s m args below meth c H locs cells slots (MQ below Qc args s mc ms free) g) : W p l e R s m args below meth c H locs cells slots (vx_MQ below Qc XC args s mc ms free) g := by
  intro T hT X
  obtain ⟨t, a1, o, b1, b2, b3, b4⟩ := k T hT X
  exact ⟨t, a1, o, b1, b2, Or.inl ⟨b3, b4⟩⟩
/-- not caught here: it goes on to the caller -/
theorem vx_widen {g : JFrame} {q : Addr} {k n : Nat} (h1 : cells ≤ k) (h2 : slots ≤ n) (kk : vx_W p l e R s m args below meth c H locs k n Q g q) : vx_W p l e R s m args below meth c H locs cells slots Q g q := fun T hT X => kk T hT (stand_widen X h1 h2)
theorem vx_out {pc : Nat} {E : String} {ce : Cell} {q : Addr} {mc ms : Nat} (hout : ∀ x ∈ c.exceptionTable.toList, covers x pc = false) (hlocks : meth.locks = false) (hcell : H[q]? = some ce) (hv : ce.vm = .none) (hcl : s.vm.findClass E = some ce.cls)
    (hx : ∀ t : State, t.heap = H → s.vm.Alike t.vm → XC E s t) (hf : ∀ z ∈ locs, free z.base) (hc : cells ≤ mc) (hs : slots ≤ ms) :
    vx_W p l e R s m args below meth c H locs cells slots (vx_MQ below Qc XC args s mc ms free) (F0 m pc ls rest) q := by
  intro T hT X
  obtain ⟨st1, hrun, hend, hW, hsm⟩ := X.leaveThrown q (g := F0 m pc ls rest) rfl rfl rfl hout hlocks
  have hcell9 : (T.setFrames (.throwing q :: below)).heap[q]? = some ce := by
    show T.heap[q]? = some ce
    rw [hT]; exact hcell
  exact ⟨_, st1, .threw q, hrun, hend, Or.inr ⟨q, rfl, E, ce, locs, hx _ hT hW.alike, hcell9, hv, hcl, hW, hsm.mono hc hs, hf⟩⟩
theorem vx_frame {U : State} {k n : Nat} (h : s.sameButNew ({ U with vm := s.vm } : State) locs k n) : s.heap.size ≤ U.heap.size ∧ ∀ q : Nat, q < s.heap.size → (∀ z ∈ locs, z.base ≠ q) → U.heap[q]? = s.heap[q]? := by
  obtain ⟨-, h2, -, -, -, h6⟩ := h
  refine ⟨h2, fun q hq hz => ?_⟩
  obtain ⟨c9, e1, e2, e3, e4⟩ := h6 q _ (Array.getElem?_eq_getElem hq)
  have hs : c9.slots = (s.heap[q]).slots := Array.ext_getElem? fun i => e4 i fun hm => hz _ hm rfl
  have h9 : c9 = s.heap[q] := by
    rw [hs] at e2
    exact e2
  have e5 : U.heap[q]? = some c9 := e1
  rw [e5, h9, Array.getElem?_eq_getElem hq]
/-- the words of a throw but the four that speak of the heap -/
def vx_no (w : Cond) : Bool := decide (w ≠ .isRef (.static Bundle.tN "UNASSIGNED_STACK" Bundle.steD)) && decide (w ≠ .isRef (.static Bundle.tN "SUPPRESSED_SENTINEL" Bundle.listD)) && decide (w ≠ .laysStatic Bundle.tN "UNASSIGNED_STACK" Bundle.steD) && decide (w ≠ .laysStatic Bundle.tN "SUPPRESSED_SENTINEL" Bundle.listD)
def vx_at0 (own : String) (ic : Nat) (X : String) (names : List String) : List Cond := (Bundle.ownAtoms0 own ic X names).filter vx_no
def vx_atS (own : String) (ic : Nat) (X : String) (names : List String) : List Cond := (Bundle.ownAtoms own ic X names).filter vx_no
/-- a word that the tables alone decide, or a good one -/
def vx_ot (w : Cond) : Bool := w.onTables || goodWord w
theorem vx_ot_at {args a' : Array Value} {s U : State} {w : Cond} (hW : s.WarmedH U.vm) (hvm : s.vm = U.vm) (hg : vx_ot w = true) (h : w.before args s = true) : w.before a' U = true := by
  simp only [vx_ot, Bool.or_eq_true] at hg
  rcases hg with hg | hg
  · exact va_tabs hg hvm h
  · exact word_at hW (good_of_word hg) h
/-- a list's words: the good ones out of the method's own list, the others by premises of their own -/
theorem vx_hat {args : Array Value} {s : State} {L B : List Cond} (h1 : ∀ w ∈ L.filter goodWord, w.before args s = true) (h2 : ∀ w ∈ L.filter (fun w => !goodWord w), w ∈ B) (h3 : ∀ w ∈ B, w.before args s = true) : ∀ w ∈ L, w.before args s = true := by
  intro w hw
  by_cases g : goodWord w = true
  · exact h1 w (List.mem_filter.mpr ⟨hw, g⟩)
  · refine h3 w (h2 w (List.mem_filter.mpr ⟨hw, ?_⟩))
    show (!goodWord w) = true
    cases hgw : goodWord w
    · rfl
    · exact absurd hgw g
theorem vx_c {args : Array Value} {s : State} {w : Cond} {B : List Cond} (h : w.before args s = true) (t : ∀ w ∈ B, w.before args s = true) : ∀ w' ∈ w :: B, w'.before args s = true := fun w' h' => (List.mem_cons.mp h').elim (fun e => by rw [e]; exact h) (t w')
theorem vx_n {args : Array Value} {s : State} : ∀ w ∈ ([] : List Cond), w.before args s = true := fun _ h => nomatch h
theorem vx_own {args : Array Value} {s : State} {L : List Cond} (h1 : ∀ w ∈ L.filter vx_no, w.before args s = true)
    (hU : (Cond.isRef (.static Bundle.tN "UNASSIGNED_STACK" Bundle.steD)).before args s = true) (hN : (Cond.isRef (.static Bundle.tN "SUPPRESSED_SENTINEL" Bundle.listD)).before args s = true)
    (lU : (Cond.laysStatic Bundle.tN "UNASSIGNED_STACK" Bundle.steD).before args s = true) (lN : (Cond.laysStatic Bundle.tN "SUPPRESSED_SENTINEL" Bundle.listD).before args s = true) : ∀ w ∈ L, w.before args s = true := by
  intro w hw
  by_cases e1 : w = .isRef (.static Bundle.tN "UNASSIGNED_STACK" Bundle.steD)
  · rw [e1]; exact hU
  · by_cases e2 : w = .isRef (.static Bundle.tN "SUPPRESSED_SENTINEL" Bundle.listD)
    · rw [e2]; exact hN
    · by_cases e3 : w = .laysStatic Bundle.tN "UNASSIGNED_STACK" Bundle.steD
      · rw [e3]; exact lU
      · by_cases e4 : w = .laysStatic Bundle.tN "SUPPRESSED_SENTINEL" Bundle.listD
        · rw [e4]; exact lN
        · exact h1 w (List.mem_filter.mpr ⟨hw, by unfold vx_no; rw [decide_eq_true e1, decide_eq_true e2, decide_eq_true e3, decide_eq_true e4]; rfl⟩)
/-- where a static field lies, its class's statics cell in H -/
def vx_L (C n d : String) (A : Nat → Prop) (U : State) (H : Heap) : Prop := ∃ (c : ClassId) (k : Class) (i : Nat) (f : Field) (a : Nat) (cell : Cell), U.vm.findClass C = some c ∧ U.fieldFound? C n d = some (c, k, i, f) ∧ f.isStatic = true ∧ k.statics = some a ∧ H[a]? = some cell ∧ cell.vm.isStatics = true ∧ cell.cls = c ∧ f.slot < cell.slots.size ∧ k.staticTypes[f.slot]? = some f.type ∧ ¬ A a
theorem vx_L.moved {C n d : String} {A : Nat → Prop} {u U : State} {H : Heap} (hvm : u.vm.Alike U.vm) (h : vx_L C n d A u H) : vx_L C n d A U H := by
  obtain ⟨c, k, i, f, a, cell, h1, h2, h3, h4, h5, h6, h7, h8, h9, h10⟩ := h
  obtain ⟨k', hi', he⟩ := State.fieldFound?_setVm hvm h2
  exact ⟨c, k', i, f, a, cell, by rw [hvm.findClass]; exact h1, hi', h3, by rw [he]; exact h4, h5, h6, h7, h8, by rw [he]; exact h9, h10⟩
theorem vx_L.kept {C n d : String} {A : Nat → Prop} {U : State} {H H1 : Heap} (h : vx_L C n d A U H) (hq : ∀ a : Nat, a < H.size → ¬ A a → H1[a]? = H[a]?) : vx_L C n d A U H1 := by
  obtain ⟨c, k, i, f, a, cell, h1, h2, h3, h4, h5, h6, h7, h8, h9, h10⟩ := h
  exact ⟨c, k, i, f, a, cell, h1, h2, h3, h4, by rw [hq a (Array.getElem?_eq_some_iff.mp h5).1 h10]; exact h5, h6, h7, h8, h9, h10⟩
theorem vx_L.narrow {C n d : String} {A B : Nat → Prop} {U : State} {H : Heap} (h : vx_L C n d A U H) (hAB : ∀ q, B q → A q) : vx_L C n d B U H := by
  obtain ⟨c, k, i, f, a, cell, h1, h2, h3, h4, h5, h6, h7, h8, h9, h10⟩ := h
  exact ⟨c, k, i, f, a, cell, h1, h2, h3, h4, h5, h6, h7, h8, h9, fun z => h10 (hAB _ z)⟩
theorem vx_L.word {C n d : String} {A : Nat → Prop} {s : State} {args : Array Value} (h : vx_L C n d A s s.heap) : (Cond.laysStatic C n d).before args s = true := by
  obtain ⟨c, k, i, f, a, cell, h1, h2, h3, h4, h5, h6, h7, h8, h9, -⟩ := h
  show (Cond.laysStatic C n d).holds args s none s [] = true
  exact Cond.laysStatic_of h1 h2 h3 h4 h5 h6 h7 h8 h9
/-- .. and what it holds: null or some reference -/
def vx_Zq (C n d : String) (A : Nat → Prop) (U : State) (H : Heap) : Prop := va_Zq C n d A U H ∧ vx_L C n d A U H
theorem vx_Zq.moved {C n d : String} {A : Nat → Prop} {u U : State} {H : Heap} (hvm : u.vm.Alike U.vm) (h : vx_Zq C n d A u H) : vx_Zq C n d A U H := ⟨va_Zq.moved hvm h.1, vx_L.moved hvm h.2⟩
theorem vx_Zq.kept {C n d : String} {A : Nat → Prop} {U : State} {H H1 : Heap} (h : vx_Zq C n d A U H) (hq : ∀ a : Nat, a < H.size → ¬ A a → H1[a]? = H[a]?) : vx_Zq C n d A U H1 := ⟨va_Zq.kept h.1 hq, vx_L.kept h.2 hq⟩
theorem vx_Zq.narrow {C n d : String} {A B : Nat → Prop} {U : State} {H : Heap} (h : vx_Zq C n d A U H) (hAB : ∀ q, B q → A q) : vx_Zq C n d B U H := ⟨va_Zq.narrow h.1 hAB, vx_L.narrow h.2 hAB⟩
theorem vx_Zqof {args : Array Value} {s : State} {C n d : String} {A : Nat → Prop} (hl : (Cond.laysStatic C n d).before args s = true) (hini : (Cond.initialized C).before args s = true) (h : (Cond.isRef (.static C n d)).before args s = true) (hA : ∀ a : Nat, a < s.heap.size → ¬ A a) : vx_Zq C n d A s s.heap := by
  refine ⟨va_Zqof hl hini h hA, ?_⟩
  obtain ⟨c, k, i, f, a, cell, h1, h2, h3, h4, h5, h6, h7, h8, h9⟩ := Cond.laysStatic_spec hl
  exact ⟨c, k, i, f, a, cell, h1, h2, h3, h4, h5, h6, h7, h8, h9, hA a (Array.getElem?_eq_some_iff.mp h5).1⟩
theorem vx_isRef {C n d : String} {v : Value} {A : Nat → Prop} {s : State} {args : Array Value} (h : va_Z C n d v A s s.heap) (hv : v.isRef = true) : (Cond.isRef (.static C n d)).before args s = true := by
  obtain ⟨cf, kf, fi, f, a, cell, h1, h2, h3, h4, h5, h6, h7, -⟩ := h
  have he : (Term.static C n d).eval args s none [] s = some v := by
    simp [Term.eval, State.fieldNamed?, h1, h2, h4, h5, h6, h7]
  simp only [Cond.before, Cond.holds, Cond.value, he]
  cases v <;> simp_all [Value.isRef]
theorem vx_isRefq {C n d : String} {A : Nat → Prop} {s : State} {args : Array Value} (h : va_Zq C n d A s s.heap) : (Cond.isRef (.static C n d)).before args s = true := by
  rcases h with h | ⟨t, h⟩
  · exact vx_isRef h rfl
  · exact vx_isRef h rfl
/-- the same frame, seen from here: as if the method were called anew in this heap -/
theorem vx_rebase {T : State} (X : Stand p l e R s m args below meth c T locs cells slots) {R' : Room} (hf : R'.frames ≤ R.frames) (hl : R'.locals ≤ R.locals) (hc : cells + R'.cells ≤ R.cells) (hs : slots + R'.slots ≤ R.slots) :
    Stand p l e R' ((T.setVm s.vm).setFrames (.invoking m args :: below)) m args below meth c T [] 0 0 := by
  have htop : (T.setVm s.vm).topJava?.isSome := X.here.top
  have hF : ((T.setVm s.vm).setFrames (.invoking m args :: below)).frames = .invoking m args :: below := State.frames_setFrames _ (State.cur_lt_of_top htop)
  obtain ⟨g₀, hg0⟩ := Option.isSome_iff_exists.mp htop
  obtain ⟨r, hr⟩ := State.topJava?_eq_some.mp hg0
  have hl9 : e.platform.stackLimits (T.setVm s.vm).me = e.platform.stackLimits s.me := X.limits
  have hb9 : (T.setVm s.vm).me.stackBytes = s.me.stackBytes := X.bytes
  refine ⟨X.admits, X.cas, X.clock, hF, ?_, X.hears, X.method, X.code, X.here, X.tail, X.warmed, ?_, ?_, ?_⟩
  · have h := X.room
    have hU : ((T.setVm s.vm).setFrames (.invoking m args :: below)).localsInUse = s.localsInUse := by
      rw [State.localsInUse_invoking hF (meth := meth) (c := c) X.method X.code, State.localsInUse_invoking X.frames X.method X.code]
    simp only [State.hasRoom, Bool.and_eq_true, decide_eq_true_eq] at h ⊢
    obtain ⟨⟨⟨⟨h1, h2, h3, h4, h5, h6⟩, h7⟩, h8⟩, h9⟩ := h
    rw [X.frames, List.length_cons] at h2 h3
    have q1 := X.heapSize
    have q2 := X.used
    simp only [hF, hU, List.length_cons, State.stackLimits_setFrames, State.stackBytes_setFrames, hl9, hb9]
    refine ⟨⟨⟨⟨by omega, by omega, by omega, by omega, by omega, h6⟩, ?_⟩, ?_⟩, X.book⟩
    · show T.heap.size + R'.cells ≤ e.platform.maxCells
      omega
    · show T.slotsUsed + R'.slots ≤ e.platform.maxSlots
      omega
  · rw [State.stackLimits_setFrames]; rfl
  · rw [State.stackBytes_setFrames]; rfl
  · refine ⟨?_, Nat.le_refl _, Nat.le_refl _, ?_, ?_, fun a c9 h9 => ⟨c9, h9, rfl, rfl, fun _ _ => rfl⟩⟩
    · obtain ⟨t, ht, -⟩ := State.frames_cons hr
      show T.setVm s.vm = { ((T.setVm s.vm).setFrames (.invoking m args :: below)).setFrames (T.setVm s.vm).frames with heap := T.heap, slotsUsed := T.slotsUsed }
      rw [State.setFrames_setFrames, State.setFrames_self ht]
      rfl
    · show T.slotsUsed = T.slotsUsed + ((T.heap.toList.drop T.heap.size).map (·.slots.size)).sum
      rw [List.drop_eq_nil_of_le (Nat.le_of_eq Array.length_toList)]
      rfl
    · show ((T.heap.toList.drop T.heap.size).map (·.slots.size)).sum ≤ 0
      rw [List.drop_eq_nil_of_le (Nat.le_of_eq Array.length_toList)]
      exact Nat.le_refl _
/-- 'throw new E()': new; dup; invokespecial; athrow -/
theorem vx_throw0 {cc : ByteArray} {pc : Nat} (hexec : p.tables.exec = Jvm.exec) (hb : c.code = cc) (hl : l.stackTraces = false) {own cls : String} {names : List String} {ik ic mc ms : Nat} {A : Nat → Prop}
    (hown : s.vm.findClass own = some m.cls) (hcls : Bundle.fit cls = true) (hnames : ∀ n ∈ names, Bundle.fit n = true)
    (hk : (Cond.classLink own ik cls).before args s = true) (hini : (Cond.initialized cls).before args s = true) (hat : ∀ w ∈ vx_at0 own ic cls names, w.before args s = true)
    (hgood : ∀ w ∈ Cond.classLink own ik cls :: Cond.initialized cls :: vx_at0 own ic cls names, vx_ot w = true)
    (hU : vx_Zq Bundle.tN "UNASSIGNED_STACK" Bundle.steD A s s.heap) (hN : vx_Zq Bundle.tN "SUPPRESSED_SENTINEL" Bundle.listD A s s.heap) (hS : va_S A s.heap H locs) (hsize : ls.size = c.maxLocals)
    (d0 : decode cc pc = .ok (.new ik, 3)) (d3 : decode cc (pc + 3) = .ok (.dup, 1)) (d4 : decode cc (pc + 4) = .ok (.invokespecial ic, 3)) (d7 : decode cc (pc + 7) = .ok (.athrow, 1))
    (hout : ∀ x ∈ c.exceptionTable.toList, covers x (pc + 7) = false)
    (hRframes : names.length + 3 < R.frames) (hRlocals : (rest.map fun v => v.category).sum + (13 * (names.length + 1) + 42) ≤ R.locals) (hRcells : cells + 1 ≤ R.cells) (hRslots : slots + 6 ≤ R.slots) (hlocks : meth.locks = false)
    (hx : ∀ t : State, s.vm.Alike t.vm → H.size ≤ t.heap.size → (∀ q : Nat, q < H.size → t.heap[q]? = H[q]?) → XC cls s t)
    (hf : ∀ z ∈ locs, free z.base) (hc : cells + 1 ≤ mc) (hs : slots + 6 ≤ ms) :
    W p l e R s m args below meth c H locs cells slots (vx_MQ below Qc XC args s mc ms free) (F0 m pc ls rest) := by
  intro T hT X
  have htr : e.platform.stackTraces = false := (show e.platform.stackTraces = l.stackTraces by rw [X.admits.platform]).trans hl
  have Y := vx_rebase X (R' := { frames := R.frames, locals := R.locals, cells := 1, slots := 6 }) (Nat.le_refl _) (Nat.le_refl _) hRcells hRslots
  obtain ⟨s', hA⟩ : ∃ z, z = (T.setVm s.vm).setFrames (.invoking m args :: below) := ⟨_, rfl⟩
  rw [← hA] at Y
  have hvm : s'.vm = s.vm := by rw [hA]; rfl
  have hhp : s'.heap = H := by rw [hA]; exact hT
  have hW0 : s.WarmedH s'.vm := by rw [hvm]; exact State.WarmedH.refl s
  have hat' : ∀ w ∈ vx_at0 own ic cls names, w.before args s' = true := fun w hw => vx_ot_at hW0 hvm.symm (hgood w (List.mem_cons_of_mem _ (List.mem_cons_of_mem _ hw))) (hat w hw)
  have hk' : (Cond.classLink own ik cls).before args s' = true := vx_ot_at hW0 hvm.symm (hgood _ List.mem_cons_self) hk
  have hini' : (Cond.initialized cls).before args s' = true := vx_ot_at hW0 hvm.symm (hgood _ (List.mem_cons_of_mem _ List.mem_cons_self)) hini
  have hU' : vx_Zq Bundle.tN "UNASSIGNED_STACK" Bundle.steD A s' s'.heap := by rw [hhp]; exact vx_Zq.moved hW0.alike (hU.kept hS.2.1)
  have hN' : vx_Zq Bundle.tN "SUPPRESSED_SENTINEL" Bundle.listD A s' s'.heap := by rw [hhp]; exact vx_Zq.moved hW0.alike (hN.kept hS.2.1)
  have h : ∀ w ∈ Bundle.ownAtoms0 own ic cls names, w.before args s' = true := vx_own hat' (vx_isRefq hU'.1) (vx_isRefq hN'.1) hU'.2.word hN'.2.word
  have hown' : s'.vm.findClass own = some m.cls := by rw [hvm]; exact hown
  have hins : (Cond.instantiable cls 6).before args s' = true := h _ (by simp [Bundle.ownAtoms0])
  obtain ⟨vm₁, cX, kX, hfX, hkX, -, -, X₁, st1⟩ := Y.newCold hexec (own := own) (C := cls) (index := ik) (n := 6) hown' hk' hins hini'
    (g := F0 m pc ls rest) rfl (by rw [hb]; exact d0) (Nat.le_refl _) (Nat.le_refl _)
  generalize hT1 : (T.setVm vm₁).pushCell { cls := cX, slots := kX.instanceTypes.map defaultValue, vm := .none } = T1 at X₁ st1
  have hcat : (Value.ref T.heap.size).category = 1 := rfl
  have hcellA : T1.heap[T.heap.size]? = some (freshCell cX kX) := by rw [← hT1]; exact State.heap_pushCell_size _ _
  have d3' : decode c.code (pc + 3) = .ok (.dup, 1) := by rw [hb]; exact d3
  obtain ⟨U, hsteps, hrun, hend, hW, hsame, ce, hce, hO⟩ := X₁.ctorThrow0 hexec htr (own := own) (cls := cls) (names := names) (ic := ic) hown' hcls hnames h (fun x hx => nomatch hx) hfX hkX hcellA (by rw [hhp, hT]; exact Nat.le_refl _)
    (g := { method := m, pc := pc + 4, locals := ls, stack := .ref T.heap.size :: .ref T.heap.size :: rest, locked := none }) rfl hsize rfl rfl (rest := rest) rfl
    (by rw [hb]; exact d4) (by rw [hb]; exact d7) hout hRframes (by simp only [List.map_cons, List.sum_cons, hcat]; omega) hlocks
  obtain ⟨f1, f2⟩ := vx_frame hsame
  rw [hhp] at f1 f2
  have hWs : s.WarmedH U.vm := State.WarmedH.trans hW0 hW
  have hcl : s.vm.findClass cls = some ce.cls := by
    have h9 := hO.cls
    rw [hvm] at h9
    exact h9
  have hall : s.sameButNew ({ U with vm := s.vm } : State) locs mc ms := by
    subst hA
    obtain ⟨e1, e2⟩ := hsame
    rw [State.setFrames_setFrames] at e1
    have h2 : (T.setVm s.vm).sameButNew ({ U with vm := s.vm } : State) [] (0 + 1) (0 + 6) := ⟨e1, e2⟩
    have h3 := X.same.trans h2
    rw [List.append_nil] at h3
    exact h3.mono hc hs
  refine ⟨U, ?_, .threw T.heap.size, hrun, hend, Or.inr ⟨T.heap.size, rfl, cls, ce, locs, hx U hWs.alike f1 (fun q hq => f2 q hq (fun z hz => nomatch hz)), hce, hO.vm, hcl, hWs, hall, hf⟩⟩
  refine st1 _ ?_
  show Steps p.tables e below (T1.setTop { method := m, pc := pc + 3, locals := ls, stack := .ref T.heap.size :: rest, locked := none }) _
  jvm_step X₁.here [X₁.here.top, hexec, d3', Value.category]
  exact hsteps
/-- 'throw new E("text")': new; dup; ldc; invokespecial; athrow -/
theorem vx_throwS {cc : ByteArray} {pc : Nat} (hexec : p.tables.exec = Jvm.exec) (hb : c.code = cc) (hl : l.stackTraces = false) {own cls text : String} {names : List String} {ik is ic mc ms sa : Nat} {A : Nat → Prop}
    (hown : s.vm.findClass own = some m.cls) (hcls : Bundle.fit cls = true) (hnames : ∀ n ∈ names, Bundle.fit n = true)
    (hk : (Cond.classLink own ik cls).before args s = true) (hini : (Cond.initialized cls).before args s = true) (hstr : vk_R own is text sa s) (hat : ∀ w ∈ vx_atS own ic cls names, w.before args s = true)
    (hgood : ∀ w ∈ Cond.classLink own ik cls :: Cond.initialized cls :: vx_atS own ic cls names, vx_ot w = true)
    (hU : vx_Zq Bundle.tN "UNASSIGNED_STACK" Bundle.steD A s s.heap) (hN : vx_Zq Bundle.tN "SUPPRESSED_SENTINEL" Bundle.listD A s s.heap) (hS : va_S A s.heap H locs) (hsize : ls.size = c.maxLocals)
    (d0 : decode cc pc = .ok (.new ik, 3)) (d3 : decode cc (pc + 3) = .ok (.dup, 1)) (d4 : decode cc (pc + 4) = .ok (.ldc is, 2)) (d6 : decode cc (pc + 6) = .ok (.invokespecial ic, 3)) (d9 : decode cc (pc + 9) = .ok (.athrow, 1))
    (hout : ∀ x ∈ c.exceptionTable.toList, covers x (pc + 9) = false)
    (hRframes : names.length + 3 < R.frames) (hRlocals : (rest.map fun v => v.category).sum + (13 * (names.length + 1) + 43) ≤ R.locals) (hRcells : cells + 1 ≤ R.cells) (hRslots : slots + 6 ≤ R.slots) (hlocks : meth.locks = false)
    (hx : ∀ t : State, s.vm.Alike t.vm → H.size ≤ t.heap.size → (∀ q : Nat, q < H.size → t.heap[q]? = H[q]?) → XC cls s t)
    (hf : ∀ z ∈ locs, free z.base) (hc : cells + 1 ≤ mc) (hs : slots + 6 ≤ ms) :
    W p l e R s m args below meth c H locs cells slots (vx_MQ below Qc XC args s mc ms free) (F0 m pc ls rest) := by
  intro T hT X
  have htr : e.platform.stackTraces = false := (show e.platform.stackTraces = l.stackTraces by rw [X.admits.platform]).trans hl
  have Y := vx_rebase X (R' := { frames := R.frames, locals := R.locals, cells := 1, slots := 6 }) (Nat.le_refl _) (Nat.le_refl _) hRcells hRslots
  obtain ⟨s', hA⟩ : ∃ z, z = (T.setVm s.vm).setFrames (.invoking m args :: below) := ⟨_, rfl⟩
  rw [← hA] at Y
  have hvm : s'.vm = s.vm := by rw [hA]; rfl
  have hhp : s'.heap = H := by rw [hA]; exact hT
  have hW0 : s.WarmedH s'.vm := by rw [hvm]; exact State.WarmedH.refl s
  have hat' : ∀ w ∈ vx_atS own ic cls names, w.before args s' = true := fun w hw => vx_ot_at hW0 hvm.symm (hgood w (List.mem_cons_of_mem _ (List.mem_cons_of_mem _ hw))) (hat w hw)
  have hk' : (Cond.classLink own ik cls).before args s' = true := vx_ot_at hW0 hvm.symm (hgood _ List.mem_cons_self) hk
  have hini' : (Cond.initialized cls).before args s' = true := vx_ot_at hW0 hvm.symm (hgood _ (List.mem_cons_of_mem _ List.mem_cons_self)) hini
  have hU' : vx_Zq Bundle.tN "UNASSIGNED_STACK" Bundle.steD A s' s'.heap := by rw [hhp]; exact vx_Zq.moved hW0.alike (hU.kept hS.2.1)
  have hN' : vx_Zq Bundle.tN "SUPPRESSED_SENTINEL" Bundle.listD A s' s'.heap := by rw [hhp]; exact vx_Zq.moved hW0.alike (hN.kept hS.2.1)
  have h : ∀ w ∈ Bundle.ownAtoms own ic cls names, w.before args s' = true := vx_own hat' (vx_isRefq hU'.1) (vx_isRefq hN'.1) hU'.2.word hN'.2.word
  have hown' : s'.vm.findClass own = some m.cls := by rw [hvm]; exact hown
  have hins : (Cond.instantiable cls 6).before args s' = true := h _ (by simp [Bundle.ownAtoms])
  obtain ⟨vm₁, cX, kX, hfX, hkX, -, -, X₁, st1⟩ := Y.newCold hexec (own := own) (C := cls) (index := ik) (n := 6) hown' hk' hins hini'
    (g := F0 m pc ls rest) rfl (by rw [hb]; exact d0) (Nat.le_refl _) (Nat.le_refl _)
  generalize hT1 : (T.setVm vm₁).pushCell { cls := cX, slots := kX.instanceTypes.map defaultValue, vm := .none } = T1 at X₁ st1
  have hcat : (Value.ref T.heap.size).category = 1 := rfl
  have hcellA : T1.heap[T.heap.size]? = some (freshCell cX kX) := by rw [← hT1]; exact State.heap_pushCell_size _ _
  have d3' : decode c.code (pc + 3) = .ok (.dup, 1) := by rw [hb]; exact d3
  have d4' : decode c.code (pc + 4) = .ok (.ldc is, 2) := by rw [hb]; exact d4
  have hstr' : vk_R own is text sa s' := vk_R.warm hW0 hstr
  obtain ⟨U, hsteps, hrun, hend, hW, hsame, ce, hce, hO⟩ := X₁.ctorThrowS hexec htr (own := own) (cls := cls) (names := names) (ic := ic) hown' hcls hnames h (fun x hx => nomatch hx) hfX hkX hcellA (by rw [hhp, hT]; exact Nat.le_refl _) (msg := .ref sa) rfl
    (g := { method := m, pc := pc + 6, locals := ls, stack := .ref sa :: .ref T.heap.size :: .ref T.heap.size :: rest, locked := none }) rfl hsize rfl rfl (rest := rest) rfl
    (by rw [hb]; exact d6) (by rw [hb]; exact d9) hout hRframes (by simp only [List.map_cons, List.sum_cons, hcat]; omega) hlocks
  obtain ⟨f1, f2⟩ := vx_frame hsame
  rw [hhp] at f1 f2
  have hWs : s.WarmedH U.vm := State.WarmedH.trans hW0 hW
  have hcl : s.vm.findClass cls = some ce.cls := by
    have h9 := hO.cls
    rw [hvm] at h9
    exact h9
  have hall : s.sameButNew ({ U with vm := s.vm } : State) locs mc ms := by
    subst hA
    obtain ⟨e1, e2⟩ := hsame
    rw [State.setFrames_setFrames] at e1
    have h2 : (T.setVm s.vm).sameButNew ({ U with vm := s.vm } : State) [] (0 + 1) (0 + 6) := ⟨e1, e2⟩
    have h3 := X.same.trans h2
    rw [List.append_nil] at h3
    exact h3.mono hc hs
  refine ⟨U, ?_, .threw T.heap.size, hrun, hend, Or.inr ⟨T.heap.size, rfl, cls, ce, locs, hx U hWs.alike f1 (fun q hq => f2 q hq (fun z hz => nomatch hz)), hce, hO.vm, hcl, hWs, hall, hf⟩⟩
  refine st1 _ ?_
  show Steps p.tables e below (T1.setTop { method := m, pc := pc + 3, locals := ls, stack := .ref T.heap.size :: rest, locked := none }) _
  jvm_step X₁.here [X₁.here.top, hexec, d3', Value.category]
  exact X₁.ldcString hexec (own := own) (text := text) (index := is) (a := sa) hown' hstr'.1 hstr'.2
    (g := { method := m, pc := pc + 4, locals := ls, stack := .ref T.heap.size :: .ref T.heap.size :: rest, locked := none }) rfl d4' _ hsteps
/-- 'throw new E("text")', the text by a wide index -/
theorem vx_throwSW {cc : ByteArray} {pc : Nat} (hexec : p.tables.exec = Jvm.exec) (hb : c.code = cc) (hl : l.stackTraces = false) {own cls text : String} {names : List String} {ik is ic mc ms sa : Nat} {A : Nat → Prop}
    (hown : s.vm.findClass own = some m.cls) (hcls : Bundle.fit cls = true) (hnames : ∀ n ∈ names, Bundle.fit n = true)
    (hk : (Cond.classLink own ik cls).before args s = true) (hini : (Cond.initialized cls).before args s = true) (hstr : vk_R own is text sa s) (hat : ∀ w ∈ vx_atS own ic cls names, w.before args s = true)
    (hgood : ∀ w ∈ Cond.classLink own ik cls :: Cond.initialized cls :: vx_atS own ic cls names, vx_ot w = true)
    (hU : vx_Zq Bundle.tN "UNASSIGNED_STACK" Bundle.steD A s s.heap) (hN : vx_Zq Bundle.tN "SUPPRESSED_SENTINEL" Bundle.listD A s s.heap) (hS : va_S A s.heap H locs) (hsize : ls.size = c.maxLocals)
    (d0 : decode cc pc = .ok (.new ik, 3)) (d3 : decode cc (pc + 3) = .ok (.dup, 1)) (d4 : decode cc (pc + 4) = .ok (.ldc_w is, 3)) (d7 : decode cc (pc + 7) = .ok (.invokespecial ic, 3)) (d10 : decode cc (pc + 10) = .ok (.athrow, 1))
    (hout : ∀ x ∈ c.exceptionTable.toList, covers x (pc + 10) = false)
    (hRframes : names.length + 3 < R.frames) (hRlocals : (rest.map fun v => v.category).sum + (13 * (names.length + 1) + 43) ≤ R.locals) (hRcells : cells + 1 ≤ R.cells) (hRslots : slots + 6 ≤ R.slots) (hlocks : meth.locks = false)
    (hx : ∀ t : State, s.vm.Alike t.vm → H.size ≤ t.heap.size → (∀ q : Nat, q < H.size → t.heap[q]? = H[q]?) → XC cls s t)
    (hf : ∀ z ∈ locs, free z.base) (hc : cells + 1 ≤ mc) (hs : slots + 6 ≤ ms) :
    W p l e R s m args below meth c H locs cells slots (vx_MQ below Qc XC args s mc ms free) (F0 m pc ls rest) := by
  intro T hT X
  have htr : e.platform.stackTraces = false := (show e.platform.stackTraces = l.stackTraces by rw [X.admits.platform]).trans hl
  have Y := vx_rebase X (R' := { frames := R.frames, locals := R.locals, cells := 1, slots := 6 }) (Nat.le_refl _) (Nat.le_refl _) hRcells hRslots
  obtain ⟨s', hA⟩ : ∃ z, z = (T.setVm s.vm).setFrames (.invoking m args :: below) := ⟨_, rfl⟩
  rw [← hA] at Y
  have hvm : s'.vm = s.vm := by rw [hA]; rfl
  have hhp : s'.heap = H := by rw [hA]; exact hT
  have hW0 : s.WarmedH s'.vm := by rw [hvm]; exact State.WarmedH.refl s
  have hat' : ∀ w ∈ vx_atS own ic cls names, w.before args s' = true := fun w hw => vx_ot_at hW0 hvm.symm (hgood w (List.mem_cons_of_mem _ (List.mem_cons_of_mem _ hw))) (hat w hw)
  have hk' : (Cond.classLink own ik cls).before args s' = true := vx_ot_at hW0 hvm.symm (hgood _ List.mem_cons_self) hk
  have hini' : (Cond.initialized cls).before args s' = true := vx_ot_at hW0 hvm.symm (hgood _ (List.mem_cons_of_mem _ List.mem_cons_self)) hini
  have hU' : vx_Zq Bundle.tN "UNASSIGNED_STACK" Bundle.steD A s' s'.heap := by rw [hhp]; exact vx_Zq.moved hW0.alike (hU.kept hS.2.1)
  have hN' : vx_Zq Bundle.tN "SUPPRESSED_SENTINEL" Bundle.listD A s' s'.heap := by rw [hhp]; exact vx_Zq.moved hW0.alike (hN.kept hS.2.1)
  have h : ∀ w ∈ Bundle.ownAtoms own ic cls names, w.before args s' = true := vx_own hat' (vx_isRefq hU'.1) (vx_isRefq hN'.1) hU'.2.word hN'.2.word
  have hown' : s'.vm.findClass own = some m.cls := by rw [hvm]; exact hown
  have hins : (Cond.instantiable cls 6).before args s' = true := h _ (by simp [Bundle.ownAtoms])
  obtain ⟨vm₁, cX, kX, hfX, hkX, -, -, X₁, st1⟩ := Y.newCold hexec (own := own) (C := cls) (index := ik) (n := 6) hown' hk' hins hini'
    (g := F0 m pc ls rest) rfl (by rw [hb]; exact d0) (Nat.le_refl _) (Nat.le_refl _)
  generalize hT1 : (T.setVm vm₁).pushCell { cls := cX, slots := kX.instanceTypes.map defaultValue, vm := .none } = T1 at X₁ st1
  have hcat : (Value.ref T.heap.size).category = 1 := rfl
  have hcellA : T1.heap[T.heap.size]? = some (freshCell cX kX) := by rw [← hT1]; exact State.heap_pushCell_size _ _
  have d3' : decode c.code (pc + 3) = .ok (.dup, 1) := by rw [hb]; exact d3
  have d4' : decode c.code (pc + 4) = .ok (.ldc_w is, 3) := by rw [hb]; exact d4
  have hstr' : vk_R own is text sa s' := vk_R.warm hW0 hstr
  obtain ⟨U, hsteps, hrun, hend, hW, hsame, ce, hce, hO⟩ := X₁.ctorThrowS hexec htr (own := own) (cls := cls) (names := names) (ic := ic) hown' hcls hnames h (fun x hx => nomatch hx) hfX hkX hcellA (by rw [hhp, hT]; exact Nat.le_refl _) (msg := .ref sa) rfl
    (g := { method := m, pc := pc + 7, locals := ls, stack := .ref sa :: .ref T.heap.size :: .ref T.heap.size :: rest, locked := none }) rfl hsize rfl rfl (rest := rest) rfl
    (by rw [hb]; exact d7) (by rw [hb]; exact d10) hout hRframes (by simp only [List.map_cons, List.sum_cons, hcat]; omega) hlocks
  obtain ⟨f1, f2⟩ := vx_frame hsame
  rw [hhp] at f1 f2
  have hWs : s.WarmedH U.vm := State.WarmedH.trans hW0 hW
  have hcl : s.vm.findClass cls = some ce.cls := by
    have h9 := hO.cls
    rw [hvm] at h9
    exact h9
  have hall : s.sameButNew ({ U with vm := s.vm } : State) locs mc ms := by
    subst hA
    obtain ⟨e1, e2⟩ := hsame
    rw [State.setFrames_setFrames] at e1
    have h2 : (T.setVm s.vm).sameButNew ({ U with vm := s.vm } : State) [] (0 + 1) (0 + 6) := ⟨e1, e2⟩
    have h3 := X.same.trans h2
    rw [List.append_nil] at h3
    exact h3.mono hc hs
  refine ⟨U, ?_, .threw T.heap.size, hrun, hend, Or.inr ⟨T.heap.size, rfl, cls, ce, locs, hx U hWs.alike f1 (fun q hq => f2 q hq (fun z hz => nomatch hz)), hce, hO.vm, hcl, hWs, hall, hf⟩⟩
  refine st1 _ ?_
  show Steps p.tables e below (T1.setTop { method := m, pc := pc + 3, locals := ls, stack := .ref T.heap.size :: rest, locked := none }) _
  jvm_step X₁.here [X₁.here.top, hexec, d3', Value.category]
  exact X₁.ldcStringW hexec (own := own) (text := text) (index := is) (a := sa) hown' hstr'.1 hstr'.2
    (g := { method := m, pc := pc + 4, locals := ls, stack := .ref T.heap.size :: .ref T.heap.size :: rest, locked := none }) rfl d4' _ hsteps
end Ends
section Bodies
variable {l : Launch}
theorem vx_ofW {y : MethodName} {ws ws' : List Cond} {rm : Room} {Pc : Array Value → State → Prop} {Qc : Array Value → State → Outcome → State → Prop} {XC : String → State → State → Prop} {mc ms : Nat} {free : Addr → Prop} {cc : ByteArray} {maxL : Nat} {ret : Option FieldType}
    (hy : plainName y.cls = true) (hw : ws = Cond.code y cc maxL ret :: ws')
    (body : ∀ p e s m args below meth c s₁, BodyLoose p l y (headSpec ws rm) cc maxL ret e s m args below meth c s₁ → c.maxLocals = maxL → (∀ x ∈ c.exceptionTable.toList, False) → Pc args s →
      W p l e (headSpec ws rm).room s m args below meth c s.heap [] 0 0 (vx_MQ below Qc XC args s mc ms free) (entryFrame m args maxL)) : vx_Met l y ws rm Pc Qc XC mc ms free := by
  refine MetFree.of_bodyS (code := cc) (maxLocals := maxL) (ret := ret) hy ?_ ?_
  · intro args s m h hn
    obtain ⟨meth, c, h1, h2, h3, h4, h5, h6, -, -⟩ := Cond.code_spec hn (atoms_spec (ws := ws) h _ (by rw [hw]; exact List.mem_cons_self))
    exact ⟨meth, c, h1, h2, h3, h4, h5, h6⟩
  · intro p e s m args below meth c s₁ B hml hP _
    have hh0 : s₁.heap = s.heap := by rw [B.state]; rfl
    have ht : ∀ x ∈ c.exceptionTable.toList, False := by
      obtain ⟨meth9, c9, h1, h2, -, -, -, -, h7, -⟩ := Cond.code_spec B.named (atoms_spec (ws := ws) B.pre _ (by rw [hw]; exact List.mem_cons_self))
      cases Option.some.inj (h1.symm.trans B.method)
      cases Option.some.inj (h2.symm.trans (Stand.of_body B).code)
      intro x hx
      rw [Array.isEmpty_iff.mp h7] at hx
      cases hx
    obtain ⟨t, a1, o, b1, b2, b3⟩ := body p e s m args below meth c s₁ B hml ht hP s₁ hh0 (Stand.of_body B)
    exact ⟨t, o, a1, b1, b2, b3⟩
/-- the table of a body with handlers -/
theorem vx_table {p : Program} {x y : MethodName} {S : Spec} {cc bytes : ByteArray} {maxL maxL' : Nat} {ret ret' : Option FieldType} {e : Env} {s s₁ : State} {m : MethodId} {args : Array Value} {below : List Frame} {meth : Method} {c : Code} {hh : List (Nat × Nat × Nat × Nat)}
    (B : BodyLoose p l y S cc maxL ret e s m args below meth c s₁) (h : (Cond.codeWith y bytes maxL' ret' hh).before args s = true) : c.exceptionTable.toList = tableOf hh := by
  obtain ⟨m9, meth9, c9, hn9, h1, h2, -, -, h6, -⟩ := Cond.codeWith_spec h
  cases Option.some.inj (hn9.symm.trans B.named)
  cases Option.some.inj (h1.symm.trans B.method)
  cases Option.some.inj (h2.symm.trans (Stand.of_body B).code)
  rw [← h6, table_eq]
end Bodies
end VXA
/-! ===== END ===== -/
/-! ===== BEGIN a static call of a method with an exception table ===== -/
section VXS
variable {p : Program} {l : Launch} {e : Env} {R : Room} {s : State} {m : MethodId} {args : Array Value} {below : List Frame} {meth : Method} {c : Code} {T : State} {H : Heap} {locs : List Loc} {cells slots : Nat}
abbrev vx_CSW (R : Room) (s : State) (args : Array Value) (own : String) (index : Nat) (y : MethodName) (bytes : ByteArray) (maxL : Nat) (ret : Option FieldType) (hh : List (Nat × Nat × Nat × Nat)) (ws : List Cond) (rm : Room) (mc ms n : Nat) : Prop :=
  (rm.cells = mc ∧ rm.slots = ms ∧ rm.frames + 1 ≤ R.frames ∧ 8 + (maxL + 11) + rm.locals ≤ R.locals ∧ (∀ w ∈ ws, ∀ (a' : Array Value) (U : State), s.WarmedH U.vm → w.before a' U = true) ∧ Cond.codeWith y bytes maxL ret hh ∈ ws) ∧
  (Cond.codeWith y bytes maxL ret hh).before args s = true ∧ (Cond.initialized y.cls).before args s = true ∧ (y.cls ≠ "java/lang/invoke/MethodHandle" ∧ y.cls ≠ "java/lang/invoke/VarHandle") ∧
  (∀ sig, parseMethodDescriptor y.desc = some sig → n = sig.parameters.length) ∧ (Cond.methodLink own index y).before args s = true ∧ (Cond.static y).before args s = true
theorem vx_cwSW {own : String} {index maxL mc ms : Nat} {y : MethodName} {bytes : ByteArray} {ret : Option FieldType} {hh : List (Nat × Nat × Nat × Nat)} {Ts ws ws' : List Cond} {rm : Room} (n : Nat) (ht : ∀ w ∈ Ts, w.before args s = true) (hT : GoodIn Ts (va_wsS own index y ws)) (hw : ws = Cond.codeWith y bytes maxL ret hh :: ws') (hrc : rm.cells = mc) (hrs : rm.slots = ms)
    (hd : y.cls ≠ "java/lang/invoke/MethodHandle" ∧ y.cls ≠ "java/lang/invoke/VarHandle" ∧ (parseMethodDescriptor y.desc).map (fun d => d.parameters.length) = some n) (hR : rm.frames + 1 ≤ R.frames ∧ 8 + (maxL + 11) + rm.locals ≤ R.locals) :
    vx_CSW R s args own index y bytes maxL ret hh ws rm mc ms n := by
  have ok : ∀ w ∈ va_wsS own index y ws, w.before args s = true := fun w h => ht w (hT w h).1
  have hG : GoodIn Ts ws := fun w h => hT w (by unfold va_wsS; exact List.mem_append_right _ h)
  have hc : Cond.codeWith y bytes maxL ret hh ∈ ws := by rw [hw]; exact List.mem_cons_self
  refine ⟨⟨hrc, hrs, hR.1, hR.2, pay_in ht hG, hc⟩, ht _ (hG _ hc).1, ok _ (by simp [va_wsS]), ⟨hd.1, hd.2.1⟩, fun sig h => ?_, ok _ (by simp [va_wsS]), ok _ (by simp [va_wsS])⟩
  have h2 := hd.2.2
  rw [h] at h2
  exact (Option.some.inj h2).symm
theorem vx_callSW (X : Stand p l e R s m args below meth c T locs cells slots) (hexec : p.tables.exec = Jvm.exec) {own : String} {index : Nat} {y : MethodName} {bytes : ByteArray} {maxL : Nat} {ret : Option FieldType} {hh : List (Nat × Nat × Nat × Nat)}
    (hown : s.vm.findClass own = some m.cls) (hlink : (Cond.methodLink own index y).before args s = true) (hstat : (Cond.static y).before args s = true) (hinit : (Cond.initialized y.cls).before args s = true)
    (hcode : (Cond.codeWith y bytes maxL ret hh).before args s = true) (hy : y.cls ≠ "java/lang/invoke/MethodHandle" ∧ y.cls ≠ "java/lang/invoke/VarHandle")
    {W9 : Nat} {Pre : Pt → Array Value → Prop} {Post : Pt → Array Value → Option Value → Pt → Prop} (hK : Back l R p e below s args y 3 W9 Pre Post)
    {g : JFrame} (hg : g.method = m) (hsize : g.locals.size = c.maxLocals) {argsL rest : List Value} (hlen : ∀ sig, parseMethodDescriptor y.desc = some sig → argsL.length = sig.parameters.length)
    (hstack : g.stack = argsL.reverse ++ rest) (hW : 2 * g.monitorRoom + (rest.map fun v => v.category).sum ≤ W9) (hdg : decode c.code g.pc = .ok (.invokestatic index, 3))
    (hpre : ∀ vm₁, s.WarmedH vm₁ → Pre ⟨T.setVm vm₁, locs, cells, slots⟩ argsL.toArray) :
    ∃ (v : Option Value) (vm₁ : Vm) (B : Pt), s.WarmedH vm₁ ∧ Stand p l e R s m args below meth c B.U B.locs B.cells B.slots ∧ Post ⟨T.setVm vm₁, locs, cells, slots⟩ argsL.toArray v B ∧
      ∀ target, Steps p.tables e below (B.U.setTop { g with pc := g.pc + 3, stack := v.toList ++ rest }) target → Steps p.tables e below (T.setTop g) target := by
  obtain ⟨mk, methM, cM, hnamed, hmethM, -, -, -, -, -, -, hsigM⟩ := Cond.codeWith_spec hcode
  have hstatic : methM.isStatic = true := Cond.static_spec hnamed hmethM hstat
  obtain ⟨kP, hkP, -⟩ := className_of_methodNamed hnamed
  have hinitP : kP.init = .initialized := Cond.initialized_spec (findClass_of_methodNamed hnamed) hkP hinit
  obtain ⟨vm₁, X₁, hstep₁⟩ := X.invokestatic hexec hown hlink hnamed hmethM hstatic hkP hinitP hy (g := g) hg (argsL := argsL) (rest := rest) (hlen _ hsigM) hstack hdg
  obtain ⟨v, B, X', hpost, hsteps⟩ := hK m meth c ⟨T.setVm vm₁, locs, cells, slots⟩ { g with stack := rest } (.invokestatic index) mk argsL.toArray X₁ hg hsize hdg hW (X₁.named hnamed) (hpre vm₁ X₁.warmed)
  exact ⟨v, vm₁, B, X₁.warmed, X', hpost, fun target h => hstep₁ _ fun acts => by rw [doInvoke_state]; exact hsteps.trans h⟩
theorem vx_runSW {y : MethodName} {bytes cc : ByteArray} {maxL nL mc ms n index : Nat} {ret : Option FieldType} {hh : List (Nat × Nat × Nat × Nat)} {ws : List Cond} {rm : Room} {Pc : Array Value → State → Prop} {Qc : Array Value → State → Outcome → State → Prop} {free : Addr → Prop} {Ts : List Cond} {own : String} {As rest : List Value} {g : JFrame}
    (S : CallFix p m c cc nL s args Ts own) (hM : Met l y ws rm Pc Qc mc ms free) (cw : vx_CSW R s args own index y bytes maxL ret hh ws rm mc ms n) (hp : PreS s H Pc As)
    (hg : g.method = m) (hn : As.length = n) (hsize : g.locals.size = nL) (hstack : g.stack = As.reverse ++ rest) (hW : 2 * g.monitorRoom + (rest.map fun v => v.category).sum ≤ 8) (hdg : decode cc g.pc = .ok (.invokestatic index, 3)) (hf : cells + mc ≤ R.cells ∧ slots + ms ≤ R.slots) :
    va_Run p l e R s m args below meth c H locs cells slots mc ms g rest (Qc As.toArray) (free) := by
  obtain ⟨⟨hrc, hrs, hfr, hlo, hws, hcw⟩, hcode, hini, hy, hlen, hl, hstt⟩ := cw
  have hK : Back l R p e below s args y 3 8 (PreOf R mc ms Pc) (PostOf Qc mc ms free) := va_backW (hh := hh) (bytes := bytes) (maxL := maxL) (ret := ret) hM hp.1 hrc hrs hfr hlo hws hcw (fun a' U hW => word_at hW (Or.inl (by first | rfl | simp [Cond.onTables, Cond.keeps, Cond.steady])) hini)
  obtain ⟨hx, hb, hml, ho, -⟩ := S
  intro T hT X
  obtain ⟨v, vm₁, ⟨U', l2, c2, s2⟩, hW₁, X', ⟨g', mk, t, L, e1, e2, hq, h1, hL, h2, h3⟩, st⟩ := vx_callSW X hx (hh := hh) (bytes := bytes) (maxL := maxL) (ret := ret) ho hl hstt hini hcode hy hK hg (hsize.trans hml.symm) (argsL := As) (rest := rest) (fun sig h => hn.trans (hlen sig h)) hstack hW (by rw [hb]; exact hdg)
    (fun vm₁ hW₁ => ⟨hf.1, hf.2, hp.2 (T.setVm vm₁) hT hW₁⟩)
  dsimp only [Pt.U, Pt.locs, Pt.cells, Pt.slots] at X' e1 e2 h1 h2 h3 st
  subst h1; subst h2; subst h3
  exact ⟨v, (T.setVm vm₁).calling g' mk As.toArray, t, U', L, hT, X', hL, e1, e2, hq, st⟩
/-- not caught here, past rows that name other classes: it goes on to the caller -/
theorem vx_outP {p : Program} {l : Launch} {e : Env} {R : Room} {s : State} {m : MethodId} {args : Array Value} {below : List Frame} {meth : Method} {c : Code} {H : Heap} {locs : List Loc} {cells slots : Nat} {free : Addr → Prop} {ls : Array Slot} {rest : List Value} {Qc : Array Value → State → Outcome → State → Prop} {XC : String → State → State → Prop}
    {pc : Nat} {own E : String} {ce : Cell} {q : Addr} {mc ms : Nat} (hown : s.vm.findClass own = some m.cls) (hlocks : meth.locks = false)
    (hpass : ∀ z ∈ c.exceptionTable.toList, covers z pc = false ∨ (z.catchType ≠ 0 ∧ ∃ nm : String, (Cond.classLink own z.catchType nm).before args s = true ∧ va_Nc E nm s)) (hcell : H[q]? = some ce) (hv : ce.vm = .none) (hcl : s.vm.findClass E = some ce.cls)
    (hx : ∀ t : State, t.heap = H → s.vm.Alike t.vm → XC E s t) (hf : ∀ z ∈ locs, free z.base) (hc : cells ≤ mc) (hs : slots ≤ ms) :
    vx_W p l e R s m args below meth c H locs cells slots (vx_MQ below Qc XC args s mc ms free) (F0 m pc ls rest) q := by
  intro T hT X
  have hpl : e.platform.magicAccessors = ({} : Platform).magicAccessors := by rw [X.admits.platform]
  obtain ⟨vm', hW', X', st⟩ := X.outThrough hlocks q (g := F0 m pc ls rest) rfl rfl rfl (cell := ce) (by rw [hT]; exact hcell) (by rw [hv]; rfl)
    (by obtain ⟨k9, h9, -⟩ := Vm.findClass_spec hcl; exact ⟨k9, h9⟩) (fun z hz => by
      rcases hpass z hz with h | ⟨hz0, nm, hl1, hn1⟩
      · exact Or.inl h
      · obtain ⟨c6, hc6, hcl6⟩ := Cond.classLink_spec hown hl1 e.platform hpl
        obtain ⟨a8, b8, h1, h2, h3⟩ := hn1
        cases Option.some.inj (h1.symm.trans hcl)
        cases Option.some.inj (h2.symm.trans hc6)
        exact Or.inr ⟨hz0, _, hcl6, h3⟩)
  obtain ⟨g₀, hfr⟩ := X'.frames_eq
  have hcell9 : ((T.setVm vm').setFrames (.throwing q :: below)).heap[q]? = some ce := by
    show T.heap[q]? = some ce
    rw [hT]; exact hcell
  have hend : Ended ((T.setVm vm').setFrames (.throwing q :: below)) below (.threw q) := State.frames_setFrames _ (State.cur_lt_of_frames hfr)
  refine ⟨(T.setVm vm').setFrames (.throwing q :: below), ?_, .threw q, X'.here.running, hend, Or.inr ⟨q, rfl, E, ce, locs, hx _ hT (X'.ends _).1.alike, hcell9, hv, hcl, (X'.ends _).1, (X'.ends _).2.mono hc hs, hf⟩⟩
  rw [X.pushThrowing_eq]
  exact st
/-- a thing of a world lies in the heap -/
theorem vx_lt {D : va_G} {cl : List vw_C} {ws : va_W} {H1 : Heap} (h : va_P D cl ws H1) {k : Nat} {q : Nat × va_E} (hk : ws[k]? = some q) : q.1 < H1.size := (h k q hk).lt
end VXS
/-! ===== END ===== -/
/-! ===== BEGIN methods with a table of their own: called by a name, returning or throwing ===== -/
section VXH
/-! vx_backW, vx_callVX, vx_callSX, vx_callVW, vx_runVW, vx_runVX, vx_runSX, vx_ofWH follow the same proofs as their sisters above (Free/Laws.lean, Shelf42/LK1.lean); vx_outP calls Shelf42/NT130.lean (outThrough). -/
section
variable {l : Launch} {R : Room} {p : Program} {e : Env} {below : List Frame} {s : State} {sargs : Array Value} {y : MethodName} {len W9 : Nat}
theorem vx_backW {ws : List Cond} {rm : Room} {Pc : Array Value → State → Prop} {Qc : Array Value → State → Outcome → State → Prop} {XC : String → State → State → Prop} {mc ms : Nat} {free : Addr → Prop} {bytes : ByteArray} {maxL : Nat} {ret : Option FieldType} {hh : List (Nat × Nat × Nat × Nat)}
    (hM : vx_Met l y ws rm Pc Qc XC mc ms free) (hblind : FrameBlind Pc) (hrc : rm.cells = mc) (hrs : rm.slots = ms)
    (hframes : rm.frames + 1 ≤ R.frames) (hlocals : W9 + (maxL + 11) + rm.locals ≤ R.locals)
    (hws : ∀ w ∈ ws, ∀ a' U, s.WarmedH U.vm → w.before a' U = true) (hcode : Cond.codeWith y bytes maxL ret hh ∈ ws) (hinit : ∀ a' U, s.WarmedH U.vm → (Cond.initialized y.cls).before a' U = true) :
    vx_Back l R p e below s sargs y len W9 (PreOf R mc ms Pc) (PostOf Qc mc ms free) (vx_Post XC mc ms free) := by
  intro m meth c A g ig mk a X hg hsize hdg hW hn hp
  have h1 : (headSpec ws rm).pre.before a A.U = true := atoms_intro fun w hw => hws w hw _ _ X.warmed
  have h2 : (Cond.codeWith y bytes maxL ret hh).before a A.U = true := hws _ hcode _ _ X.warmed
  have h3 : (Cond.initialized y.cls).before a A.U = true := hinit _ _ X.warmed
  have h4 : A.cells + (headSpec ws rm).room.cells ≤ R.cells := by rw [show (headSpec ws rm).room.cells = mc from hrc]; exact hp.1
  have h5 : A.slots + (headSpec ws rm).room.slots ≤ R.slots := by rw [show (headSpec ws rm).room.slots = ms from hrs]; exact hp.2.1
  have hPc : Pc a (A.U.calling g mk a) := hblind _ _ _ _ hp.2.2
  obtain ⟨U, Ls, c0, s0⟩ := A
  dsimp only [Pt.U, Pt.locs, Pt.cells, Pt.slots] at h1 h2 h3 h4 h5 X hn hPc ⊢
  obtain ⟨m9, methY, cY, hn9, hmY, hcY, -, hlY, -⟩ := Cond.codeWith_spec h2
  cases Option.some.inj (hn9.symm.trans hn)
  obtain ⟨kY, hkY, -⟩ := className_of_methodNamed hn
  have hinitY : kY.init = .initialized := Cond.initialized_spec (findClass_of_methodNamed hn) hkY h3
  have h : At U g.method c below := by rw [hg]; exact X.here
  have hlocals9 : W9 + (maxL + 11) + (headSpec ws rm).room.locals ≤ R.locals := hlocals
  have happ : (headSpec ws rm).appliesLoose y e.platform (U.calling g mk a) = true :=
    Spec.appliesLoose_calling (g := g) h hdg hn hkY hinitY
      (X.room_calling (g := g) (R' := (headSpec ws rm).room) hsize hmY hcY hframes (by rw [hlY]; omega) h4 h5) h1
  obtain ⟨mid, hmid⟩ := h.above
  have hfr : (U.setTop g).frames = (.java g :: mid) ++ below := by rw [State.frames_setTop' g h.top, hmid]; rfl
  obtain ⟨o, s₂, hsteps, -, hend, hq⟩ := Steps.callFree hM p X.admits X.cas X.clock (acts := []) hfr happ hPc trivial
  have hq' : vx_Q Qc XC mc ms free a (U.calling g mk a) o s₂ := hq
  rw [State.frames_setTop' g h.top] at hend
  obtain ⟨g₀, hg0⟩ := Option.isSome_iff_exists.mp h.top
  obtain ⟨r, hr⟩ := State.topJava?_eq_some.mp hg0
  have hr' : (({ U with heap := s₂.heap, slotsUsed := s₂.slotsUsed } : State).setVm s₂.vm).frames = .java g₀ :: r := hr
  rcases hq' with ⟨hqc, L, hfe, hL⟩ | ⟨q, rfl, E, ce, L, hx, hce, hcv, hcl, hW₂, hsm, hL⟩
  · obtain ⟨⟨v, rfl⟩, hW₂, e2, q2, q3, q4, q5, q6⟩ := id hfe
    have e3 : s₂ = ({ (U.calling g mk a).setFrames s₂.frames with heap := s₂.heap, slotsUsed := s₂.slotsUsed } : State).setVm s₂.vm := by
      have : s₂ = ({ s₂ with vm := (U.calling g mk a).vm } : State).setVm s₂.vm := rfl
      rw [e2] at this
      exact this
    obtain ⟨c₂, i₂, len₂, hc₂, hd₂, hf₂⟩ := hend
    have hW' : U.WarmedH s₂.vm := hW₂
    have hcc : c₂ = c := by
      have h1 : s₂.code? g.method = U.code? g.method := by
        rw [State.code?_eq, State.code?_eq, hW'.alike.method?]
      exact Option.some.inj (hc₂.symm.trans (h1.trans h.code))
    subst hcc
    have hlen : len₂ = len := by rw [hdg] at hd₂; cases hd₂; rfl
    subst hlen
    have hs₂ : s₂ = (({ U with heap := s₂.heap, slotsUsed := s₂.slotsUsed } : State).setVm s₂.vm).setTop { g with pc := g.pc + len₂, stack := v.toList ++ g.stack } := by
      refine e3.trans ?_
      rw [hf₂, State.calling_eq h.top, State.setFrames_setFrames, State.setTop_of_frames _ hr', hr]
      rfl
    have hsame : U.sameButNew ({ U with heap := s₂.heap, slotsUsed := s₂.slotsUsed } : State) L mc ms := by
      refine ⟨?_, q2, q3, q4, q5, q6⟩
      obtain ⟨t, ht, -⟩ := State.frames_cons hr
      show ({ U with heap := s₂.heap, slotsUsed := s₂.slotsUsed } : State) = { U.setFrames U.frames with heap := s₂.heap, slotsUsed := s₂.slotsUsed }
      rw [State.setFrames_self ht]
    subst hg
    refine Or.inl ⟨v, ⟨(({ U with heap := s₂.heap, slotsUsed := s₂.slotsUsed } : State).setVm s₂.vm), Ls ++ L, c0 + mc, s0 + ms⟩,
      ⟨X.admits, X.cas, X.clock, X.frames, X.room, X.hears, X.method, X.code, (X.here.setHeapUsed s₂.heap s₂.slotsUsed).setVm hW'.alike, X.tail, State.WarmedH.trans X.warmed hW', X.limits, X.bytes, X.same.trans (hsame.setVm s.vm)⟩,
      ⟨g, mk, s₂, L, rfl, rfl, hqc, rfl, hL, rfl, rfl⟩, ?_⟩
    show Steps p.tables e below _ ((({ U with heap := s₂.heap, slotsUsed := s₂.slotsUsed } : State).setVm s₂.vm).setTop { g with pc := g.pc + len₂, stack := v.toList ++ g.stack })
    rw [← hs₂]
    exact hsteps
  · obtain ⟨e2, q2, q3, q4, q5, q6⟩ := id hsm
    have e3 : s₂ = ({ (U.calling g mk a).setFrames s₂.frames with heap := s₂.heap, slotsUsed := s₂.slotsUsed } : State).setVm s₂.vm := by
      have : s₂ = ({ s₂ with vm := (U.calling g mk a).vm } : State).setVm s₂.vm := rfl
      rw [e2] at this
      exact this
    have hf₂ : s₂.frames = .throwing q :: .java g :: U.frames.tail := hend
    have hW' : U.WarmedH s₂.vm := hW₂
    have hs₂ : s₂ = ((({ U with heap := s₂.heap, slotsUsed := s₂.slotsUsed } : State).setVm s₂.vm).setTop g).pushFrame (.throwing q) := by
      refine e3.trans ?_
      rw [hf₂, State.calling_eq h.top, State.setFrames_setFrames, State.pushFrame, State.frames_setTop _ hr', State.setTop_of_frames _ hr', State.setFrames_setFrames, hr]
      rfl
    have hsame : U.sameButNew ({ U with heap := s₂.heap, slotsUsed := s₂.slotsUsed } : State) L mc ms := by
      refine ⟨?_, q2, q3, q4, q5, q6⟩
      obtain ⟨t, ht, -⟩ := State.frames_cons hr
      show ({ U with heap := s₂.heap, slotsUsed := s₂.slotsUsed } : State) = { U.setFrames U.frames with heap := s₂.heap, slotsUsed := s₂.slotsUsed }
      rw [State.setFrames_self ht]
    subst hg
    refine Or.inr ⟨q, ⟨(({ U with heap := s₂.heap, slotsUsed := s₂.slotsUsed } : State).setVm s₂.vm), Ls ++ L, c0 + mc, s0 + ms⟩,
      ⟨X.admits, X.cas, X.clock, X.frames, X.room, X.hears, X.method, X.code, (X.here.setHeapUsed s₂.heap s₂.slotsUsed).setVm hW'.alike, X.tail, State.WarmedH.trans X.warmed hW', X.limits, X.bytes, X.same.trans (hsame.setVm s.vm)⟩,
      ⟨g, mk, s₂, L, E, ce, rfl, rfl, hx, hce, hcv, hcl, rfl, hL, rfl, rfl⟩, ?_⟩
    show Steps p.tables e below _ (((({ U with heap := s₂.heap, slotsUsed := s₂.slotsUsed } : State).setVm s₂.vm).setTop g).pushFrame (.throwing q))
    rw [← hs₂]
    exact hsteps
end
variable {p : Program} {l : Launch} {e : Env} {R : Room} {s : State} {m : MethodId} {args : Array Value} {below : List Frame} {meth : Method} {c : Code} {T : State} {H : Heap} {locs : List Loc} {cells slots : Nat}
theorem vx_callVX (X : Stand p l e R s m args below meth c T locs cells slots) (hexec : p.tables.exec = Jvm.exec) {own C : String} {index : Nat} {y : MethodName} {bytes : ByteArray} {maxL : Nat} {ret : Option FieldType} {hh : List (Nat × Nat × Nat × Nat)}
    (hown : s.vm.findClass own = some m.cls) (hlink : (Cond.methodLink own index y).before args s = true) (hinst : (Cond.instanceMethod y).before args s = true) (hsel : (Cond.selects C y y).before args s = true)
    (hcode : (Cond.codeWith y bytes maxL ret hh).before args s = true) (hy : y.cls ≠ "java/lang/invoke/MethodHandle" ∧ y.cls ≠ "java/lang/invoke/VarHandle")
    {W9 : Nat} {Pre : Pt → Array Value → Prop} {Post : Pt → Array Value → Option Value → Pt → Prop} {PostX : Pt → Array Value → Addr → Pt → Prop} (hK : vx_Back l R p e below s args y 3 W9 Pre Post PostX)
    {b : Addr} {cellB : Cell} (hcell : T.heap[b]? = some cellB) (hobj : cellB.vm.isStatics = false) (hcls : s.vm.findClass C = some cellB.cls)
    {g : JFrame} (hg : g.method = m) (hsize : g.locals.size = c.maxLocals) {argsL rest : List Value} (hlen : ∀ sig, parseMethodDescriptor y.desc = some sig → argsL.length = sig.parameters.length)
    (hstack : g.stack = argsL.reverse ++ .ref b :: rest) (hW : 2 * g.monitorRoom + (rest.map fun v => v.category).sum ≤ W9) (hdg : decode c.code g.pc = .ok (.invokevirtual index, 3))
    (hpre : ∀ vm₁, s.WarmedH vm₁ → Pre ⟨T.setVm vm₁, locs, cells, slots⟩ (Value.ref b :: argsL).toArray) :
    (∃ (v : Option Value) (vm₁ : Vm) (B : Pt), s.WarmedH vm₁ ∧ Stand p l e R s m args below meth c B.U B.locs B.cells B.slots ∧ Post ⟨T.setVm vm₁, locs, cells, slots⟩ (Value.ref b :: argsL).toArray v B ∧
      ∀ target, Steps p.tables e below (B.U.setTop { g with pc := g.pc + 3, stack := v.toList ++ rest }) target → Steps p.tables e below (T.setTop g) target) ∨
    (∃ (q : Addr) (vm₁ : Vm) (B : Pt), s.WarmedH vm₁ ∧ Stand p l e R s m args below meth c B.U B.locs B.cells B.slots ∧ PostX ⟨T.setVm vm₁, locs, cells, slots⟩ (Value.ref b :: argsL).toArray q B ∧
      Steps p.tables e below (T.setTop g) ((B.U.setTop { g with stack := rest }).pushFrame (.throwing q))) := by
  obtain ⟨mk, methM, hnamed, hmethM, hstM, habM⟩ := Cond.instanceMethod_spec hinst
  obtain ⟨m8, methM', cM, hn8, hmethM', -, -, -, -, -, -, hsigM⟩ := Cond.codeWith_spec hcode
  cases Option.some.inj (hn8.symm.trans hnamed)
  cases hmethM.symm.trans hmethM'
  obtain ⟨c2, r2, m2, q1, q2, q3, q4, kP, hkP, hkPi⟩ := Cond.selects_spec hsel
  cases hcls.symm.trans q1
  cases (State.methodFound?_of_named hnamed hy).symm.trans q2
  cases hnamed.symm.trans q3
  have hselP : selectMethod e.platform s.vm cellB.cls mk = .method mk := by rw [Launch.admits_selectMethod X.admits]; exact q4
  obtain ⟨vm₁, X₁, hstep₁⟩ := X.invokevirtual hexec hown hlink hnamed hmethM hstM hkP hkPi hy (a := b) (cell := cellB) hcell
    (fun z h => by rw [h] at hobj; cases hobj) hselP hmethM habM hkP hkPi (g := g) hg (argsL := argsL) (rest := rest) (hlen _ hsigM) hstack hdg
  rcases hK m meth c ⟨T.setVm vm₁, locs, cells, slots⟩ { g with stack := rest } (.invokevirtual index) mk (Value.ref b :: argsL).toArray X₁ hg hsize hdg hW (X₁.named hnamed) (hpre vm₁ X₁.warmed) with ⟨v, B, X', hpost, hsteps⟩ | ⟨q, B, X', hpost, hsteps⟩
  · exact Or.inl ⟨v, vm₁, B, X₁.warmed, X', hpost, fun target h => hstep₁ _ fun acts => by rw [doInvoke_state]; exact hsteps.trans h⟩
  · exact Or.inr ⟨q, vm₁, B, X₁.warmed, X', hpost, hstep₁ _ fun acts => by rw [doInvoke_state]; exact hsteps⟩
theorem vx_callSX (X : Stand p l e R s m args below meth c T locs cells slots) (hexec : p.tables.exec = Jvm.exec) {own : String} {index : Nat} {y : MethodName} {bytes : ByteArray} {maxL : Nat} {ret : Option FieldType} {hh : List (Nat × Nat × Nat × Nat)}
    (hown : s.vm.findClass own = some m.cls) (hlink : (Cond.methodLink own index y).before args s = true) (hstat : (Cond.static y).before args s = true) (hinit : (Cond.initialized y.cls).before args s = true)
    (hcode : (Cond.codeWith y bytes maxL ret hh).before args s = true) (hy : y.cls ≠ "java/lang/invoke/MethodHandle" ∧ y.cls ≠ "java/lang/invoke/VarHandle")
    {W9 : Nat} {Pre : Pt → Array Value → Prop} {Post : Pt → Array Value → Option Value → Pt → Prop} {PostX : Pt → Array Value → Addr → Pt → Prop} (hK : vx_Back l R p e below s args y 3 W9 Pre Post PostX)
    {g : JFrame} (hg : g.method = m) (hsize : g.locals.size = c.maxLocals) {argsL rest : List Value} (hlen : ∀ sig, parseMethodDescriptor y.desc = some sig → argsL.length = sig.parameters.length)
    (hstack : g.stack = argsL.reverse ++ rest) (hW : 2 * g.monitorRoom + (rest.map fun v => v.category).sum ≤ W9) (hdg : decode c.code g.pc = .ok (.invokestatic index, 3))
    (hpre : ∀ vm₁, s.WarmedH vm₁ → Pre ⟨T.setVm vm₁, locs, cells, slots⟩ argsL.toArray) :
    (∃ (v : Option Value) (vm₁ : Vm) (B : Pt), s.WarmedH vm₁ ∧ Stand p l e R s m args below meth c B.U B.locs B.cells B.slots ∧ Post ⟨T.setVm vm₁, locs, cells, slots⟩ argsL.toArray v B ∧
      ∀ target, Steps p.tables e below (B.U.setTop { g with pc := g.pc + 3, stack := v.toList ++ rest }) target → Steps p.tables e below (T.setTop g) target) ∨
    (∃ (q : Addr) (vm₁ : Vm) (B : Pt), s.WarmedH vm₁ ∧ Stand p l e R s m args below meth c B.U B.locs B.cells B.slots ∧ PostX ⟨T.setVm vm₁, locs, cells, slots⟩ argsL.toArray q B ∧
      Steps p.tables e below (T.setTop g) ((B.U.setTop { g with stack := rest }).pushFrame (.throwing q))) := by
  obtain ⟨mk, methM, cM, hnamed, hmethM, -, -, -, -, -, -, hsigM⟩ := Cond.codeWith_spec hcode
  have hstatic : methM.isStatic = true := Cond.static_spec hnamed hmethM hstat
  obtain ⟨kP, hkP, -⟩ := className_of_methodNamed hnamed
  have hinitP : kP.init = .initialized := Cond.initialized_spec (findClass_of_methodNamed hnamed) hkP hinit
  obtain ⟨vm₁, X₁, hstep₁⟩ := X.invokestatic hexec hown hlink hnamed hmethM hstatic hkP hinitP hy (g := g) hg (argsL := argsL) (rest := rest) (hlen _ hsigM) hstack hdg
  rcases hK m meth c ⟨T.setVm vm₁, locs, cells, slots⟩ { g with stack := rest } (.invokestatic index) mk argsL.toArray X₁ hg hsize hdg hW (X₁.named hnamed) (hpre vm₁ X₁.warmed) with ⟨v, B, X', hpost, hsteps⟩ | ⟨q, B, X', hpost, hsteps⟩
  · exact Or.inl ⟨v, vm₁, B, X₁.warmed, X', hpost, fun target h => hstep₁ _ fun acts => by rw [doInvoke_state]; exact hsteps.trans h⟩
  · exact Or.inr ⟨q, vm₁, B, X₁.warmed, X', hpost, hstep₁ _ fun acts => by rw [doInvoke_state]; exact hsteps⟩
theorem vx_callVW (X : Stand p l e R s m args below meth c T locs cells slots) (hexec : p.tables.exec = Jvm.exec) {own C : String} {index : Nat} {y : MethodName} {bytes : ByteArray} {maxL : Nat} {ret : Option FieldType} {hh : List (Nat × Nat × Nat × Nat)}
    (hown : s.vm.findClass own = some m.cls) (hlink : (Cond.methodLink own index y).before args s = true) (hinst : (Cond.instanceMethod y).before args s = true) (hsel : (Cond.selects C y y).before args s = true)
    (hcode : (Cond.codeWith y bytes maxL ret hh).before args s = true) (hy : y.cls ≠ "java/lang/invoke/MethodHandle" ∧ y.cls ≠ "java/lang/invoke/VarHandle")
    {W9 : Nat} {Pre : Pt → Array Value → Prop} {Post : Pt → Array Value → Option Value → Pt → Prop} (hK : Back l R p e below s args y 3 W9 Pre Post)
    {b : Addr} {cellB : Cell} (hcell : T.heap[b]? = some cellB) (hobj : cellB.vm.isStatics = false) (hcls : s.vm.findClass C = some cellB.cls)
    {g : JFrame} (hg : g.method = m) (hsize : g.locals.size = c.maxLocals) {argsL rest : List Value} (hlen : ∀ sig, parseMethodDescriptor y.desc = some sig → argsL.length = sig.parameters.length)
    (hstack : g.stack = argsL.reverse ++ .ref b :: rest) (hW : 2 * g.monitorRoom + (rest.map fun v => v.category).sum ≤ W9) (hdg : decode c.code g.pc = .ok (.invokevirtual index, 3))
    (hpre : ∀ vm₁, s.WarmedH vm₁ → Pre ⟨T.setVm vm₁, locs, cells, slots⟩ (Value.ref b :: argsL).toArray) :
    ∃ (v : Option Value) (vm₁ : Vm) (B : Pt), s.WarmedH vm₁ ∧ Stand p l e R s m args below meth c B.U B.locs B.cells B.slots ∧ Post ⟨T.setVm vm₁, locs, cells, slots⟩ (Value.ref b :: argsL).toArray v B ∧
      ∀ target, Steps p.tables e below (B.U.setTop { g with pc := g.pc + 3, stack := v.toList ++ rest }) target → Steps p.tables e below (T.setTop g) target := by
  obtain ⟨mk, methM, hnamed, hmethM, hstM, habM⟩ := Cond.instanceMethod_spec hinst
  obtain ⟨m8, methM', cM, hn8, hmethM', -, -, -, -, -, -, hsigM⟩ := Cond.codeWith_spec hcode
  cases Option.some.inj (hn8.symm.trans hnamed)
  cases hmethM.symm.trans hmethM'
  obtain ⟨c2, r2, m2, q1, q2, q3, q4, kP, hkP, hkPi⟩ := Cond.selects_spec hsel
  cases hcls.symm.trans q1
  cases (State.methodFound?_of_named hnamed hy).symm.trans q2
  cases hnamed.symm.trans q3
  have hselP : selectMethod e.platform s.vm cellB.cls mk = .method mk := by rw [Launch.admits_selectMethod X.admits]; exact q4
  obtain ⟨vm₁, X₁, hstep₁⟩ := X.invokevirtual hexec hown hlink hnamed hmethM hstM hkP hkPi hy (a := b) (cell := cellB) hcell
    (fun z h => by rw [h] at hobj; cases hobj) hselP hmethM habM hkP hkPi (g := g) hg (argsL := argsL) (rest := rest) (hlen _ hsigM) hstack hdg
  obtain ⟨v, B, X', hpost, hsteps⟩ := hK m meth c ⟨T.setVm vm₁, locs, cells, slots⟩ { g with stack := rest } (.invokevirtual index) mk (Value.ref b :: argsL).toArray X₁ hg hsize hdg hW (X₁.named hnamed) (hpre vm₁ X₁.warmed)
  exact ⟨v, vm₁, B, X₁.warmed, X', hpost, fun target h => hstep₁ _ fun acts => by rw [doInvoke_state]; exact hsteps.trans h⟩
abbrev vx_CVW (R : Room) (s : State) (args : Array Value) (own C : String) (index : Nat) (y : MethodName) (bytes : ByteArray) (maxL : Nat) (ret : Option FieldType) (hh : List (Nat × Nat × Nat × Nat)) (ws : List Cond) (rm : Room) (mc ms n : Nat) : Prop :=
  (rm.cells = mc ∧ rm.slots = ms ∧ rm.frames + 1 ≤ R.frames ∧ 8 + (maxL + 11) + rm.locals ≤ R.locals ∧ (∀ w ∈ ws, ∀ (a' : Array Value) (U : State), s.WarmedH U.vm → w.before a' U = true) ∧ Cond.codeWith y bytes maxL ret hh ∈ ws) ∧
  (Cond.codeWith y bytes maxL ret hh).before args s = true ∧ (Cond.initialized y.cls).before args s = true ∧ (y.cls ≠ "java/lang/invoke/MethodHandle" ∧ y.cls ≠ "java/lang/invoke/VarHandle") ∧
  (∀ sig, parseMethodDescriptor y.desc = some sig → n = sig.parameters.length) ∧ (Cond.methodLink own index y).before args s = true ∧ (Cond.instanceMethod y).before args s = true ∧ (Cond.selects C y y).before args s = true
theorem vx_cwVW {own C : String} {index maxL mc ms : Nat} {y : MethodName} {bytes : ByteArray} {ret : Option FieldType} {hh : List (Nat × Nat × Nat × Nat)} {Ts ws ws' : List Cond} {rm : Room} (n : Nat) (ht : ∀ w ∈ Ts, w.before args s = true) (hT : GoodIn Ts (wsV own index C y ws)) (hw : ws = Cond.codeWith y bytes maxL ret hh :: ws') (hrc : rm.cells = mc) (hrs : rm.slots = ms)
    (hd : y.cls = C ∧ y.cls ≠ "java/lang/invoke/MethodHandle" ∧ y.cls ≠ "java/lang/invoke/VarHandle" ∧ (parseMethodDescriptor y.desc).map (fun d => d.parameters.length) = some n) (hR : rm.frames + 1 ≤ R.frames ∧ 8 + (maxL + 11) + rm.locals ≤ R.locals) :
    vx_CVW R s args own C index y bytes maxL ret hh ws rm mc ms n := by
  obtain ⟨hC, hd⟩ := hd
  subst hC
  have ok : ∀ w ∈ wsV own index y.cls y ws, w.before args s = true := fun w h => ht w (hT w h).1
  have hG : GoodIn Ts ws := fun w h => hT w (by unfold wsV; exact List.mem_append_right _ h)
  have hc : Cond.codeWith y bytes maxL ret hh ∈ ws := by rw [hw]; exact List.mem_cons_self
  refine ⟨⟨hrc, hrs, hR.1, hR.2, pay_in ht hG, hc⟩, ht _ (hG _ hc).1, ok _ (by simp [wsV]), ⟨hd.1, hd.2.1⟩, fun sig h => ?_, ok _ (by simp [wsV]), ok _ (by simp [wsV]), ok _ (by simp [wsV])⟩
  have h2 := hd.2.2
  rw [h] at h2
  exact (Option.some.inj h2).symm
theorem vx_runVW {y : MethodName} {bytes cc : ByteArray} {maxL nL mc ms n index : Nat} {ret : Option FieldType} {hh : List (Nat × Nat × Nat × Nat)} {ws : List Cond} {rm : Room} {Pc : Array Value → State → Prop} {Qc : Array Value → State → Outcome → State → Prop} {free : Addr → Prop} {Ts : List Cond} {own C : String} {b : Addr} {As rest : List Value} {g : JFrame}
    (S : CallFix p m c cc nL s args Ts own) (hM : Met l y ws rm Pc Qc mc ms free) (cw : vx_CVW R s args own C index y bytes maxL ret hh ws rm mc ms n) (hp : PreV s H C b Pc As)
    (hg : g.method = m) (hn : As.length = n) (hsize : g.locals.size = nL) (hstack : g.stack = As.reverse ++ .ref b :: rest) (hW : 2 * g.monitorRoom + (rest.map fun v => v.category).sum ≤ 8) (hdg : decode cc g.pc = .ok (.invokevirtual index, 3)) (hf : cells + mc ≤ R.cells ∧ slots + ms ≤ R.slots) :
    va_Run p l e R s m args below meth c H locs cells slots mc ms g rest (Qc (Value.ref b :: As).toArray) free := by
  obtain ⟨⟨hrc, hrs, hfr, hlo, hws, hcw⟩, hcode, hini, hy, hlen, hl, hin, hse⟩ := cw
  have hK : Back l R p e below s args y 3 8 (PreOf R mc ms Pc) (PostOf Qc mc ms free) := va_backW (hh := hh) (bytes := bytes) (maxL := maxL) (ret := ret) hM hp.1 hrc hrs hfr hlo hws hcw (fun a' U hW => word_at hW (Or.inl (by first | rfl | simp [Cond.onTables, Cond.keeps, Cond.steady])) hini)
  obtain ⟨hx, hb, hml, ho, -⟩ := S
  obtain ⟨-, ⟨cellB, hcB, hoB, hclB⟩, hPc⟩ := hp
  intro T hT X
  obtain ⟨v, vm₁, ⟨U', l2, c2, s2⟩, hW₁, X', ⟨g', mk, t, L, e1, e2, hq, h1, hL, h2, h3⟩, st⟩ := vx_callVW X hx (C := C) (hh := hh) (bytes := bytes) (maxL := maxL) (ret := ret) ho hl hin hse hcode hy hK (by rw [hT]; exact hcB) hoB hclB hg (hsize.trans hml.symm) (argsL := As) (rest := rest) (fun sig h => hn.trans (hlen sig h)) hstack hW (by rw [hb]; exact hdg)
    (fun vm₁ hW₁ => ⟨hf.1, hf.2, hPc (T.setVm vm₁) hT hW₁⟩)
  dsimp only [Pt.U, Pt.locs, Pt.cells, Pt.slots] at X' e1 e2 h1 h2 h3 st
  subst h1; subst h2; subst h3
  exact ⟨v, (T.setVm vm₁).calling g' mk (Value.ref b :: As).toArray, t, U', L, hT, X', hL, e1, e2, hq, st⟩
section
variable {y : MethodName} {bytes cc : ByteArray} {maxL nL mc ms n index : Nat} {ret : Option FieldType} {ws : List Cond} {rm : Room} {Pc : Array Value → State → Prop} {Qc : Array Value → State → Outcome → State → Prop} {XC : String → State → State → Prop} {free : Addr → Prop} {Ts : List Cond} {own C : String} {b : Addr} {As rest : List Value} {g : JFrame}
theorem vx_runVX {hh : List (Nat × Nat × Nat × Nat)} (S : CallFix p m c cc nL s args Ts own) (hM : vx_Met l y ws rm Pc Qc XC mc ms free) (cw : vx_CVW R s args own C index y bytes maxL ret hh ws rm mc ms n) (hp : PreV s H C b Pc As)
    (hg : g.method = m) (hn : As.length = n) (hsize : g.locals.size = nL) (hstack : g.stack = As.reverse ++ .ref b :: rest) (hW : 2 * g.monitorRoom + (rest.map fun v => v.category).sum ≤ 8) (hdg : decode cc g.pc = .ok (.invokevirtual index, 3)) (hf : cells + mc ≤ R.cells ∧ slots + ms ≤ R.slots) :
    vx_Run p l e R s m args below meth c H locs cells slots mc ms g rest (Qc (Value.ref b :: As).toArray) XC free := by
  obtain ⟨⟨hrc, hrs, hfr, hlo, hws, hcw⟩, hcode, hini, hy, hlen, hl, hin, hse⟩ := cw
  have hK : vx_Back l R p e below s args y 3 8 (PreOf R mc ms Pc) (PostOf Qc mc ms free) (vx_Post XC mc ms free) := vx_backW (hh := hh) (bytes := bytes) (maxL := maxL) (ret := ret) hM hp.1 hrc hrs hfr hlo hws hcw (fun a' U hW => word_at hW (Or.inl (by first | rfl | simp [Cond.onTables, Cond.keeps, Cond.steady])) hini)
  obtain ⟨hx, hb, hml, ho, -⟩ := S
  obtain ⟨-, ⟨cellB, hcB, hoB, hclB⟩, hPc⟩ := hp
  intro T hT X
  rcases vx_callVX X hx (C := C) (hh := hh) (bytes := bytes) (maxL := maxL) (ret := ret) ho hl hin hse hcode hy hK (by rw [hT]; exact hcB) hoB hclB hg (hsize.trans hml.symm) (argsL := As) (rest := rest) (fun sig h => hn.trans (hlen sig h)) hstack hW (by rw [hb]; exact hdg)
    (fun vm₁ hW₁ => ⟨hf.1, hf.2, hPc (T.setVm vm₁) hT hW₁⟩) with ⟨v, vm₁, ⟨U', l2, c2, s2⟩, hW₁, X', ⟨g', mk, t, L, e1, e2, hq, h1, hL, h2, h3⟩, st⟩ | ⟨q, vm₁, ⟨U', l2, c2, s2⟩, hW₁, X', ⟨g', mk, t, L, E, ce, e1, e2, hq, hce, hcv, hcl, h1, hL, h2, h3⟩, st⟩
  · dsimp only [Pt.U, Pt.locs, Pt.cells, Pt.slots] at X' e1 e2 h1 h2 h3 st
    subst h1; subst h2; subst h3
    exact Or.inl ⟨v, (T.setVm vm₁).calling g' mk (Value.ref b :: As).toArray, t, U', L, hT, X', hL, e1, e2, hq, st⟩
  · dsimp only [Pt.U, Pt.locs, Pt.cells, Pt.slots] at X' e1 e2 h1 h2 h3 st hcl
    subst h1; subst h2; subst h3
    exact Or.inr ⟨q, (T.setVm vm₁).calling g' mk (Value.ref b :: As).toArray, t, U', L, E, ce, hT, X', hL, e1, e2, hq, hce, hcv, vx_cls hW₁ hcl, st⟩
theorem vx_runSX {hh : List (Nat × Nat × Nat × Nat)} (S : CallFix p m c cc nL s args Ts own) (hM : vx_Met l y ws rm Pc Qc XC mc ms free) (cw : vx_CSW R s args own index y bytes maxL ret hh ws rm mc ms n) (hp : PreS s H Pc As)
    (hg : g.method = m) (hn : As.length = n) (hsize : g.locals.size = nL) (hstack : g.stack = As.reverse ++ rest) (hW : 2 * g.monitorRoom + (rest.map fun v => v.category).sum ≤ 8) (hdg : decode cc g.pc = .ok (.invokestatic index, 3)) (hf : cells + mc ≤ R.cells ∧ slots + ms ≤ R.slots) :
    vx_Run p l e R s m args below meth c H locs cells slots mc ms g rest (Qc As.toArray) XC free := by
  obtain ⟨⟨hrc, hrs, hfr, hlo, hws, hcw⟩, hcode, hini, hy, hlen, hl, hstt⟩ := cw
  have hK : vx_Back l R p e below s args y 3 8 (PreOf R mc ms Pc) (PostOf Qc mc ms free) (vx_Post XC mc ms free) := vx_backW (hh := hh) (bytes := bytes) (maxL := maxL) (ret := ret) hM hp.1 hrc hrs hfr hlo hws hcw (fun a' U hW => word_at hW (Or.inl (by first | rfl | simp [Cond.onTables, Cond.keeps, Cond.steady])) hini)
  obtain ⟨hx, hb, hml, ho, -⟩ := S
  intro T hT X
  rcases vx_callSX X hx (hh := hh) (bytes := bytes) (maxL := maxL) (ret := ret) ho hl hstt hini hcode hy hK hg (hsize.trans hml.symm) (argsL := As) (rest := rest) (fun sig h => hn.trans (hlen sig h)) hstack hW (by rw [hb]; exact hdg)
    (fun vm₁ hW₁ => ⟨hf.1, hf.2, hp.2 (T.setVm vm₁) hT hW₁⟩) with ⟨v, vm₁, ⟨U', l2, c2, s2⟩, hW₁, X', ⟨g', mk, t, L, e1, e2, hq, h1, hL, h2, h3⟩, st⟩ | ⟨q, vm₁, ⟨U', l2, c2, s2⟩, hW₁, X', ⟨g', mk, t, L, E, ce, e1, e2, hq, hce, hcv, hcl, h1, hL, h2, h3⟩, st⟩
  · dsimp only [Pt.U, Pt.locs, Pt.cells, Pt.slots] at X' e1 e2 h1 h2 h3 st
    subst h1; subst h2; subst h3
    exact Or.inl ⟨v, (T.setVm vm₁).calling g' mk As.toArray, t, U', L, hT, X', hL, e1, e2, hq, st⟩
  · dsimp only [Pt.U, Pt.locs, Pt.cells, Pt.slots] at X' e1 e2 h1 h2 h3 st hcl
    subst h1; subst h2; subst h3
    exact Or.inr ⟨q, (T.setVm vm₁).calling g' mk As.toArray, t, U', L, E, ce, hT, X', hL, e1, e2, hq, hce, hcv, vx_cls hW₁ hcl, st⟩
end
end VXH
theorem vx_ofWH {l : Launch} {y : MethodName} {ws ws' : List Cond} {rm : Room} {Pc : Array Value → State → Prop} {Qc : Array Value → State → Outcome → State → Prop} {XC : String → State → State → Prop} {mc ms : Nat} {free : Addr → Prop} {cc : ByteArray} {maxL : Nat} {ret : Option FieldType} {hh : List (Nat × Nat × Nat × Nat)}
    (hy : plainName y.cls = true) (hw : ws = Cond.codeWith y cc maxL ret hh :: ws')
    (body : ∀ p e s m args below meth c s₁, BodyLoose p l y (headSpec ws rm) cc maxL ret e s m args below meth c s₁ → c.maxLocals = maxL → Pc args s →
      W p l e (headSpec ws rm).room s m args below meth c s.heap [] 0 0 (vx_MQ below Qc XC args s mc ms free) (entryFrame m args maxL)) : vx_Met l y ws rm Pc Qc XC mc ms free := by
  refine MetFree.of_bodyS (code := cc) (maxLocals := maxL) (ret := ret) hy ?_ ?_
  · intro args s m h hn
    obtain ⟨m9, meth, c, hn9, h1, h2, h3, h4, -, h5, h6, -⟩ := Cond.codeWith_spec (atoms_spec (ws := ws) h _ (by rw [hw]; exact List.mem_cons_self))
    cases hn.symm.trans hn9
    exact ⟨meth, c, h1, h2, h3, h4, h5, h6⟩
  · intro p e s m args below meth c s₁ B hml hP _
    have hh0 : s₁.heap = s.heap := by rw [B.state]; rfl
    obtain ⟨t, a1, o, b1, b2, b3⟩ := body p e s m args below meth c s₁ B hml hP s₁ hh0 (Stand.of_body B)
    exact ⟨t, o, a1, b1, b2, b3⟩
/-! ===== END ===== -/

/-! ===== BEGIN a constructor that throws (launches without stack traces) ===== -/
section VXIA
variable {p : Program} {l : Launch} {e : Env} {R : Room} {s : State} {m : MethodId} {args : Array Value} {below : List Frame} {meth : Method} {c : Code} {T : State} {locs : List Loc} {cells slots : Nat}
theorem vx_callI (X : Stand p l e R s m args below meth c T locs cells slots) (hexec : p.tables.exec = Jvm.exec) {own : String} {index : Nat} {y : MethodName} {bytes : ByteArray} {maxL : Nat}
    (hown : s.vm.findClass own = some m.cls) (hy1 : y.name = "<init>") (hlink : (Cond.methodLink own index y).before args s = true) (hinst : (Cond.instanceMethod y).before args s = true)
    (hcode : (Cond.code y bytes maxL none).before args s = true) (hy : y.cls ≠ "java/lang/invoke/MethodHandle" ∧ y.cls ≠ "java/lang/invoke/VarHandle")
    {W9 : Nat} {Pre : Pt → Array Value → Prop} {Post : Pt → Array Value → Option Value → Pt → Prop} {PostX : Pt → Array Value → Addr → Pt → Prop} (hK : vx_Back l R p e below s args y 3 W9 Pre Post PostX)
    {g : JFrame} (hg : g.method = m) (hsize : g.locals.size = c.maxLocals) {a : Addr} {argsL rest : List Value} (hlen : ∀ sig, parseMethodDescriptor y.desc = some sig → argsL.length = sig.parameters.length)
    (hstack : g.stack = argsL.reverse ++ .ref a :: rest) (hW : 2 * g.monitorRoom + (rest.map fun v => v.category).sum ≤ W9) (hdg : decode c.code g.pc = .ok (.invokespecial index, 3))
    (hpre : ∀ vm₁, s.WarmedH vm₁ → Pre ⟨T.setVm vm₁, locs, cells, slots⟩ (Value.ref a :: argsL).toArray) :
    (∃ (v : Option Value) (vm₁ : Vm) (B : Pt), s.WarmedH vm₁ ∧ Stand p l e R s m args below meth c B.U B.locs B.cells B.slots ∧ Post ⟨T.setVm vm₁, locs, cells, slots⟩ (Value.ref a :: argsL).toArray v B ∧
      ∀ target, Steps p.tables e below (B.U.setTop { g with pc := g.pc + 3, stack := v.toList ++ rest }) target → Steps p.tables e below (T.setTop g) target) ∨
    (∃ (q : Addr) (vm₁ : Vm) (B : Pt), s.WarmedH vm₁ ∧ Stand p l e R s m args below meth c B.U B.locs B.cells B.slots ∧ PostX ⟨T.setVm vm₁, locs, cells, slots⟩ (Value.ref a :: argsL).toArray q B ∧
      Steps p.tables e below (T.setTop g) ((B.U.setTop { g with stack := rest }).pushFrame (.throwing q))) := by
  subst hg
  have hpl : e.platform.magicAccessors = ({} : Platform).magicAccessors := by rw [X.admits.platform]
  obtain ⟨mk, methM, cM, kP, vm₁, hnamed, hmethM, hcodeM, -, hlocalsM, -, hkP, -, hW₁, hstep₁⟩ := Steps.initColdArgs (e := e) X.here hexec X.warmed hpl hown hy1 hy hlink hinst hcode (f := g) rfl hlen hstack hdg
  have X₁ := X.noted hW₁
  rcases hK g.method meth c ⟨T.setVm vm₁, locs, cells, slots⟩ { g with stack := rest } (.invokespecial index) mk (Value.ref a :: argsL).toArray X₁ rfl hsize hdg hW (X₁.named hnamed) (hpre vm₁ X₁.warmed) with ⟨v, B, X', hpost, hsteps⟩ | ⟨q, B, X', hpost, hsteps⟩
  · exact Or.inl ⟨v, vm₁, B, X₁.warmed, X', hpost, fun target h => hstep₁ _ fun acts => by rw [doInvoke_state]; exact hsteps.trans h⟩
  · exact Or.inr ⟨q, vm₁, B, X₁.warmed, X', hpost, hstep₁ _ fun acts => by rw [doInvoke_state]; exact hsteps⟩
end VXIA
section VXIB
variable {p : Program} {l : Launch} {e : Env} {R : Room} {s : State} {m : MethodId} {args : Array Value} {below : List Frame} {meth : Method} {c : Code} {H : Heap} {locs : List Loc} {cells slots : Nat}
variable {y : MethodName} {bytes cc : ByteArray} {maxL nL mc ms n index : Nat} {ret : Option FieldType} {ws : List Cond} {rm : Room} {Pc : Array Value → State → Prop} {Qc : Array Value → State → Outcome → State → Prop} {XC : String → State → State → Prop} {free : Addr → Prop} {Ts : List Cond} {own C : String} {b : Addr} {As rest : List Value} {g : JFrame}
theorem vx_runI (S : CallFix p m c cc nL s args Ts own) (hM : vx_Met l y ws rm Pc Qc XC mc ms free) (cw : CallB R s args own index y bytes maxL none ws rm mc ms n ∧ y.name = "<init>" ∧ (Cond.instanceMethod y).before args s = true) (hp : PreS s H Pc (.ref b :: As))
    (hg : g.method = m) (hn : As.length = n) (hsize : g.locals.size = nL) (hstack : g.stack = As.reverse ++ .ref b :: rest) (hW : 2 * g.monitorRoom + (rest.map fun v => v.category).sum ≤ 8) (hdg : decode cc g.pc = .ok (.invokespecial index, 3)) (hf : cells + mc ≤ R.cells ∧ slots + ms ≤ R.slots) :
    vx_Run p l e R s m args below meth c H locs cells slots mc ms g rest (Qc (Value.ref b :: As).toArray) XC free := by
  have hK : vx_Back l R p e below s args y 3 8 (PreOf R mc ms Pc) (PostOf Qc mc ms free) (vx_Post XC mc ms free) := vx_callBack cw.1 hM hp.1
  obtain ⟨⟨-, -, -, -, -, -, hcode, -, hy, hlen, hl⟩, hy1, hin⟩ := cw
  obtain ⟨hx, hb, hml, ho, -⟩ := S
  have hPc := hp.2
  intro T hT X
  rcases vx_callI X hx (bytes := bytes) (maxL := maxL) ho hy1 hl hin hcode hy hK hg (hsize.trans hml.symm) (a := b) (argsL := As) (rest := rest) (fun sig h => hn.trans (hlen sig h)) hstack hW (by rw [hb]; exact hdg)
    (fun vm₁ hW₁ => ⟨hf.1, hf.2, hPc (T.setVm vm₁) hT hW₁⟩) with ⟨v, vm₁, ⟨U', l2, c2, s2⟩, hW₁, X', ⟨g', mk, t, L, e1, e2, hq, h1, hL, h2, h3⟩, st⟩ | ⟨q, vm₁, ⟨U', l2, c2, s2⟩, hW₁, X', ⟨g', mk, t, L, E, ce, e1, e2, hq, hce, hcv, hcl, h1, hL, h2, h3⟩, st⟩
  · dsimp only [Pt.U, Pt.locs, Pt.cells, Pt.slots] at X' e1 e2 h1 h2 h3 st
    subst h1; subst h2; subst h3
    exact Or.inl ⟨v, (T.setVm vm₁).calling g' mk (Value.ref b :: As).toArray, t, U', L, hT, X', hL, e1, e2, hq, st⟩
  · dsimp only [Pt.U, Pt.locs, Pt.cells, Pt.slots] at X' e1 e2 h1 h2 h3 st hcl
    subst h1; subst h2; subst h3
    exact Or.inr ⟨q, (T.setVm vm₁).calling g' mk (Value.ref b :: As).toArray, t, U', L, E, ce, hT, X', hL, e1, e2, hq, hce, hcv, vx_cls hW₁ hcl, st⟩
end VXIB
/-! ===== END ===== -/
/-! ===== BEGIN a private constructor of a nest mate that throws ===== -/
section VXIC
variable {p : Program} {l : Launch} {e : Env} {R : Room} {s : State} {m : MethodId} {args : Array Value} {below : List Frame} {meth : Method} {c : Code} {T : State} {locs : List Loc} {cells slots : Nat}
theorem vx_callIN (X : Stand p l e R s m args below meth c T locs cells slots) (hexec : p.tables.exec = Jvm.exec) {own : String} {index : Nat} {host : String} {y : MethodName} {bytes : ByteArray} {maxL : Nat}
    (hown : s.vm.findClass own = some m.cls) (hy1 : y.name = "<init>") (hlink : (Cond.methodLinkNest own index y host).before args s = true) (hinst : (Cond.instanceMethod y).before args s = true)
    (hcode : (Cond.code y bytes maxL none).before args s = true) (hy : y.cls ≠ "java/lang/invoke/MethodHandle" ∧ y.cls ≠ "java/lang/invoke/VarHandle")
    {W9 : Nat} {Pre : Pt → Array Value → Prop} {Post : Pt → Array Value → Option Value → Pt → Prop} {PostX : Pt → Array Value → Addr → Pt → Prop} (hK : vx_Back l R p e below s args y 3 W9 Pre Post PostX)
    {g : JFrame} (hg : g.method = m) (hsize : g.locals.size = c.maxLocals) {a : Addr} {argsL rest : List Value} (hlen : ∀ sig, parseMethodDescriptor y.desc = some sig → argsL.length = sig.parameters.length)
    (hstack : g.stack = argsL.reverse ++ .ref a :: rest) (hW : 2 * g.monitorRoom + (rest.map fun v => v.category).sum ≤ W9) (hdg : decode c.code g.pc = .ok (.invokespecial index, 3))
    (hpre : ∀ vm₁, s.WarmedH vm₁ → Pre ⟨T.setVm vm₁, locs, cells, slots⟩ (Value.ref a :: argsL).toArray) :
    (∃ (v : Option Value) (vm₁ : Vm) (B : Pt), s.WarmedH vm₁ ∧ Stand p l e R s m args below meth c B.U B.locs B.cells B.slots ∧ Post ⟨T.setVm vm₁, locs, cells, slots⟩ (Value.ref a :: argsL).toArray v B ∧
      ∀ target, Steps p.tables e below (B.U.setTop { g with pc := g.pc + 3, stack := v.toList ++ rest }) target → Steps p.tables e below (T.setTop g) target) ∨
    (∃ (q : Addr) (vm₁ : Vm) (B : Pt), s.WarmedH vm₁ ∧ Stand p l e R s m args below meth c B.U B.locs B.cells B.slots ∧ PostX ⟨T.setVm vm₁, locs, cells, slots⟩ (Value.ref a :: argsL).toArray q B ∧
      Steps p.tables e below (T.setTop g) ((B.U.setTop { g with stack := rest }).pushFrame (.throwing q))) := by
  subst hg
  have hpl : e.platform.magicAccessors = ({} : Platform).magicAccessors := by rw [X.admits.platform]
  obtain ⟨mk, methM, cM, kP, vm₁, hnamed, hmethM, hcodeM, -, hlocalsM, -, hkP, -, hW₁, hstep₁⟩ := Steps.initColdArgsNest (e := e) X.here hexec X.warmed hpl hown hy1 hy hlink hinst hcode (f := g) rfl hlen hstack hdg
  have X₁ := X.noted hW₁
  rcases hK g.method meth c ⟨T.setVm vm₁, locs, cells, slots⟩ { g with stack := rest } (.invokespecial index) mk (Value.ref a :: argsL).toArray X₁ rfl hsize hdg hW (X₁.named hnamed) (hpre vm₁ X₁.warmed) with ⟨v, B, X', hpost, hsteps⟩ | ⟨q, B, X', hpost, hsteps⟩
  · exact Or.inl ⟨v, vm₁, B, X₁.warmed, X', hpost, fun target h => hstep₁ _ fun acts => by rw [doInvoke_state]; exact hsteps.trans h⟩
  · exact Or.inr ⟨q, vm₁, B, X₁.warmed, X', hpost, hstep₁ _ fun acts => by rw [doInvoke_state]; exact hsteps⟩
end VXIC
section VXID
variable {p : Program} {l : Launch} {e : Env} {R : Room} {s : State} {m : MethodId} {args : Array Value} {below : List Frame} {meth : Method} {c : Code} {H : Heap} {locs : List Loc} {cells slots : Nat}
theorem vx_runIN {y : MethodName} {bytes cc : ByteArray} {maxL nL mc ms n index : Nat} {ws : List Cond} {rm : Room} {Pc : Array Value → State → Prop} {Qc : Array Value → State → Outcome → State → Prop} {XC : String → State → State → Prop} {free : Addr → Prop} {Ts : List Cond} {own host : String} {b : Addr} {As rest : List Value} {g : JFrame}
    (S : CallFix p m c cc nL s args Ts own) (hM : vx_Met l y ws rm Pc Qc XC mc ms free) (cw : va_CN R s args own index y host bytes maxL none ws rm mc ms n ∧ y.name = "<init>" ∧ (Cond.instanceMethod y).before args s = true) (hp : PreS s H Pc (.ref b :: As))
    (hg : g.method = m) (hn : As.length = n) (hsize : g.locals.size = nL) (hstack : g.stack = As.reverse ++ .ref b :: rest) (hW : 2 * g.monitorRoom + (rest.map fun v => v.category).sum ≤ 8) (hdg : decode cc g.pc = .ok (.invokespecial index, 3)) (hf : cells + mc ≤ R.cells ∧ slots + ms ≤ R.slots) :
    vx_Run p l e R s m args below meth c H locs cells slots mc ms g rest (Qc (Value.ref b :: As).toArray) XC free := by
  obtain ⟨⟨⟨hrc, hrs, hfr, hlo, hws, hcw⟩, hcode, hini, hy, hlen, hl⟩, hx1, hx2⟩ := cw
  have hK : vx_Back l R p e below s args y 3 8 (PreOf R mc ms Pc) (PostOf Qc mc ms free) (vx_Post XC mc ms free) := vx_back (bytes := bytes) (maxL := maxL) (ret := none) hM hp.1 hrc hrs hfr hlo hws hcw (fun a' U hW => word_at hW (Or.inl (by first | rfl | simp [Cond.onTables, Cond.keeps, Cond.steady])) hini)
  obtain ⟨hx, hb, hml, ho, -⟩ := S
  have hPc := hp.2
  intro T hT X
  rcases vx_callIN X hx (bytes := bytes) (maxL := maxL) ho hx1 hl hx2 hcode hy hK hg (hsize.trans hml.symm) (a := b) (argsL := As) (rest := rest) (fun sig h => hn.trans (hlen sig h)) hstack hW (by rw [hb]; exact hdg)
    (fun vm₁ hW₁ => ⟨hf.1, hf.2, hPc (T.setVm vm₁) hT hW₁⟩) with ⟨v, vm₁, ⟨U', l2, c2, s2⟩, hW₁, X', ⟨g', mk, t, L, e1, e2, hq, h1, hL, h2, h3⟩, st⟩ | ⟨q, vm₁, ⟨U', l2, c2, s2⟩, hW₁, X', ⟨g', mk, t, L, E, ce, e1, e2, hq, hce, hcv, hcl, h1, hL, h2, h3⟩, st⟩
  · dsimp only [Pt.U, Pt.locs, Pt.cells, Pt.slots] at X' e1 e2 h1 h2 h3 st
    subst h1; subst h2; subst h3
    exact Or.inl ⟨v, (T.setVm vm₁).calling g' mk (Value.ref b :: As).toArray, t, U', L, hT, X', hL, e1, e2, hq, st⟩
  · dsimp only [Pt.U, Pt.locs, Pt.cells, Pt.slots] at X' e1 e2 h1 h2 h3 st hcl
    subst h1; subst h2; subst h3
    exact Or.inr ⟨q, (T.setVm vm₁).calling g' mk (Value.ref b :: As).toArray, t, U', L, E, ce, hT, X', hL, e1, e2, hq, hce, hcv, vx_cls hW₁ hcl, st⟩
end VXID
/-! ===== END ===== -/
/-! ===== BEGIN a private method of a nest mate that may throw (follows va_callVN, va_callSN, va_runVN, va_runSN) ===== -/
section
variable {p : Program} {l : Launch} {e : Env} {R : Room} {s : State} {m : MethodId} {args : Array Value} {below : List Frame} {meth : Method} {c : Code} {H : Heap} {locs : List Loc} {cells slots : Nat}
variable {T : State}
theorem vx_callVN (X : Stand p l e R s m args below meth c T locs cells slots) (hexec : p.tables.exec = Jvm.exec) {own C : String} {index : Nat} {host : String} {y : MethodName} {bytes : ByteArray} {maxL : Nat} {ret : Option FieldType}
    (hown : s.vm.findClass own = some m.cls) (hlink : (Cond.methodLinkNest own index y host).before args s = true) (hinst : (Cond.instanceMethod y).before args s = true) (hsel : (Cond.selects C y y).before args s = true)
    (hcode : (Cond.code y bytes maxL ret).before args s = true) (hy : y.cls ≠ "java/lang/invoke/MethodHandle" ∧ y.cls ≠ "java/lang/invoke/VarHandle")
    {W : Nat} {Pre : Pt → Array Value → Prop} {Post : Pt → Array Value → Option Value → Pt → Prop} {PostX : Pt → Array Value → Addr → Pt → Prop} (hK : vx_Back l R p e below s args y 3 W Pre Post PostX)
    {b : Addr} {cellB : Cell} (hcell : T.heap[b]? = some cellB) (hobj : cellB.vm.isStatics = false) (hcls : s.vm.findClass C = some cellB.cls)
    {g : JFrame} (hg : g.method = m) (hsize : g.locals.size = c.maxLocals) {argsL rest : List Value} (hlen : ∀ sig, parseMethodDescriptor y.desc = some sig → argsL.length = sig.parameters.length)
    (hstack : g.stack = argsL.reverse ++ .ref b :: rest) (hW : 2 * g.monitorRoom + (rest.map fun v => v.category).sum ≤ W) (hdg : decode c.code g.pc = .ok (.invokevirtual index, 3))
    (hpre : ∀ vm₁, s.WarmedH vm₁ → Pre ⟨T.setVm vm₁, locs, cells, slots⟩ (Value.ref b :: argsL).toArray) :
    (∃ (v : Option Value) (vm₁ : Vm) (B : Pt), s.WarmedH vm₁ ∧ Stand p l e R s m args below meth c B.U B.locs B.cells B.slots ∧ Post ⟨T.setVm vm₁, locs, cells, slots⟩ (Value.ref b :: argsL).toArray v B ∧
      ∀ target, Steps p.tables e below (B.U.setTop { g with pc := g.pc + 3, stack := v.toList ++ rest }) target → Steps p.tables e below (T.setTop g) target) ∨
    (∃ (q : Addr) (vm₁ : Vm) (B : Pt), s.WarmedH vm₁ ∧ Stand p l e R s m args below meth c B.U B.locs B.cells B.slots ∧ PostX ⟨T.setVm vm₁, locs, cells, slots⟩ (Value.ref b :: argsL).toArray q B ∧
      Steps p.tables e below (T.setTop g) ((B.U.setTop { g with stack := rest }).pushFrame (.throwing q))) := by
  obtain ⟨mk, methM, hnamed, hmethM, hstM, habM⟩ := Cond.instanceMethod_spec hinst
  obtain ⟨methM', cM, hmethM', -, -, -, -, -, -, hsigM⟩ := Cond.code_spec hnamed hcode
  cases hmethM.symm.trans hmethM'
  obtain ⟨c2, r2, m2, q1, q2, q3, q4, kP, hkP, hkPi⟩ := Cond.selects_spec hsel
  cases hcls.symm.trans q1
  cases (State.methodFound?_of_named hnamed hy).symm.trans q2
  cases hnamed.symm.trans q3
  have hselP : selectMethod e.platform s.vm cellB.cls mk = .method mk := by rw [Launch.admits_selectMethod X.admits]; exact q4
  obtain ⟨vm₁, X₁, hstep₁⟩ := X.invokevirtualNest hexec hown hlink hnamed hmethM hstM hkP hkPi hy (a := b) (cell := cellB) hcell
    (fun z h => by rw [h] at hobj; cases hobj) hselP hmethM habM hkP hkPi (g := g) hg (argsL := argsL) (rest := rest) (hlen _ hsigM) hstack hdg
  rcases hK m meth c ⟨T.setVm vm₁, locs, cells, slots⟩ { g with stack := rest } (.invokevirtual index) mk (Value.ref b :: argsL).toArray X₁ hg hsize hdg hW (X₁.named hnamed) (hpre vm₁ X₁.warmed) with ⟨v, B, X', hpost, hsteps⟩ | ⟨q, B, X', hpost, hsteps⟩
  · exact Or.inl ⟨v, vm₁, B, X₁.warmed, X', hpost, fun target h => hstep₁ _ fun acts => by rw [doInvoke_state]; exact hsteps.trans h⟩
  · exact Or.inr ⟨q, vm₁, B, X₁.warmed, X', hpost, hstep₁ _ fun acts => by rw [doInvoke_state]; exact hsteps⟩
theorem vx_callSN (X : Stand p l e R s m args below meth c T locs cells slots) (hexec : p.tables.exec = Jvm.exec) {own : String} {index : Nat} {host : String} {y : MethodName} {bytes : ByteArray} {maxL : Nat} {ret : Option FieldType}
    (hown : s.vm.findClass own = some m.cls) (hlink : (Cond.methodLinkNest own index y host).before args s = true) (hstat : (Cond.static y).before args s = true) (hinit : (Cond.initialized y.cls).before args s = true)
    (hcode : (Cond.code y bytes maxL ret).before args s = true) (hy : y.cls ≠ "java/lang/invoke/MethodHandle" ∧ y.cls ≠ "java/lang/invoke/VarHandle")
    {W : Nat} {Pre : Pt → Array Value → Prop} {Post : Pt → Array Value → Option Value → Pt → Prop} {PostX : Pt → Array Value → Addr → Pt → Prop} (hK : vx_Back l R p e below s args y 3 W Pre Post PostX)
    {g : JFrame} (hg : g.method = m) (hsize : g.locals.size = c.maxLocals) {argsL rest : List Value} (hlen : ∀ sig, parseMethodDescriptor y.desc = some sig → argsL.length = sig.parameters.length)
    (hstack : g.stack = argsL.reverse ++ rest) (hW : 2 * g.monitorRoom + (rest.map fun v => v.category).sum ≤ W) (hdg : decode c.code g.pc = .ok (.invokestatic index, 3))
    (hpre : ∀ vm₁, s.WarmedH vm₁ → Pre ⟨T.setVm vm₁, locs, cells, slots⟩ argsL.toArray) :
    (∃ (v : Option Value) (vm₁ : Vm) (B : Pt), s.WarmedH vm₁ ∧ Stand p l e R s m args below meth c B.U B.locs B.cells B.slots ∧ Post ⟨T.setVm vm₁, locs, cells, slots⟩ argsL.toArray v B ∧
      ∀ target, Steps p.tables e below (B.U.setTop { g with pc := g.pc + 3, stack := v.toList ++ rest }) target → Steps p.tables e below (T.setTop g) target) ∨
    (∃ (q : Addr) (vm₁ : Vm) (B : Pt), s.WarmedH vm₁ ∧ Stand p l e R s m args below meth c B.U B.locs B.cells B.slots ∧ PostX ⟨T.setVm vm₁, locs, cells, slots⟩ argsL.toArray q B ∧
      Steps p.tables e below (T.setTop g) ((B.U.setTop { g with stack := rest }).pushFrame (.throwing q))) := by
  obtain ⟨mk, hnamed⟩ := Cond.code_named hcode
  obtain ⟨methM, cM, hmethM, -, -, -, -, -, -, hsigM⟩ := Cond.code_spec hnamed hcode
  have hstatic : methM.isStatic = true := Cond.static_spec hnamed hmethM hstat
  obtain ⟨kP, hkP, -⟩ := className_of_methodNamed hnamed
  have hinitP : kP.init = .initialized := Cond.initialized_spec (findClass_of_methodNamed hnamed) hkP hinit
  obtain ⟨vm₁, X₁, hstep₁⟩ := X.invokestaticNest hexec hown hlink hnamed hmethM hstatic hkP hinitP hy (g := g) hg (argsL := argsL) (rest := rest) (hlen _ hsigM) hstack hdg
  rcases hK m meth c ⟨T.setVm vm₁, locs, cells, slots⟩ { g with stack := rest } (.invokestatic index) mk argsL.toArray X₁ hg hsize hdg hW (X₁.named hnamed) (hpre vm₁ X₁.warmed) with ⟨v, B, X', hpost, hsteps⟩ | ⟨q, B, X', hpost, hsteps⟩
  · exact Or.inl ⟨v, vm₁, B, X₁.warmed, X', hpost, fun target h => hstep₁ _ fun acts => by rw [doInvoke_state]; exact hsteps.trans h⟩
  · exact Or.inr ⟨q, vm₁, B, X₁.warmed, X', hpost, hstep₁ _ fun acts => by rw [doInvoke_state]; exact hsteps⟩
theorem vx_runVN {y : MethodName} {bytes cc : ByteArray} {maxL nL mc ms n index : Nat} {ret : Option FieldType} {ws : List Cond} {rm : Room} {Pc : Array Value → State → Prop} {Qc : Array Value → State → Outcome → State → Prop} {XC : String → State → State → Prop} {free : Addr → Prop} {Ts : List Cond} {own C host : String} {b : Addr} {As rest : List Value} {g : JFrame}
    (S : CallFix p m c cc nL s args Ts own) (hM : vx_Met l y ws rm Pc Qc XC mc ms free) (cw : va_CN R s args own index y host bytes maxL ret ws rm mc ms n ∧ (Cond.instanceMethod y).before args s = true ∧ (Cond.selects C y y).before args s = true) (hp : PreV s H C b Pc As)
    (hg : g.method = m) (hn : As.length = n) (hsize : g.locals.size = nL) (hstack : g.stack = As.reverse ++ .ref b :: rest) (hW : 2 * g.monitorRoom + (rest.map fun v => v.category).sum ≤ 8) (hdg : decode cc g.pc = .ok (.invokevirtual index, 3)) (hf : cells + mc ≤ R.cells ∧ slots + ms ≤ R.slots) :
    vx_Run p l e R s m args below meth c H locs cells slots mc ms g rest (Qc (Value.ref b :: As).toArray) XC free := by
  obtain ⟨⟨⟨hrc, hrs, hfr, hlo, hws, hcw⟩, hcode, hini, hy, hlen, hl⟩, hx1, hx2⟩ := cw
  have hK : vx_Back l R p e below s args y 3 8 (PreOf R mc ms Pc) (PostOf Qc mc ms free) (vx_Post XC mc ms free) := vx_back (bytes := bytes) (maxL := maxL) (ret := ret) hM hp.1 hrc hrs hfr hlo hws hcw (fun a' U hW => word_at hW (Or.inl (by first | rfl | simp [Cond.onTables, Cond.keeps, Cond.steady])) hini)
  obtain ⟨hx, hb, hml, ho, -⟩ := S
  obtain ⟨-, ⟨cellB, hcB, hoB, hclB⟩, hPc⟩ := hp
  intro T hT X
  rcases vx_callVN X hx (C := C) (bytes := bytes) (maxL := maxL) (ret := ret) ho hl hx1 hx2 hcode hy hK (by rw [hT]; exact hcB) hoB hclB hg (hsize.trans hml.symm) (argsL := As) (rest := rest) (fun sig h => hn.trans (hlen sig h)) hstack hW (by rw [hb]; exact hdg)
    (fun vm₁ hW₁ => ⟨hf.1, hf.2, hPc (T.setVm vm₁) hT hW₁⟩) with ⟨v, vm₁, ⟨U', l2, c2, s2⟩, hW₁, X', ⟨g', mk, t, L, e1, e2, hq, h1, hL, h2, h3⟩, st⟩ | ⟨q, vm₁, ⟨U', l2, c2, s2⟩, hW₁, X', ⟨g', mk, t, L, E, ce, e1, e2, hq, hce, hcv, hcl, h1, hL, h2, h3⟩, st⟩
  · dsimp only [Pt.U, Pt.locs, Pt.cells, Pt.slots] at X' e1 e2 h1 h2 h3 st
    subst h1; subst h2; subst h3
    exact Or.inl ⟨v, (T.setVm vm₁).calling g' mk (Value.ref b :: As).toArray, t, U', L, hT, X', hL, e1, e2, hq, st⟩
  · dsimp only [Pt.U, Pt.locs, Pt.cells, Pt.slots] at X' e1 e2 h1 h2 h3 st hcl
    subst h1; subst h2; subst h3
    exact Or.inr ⟨q, (T.setVm vm₁).calling g' mk (Value.ref b :: As).toArray, t, U', L, E, ce, hT, X', hL, e1, e2, hq, hce, hcv, vx_cls hW₁ hcl, st⟩
theorem vx_runSN {y : MethodName} {bytes cc : ByteArray} {maxL nL mc ms n index : Nat} {ret : Option FieldType} {ws : List Cond} {rm : Room} {Pc : Array Value → State → Prop} {Qc : Array Value → State → Outcome → State → Prop} {XC : String → State → State → Prop} {free : Addr → Prop} {Ts : List Cond} {own host : String} {As rest : List Value} {g : JFrame}
    (S : CallFix p m c cc nL s args Ts own) (hM : vx_Met l y ws rm Pc Qc XC mc ms free) (cw : va_CN R s args own index y host bytes maxL ret ws rm mc ms n ∧ (Cond.static y).before args s = true ∧ True) (hp : PreS s H Pc As)
    (hg : g.method = m) (hn : As.length = n) (hsize : g.locals.size = nL) (hstack : g.stack = As.reverse ++ rest) (hW : 2 * g.monitorRoom + (rest.map fun v => v.category).sum ≤ 8) (hdg : decode cc g.pc = .ok (.invokestatic index, 3)) (hf : cells + mc ≤ R.cells ∧ slots + ms ≤ R.slots) :
    vx_Run p l e R s m args below meth c H locs cells slots mc ms g rest (Qc As.toArray) XC free := by
  obtain ⟨⟨⟨hrc, hrs, hfr, hlo, hws, hcw⟩, hcode, hini, hy, hlen, hl⟩, hx1, hx2⟩ := cw
  have hK : vx_Back l R p e below s args y 3 8 (PreOf R mc ms Pc) (PostOf Qc mc ms free) (vx_Post XC mc ms free) := vx_back (bytes := bytes) (maxL := maxL) (ret := ret) hM hp.1 hrc hrs hfr hlo hws hcw (fun a' U hW => word_at hW (Or.inl (by first | rfl | simp [Cond.onTables, Cond.keeps, Cond.steady])) hini)
  obtain ⟨hx, hb, hml, ho, -⟩ := S
  have hPc := hp.2
  intro T hT X
  rcases vx_callSN X hx (bytes := bytes) (maxL := maxL) (ret := ret) ho hl hx1 hini hcode hy hK hg (hsize.trans hml.symm) (argsL := As) (rest := rest) (fun sig h => hn.trans (hlen sig h)) hstack hW (by rw [hb]; exact hdg)
    (fun vm₁ hW₁ => ⟨hf.1, hf.2, hPc (T.setVm vm₁) hT hW₁⟩) with ⟨v, vm₁, ⟨U', l2, c2, s2⟩, hW₁, X', ⟨g', mk, t, L, e1, e2, hq, h1, hL, h2, h3⟩, st⟩ | ⟨q, vm₁, ⟨U', l2, c2, s2⟩, hW₁, X', ⟨g', mk, t, L, E, ce, e1, e2, hq, hce, hcv, hcl, h1, hL, h2, h3⟩, st⟩
  · dsimp only [Pt.U, Pt.locs, Pt.cells, Pt.slots] at X' e1 e2 h1 h2 h3 st
    subst h1; subst h2; subst h3
    exact Or.inl ⟨v, (T.setVm vm₁).calling g' mk As.toArray, t, U', L, hT, X', hL, e1, e2, hq, st⟩
  · dsimp only [Pt.U, Pt.locs, Pt.cells, Pt.slots] at X' e1 e2 h1 h2 h3 st hcl
    subst h1; subst h2; subst h3
    exact Or.inr ⟨q, (T.setVm vm₁).calling g' mk As.toArray, t, U', L, E, ce, hT, X', hL, e1, e2, hq, hce, hcv, vx_cls hW₁ hcl, st⟩
end
/-! ===== END ===== -/
end
section
def RX0 : String := "Doublecoat$Casting"
def TX0 : u_T := fun k => match k with
  | 0 => ("Doublecoat$Casting", "bestRoles", "[I", true)
  | 1 => ("Doublecoat$Casting", "bestCount", "I", false)
  | 2 => ("Doublecoat$Casting", "cut", "I", false)
  | 3 => ("Doublecoat$Casting", "known", "Z", false)
  | 4 => ("Doublecoat$Casting", "able", "[I", true)
  | 5 => ("Doublecoat$Casting", "clash", "[I", true)
  | 6 => ("Doublecoat$Casting", "order", "[I", true)
  | 7 => ("Doublecoat$Casting", "roles", "[I", true)
  | _ => ("Doublecoat$Casting", "ordered", "I", false)
def tyX0 : Nat → FieldType := fun k => match k with
  | 0 => .array .int
  | 1 => .int
  | 2 => .int
  | 3 => .boolean
  | 4 => .array .int
  | 5 => .array .int
  | 6 => .array .int
  | 7 => .array .int
  | _ => .int
abbrev wsX00 : List Cond := u_ws RX0 TX0 9
theorem nmX0 : ∀ a, a < 9 → ∀ b, b < 9 → a ≠ b → (TX0 a).2.1 ≠ (TX0 b).2.1 := by decide +kernel
theorem tyX0_ok : ∀ k, k < 9 → parseFieldDescriptor (TX0 k).2.2.1 = some (tyX0 k) := by decide +kernel
abbrev cX0_init : ByteArray := prog_2_method_1_code
def yX0_init : MethodName := ⟨RX0, "<init>", "()V"⟩
abbrev cX0_forget : ByteArray := prog_2_method_2_code
def yX0_forget : MethodName := ⟨RX0, "forget", "()V"⟩
abbrev cX0_recall : ByteArray := prog_2_method_3_code
def yX0_recall : MethodName := ⟨RX0, "recall", "(LDoublecoat$Play;LDoublecoat$Company;)V"⟩
abbrev cX0_keepFirst : ByteArray := prog_2_method_4_code
def yX0_keepFirst : MethodName := ⟨RX0, "keepFirst", "(LDoublecoat$Play;)V"⟩
abbrev cX0_fewestCut : ByteArray := prog_2_method_5_code
def yX0_fewestCut : MethodName := ⟨RX0, "fewestCut", "(LDoublecoat$Play;LDoublecoat$Company;)I"⟩
abbrev cX0_playerOf : ByteArray := prog_2_method_6_code
def yX0_playerOf : MethodName := ⟨RX0, "playerOf", "(I)I"⟩
abbrev cX0_actors : ByteArray := prog_2_method_7_code
def yX0_actors : MethodName := ⟨RX0, "actors", "()I"⟩
abbrev cX0_clashesOf : ByteArray := prog_2_method_8_code
def yX0_clashesOf : MethodName := ⟨RX0, "clashesOf", "(ILDoublecoat$Play;)I"⟩
abbrev cX0_fewest : ByteArray := prog_2_method_9_code
def yX0_fewest : MethodName := ⟨RX0, "fewest", "(LDoublecoat$Play;LDoublecoat$Company;I)I"⟩
abbrev cX0_prepare : ByteArray := prog_2_method_10_code
def yX0_prepare : MethodName := ⟨RX0, "prepare", "(LDoublecoat$Play;LDoublecoat$Company;I)V"⟩
abbrev cX0_orderByChoice : ByteArray := prog_2_method_11_code
def yX0_orderByChoice : MethodName := ⟨RX0, "orderByChoice", "(I)V"⟩
abbrev cX0_orderByNumber : ByteArray := prog_2_method_12_code
def yX0_orderByNumber : MethodName := ⟨RX0, "orderByNumber", "(I)V"⟩
abbrev cX0_canPlace : ByteArray := prog_2_method_13_code
def yX0_canPlace : MethodName := ⟨RX0, "canPlace", "(I)Z"⟩
abbrev cX0_canPlaceFrom : ByteArray := prog_2_method_14_code
def yX0_canPlaceFrom : MethodName := ⟨RX0, "canPlaceFrom", "(LDoublecoat$Casting;II)Z"⟩
def RX1 : String := "Doublecoat$Company"
def TX1 : u_T := fun k => match k with
  | 0 => ("Doublecoat$Company", "voices", "[I", true)
  | 1 => ("Doublecoat$Company", "size", "[I", true)
  | 2 => ("Doublecoat$Company", "share", "[I", true)
  | 3 => ("Doublecoat$Company", "purse", "[I", true)
  | 4 => ("Doublecoat$Company", "players", "I", false)
  | _ => ("Doublecoat$Company", "sick", "I", false)
def tyX1 : Nat → FieldType := fun k => match k with
  | 0 => .array .int
  | 1 => .array .int
  | 2 => .array .int
  | 3 => .array .int
  | 4 => .int
  | _ => .int
abbrev wsX10 : List Cond := u_ws RX1 TX1 6
theorem nmX1 : ∀ a, a < 6 → ∀ b, b < 6 → a ≠ b → (TX1 a).2.1 ≠ (TX1 b).2.1 := by decide +kernel
theorem tyX1_ok : ∀ k, k < 6 → parseFieldDescriptor (TX1 k).2.2.1 = some (tyX1 k) := by decide +kernel
abbrev cX1_init : ByteArray := prog_3_method_1_code
def yX1_init : MethodName := ⟨RX1, "<init>", "()V"⟩
abbrev cX1_addPlayer : ByteArray := prog_3_method_2_code
def yX1_addPlayer : MethodName := ⟨RX1, "addPlayer", "(III)I"⟩
abbrev cX1_countWell : ByteArray := prog_3_method_3_code
def yX1_countWell : MethodName := ⟨RX1, "countWell", "()I"⟩
abbrev cX1_ableOfAny : ByteArray := prog_3_method_4_code
def yX1_ableOfAny : MethodName := ⟨RX1, "ableOfAny", "(I)I"⟩
abbrev cX1_allPurses : ByteArray := prog_3_method_5_code
def yX1_allPurses : MethodName := ⟨RX1, "allPurses", "()I"⟩
abbrev cX1_hasDebt : ByteArray := prog_3_method_6_code
def yX1_hasDebt : MethodName := ⟨RX1, "hasDebt", "()Z"⟩
abbrev cX1_portion : ByteArray := prog_3_method_7_code
def yX1_portion : MethodName := ⟨RX1, "portion", "(III)I"⟩
abbrev cX1_sharesOf : ByteArray := prog_3_method_8_code
def yX1_sharesOf : MethodName := ⟨RX1, "sharesOf", "(I)I"⟩
def RX2 : String := "Doublecoat$Play"
def TX2 : u_T := fun k => match k with
  | 0 => ("Doublecoat$Play", "voice", "[I", true)
  | 1 => ("Doublecoat$Play", "rank", "[I", true)
  | 2 => ("Doublecoat$Play", "change", "[I", true)
  | 3 => ("Doublecoat$Play", "sceneParts", "[I", true)
  | 4 => ("Doublecoat$Play", "scenePause", "[I", true)
  | 5 => ("Doublecoat$Play", "parts", "I", false)
  | _ => ("Doublecoat$Play", "scenes", "I", false)
def tyX2 : Nat → FieldType := fun k => match k with
  | 0 => .array .int
  | 1 => .array .int
  | 2 => .array .int
  | 3 => .array .int
  | 4 => .array .int
  | 5 => .int
  | _ => .int
abbrev wsX20 : List Cond := u_ws RX2 TX2 7
theorem nmX2 : ∀ a, a < 7 → ∀ b, b < 7 → a ≠ b → (TX2 a).2.1 ≠ (TX2 b).2.1 := by decide +kernel
theorem tyX2_ok : ∀ k, k < 7 → parseFieldDescriptor (TX2 k).2.2.1 = some (tyX2 k) := by decide +kernel
abbrev cX2_init : ByteArray := prog_4_method_1_code
def yX2_init : MethodName := ⟨RX2, "<init>", "()V"⟩
abbrev cX2_addPart : ByteArray := prog_4_method_2_code
def yX2_addPart : MethodName := ⟨RX2, "addPart", "(III)I"⟩
abbrev cX2_addScene : ByteArray := prog_4_method_3_code
def yX2_addScene : MethodName := ⟨RX2, "addScene", "(II)I"⟩
abbrev cX2_allScenes : ByteArray := prog_4_method_4_code
def yX2_allScenes : MethodName := ⟨RX2, "allScenes", "()I"⟩
abbrev cX2_scenesWith : ByteArray := prog_4_method_5_code
def yX2_scenesWith : MethodName := ⟨RX2, "scenesWith", "(I)I"⟩
abbrev cX2_partsOf : ByteArray := prog_4_method_6_code
def yX2_partsOf : MethodName := ⟨RX2, "partsOf", "(I)I"⟩
abbrev cX2_fillClashes : ByteArray := prog_4_method_7_code
def yX2_fillClashes : MethodName := ⟨RX2, "fillClashes", "(I[I)V"⟩
abbrev cX2_clashTogether : ByteArray := prog_4_method_8_code
def yX2_clashTogether : MethodName := ⟨RX2, "clashTogether", "(I[I)V"⟩
abbrev cX2_clashInTurn : ByteArray := prog_4_method_9_code
def yX2_clashInTurn : MethodName := ⟨RX2, "clashInTurn", "(II[I)V"⟩
def RX3 : String := "Doublecoat$Road"
def TX3 : u_T := fun k => match k with
  | 0 => ("Doublecoat$Road", "x", "[I", true)
  | 1 => ("Doublecoat$Road", "y", "[I", true)
  | 2 => ("Doublecoat$Road", "takings", "[I", true)
  | 3 => ("Doublecoat$Road", "round", "[I", true)
  | 4 => ("Doublecoat$Road", "towns", "I", false)
  | _ => ("Doublecoat$Road", "out", "[[I", true)
def tyX3 : Nat → FieldType := fun k => match k with
  | 0 => .array .int
  | 1 => .array .int
  | 2 => .array .int
  | 3 => .array .int
  | 4 => .int
  | _ => .array (.array .int)
abbrev wsX30 : List Cond := u_ws RX3 TX3 6
theorem nmX3 : ∀ a, a < 6 → ∀ b, b < 6 → a ≠ b → (TX3 a).2.1 ≠ (TX3 b).2.1 := by decide +kernel
theorem tyX3_ok : ∀ k, k < 6 → parseFieldDescriptor (TX3 k).2.2.1 = some (tyX3 k) := by decide +kernel
abbrev cX3_init : ByteArray := prog_5_method_1_code
def yX3_init : MethodName := ⟨RX3, "<init>", "()V"⟩
abbrev cX3_addTown : ByteArray := prog_5_method_2_code
def yX3_addTown : MethodName := ⟨RX3, "addTown", "(III)I"⟩
abbrev cX3_measure : ByteArray := prog_5_method_3_code
def yX3_measure : MethodName := ⟨RX3, "measure", "(I)V"⟩
abbrev cX3_milesOut : ByteArray := prog_5_method_4_code
def yX3_milesOut : MethodName := ⟨RX3, "milesOut", "(II)I"⟩
abbrev cX3_milesHome : ByteArray := prog_5_method_5_code
def yX3_milesHome : MethodName := ⟨RX3, "milesHome", "(I)I"⟩
abbrev cX3_takingsOf : ByteArray := prog_5_method_6_code
def yX3_takingsOf : MethodName := ⟨RX3, "takingsOf", "(I)I"⟩
abbrev cX3_bestTour : ByteArray := prog_5_method_7_code
def yX3_bestTour : MethodName := ⟨RX3, "bestTour", "(I)I"⟩
def RX4 : String := "Doublecoat$Wardrobe"
def TX4 : u_T := fun k => match k with
  | 0 => ("Doublecoat$Wardrobe", "rank", "[I", true)
  | 1 => ("Doublecoat$Wardrobe", "size", "[I", true)
  | 2 => ("Doublecoat$Wardrobe", "price", "[I", true)
  | 3 => ("Doublecoat$Wardrobe", "coats", "I", false)
  | 4 => ("Doublecoat$Wardrobe", "pawned", "I", false)
  | 5 => ("Doublecoat$Wardrobe", "least", "[I", true)
  | _ => ("Doublecoat$Wardrobe", "dressed", "I", false)
def tyX4 : Nat → FieldType := fun k => match k with
  | 0 => .array .int
  | 1 => .array .int
  | 2 => .array .int
  | 3 => .int
  | 4 => .int
  | 5 => .array .int
  | _ => .int
abbrev wsX40 : List Cond := u_ws RX4 TX4 7
theorem nmX4 : ∀ a, a < 7 → ∀ b, b < 7 → a ≠ b → (TX4 a).2.1 ≠ (TX4 b).2.1 := by decide +kernel
theorem tyX4_ok : ∀ k, k < 7 → parseFieldDescriptor (TX4 k).2.2.1 = some (tyX4 k) := by decide +kernel
abbrev cX4_init : ByteArray := prog_6_method_1_code
def yX4_init : MethodName := ⟨RX4, "<init>", "()V"⟩
abbrev cX4_addCoat : ByteArray := prog_6_method_2_code
def yX4_addCoat : MethodName := ⟨RX4, "addCoat", "(III)I"⟩
abbrev cX4_startDressing : ByteArray := prog_6_method_3_code
def yX4_startDressing : MethodName := ⟨RX4, "startDressing", "()V"⟩
abbrev cX4_dressOneMore : ByteArray := prog_6_method_4_code
def yX4_dressOneMore : MethodName := ⟨RX4, "dressOneMore", "(II)V"⟩
abbrev cX4_leastWaste : ByteArray := prog_6_method_5_code
def yX4_leastWaste : MethodName := ⟨RX4, "leastWaste", "()I"⟩
abbrev cX4_keepLess : ByteArray := prog_6_method_6_code
def yX4_keepLess : MethodName := ⟨RX4, "keepLess", "(II)V"⟩
abbrev cX4_wasteOf : ByteArray := prog_6_method_7_code
def yX4_wasteOf : MethodName := ⟨RX4, "wasteOf", "(III)I"⟩
def RX5 : String := "Doublecoat"
def TX5 : u_T := fun k => match k with
  | 0 => ("Doublecoat", "play", "LDoublecoat$Play;", true)
  | 1 => ("Doublecoat", "company", "LDoublecoat$Company;", true)
  | 2 => ("Doublecoat", "casting", "LDoublecoat$Casting;", true)
  | 3 => ("Doublecoat", "wardrobe", "LDoublecoat$Wardrobe;", true)
  | 4 => ("Doublecoat", "road", "LDoublecoat$Road;", true)
  | 5 => ("Doublecoat", "takenIn", "I", false)
  | 6 => ("Doublecoat", "paid", "I", false)
  | 7 => ("Doublecoat", "nights", "I", false)
  | _ => ("Doublecoat", "refused", "I", false)
def tyX5 : Nat → FieldType := fun k => match k with
  | 0 => .object "Doublecoat$Play"
  | 1 => .object "Doublecoat$Company"
  | 2 => .object "Doublecoat$Casting"
  | 3 => .object "Doublecoat$Wardrobe"
  | 4 => .object "Doublecoat$Road"
  | 5 => .int
  | 6 => .int
  | 7 => .int
  | _ => .int
abbrev wsX50 : List Cond := u_ws RX5 TX5 9
theorem nmX5 : ∀ a, a < 9 → ∀ b, b < 9 → a ≠ b → (TX5 a).2.1 ≠ (TX5 b).2.1 := by decide +kernel
theorem tyX5_ok : ∀ k, k < 9 → parseFieldDescriptor (TX5 k).2.2.1 = some (tyX5 k) := by decide +kernel
abbrev cX5_init : ByteArray := prog_1_method_1_code
def yX5_init : MethodName := ⟨RX5, "<init>", "()V"⟩
abbrev cX5_part : ByteArray := prog_1_method_2_code
def yX5_part : MethodName := ⟨RX5, "part", "(III)I"⟩
abbrev cX5_player : ByteArray := prog_1_method_3_code
def yX5_player : MethodName := ⟨RX5, "player", "(III)I"⟩
abbrev cX5_scene : ByteArray := prog_1_method_4_code
def yX5_scene : MethodName := ⟨RX5, "scene", "(II)I"⟩
abbrev cX5_pause : ByteArray := prog_1_method_5_code
def yX5_pause : MethodName := ⟨RX5, "pause", "(II)I"⟩
abbrev cX5_sick : ByteArray := prog_1_method_6_code
def yX5_sick : MethodName := ⟨RX5, "sick", "(IZ)I"⟩
abbrev cX5_coat : ByteArray := prog_1_method_7_code
def yX5_coat : MethodName := ⟨RX5, "coat", "(III)I"⟩
abbrev cX5_pawn : ByteArray := prog_1_method_8_code
def yX5_pawn : MethodName := ⟨RX5, "pawn", "(II)I"⟩
abbrev cX5_redeem : ByteArray := prog_1_method_9_code
def yX5_redeem : MethodName := ⟨RX5, "redeem", "(II)I"⟩
abbrev cX5_town : ByteArray := prog_1_method_10_code
def yX5_town : MethodName := ⟨RX5, "town", "(III)I"⟩
abbrev cX5_night : ByteArray := prog_1_method_11_code
def yX5_night : MethodName := ⟨RX5, "night", "(I)I"⟩
abbrev cX5_knock : ByteArray := prog_1_method_12_code
def yX5_knock : MethodName := ⟨RX5, "knock", "()I"⟩
abbrev cX5_ofPart : ByteArray := prog_1_method_13_code
def yX5_ofPart : MethodName := ⟨RX5, "ofPart", "(II)I"⟩
abbrev cX5_ofPlayer : ByteArray := prog_1_method_14_code
def yX5_ofPlayer : MethodName := ⟨RX5, "ofPlayer", "(II)I"⟩
abbrev cX5_ofScene : ByteArray := prog_1_method_15_code
def yX5_ofScene : MethodName := ⟨RX5, "ofScene", "(II)I"⟩
abbrev cX5_ofCoat : ByteArray := prog_1_method_16_code
def yX5_ofCoat : MethodName := ⟨RX5, "ofCoat", "(II)I"⟩
abbrev cX5_ofTown : ByteArray := prog_1_method_17_code
def yX5_ofTown : MethodName := ⟨RX5, "ofTown", "(II)I"⟩
abbrev cX5_house : ByteArray := prog_1_method_18_code
def yX5_house : MethodName := ⟨RX5, "house", "(I)I"⟩
abbrev cX5_cast : ByteArray := prog_1_method_19_code
def yX5_cast : MethodName := ⟨RX5, "cast", "()Ljava/lang/String;"⟩
abbrev cX5_tour : ByteArray := prog_1_method_20_code
def yX5_tour : MethodName := ⟨RX5, "tour", "(II)I"⟩
abbrev cX5_would : ByteArray := prog_1_method_21_code
def yX5_would : MethodName := ⟨RX5, "would", "(I)I"⟩
abbrev cX5_without : ByteArray := prog_1_method_22_code
def yX5_without : MethodName := ⟨RX5, "without", "(I)I"⟩
abbrev cX5_shareOf : ByteArray := prog_1_method_23_code
def yX5_shareOf : MethodName := ⟨RX5, "shareOf", "(II)I"⟩
abbrev cX5_isSound : ByteArray := prog_1_method_24_code
def yX5_isSound : MethodName := ⟨RX5, "isSound", "()Z"⟩
abbrev cX5_digest : ByteArray := prog_1_method_25_code
def yX5_digest : MethodName := ⟨RX5, "digest", "()J"⟩
abbrev cX5_needWithin : ByteArray := prog_1_method_26_code
def yX5_needWithin : MethodName := ⟨RX5, "needWithin", "(III)V"⟩
abbrev cX5_needSet : ByteArray := prog_1_method_27_code
def yX5_needSet : MethodName := ⟨RX5, "needSet", "(II)V"⟩
abbrev cX5_needIndex : ByteArray := prog_1_method_28_code
def yX5_needIndex : MethodName := ⟨RX5, "needIndex", "(II)V"⟩
abbrev cX5_needRoom : ByteArray := prog_1_method_29_code
def yX5_needRoom : MethodName := ⟨RX5, "needRoom", "(II)V"⟩
abbrev cX5_has : ByteArray := prog_1_method_30_code
def yX5_has : MethodName := ⟨RX5, "has", "(II)Z"⟩
abbrev cX5_bestCastClashes : ByteArray := prog_1_method_31_code
def yX5_bestCastClashes : MethodName := ⟨RX5, "bestCastClashes", "()Z"⟩
abbrev cX5_filled : ByteArray := prog_1_method_32_code
def yX5_filled : MethodName := ⟨RX5, "filled", "(I)I"⟩
abbrev cX5_withOneMore : ByteArray := prog_1_method_33_code
def yX5_withOneMore : MethodName := ⟨RX5, "withOneMore", "(II)I"⟩
abbrev cX5_lack : ByteArray := prog_1_method_34_code
def yX5_lack : MethodName := ⟨RX5, "lack", "(I)I"⟩
abbrev cX5_excess : ByteArray := prog_1_method_35_code
def yX5_excess : MethodName := ⟨RX5, "excess", "(I)I"⟩
abbrev cX5_leastWaste : ByteArray := prog_1_method_36_code
def yX5_leastWaste : MethodName := ⟨RX5, "leastWaste", "(I)I"⟩
def RX6 : String := "DoublecoatLaw$Out"
def TX6 : u_T := fun k => match k with
  | _ => ("DoublecoatLaw$Out", "n", "J", false)
def tyX6 : Nat → FieldType := fun k => match k with
  | _ => .long
abbrev wsX60 : List Cond := u_ws RX6 TX6 1
theorem nmX6 : ∀ a, a < 1 → ∀ b, b < 1 → a ≠ b → (TX6 a).2.1 ≠ (TX6 b).2.1 := by decide +kernel
theorem tyX6_ok : ∀ k, k < 1 → parseFieldDescriptor (TX6 k).2.2.1 = some (tyX6 k) := by decide +kernel
abbrev cX6_init : ByteArray := prog_8_method_1_code
def yX6_init : MethodName := ⟨RX6, "<init>", "()V"⟩
def RX7 : String := "DoublecoatModel$Coat"
def TX7 : u_T := fun k => match k with
  | 0 => ("DoublecoatModel$Coat", "rank", "I", false)
  | 1 => ("DoublecoatModel$Coat", "size", "I", false)
  | 2 => ("DoublecoatModel$Coat", "price", "I", false)
  | _ => ("DoublecoatModel$Coat", "isPawned", "Z", false)
def tyX7 : Nat → FieldType := fun k => match k with
  | 0 => .int
  | 1 => .int
  | 2 => .int
  | _ => .boolean
abbrev wsX70 : List Cond := u_ws RX7 TX7 4
theorem nmX7 : ∀ a, a < 4 → ∀ b, b < 4 → a ≠ b → (TX7 a).2.1 ≠ (TX7 b).2.1 := by decide +kernel
theorem tyX7_ok : ∀ k, k < 4 → parseFieldDescriptor (TX7 k).2.2.1 = some (tyX7 k) := by decide +kernel
abbrev cX7_init : ByteArray := prog_10_method_1_code
def yX7_init : MethodName := ⟨RX7, "<init>", "()V"⟩
def RX8 : String := "DoublecoatModel$Part"
def TX8 : u_T := fun k => match k with
  | 0 => ("DoublecoatModel$Part", "voice", "I", false)
  | 1 => ("DoublecoatModel$Part", "rank", "I", false)
  | _ => ("DoublecoatModel$Part", "change", "I", false)
def tyX8 : Nat → FieldType := fun k => match k with
  | 0 => .int
  | 1 => .int
  | _ => .int
abbrev wsX80 : List Cond := u_ws RX8 TX8 3
theorem nmX8 : ∀ a, a < 3 → ∀ b, b < 3 → a ≠ b → (TX8 a).2.1 ≠ (TX8 b).2.1 := by decide +kernel
theorem tyX8_ok : ∀ k, k < 3 → parseFieldDescriptor (TX8 k).2.2.1 = some (tyX8 k) := by decide +kernel
abbrev cX8_init : ByteArray := prog_11_method_1_code
def yX8_init : MethodName := ⟨RX8, "<init>", "()V"⟩
def RX9 : String := "DoublecoatModel$Player"
def TX9 : u_T := fun k => match k with
  | 0 => ("DoublecoatModel$Player", "voices", "I", false)
  | 1 => ("DoublecoatModel$Player", "size", "I", false)
  | 2 => ("DoublecoatModel$Player", "share", "I", false)
  | 3 => ("DoublecoatModel$Player", "isSick", "Z", false)
  | _ => ("DoublecoatModel$Player", "purse", "I", false)
def tyX9 : Nat → FieldType := fun k => match k with
  | 0 => .int
  | 1 => .int
  | 2 => .int
  | 3 => .boolean
  | _ => .int
abbrev wsX90 : List Cond := u_ws RX9 TX9 5
theorem nmX9 : ∀ a, a < 5 → ∀ b, b < 5 → a ≠ b → (TX9 a).2.1 ≠ (TX9 b).2.1 := by decide +kernel
theorem tyX9_ok : ∀ k, k < 5 → parseFieldDescriptor (TX9 k).2.2.1 = some (tyX9 k) := by decide +kernel
abbrev cX9_init : ByteArray := prog_12_method_1_code
def yX9_init : MethodName := ⟨RX9, "<init>", "()V"⟩
def RX10 : String := "DoublecoatModel$Scene"
def TX10 : u_T := fun k => match k with
  | 0 => ("DoublecoatModel$Scene", "parts", "I", false)
  | _ => ("DoublecoatModel$Scene", "pause", "I", false)
def tyX10 : Nat → FieldType := fun k => match k with
  | 0 => .int
  | _ => .int
abbrev wsX100 : List Cond := u_ws RX10 TX10 2
theorem nmX10 : ∀ a, a < 2 → ∀ b, b < 2 → a ≠ b → (TX10 a).2.1 ≠ (TX10 b).2.1 := by decide +kernel
theorem tyX10_ok : ∀ k, k < 2 → parseFieldDescriptor (TX10 k).2.2.1 = some (tyX10 k) := by decide +kernel
abbrev cX10_init : ByteArray := prog_13_method_1_code
def yX10_init : MethodName := ⟨RX10, "<init>", "()V"⟩
def RX11 : String := "DoublecoatModel$Town"
def TX11 : u_T := fun k => match k with
  | 0 => ("DoublecoatModel$Town", "x", "I", false)
  | 1 => ("DoublecoatModel$Town", "y", "I", false)
  | _ => ("DoublecoatModel$Town", "takings", "I", false)
def tyX11 : Nat → FieldType := fun k => match k with
  | 0 => .int
  | 1 => .int
  | _ => .int
abbrev wsX110 : List Cond := u_ws RX11 TX11 3
theorem nmX11 : ∀ a, a < 3 → ∀ b, b < 3 → a ≠ b → (TX11 a).2.1 ≠ (TX11 b).2.1 := by decide +kernel
theorem tyX11_ok : ∀ k, k < 3 → parseFieldDescriptor (TX11 k).2.2.1 = some (tyX11 k) := by decide +kernel
abbrev cX11_init : ByteArray := prog_14_method_1_code
def yX11_init : MethodName := ⟨RX11, "<init>", "()V"⟩
def RX12 : String := "DoublecoatModel"
def TX12 : u_T := fun k => match k with
  | 0 => ("DoublecoatModel", "thrown", "I", false)
  | 1 => ("DoublecoatModel", "parts", "Ljava/util/ArrayList;", true)
  | 2 => ("DoublecoatModel", "players", "Ljava/util/ArrayList;", true)
  | 3 => ("DoublecoatModel", "scenes", "Ljava/util/ArrayList;", true)
  | 4 => ("DoublecoatModel", "coats", "Ljava/util/ArrayList;", true)
  | 5 => ("DoublecoatModel", "towns", "Ljava/util/ArrayList;", true)
  | 6 => ("DoublecoatModel", "taken", "I", false)
  | 7 => ("DoublecoatModel", "paid", "I", false)
  | 8 => ("DoublecoatModel", "nights", "I", false)
  | 9 => ("DoublecoatModel", "refused", "I", false)
  | 10 => ("DoublecoatModel", "cast", "[I", true)
  | 11 => ("DoublecoatModel", "isKnown", "Z", false)
  | 12 => ("DoublecoatModel", "needed", "I", false)
  | 13 => ("DoublecoatModel", "row", "[I", true)
  | 14 => ("DoublecoatModel", "clashing", "[I", true)
  | 15 => ("DoublecoatModel", "least", "I", false)
  | 16 => ("DoublecoatModel", "bestSum", "I", false)
  | 17 => ("DoublecoatModel", "bestMiles", "I", false)
  | 18 => ("DoublecoatModel", "bestSet", "I", false)
  | _ => ("DoublecoatModel", "sum", "J", false)
def tyX12 : Nat → FieldType := fun k => match k with
  | 0 => .int
  | 1 => .object "java/util/ArrayList"
  | 2 => .object "java/util/ArrayList"
  | 3 => .object "java/util/ArrayList"
  | 4 => .object "java/util/ArrayList"
  | 5 => .object "java/util/ArrayList"
  | 6 => .int
  | 7 => .int
  | 8 => .int
  | 9 => .int
  | 10 => .array .int
  | 11 => .boolean
  | 12 => .int
  | 13 => .array .int
  | 14 => .array .int
  | 15 => .int
  | 16 => .int
  | 17 => .int
  | 18 => .int
  | _ => .long
abbrev wsX120 : List Cond := u_ws RX12 TX12 20
theorem nmX12 : ∀ a, a < 20 → ∀ b, b < 20 → a ≠ b → (TX12 a).2.1 ≠ (TX12 b).2.1 := by decide +kernel
theorem tyX12_ok : ∀ k, k < 20 → parseFieldDescriptor (TX12 k).2.2.1 = some (tyX12 k) := by decide +kernel
abbrev cX12_init : ByteArray := prog_9_method_1_code
def yX12_init : MethodName := ⟨RX12, "<init>", "()V"⟩
abbrev cX12_refuse : ByteArray := prog_9_method_3_code
def yX12_refuse : MethodName := ⟨RX12, "refuse", "(I)I"⟩
abbrev cX12_is : ByteArray := prog_9_method_4_code
def yX12_is : MethodName := ⟨RX12, "is", "(III)Z"⟩
abbrev cX12_isIn : ByteArray := prog_9_method_5_code
def yX12_isIn : MethodName := ⟨RX12, "isIn", "(II)Z"⟩
abbrev cX12_isPart : ByteArray := prog_9_method_6_code
def yX12_isPart : MethodName := ⟨RX12, "isPart", "(I)Z"⟩
abbrev cX12_isPlayer : ByteArray := prog_9_method_7_code
def yX12_isPlayer : MethodName := ⟨RX12, "isPlayer", "(I)Z"⟩
abbrev cX12_isScene : ByteArray := prog_9_method_8_code
def yX12_isScene : MethodName := ⟨RX12, "isScene", "(I)Z"⟩
abbrev cX12_isCoat : ByteArray := prog_9_method_9_code
def yX12_isCoat : MethodName := ⟨RX12, "isCoat", "(I)Z"⟩
abbrev cX12_isTown : ByteArray := prog_9_method_10_code
def yX12_isTown : MethodName := ⟨RX12, "isTown", "(I)Z"⟩
abbrev cX12_all : ByteArray := prog_9_method_11_code
def yX12_all : MethodName := ⟨RX12, "all", "()I"⟩
abbrev cX12_part : ByteArray := prog_9_method_12_code
def yX12_part : MethodName := ⟨RX12, "part", "(III)I"⟩
abbrev cX12_player : ByteArray := prog_9_method_13_code
def yX12_player : MethodName := ⟨RX12, "player", "(III)I"⟩
abbrev cX12_scene : ByteArray := prog_9_method_14_code
def yX12_scene : MethodName := ⟨RX12, "scene", "(II)I"⟩
abbrev cX12_pause : ByteArray := prog_9_method_15_code
def yX12_pause : MethodName := ⟨RX12, "pause", "(II)I"⟩
abbrev cX12_well : ByteArray := prog_9_method_16_code
def yX12_well : MethodName := ⟨RX12, "well", "()I"⟩
abbrev cX12_sick : ByteArray := prog_9_method_17_code
def yX12_sick : MethodName := ⟨RX12, "sick", "(IZ)I"⟩
abbrev cX12_coat : ByteArray := prog_9_method_18_code
def yX12_coat : MethodName := ⟨RX12, "coat", "(III)I"⟩
abbrev cX12_pawn : ByteArray := prog_9_method_19_code
def yX12_pawn : MethodName := ⟨RX12, "pawn", "(II)I"⟩
abbrev cX12_redeem : ByteArray := prog_9_method_20_code
def yX12_redeem : MethodName := ⟨RX12, "redeem", "(II)I"⟩
abbrev cX12_town : ByteArray := prog_9_method_21_code
def yX12_town : MethodName := ⟨RX12, "town", "(III)I"⟩
abbrev cX12_plays : ByteArray := prog_9_method_22_code
def yX12_plays : MethodName := ⟨RX12, "plays", "(II)Z"⟩
abbrev cX12_players : ByteArray := prog_9_method_23_code
def yX12_players : MethodName := ⟨RX12, "players", "(I)I"⟩
abbrev cX12_clash : ByteArray := prog_9_method_24_code
def yX12_clash : MethodName := ⟨RX12, "clash", "(I)V"⟩
abbrev cX12_partsOf : ByteArray := prog_9_method_25_code
def yX12_partsOf : MethodName := ⟨RX12, "partsOf", "(I)I"⟩
abbrev cX12_fills : ByteArray := prog_9_method_26_code
def yX12_fills : MethodName := ⟨RX12, "fills", "(IIII)Z"⟩
abbrev cX12_needs : ByteArray := prog_9_method_27_code
def yX12_needs : MethodName := ⟨RX12, "needs", "(I)I"⟩
abbrev cX12_isCast : ByteArray := prog_9_method_28_code
def yX12_isCast : MethodName := ⟨RX12, "isCast", "()Z"⟩
abbrev cX12_cutScenes : ByteArray := prog_9_method_29_code
def yX12_cutScenes : MethodName := ⟨RX12, "cutScenes", "()I"⟩
abbrev cX12_finds : ByteArray := prog_9_method_30_code
def yX12_finds : MethodName := ⟨RX12, "finds", "(II[I[Z)Z"⟩
abbrev cX12_filled : ByteArray := prog_9_method_31_code
def yX12_filled : MethodName := ⟨RX12, "filled", "(I)I"⟩
abbrev cX12_excess : ByteArray := prog_9_method_32_code
def yX12_excess : MethodName := ⟨RX12, "excess", "(I)I"⟩
abbrev cX12_lack : ByteArray := prog_9_method_33_code
def yX12_lack : MethodName := ⟨RX12, "lack", "(I)I"⟩
abbrev cX12_waste : ByteArray := prog_9_method_34_code
def yX12_waste : MethodName := ⟨RX12, "waste", "(LDoublecoatModel$Coat;I)I"⟩
abbrev cX12_dress : ByteArray := prog_9_method_35_code
def yX12_dress : MethodName := ⟨RX12, "dress", "(III)V"⟩
abbrev cX12_dressed : ByteArray := prog_9_method_36_code
def yX12_dressed : MethodName := ⟨RX12, "dressed", "(I)I"⟩
abbrev cX12_partsWith : ByteArray := prog_9_method_37_code
def yX12_partsWith : MethodName := ⟨RX12, "partsWith", "(I)I"⟩
abbrev cX12_shares : ByteArray := prog_9_method_38_code
def yX12_shares : MethodName := ⟨RX12, "shares", "()I"⟩
abbrev cX12_shareNow : ByteArray := prog_9_method_39_code
def yX12_shareNow : MethodName := ⟨RX12, "shareNow", "(II)I"⟩
abbrev cX12_night : ByteArray := prog_9_method_40_code
def yX12_night : MethodName := ⟨RX12, "night", "(I)I"⟩
abbrev cX12_knock : ByteArray := prog_9_method_41_code
def yX12_knock : MethodName := ⟨RX12, "knock", "()I"⟩
abbrev cX12_miles : ByteArray := prog_9_method_42_code
def yX12_miles : MethodName := ⟨RX12, "miles", "(IIII)I"⟩
abbrev cX12_go : ByteArray := prog_9_method_43_code
def yX12_go : MethodName := ⟨RX12, "go", "(IIIIII)V"⟩
abbrev cX12_tourNow : ByteArray := prog_9_method_44_code
def yX12_tourNow : MethodName := ⟨RX12, "tourNow", "(II)I"⟩
abbrev cX12_scenesWith : ByteArray := prog_9_method_45_code
def yX12_scenesWith : MethodName := ⟨RX12, "scenesWith", "(I)I"⟩
abbrev cX12_ofPartNow : ByteArray := prog_9_method_46_code
def yX12_ofPartNow : MethodName := ⟨RX12, "ofPartNow", "(II)I"⟩
abbrev cX12_ofPart : ByteArray := prog_9_method_47_code
def yX12_ofPart : MethodName := ⟨RX12, "ofPart", "(II)I"⟩
abbrev cX12_ofPlayerNow : ByteArray := prog_9_method_48_code
def yX12_ofPlayerNow : MethodName := ⟨RX12, "ofPlayerNow", "(II)I"⟩
abbrev cX12_ofPlayer : ByteArray := prog_9_method_49_code
def yX12_ofPlayer : MethodName := ⟨RX12, "ofPlayer", "(II)I"⟩
abbrev cX12_ofSceneNow : ByteArray := prog_9_method_50_code
def yX12_ofSceneNow : MethodName := ⟨RX12, "ofSceneNow", "(II)I"⟩
abbrev cX12_ofScene : ByteArray := prog_9_method_51_code
def yX12_ofScene : MethodName := ⟨RX12, "ofScene", "(II)I"⟩
abbrev cX12_ofCoatNow : ByteArray := prog_9_method_52_code
def yX12_ofCoatNow : MethodName := ⟨RX12, "ofCoatNow", "(II)I"⟩
abbrev cX12_ofCoat : ByteArray := prog_9_method_53_code
def yX12_ofCoat : MethodName := ⟨RX12, "ofCoat", "(II)I"⟩
abbrev cX12_ofTownNow : ByteArray := prog_9_method_54_code
def yX12_ofTownNow : MethodName := ⟨RX12, "ofTownNow", "(II)I"⟩
abbrev cX12_ofTown : ByteArray := prog_9_method_55_code
def yX12_ofTown : MethodName := ⟨RX12, "ofTown", "(II)I"⟩
abbrev cX12_purses : ByteArray := prog_9_method_56_code
def yX12_purses : MethodName := ⟨RX12, "purses", "()I"⟩
abbrev cX12_pawned : ByteArray := prog_9_method_57_code
def yX12_pawned : MethodName := ⟨RX12, "pawned", "()I"⟩
abbrev cX12_houseNow : ByteArray := prog_9_method_58_code
def yX12_houseNow : MethodName := ⟨RX12, "houseNow", "(I)I"⟩
abbrev cX12_house : ByteArray := prog_9_method_59_code
def yX12_house : MethodName := ⟨RX12, "house", "(I)I"⟩
abbrev cX12_castNow : ByteArray := prog_9_method_60_code
def yX12_castNow : MethodName := ⟨RX12, "castNow", "()Ljava/lang/String;"⟩
abbrev cX12_cast : ByteArray := prog_9_method_61_code
def yX12_cast : MethodName := ⟨RX12, "cast", "()Ljava/lang/String;"⟩
abbrev cX12_tour : ByteArray := prog_9_method_62_code
def yX12_tour : MethodName := ⟨RX12, "tour", "(II)I"⟩
abbrev cX12_would : ByteArray := prog_9_method_63_code
def yX12_would : MethodName := ⟨RX12, "would", "(I)I"⟩
abbrev cX12_withoutNow : ByteArray := prog_9_method_64_code
def yX12_withoutNow : MethodName := ⟨RX12, "withoutNow", "(I)I"⟩
abbrev cX12_without : ByteArray := prog_9_method_65_code
def yX12_without : MethodName := ⟨RX12, "without", "(I)I"⟩
abbrev cX12_shareOf : ByteArray := prog_9_method_66_code
def yX12_shareOf : MethodName := ⟨RX12, "shareOf", "(II)I"⟩
abbrev cX12_isSoundNow : ByteArray := prog_9_method_67_code
def yX12_isSoundNow : MethodName := ⟨RX12, "isSoundNow", "()Z"⟩
abbrev cX12_isSound : ByteArray := prog_9_method_68_code
def yX12_isSound : MethodName := ⟨RX12, "isSound", "()Z"⟩
abbrev cX12_add : ByteArray := prog_9_method_69_code
def yX12_add : MethodName := ⟨RX12, "add", "(J)V"⟩
abbrev cX12_digest : ByteArray := prog_9_method_70_code
def yX12_digest : MethodName := ⟨RX12, "digest", "()J"⟩
def RJx145de : String := "java/io/Serializable"
def TJx145de : u_T := fun k => match k with
  | _ => ("", "", "", false)
def tyJx145de : Nat → FieldType := fun k => match k with
  | _ => .int
abbrev wsJx145de0 : List Cond := u_ws RJx145de TJx145de 0
theorem nmJx145de : ∀ a, a < 0 → ∀ b, b < 0 → a ≠ b → (TJx145de a).2.1 ≠ (TJx145de b).2.1 := by decide +kernel
theorem tyJx145de_ok : ∀ k, k < 0 → parseFieldDescriptor (TJx145de k).2.2.1 = some (tyJx145de k) := by decide +kernel
def RJ5 : String := "java/lang/AbstractStringBuilder"
def TJ5 : u_T := fun k => match k with
  | _ => ("", "", "", false)
def tyJ5 : Nat → FieldType := fun k => match k with
  | _ => .int
abbrev wsJ50 : List Cond := u_ws RJ5 TJ5 0
theorem nmJ5 : ∀ a, a < 0 → ∀ b, b < 0 → a ≠ b → (TJ5 a).2.1 ≠ (TJ5 b).2.1 := by decide +kernel
theorem tyJ5_ok : ∀ k, k < 0 → parseFieldDescriptor (TJ5 k).2.2.1 = some (tyJ5 k) := by decide +kernel
abbrev cJ5_init_d00df : ByteArray := prog_16_method_2_code
def yJ5_init_d00df : MethodName := ⟨RJ5, "<init>", "(I)V"⟩
abbrev cJ5_length_8abf5 : ByteArray := prog_16_method_6_code
def yJ5_length_8abf5 : MethodName := ⟨RJ5, "length", "()I"⟩
abbrev cJ5_ensureCapacityInternal_d00df : ByteArray := prog_16_method_9_code
def yJ5_ensureCapacityInternal_d00df : MethodName := ⟨RJ5, "ensureCapacityInternal", "(I)V"⟩
abbrev cJ5_newCapacity_0f7a4 : ByteArray := prog_16_method_10_code
def yJ5_newCapacity_0f7a4 : MethodName := ⟨RJ5, "newCapacity", "(I)I"⟩
abbrev cJ5_inflate_da8c8 : ByteArray := prog_16_method_11_code
def yJ5_inflate_da8c8 : MethodName := ⟨RJ5, "inflate", "()V"⟩
abbrev cJ5_append_cf1ce : ByteArray := prog_16_method_22_code
def yJ5_append_cf1ce : MethodName := ⟨RJ5, "append", "(Ljava/lang/String;)Ljava/lang/AbstractStringBuilder;"⟩
abbrev cJ5_appendNull_278bc : ByteArray := prog_16_method_26_code
def yJ5_appendNull_278bc : MethodName := ⟨RJ5, "appendNull", "()Ljava/lang/AbstractStringBuilder;"⟩
abbrev cJ5_append_3fe6f : ByteArray := prog_16_method_31_code
def yJ5_append_3fe6f : MethodName := ⟨RJ5, "append", "(C)Ljava/lang/AbstractStringBuilder;"⟩
abbrev cJ5_append_c97b9 : ByteArray := prog_16_method_32_code
def yJ5_append_c97b9 : MethodName := ⟨RJ5, "append", "(I)Ljava/lang/AbstractStringBuilder;"⟩
abbrev cJ5_getValue_6d5f1 : ByteArray := prog_16_method_64_code
def yJ5_getValue_6d5f1 : MethodName := ⟨RJ5, "getValue", "()[B"⟩
abbrev cJ5_isLatin1_aae02 : ByteArray := prog_16_method_68_code
def yJ5_isLatin1_aae02 : MethodName := ⟨RJ5, "isLatin1", "()Z"⟩
abbrev cJ5_inflateIfNeededFor_a7421 : ByteArray := prog_16_method_71_code
def yJ5_inflateIfNeededFor_a7421 : MethodName := ⟨RJ5, "inflateIfNeededFor", "(Ljava/lang/String;)V"⟩
abbrev cJ5_putStringAt_47b60 : ByteArray := prog_16_method_73_code
def yJ5_putStringAt_47b60 : MethodName := ⟨RJ5, "putStringAt", "(ILjava/lang/String;)V"⟩
def RJx2cfe8 : String := "java/lang/Appendable"
def TJx2cfe8 : u_T := fun k => match k with
  | _ => ("", "", "", false)
def tyJx2cfe8 : Nat → FieldType := fun k => match k with
  | _ => .int
abbrev wsJx2cfe80 : List Cond := u_ws RJx2cfe8 TJx2cfe8 0
theorem nmJx2cfe8 : ∀ a, a < 0 → ∀ b, b < 0 → a ≠ b → (TJx2cfe8 a).2.1 ≠ (TJx2cfe8 b).2.1 := by decide +kernel
theorem tyJx2cfe8_ok : ∀ k, k < 0 → parseFieldDescriptor (TJx2cfe8 k).2.2.1 = some (tyJx2cfe8 k) := by decide +kernel
def RJx9f9b0 : String := "java/lang/CharSequence"
def TJx9f9b0 : u_T := fun k => match k with
  | _ => ("", "", "", false)
def tyJx9f9b0 : Nat → FieldType := fun k => match k with
  | _ => .int
abbrev wsJx9f9b00 : List Cond := u_ws RJx9f9b0 TJx9f9b0 0
theorem nmJx9f9b0 : ∀ a, a < 0 → ∀ b, b < 0 → a ≠ b → (TJx9f9b0 a).2.1 ≠ (TJx9f9b0 b).2.1 := by decide +kernel
theorem tyJx9f9b0_ok : ∀ k, k < 0 → parseFieldDescriptor (TJx9f9b0 k).2.2.1 = some (tyJx9f9b0 k) := by decide +kernel
def RJx8e188 : String := "java/lang/Cloneable"
def TJx8e188 : u_T := fun k => match k with
  | _ => ("", "", "", false)
def tyJx8e188 : Nat → FieldType := fun k => match k with
  | _ => .int
abbrev wsJx8e1880 : List Cond := u_ws RJx8e188 TJx8e188 0
theorem nmJx8e188 : ∀ a, a < 0 → ∀ b, b < 0 → a ≠ b → (TJx8e188 a).2.1 ≠ (TJx8e188 b).2.1 := by decide +kernel
theorem tyJx8e188_ok : ∀ k, k < 0 → parseFieldDescriptor (TJx8e188 k).2.2.1 = some (tyJx8e188 k) := by decide +kernel
def RJxb160c : String := "java/lang/Comparable"
def TJxb160c : u_T := fun k => match k with
  | _ => ("", "", "", false)
def tyJxb160c : Nat → FieldType := fun k => match k with
  | _ => .int
abbrev wsJxb160c0 : List Cond := u_ws RJxb160c TJxb160c 0
theorem nmJxb160c : ∀ a, a < 0 → ∀ b, b < 0 → a ≠ b → (TJxb160c a).2.1 ≠ (TJxb160c b).2.1 := by decide +kernel
theorem tyJxb160c_ok : ∀ k, k < 0 → parseFieldDescriptor (TJxb160c k).2.2.1 = some (tyJxb160c k) := by decide +kernel
def RJ6 : String := "java/lang/Integer"
def TJ6 : u_T := fun k => match k with
  | _ => ("", "", "", false)
def tyJ6 : Nat → FieldType := fun k => match k with
  | _ => .int
abbrev wsJ60 : List Cond := u_ws RJ6 TJ6 0
theorem nmJ6 : ∀ a, a < 0 → ∀ b, b < 0 → a ≠ b → (TJ6 a).2.1 ≠ (TJ6 b).2.1 := by decide +kernel
theorem tyJ6_ok : ∀ k, k < 0 → parseFieldDescriptor (TJ6 k).2.2.1 = some (tyJ6 k) := by decide +kernel
abbrev cJ6_getChars_ba4f3 : ByteArray := prog_25_method_12_code
def yJ6_getChars_ba4f3 : MethodName := ⟨RJ6, "getChars", "(II[B)I"⟩
abbrev cJ6_stringSize_0f7a4 : ByteArray := prog_25_method_13_code
def yJ6_stringSize_0f7a4 : MethodName := ⟨RJ6, "stringSize", "(I)I"⟩
abbrev cJ6_numberOfTrailingZeros_0f7a4 : ByteArray := prog_25_method_48_code
def yJ6_numberOfTrailingZeros_0f7a4 : MethodName := ⟨RJ6, "numberOfTrailingZeros", "(I)I"⟩
abbrev cJ6_bitCount_0f7a4 : ByteArray := prog_25_method_49_code
def yJ6_bitCount_0f7a4 : MethodName := ⟨RJ6, "bitCount", "(I)I"⟩
def RJxab1ab : String := "java/lang/Iterable"
def TJxab1ab : u_T := fun k => match k with
  | _ => ("", "", "", false)
def tyJxab1ab : Nat → FieldType := fun k => match k with
  | _ => .int
abbrev wsJxab1ab0 : List Cond := u_ws RJxab1ab TJxab1ab 0
theorem nmJxab1ab : ∀ a, a < 0 → ∀ b, b < 0 → a ≠ b → (TJxab1ab a).2.1 ≠ (TJxab1ab b).2.1 := by decide +kernel
theorem tyJxab1ab_ok : ∀ k, k < 0 → parseFieldDescriptor (TJxab1ab k).2.2.1 = some (tyJxab1ab k) := by decide +kernel
def RJ9 : String := "java/lang/Math"
def TJ9 : u_T := fun k => match k with
  | _ => ("", "", "", false)
def tyJ9 : Nat → FieldType := fun k => match k with
  | _ => .int
abbrev wsJ90 : List Cond := u_ws RJ9 TJ9 0
theorem nmJ9 : ∀ a, a < 0 → ∀ b, b < 0 → a ≠ b → (TJ9 a).2.1 ≠ (TJ9 b).2.1 := by decide +kernel
theorem tyJ9_ok : ∀ k, k < 0 → parseFieldDescriptor (TJ9 k).2.2.1 = some (tyJ9 k) := by decide +kernel
abbrev cJ9_abs_0f7a4 : ByteArray := prog_27_method_59_code
def yJ9_abs_0f7a4 : MethodName := ⟨RJ9, "abs", "(I)I"⟩
abbrev cJ9_max_7cf53 : ByteArray := prog_27_method_65_code
def yJ9_max_7cf53 : MethodName := ⟨RJ9, "max", "(II)I"⟩
abbrev cJ9_min_7cf53 : ByteArray := prog_27_method_69_code
def yJ9_min_7cf53 : MethodName := ⟨RJ9, "min", "(II)I"⟩
def RJxd2413 : String := "java/lang/Number"
def TJxd2413 : u_T := fun k => match k with
  | _ => ("", "", "", false)
def tyJxd2413 : Nat → FieldType := fun k => match k with
  | _ => .int
abbrev wsJxd24130 : List Cond := u_ws RJxd2413 TJxd2413 0
theorem nmJxd2413 : ∀ a, a < 0 → ∀ b, b < 0 → a ≠ b → (TJxd2413 a).2.1 ≠ (TJxd2413 b).2.1 := by decide +kernel
theorem tyJxd2413_ok : ∀ k, k < 0 → parseFieldDescriptor (TJxd2413 k).2.2.1 = some (tyJxd2413 k) := by decide +kernel
def RJ0 : String := "java/lang/String"
def TJ0 : u_T := fun k => match k with
  | 0 => ("java/lang/String", "value", "[B", true)
  | 1 => ("java/lang/String", "coder", "B", true)
  | 2 => ("java/lang/String", "hash", "I", false)
  | _ => ("java/lang/String", "hashIsZero", "Z", false)
def tyJ0 : Nat → FieldType := fun k => match k with
  | 0 => .array .byte
  | 1 => .byte
  | 2 => .int
  | _ => .boolean
abbrev wsJ00 : List Cond := u_ws RJ0 TJ0 4
theorem nmJ0 : ∀ a, a < 4 → ∀ b, b < 4 → a ≠ b → (TJ0 a).2.1 ≠ (TJ0 b).2.1 := by decide +kernel
theorem tyJ0_ok : ∀ k, k < 4 → parseFieldDescriptor (TJ0 k).2.2.1 = some (tyJ0 k) := by decide +kernel
abbrev cJ0_init_81219 : ByteArray := prog_30_method_53_code
def yJ0_init_81219 : MethodName := ⟨RJ0, "<init>", "(Ljava/lang/StringBuilder;)V"⟩
abbrev cJ0_length_8abf5 : ByteArray := prog_30_method_54_code
def yJ0_length_8abf5 : MethodName := ⟨RJ0, "length", "()I"⟩
abbrev cJ0_getBytes_840e7 : ByteArray := prog_30_method_147_code
def yJ0_getBytes_840e7 : MethodName := ⟨RJ0, "getBytes", "([BIB)V"⟩
abbrev cJ0_init_db425 : ByteArray := prog_30_method_150_code
def yJ0_init_db425 : MethodName := ⟨RJ0, "<init>", "(Ljava/lang/AbstractStringBuilder;Ljava/lang/Void;)V"⟩
abbrev cJ0_coder_7d493 : ByteArray := prog_30_method_152_code
def yJ0_coder_7d493 : MethodName := ⟨RJ0, "coder", "()B"⟩
abbrev cJ0_checkIndex_df160 : ByteArray := prog_30_method_155_code
def yJ0_checkIndex_df160 : MethodName := ⟨RJ0, "checkIndex", "(II)V"⟩
abbrev cJ0_checkBoundsOffCount_cabcc : ByteArray := prog_30_method_157_code
def yJ0_checkBoundsOffCount_cabcc : MethodName := ⟨RJ0, "checkBoundsOffCount", "(III)I"⟩
abbrev cJ0_checkBoundsBeginEnd_23922 : ByteArray := prog_30_method_158_code
def yJ0_checkBoundsBeginEnd_23922 : MethodName := ⟨RJ0, "checkBoundsBeginEnd", "(III)V"⟩
def RJ4 : String := "java/lang/StringBuilder"
def TJ4 : u_T := fun k => match k with
  | 0 => ("java/lang/AbstractStringBuilder", "value", "[B", false)
  | 1 => ("java/lang/AbstractStringBuilder", "coder", "B", false)
  | 2 => ("java/lang/AbstractStringBuilder", "maybeLatin1", "Z", false)
  | _ => ("java/lang/AbstractStringBuilder", "count", "I", false)
def tyJ4 : Nat → FieldType := fun k => match k with
  | 0 => .array .byte
  | 1 => .byte
  | 2 => .boolean
  | _ => .int
abbrev wsJ40 : List Cond := u_ws RJ4 TJ4 4
theorem nmJ4 : ∀ a, a < 4 → ∀ b, b < 4 → a ≠ b → (TJ4 a).2.1 ≠ (TJ4 b).2.1 := by decide +kernel
theorem tyJ4_ok : ∀ k, k < 4 → parseFieldDescriptor (TJ4 k).2.2.1 = some (tyJ4 k) := by decide +kernel
abbrev cJ4_init_da8c8 : ByteArray := prog_31_method_1_code
def yJ4_init_da8c8 : MethodName := ⟨RJ4, "<init>", "()V"⟩
abbrev cJ4_append_15ec4 : ByteArray := prog_31_method_7_code
def yJ4_append_15ec4 : MethodName := ⟨RJ4, "append", "(Ljava/lang/String;)Ljava/lang/StringBuilder;"⟩
abbrev cJ4_append_cf468 : ByteArray := prog_31_method_14_code
def yJ4_append_cf468 : MethodName := ⟨RJ4, "append", "(C)Ljava/lang/StringBuilder;"⟩
abbrev cJ4_append_bf812 : ByteArray := prog_31_method_15_code
def yJ4_append_bf812 : MethodName := ⟨RJ4, "append", "(I)Ljava/lang/StringBuilder;"⟩
abbrev cJ4_toString_0e30d : ByteArray := prog_31_method_42_code
def yJ4_toString_0e30d : MethodName := ⟨RJ4, "toString", "()Ljava/lang/String;"⟩
abbrev cJ4_length_8abf5 : ByteArray := prog_31_method_93_code
def yJ4_length_8abf5 : MethodName := ⟨RJ4, "length", "()I"⟩
def RJ1 : String := "java/lang/StringLatin1"
def TJ1 : u_T := fun k => match k with
  | _ => ("", "", "", false)
def tyJ1 : Nat → FieldType := fun k => match k with
  | _ => .int
abbrev wsJ10 : List Cond := u_ws RJ1 TJ1 0
theorem nmJ1 : ∀ a, a < 0 → ∀ b, b < 0 → a ≠ b → (TJ1 a).2.1 ≠ (TJ1 b).2.1 := by decide +kernel
theorem tyJ1_ok : ∀ k, k < 0 → parseFieldDescriptor (TJ1 k).2.2.1 = some (tyJ1 k) := by decide +kernel
abbrev cJ1_canEncode_fc78d : ByteArray := prog_32_method_3_code
def yJ1_canEncode_fc78d : MethodName := ⟨RJ1, "canEncode", "(C)Z"⟩
abbrev cJ1_inflate_0e8fd : ByteArray := prog_32_method_50_code
def yJ1_inflate_0e8fd : MethodName := ⟨RJ1, "inflate", "([BI[BII)V"⟩
def RJ2 : String := "java/lang/StringUTF16"
def TJ2 : u_T := fun k => match k with
  | _ => ("", "", "", false)
def tyJ2 : Nat → FieldType := fun k => match k with
  | _ => .int
abbrev wsJ20 : List Cond := u_ws RJ2 TJ2 0
theorem nmJ2 : ∀ a, a < 0 → ∀ b, b < 0 → a ≠ b → (TJ2 a).2.1 ≠ (TJ2 b).2.1 := by decide +kernel
theorem tyJ2_ok : ∀ k, k < 0 → parseFieldDescriptor (TJ2 k).2.2.1 = some (tyJ2 k) := by decide +kernel
abbrev cJ2_newBytesFor_77867 : ByteArray := prog_33_method_2_code
def yJ2_newBytesFor_77867 : MethodName := ⟨RJ2, "newBytesFor", "(I)[B"⟩
abbrev cJ2_newBytesLength_0f7a4 : ByteArray := prog_33_method_3_code
def yJ2_newBytesLength_0f7a4 : MethodName := ⟨RJ2, "newBytesLength", "(I)I"⟩
abbrev cJ2_putChar_b72d1 : ByteArray := prog_33_method_4_code
def yJ2_putChar_b72d1 : MethodName := ⟨RJ2, "putChar", "([BII)V"⟩
abbrev cJ2_getChar_3b067 : ByteArray := prog_33_method_5_code
def yJ2_getChar_3b067 : MethodName := ⟨RJ2, "getChar", "([BI)C"⟩
abbrev cJ2_length_9d52b : ByteArray := prog_33_method_6_code
def yJ2_length_9d52b : MethodName := ⟨RJ2, "length", "([B)I"⟩
abbrev cJ2_coderFromArrayLen_85cad : ByteArray := prog_33_method_15_code
def yJ2_coderFromArrayLen_85cad : MethodName := ⟨RJ2, "coderFromArrayLen", "([BI)B"⟩
abbrev cJ2_compress_39247 : ByteArray := prog_33_method_17_code
def yJ2_compress_39247 : MethodName := ⟨RJ2, "compress", "([BII)[B"⟩
abbrev cJ2_compress_5af95 : ByteArray := prog_33_method_22_code
def yJ2_compress_5af95 : MethodName := ⟨RJ2, "compress", "([BI[BII)I"⟩
abbrev cJ2_putCharSB_b72d1 : ByteArray := prog_33_method_71_code
def yJ2_putCharSB_b72d1 : MethodName := ⟨RJ2, "putCharSB", "([BII)V"⟩
abbrev cJ2_getChars_46870 : ByteArray := prog_33_method_77_code
def yJ2_getChars_46870 : MethodName := ⟨RJ2, "getChars", "(III[B)I"⟩
abbrev cJ2_putCharsAt_cd4e5 : ByteArray := prog_33_method_81_code
def yJ2_putCharsAt_cd4e5 : MethodName := ⟨RJ2, "putCharsAt", "([BICCCC)I"⟩
abbrev cJ2_inflate_0e8fd : ByteArray := prog_33_method_86_code
def yJ2_inflate_0e8fd : MethodName := ⟨RJ2, "inflate", "([BI[BII)V"⟩
abbrev cJ2_getChars_ba4f3 : ByteArray := prog_33_method_89_code
def yJ2_getChars_ba4f3 : MethodName := ⟨RJ2, "getChars", "(II[B)I"⟩
abbrev cJ2_checkIndex_2214a : ByteArray := prog_33_method_91_code
def yJ2_checkIndex_2214a : MethodName := ⟨RJ2, "checkIndex", "(I[B)V"⟩
abbrev cJ2_checkBoundsBeginEnd_d044e : ByteArray := prog_33_method_93_code
def yJ2_checkBoundsBeginEnd_d044e : MethodName := ⟨RJ2, "checkBoundsBeginEnd", "(II[B)V"⟩
abbrev cJ2_checkBoundsOffCount_d044e : ByteArray := prog_33_method_94_code
def yJ2_checkBoundsOffCount_d044e : MethodName := ⟨RJ2, "checkBoundsOffCount", "(II[B)V"⟩
def RJ10 : String := "java/lang/System"
def TJ10 : u_T := fun k => match k with
  | _ => ("", "", "", false)
def tyJ10 : Nat → FieldType := fun k => match k with
  | _ => .int
abbrev wsJ100 : List Cond := u_ws RJ10 TJ10 0
theorem nmJ10 : ∀ a, a < 0 → ∀ b, b < 0 → a ≠ b → (TJ10 a).2.1 ≠ (TJ10 b).2.1 := by decide +kernel
theorem tyJ10_ok : ∀ k, k < 0 → parseFieldDescriptor (TJ10 k).2.2.1 = some (tyJ10 k) := by decide +kernel
def RJxfd54e : String := "java/lang/constant/Constable"
def TJxfd54e : u_T := fun k => match k with
  | _ => ("", "", "", false)
def tyJxfd54e : Nat → FieldType := fun k => match k with
  | _ => .int
abbrev wsJxfd54e0 : List Cond := u_ws RJxfd54e TJxfd54e 0
theorem nmJxfd54e : ∀ a, a < 0 → ∀ b, b < 0 → a ≠ b → (TJxfd54e a).2.1 ≠ (TJxfd54e b).2.1 := by decide +kernel
theorem tyJxfd54e_ok : ∀ k, k < 0 → parseFieldDescriptor (TJxfd54e k).2.2.1 = some (tyJxfd54e k) := by decide +kernel
def RJx3cf43 : String := "java/lang/constant/ConstantDesc"
def TJx3cf43 : u_T := fun k => match k with
  | _ => ("", "", "", false)
def tyJx3cf43 : Nat → FieldType := fun k => match k with
  | _ => .int
abbrev wsJx3cf430 : List Cond := u_ws RJx3cf43 TJx3cf43 0
theorem nmJx3cf43 : ∀ a, a < 0 → ∀ b, b < 0 → a ≠ b → (TJx3cf43 a).2.1 ≠ (TJx3cf43 b).2.1 := by decide +kernel
theorem tyJx3cf43_ok : ∀ k, k < 0 → parseFieldDescriptor (TJx3cf43 k).2.2.1 = some (tyJx3cf43 k) := by decide +kernel
def RJxa1e45 : String := "java/util/AbstractCollection"
def TJxa1e45 : u_T := fun k => match k with
  | _ => ("", "", "", false)
def tyJxa1e45 : Nat → FieldType := fun k => match k with
  | _ => .int
abbrev wsJxa1e450 : List Cond := u_ws RJxa1e45 TJxa1e45 0
theorem nmJxa1e45 : ∀ a, a < 0 → ∀ b, b < 0 → a ≠ b → (TJxa1e45 a).2.1 ≠ (TJxa1e45 b).2.1 := by decide +kernel
theorem tyJxa1e45_ok : ∀ k, k < 0 → parseFieldDescriptor (TJxa1e45 k).2.2.1 = some (tyJxa1e45 k) := by decide +kernel
abbrev cJxa1e45_init_da8c8 : ByteArray := prog_38_method_1_code
def yJxa1e45_init_da8c8 : MethodName := ⟨RJxa1e45, "<init>", "()V"⟩
def RJxc12de : String := "java/util/AbstractList"
def TJxc12de : u_T := fun k => match k with
  | _ => ("", "", "", false)
def tyJxc12de : Nat → FieldType := fun k => match k with
  | _ => .int
abbrev wsJxc12de0 : List Cond := u_ws RJxc12de TJxc12de 0
theorem nmJxc12de : ∀ a, a < 0 → ∀ b, b < 0 → a ≠ b → (TJxc12de a).2.1 ≠ (TJxc12de b).2.1 := by decide +kernel
theorem tyJxc12de_ok : ∀ k, k < 0 → parseFieldDescriptor (TJxc12de k).2.2.1 = some (tyJxc12de k) := by decide +kernel
abbrev cJxc12de_init_da8c8 : ByteArray := prog_39_method_1_code
def yJxc12de_init_da8c8 : MethodName := ⟨RJxc12de, "<init>", "()V"⟩
def RJx35411 : String := "java/util/ArrayList$Itr"
def TJx35411 : u_T := fun k => match k with
  | 0 => ("java/util/ArrayList$Itr", "cursor", "I", false)
  | 1 => ("java/util/ArrayList$Itr", "lastRet", "I", false)
  | 2 => ("java/util/ArrayList$Itr", "expectedModCount", "I", false)
  | _ => ("java/util/ArrayList$Itr", "this$0", "Ljava/util/ArrayList;", true)
def tyJx35411 : Nat → FieldType := fun k => match k with
  | 0 => .int
  | 1 => .int
  | 2 => .int
  | _ => .object "java/util/ArrayList"
abbrev wsJx354110 : List Cond := u_ws RJx35411 TJx35411 4
theorem nmJx35411 : ∀ a, a < 4 → ∀ b, b < 4 → a ≠ b → (TJx35411 a).2.1 ≠ (TJx35411 b).2.1 := by decide +kernel
theorem tyJx35411_ok : ∀ k, k < 4 → parseFieldDescriptor (TJx35411 k).2.2.1 = some (tyJx35411 k) := by decide +kernel
abbrev cJx35411_init_45d68 : ByteArray := prog_41_method_1_code
def yJx35411_init_45d68 : MethodName := ⟨RJx35411, "<init>", "(Ljava/util/ArrayList;)V"⟩
abbrev cJx35411_hasNext_aae02 : ByteArray := prog_41_method_2_code
def yJx35411_hasNext_aae02 : MethodName := ⟨RJx35411, "hasNext", "()Z"⟩
abbrev cJx35411_next_0502b : ByteArray := prog_41_method_3_code
def yJx35411_next_0502b : MethodName := ⟨RJx35411, "next", "()Ljava/lang/Object;"⟩
abbrev cJx35411_checkForComodification_da8c8 : ByteArray := prog_41_method_6_code
def yJx35411_checkForComodification_da8c8 : MethodName := ⟨RJx35411, "checkForComodification", "()V"⟩
def RJx4a65c : String := "java/util/ArrayList"
def TJx4a65c : u_T := fun k => match k with
  | 0 => ("java/util/AbstractList", "modCount", "I", false)
  | 1 => ("java/util/ArrayList", "elementData", "[Ljava/lang/Object;", false)
  | _ => ("java/util/ArrayList", "size", "I", false)
def tyJx4a65c : Nat → FieldType := fun k => match k with
  | 0 => .int
  | 1 => .array (.object "java/lang/Object")
  | _ => .int
abbrev wsJx4a65c0 : List Cond := u_ws RJx4a65c TJx4a65c 3
theorem nmJx4a65c : ∀ a, a < 3 → ∀ b, b < 3 → a ≠ b → (TJx4a65c a).2.1 ≠ (TJx4a65c b).2.1 := by decide +kernel
theorem tyJx4a65c_ok : ∀ k, k < 3 → parseFieldDescriptor (TJx4a65c k).2.2.1 = some (tyJx4a65c k) := by decide +kernel
abbrev cJx4a65c_init_da8c8 : ByteArray := prog_40_method_2_code
def yJx4a65c_init_da8c8 : MethodName := ⟨RJx4a65c, "<init>", "()V"⟩
abbrev cJx4a65c_grow_92f84 : ByteArray := prog_40_method_6_code
def yJx4a65c_grow_92f84 : MethodName := ⟨RJx4a65c, "grow", "(I)[Ljava/lang/Object;"⟩
abbrev cJx4a65c_grow_d5877 : ByteArray := prog_40_method_7_code
def yJx4a65c_grow_d5877 : MethodName := ⟨RJx4a65c, "grow", "()[Ljava/lang/Object;"⟩
abbrev cJx4a65c_size_8abf5 : ByteArray := prog_40_method_8_code
def yJx4a65c_size_8abf5 : MethodName := ⟨RJx4a65c, "size", "()I"⟩
abbrev cJx4a65c_elementData_915e3 : ByteArray := prog_40_method_18_code
def yJx4a65c_elementData_915e3 : MethodName := ⟨RJx4a65c, "elementData", "(I)Ljava/lang/Object;"⟩
abbrev cJx4a65c_get_915e3 : ByteArray := prog_40_method_20_code
def yJx4a65c_get_915e3 : MethodName := ⟨RJx4a65c, "get", "(I)Ljava/lang/Object;"⟩
abbrev cJx4a65c_add_72be8 : ByteArray := prog_40_method_24_code
def yJx4a65c_add_72be8 : MethodName := ⟨RJx4a65c, "add", "(Ljava/lang/Object;[Ljava/lang/Object;I)V"⟩
abbrev cJx4a65c_add_9ea2d : ByteArray := prog_40_method_25_code
def yJx4a65c_add_9ea2d : MethodName := ⟨RJx4a65c, "add", "(Ljava/lang/Object;)Z"⟩
abbrev cJx4a65c_iterator_32c93 : ByteArray := prog_40_method_55_code
def yJx4a65c_iterator_32c93 : MethodName := ⟨RJx4a65c, "iterator", "()Ljava/util/Iterator;"⟩
def RJ7 : String := "java/util/Arrays"
def TJ7 : u_T := fun k => match k with
  | _ => ("", "", "", false)
def tyJ7 : Nat → FieldType := fun k => match k with
  | _ => .int
abbrev wsJ70 : List Cond := u_ws RJ7 TJ7 0
theorem nmJ7 : ∀ a, a < 0 → ∀ b, b < 0 → a ≠ b → (TJ7 a).2.1 ≠ (TJ7 b).2.1 := by decide +kernel
theorem tyJ7_ok : ∀ k, k < 0 → parseFieldDescriptor (TJ7 k).2.2.1 = some (tyJ7 k) := by decide +kernel
abbrev cJ7_copyOf_1904c : ByteArray := prog_42_method_119_code
def yJ7_copyOf_1904c : MethodName := ⟨RJ7, "copyOf", "([Ljava/lang/Object;I)[Ljava/lang/Object;"⟩
abbrev cJ7_copyOf_6403c : ByteArray := prog_42_method_120_code
def yJ7_copyOf_6403c : MethodName := ⟨RJ7, "copyOf", "([Ljava/lang/Object;ILjava/lang/Class;)[Ljava/lang/Object;"⟩
abbrev cJ7_copyOf_9075b : ByteArray := prog_42_method_121_code
def yJ7_copyOf_9075b : MethodName := ⟨RJ7, "copyOf", "([BI)[B"⟩
abbrev cJ7_checkLength_df160 : ByteArray := prog_42_method_131_code
def yJ7_checkLength_df160 : MethodName := ⟨RJ7, "checkLength", "(II)V"⟩
abbrev cJ7_copyOfRange_39247 : ByteArray := prog_42_method_132_code
def yJ7_copyOfRange_39247 : MethodName := ⟨RJ7, "copyOfRange", "([BII)[B"⟩
abbrev cJ7_copyOfRangeByte_39247 : ByteArray := prog_42_method_133_code
def yJ7_copyOfRangeByte_39247 : MethodName := ⟨RJ7, "copyOfRangeByte", "([BII)[B"⟩
def RJx5ef63 : String := "java/util/Collection"
def TJx5ef63 : u_T := fun k => match k with
  | _ => ("", "", "", false)
def tyJx5ef63 : Nat → FieldType := fun k => match k with
  | _ => .int
abbrev wsJx5ef630 : List Cond := u_ws RJx5ef63 TJx5ef63 0
theorem nmJx5ef63 : ∀ a, a < 0 → ∀ b, b < 0 → a ≠ b → (TJx5ef63 a).2.1 ≠ (TJx5ef63 b).2.1 := by decide +kernel
theorem tyJx5ef63_ok : ∀ k, k < 0 → parseFieldDescriptor (TJx5ef63 k).2.2.1 = some (tyJx5ef63 k) := by decide +kernel
def RJx4d0d8 : String := "java/util/Iterator"
def TJx4d0d8 : u_T := fun k => match k with
  | _ => ("", "", "", false)
def tyJx4d0d8 : Nat → FieldType := fun k => match k with
  | _ => .int
abbrev wsJx4d0d80 : List Cond := u_ws RJx4d0d8 TJx4d0d8 0
theorem nmJx4d0d8 : ∀ a, a < 0 → ∀ b, b < 0 → a ≠ b → (TJx4d0d8 a).2.1 ≠ (TJx4d0d8 b).2.1 := by decide +kernel
theorem tyJx4d0d8_ok : ∀ k, k < 0 → parseFieldDescriptor (TJx4d0d8 k).2.2.1 = some (tyJx4d0d8 k) := by decide +kernel
def RJxbd725 : String := "java/util/List"
def TJxbd725 : u_T := fun k => match k with
  | _ => ("", "", "", false)
def tyJxbd725 : Nat → FieldType := fun k => match k with
  | _ => .int
abbrev wsJxbd7250 : List Cond := u_ws RJxbd725 TJxbd725 0
theorem nmJxbd725 : ∀ a, a < 0 → ∀ b, b < 0 → a ≠ b → (TJxbd725 a).2.1 ≠ (TJxbd725 b).2.1 := by decide +kernel
theorem tyJxbd725_ok : ∀ k, k < 0 → parseFieldDescriptor (TJxbd725 k).2.2.1 = some (tyJxbd725 k) := by decide +kernel
def RJ15 : String := "java/util/Objects"
def TJ15 : u_T := fun k => match k with
  | _ => ("", "", "", false)
def tyJ15 : Nat → FieldType := fun k => match k with
  | _ => .int
abbrev wsJ150 : List Cond := u_ws RJ15 TJ15 0
theorem nmJ15 : ∀ a, a < 0 → ∀ b, b < 0 → a ≠ b → (TJ15 a).2.1 ≠ (TJ15 b).2.1 := by decide +kernel
theorem tyJ15_ok : ∀ k, k < 0 → parseFieldDescriptor (TJ15 k).2.2.1 = some (tyJ15 k) := by decide +kernel
abbrev cJ15_checkIndex_7cf53 : ByteArray := prog_46_method_17_code
def yJ15_checkIndex_7cf53 : MethodName := ⟨RJ15, "checkIndex", "(II)I"⟩
def RJxf0a74 : String := "java/util/RandomAccess"
def TJxf0a74 : u_T := fun k => match k with
  | _ => ("", "", "", false)
def tyJxf0a74 : Nat → FieldType := fun k => match k with
  | _ => .int
abbrev wsJxf0a740 : List Cond := u_ws RJxf0a74 TJxf0a74 0
theorem nmJxf0a74 : ∀ a, a < 0 → ∀ b, b < 0 → a ≠ b → (TJxf0a74 a).2.1 ≠ (TJxf0a74 b).2.1 := by decide +kernel
theorem tyJxf0a74_ok : ∀ k, k < 0 → parseFieldDescriptor (TJxf0a74 k).2.2.1 = some (tyJxf0a74 k) := by decide +kernel
def RJxa66e6 : String := "java/util/SequencedCollection"
def TJxa66e6 : u_T := fun k => match k with
  | _ => ("", "", "", false)
def tyJxa66e6 : Nat → FieldType := fun k => match k with
  | _ => .int
abbrev wsJxa66e60 : List Cond := u_ws RJxa66e6 TJxa66e6 0
theorem nmJxa66e6 : ∀ a, a < 0 → ∀ b, b < 0 → a ≠ b → (TJxa66e6 a).2.1 ≠ (TJxa66e6 b).2.1 := by decide +kernel
theorem tyJxa66e6_ok : ∀ k, k < 0 → parseFieldDescriptor (TJxa66e6 k).2.2.1 = some (tyJxa66e6 k) := by decide +kernel
def RJ8 : String := "jdk/internal/util/ArraysSupport"
def TJ8 : u_T := fun k => match k with
  | _ => ("", "", "", false)
def tyJ8 : Nat → FieldType := fun k => match k with
  | _ => .int
abbrev wsJ80 : List Cond := u_ws RJ8 TJ8 0
theorem nmJ8 : ∀ a, a < 0 → ∀ b, b < 0 → a ≠ b → (TJ8 a).2.1 ≠ (TJ8 b).2.1 := by decide +kernel
theorem tyJ8_ok : ∀ k, k < 0 → parseFieldDescriptor (TJ8 k).2.2.1 = some (tyJ8 k) := by decide +kernel
abbrev cJ8_newLength_cabcc : ByteArray := prog_49_method_27_code
def yJ8_newLength_cabcc : MethodName := ⟨RJ8, "newLength", "(III)I"⟩
abbrev cJ8_hugeLength_7cf53 : ByteArray := prog_49_method_28_code
def yJ8_hugeLength_7cf53 : MethodName := ⟨RJ8, "hugeLength", "(II)I"⟩
def RJ3 : String := "jdk/internal/util/Preconditions"
def TJ3 : u_T := fun k => match k with
  | _ => ("", "", "", false)
def tyJ3 : Nat → FieldType := fun k => match k with
  | _ => .int
abbrev wsJ30 : List Cond := u_ws RJ3 TJ3 0
theorem nmJ3 : ∀ a, a < 0 → ∀ b, b < 0 → a ≠ b → (TJ3 a).2.1 ≠ (TJ3 b).2.1 := by decide +kernel
theorem tyJ3_ok : ∀ k, k < 0 → parseFieldDescriptor (TJ3 k).2.2.1 = some (tyJ3 k) := by decide +kernel
abbrev cJ3_checkIndex_8e157 : ByteArray := prog_50_method_11_code
def yJ3_checkIndex_8e157 : MethodName := ⟨RJ3, "checkIndex", "(IILjava/util/function/BiFunction;)I"⟩
abbrev cJ3_checkFromToIndex_8c36e : ByteArray := prog_50_method_12_code
def yJ3_checkFromToIndex_8c36e : MethodName := ⟨RJ3, "checkFromToIndex", "(IIILjava/util/function/BiFunction;)I"⟩
abbrev cJ3_checkFromIndexSize_8c36e : ByteArray := prog_50_method_13_code
def yJ3_checkFromIndexSize_8c36e : MethodName := ⟨RJ3, "checkFromIndexSize", "(IIILjava/util/function/BiFunction;)I"⟩
def RL : String := "DoublecoatLaw"
abbrev cL_part : ByteArray := method_2_code
def yL_part : MethodName := ⟨RL, "part", "(LDoublecoat;IIILDoublecoatLaw$Out;)I"⟩
abbrev cL_player : ByteArray := method_3_code
def yL_player : MethodName := ⟨RL, "player", "(LDoublecoat;IIILDoublecoatLaw$Out;)I"⟩
abbrev cL_scene : ByteArray := method_4_code
def yL_scene : MethodName := ⟨RL, "scene", "(LDoublecoat;IILDoublecoatLaw$Out;)I"⟩
abbrev cL_pause : ByteArray := method_5_code
def yL_pause : MethodName := ⟨RL, "pause", "(LDoublecoat;IILDoublecoatLaw$Out;)I"⟩
abbrev cL_sick : ByteArray := method_6_code
def yL_sick : MethodName := ⟨RL, "sick", "(LDoublecoat;IZLDoublecoatLaw$Out;)I"⟩
abbrev cL_coat : ByteArray := method_7_code
def yL_coat : MethodName := ⟨RL, "coat", "(LDoublecoat;IIILDoublecoatLaw$Out;)I"⟩
abbrev cL_pawn : ByteArray := method_8_code
def yL_pawn : MethodName := ⟨RL, "pawn", "(LDoublecoat;IILDoublecoatLaw$Out;)I"⟩
abbrev cL_redeem : ByteArray := method_9_code
def yL_redeem : MethodName := ⟨RL, "redeem", "(LDoublecoat;IILDoublecoatLaw$Out;)I"⟩
abbrev cL_town : ByteArray := method_10_code
def yL_town : MethodName := ⟨RL, "town", "(LDoublecoat;IIILDoublecoatLaw$Out;)I"⟩
abbrev cL_night : ByteArray := method_11_code
def yL_night : MethodName := ⟨RL, "night", "(LDoublecoat;ILDoublecoatLaw$Out;)I"⟩
abbrev cL_ofPart : ByteArray := method_12_code
def yL_ofPart : MethodName := ⟨RL, "ofPart", "(LDoublecoat;IILDoublecoatLaw$Out;)I"⟩
abbrev cL_ofPlayer : ByteArray := method_13_code
def yL_ofPlayer : MethodName := ⟨RL, "ofPlayer", "(LDoublecoat;IILDoublecoatLaw$Out;)I"⟩
abbrev cL_ofScene : ByteArray := method_14_code
def yL_ofScene : MethodName := ⟨RL, "ofScene", "(LDoublecoat;IILDoublecoatLaw$Out;)I"⟩
abbrev cL_ofCoat : ByteArray := method_15_code
def yL_ofCoat : MethodName := ⟨RL, "ofCoat", "(LDoublecoat;IILDoublecoatLaw$Out;)I"⟩
abbrev cL_ofTown : ByteArray := method_16_code
def yL_ofTown : MethodName := ⟨RL, "ofTown", "(LDoublecoat;IILDoublecoatLaw$Out;)I"⟩
abbrev cL_house : ByteArray := method_17_code
def yL_house : MethodName := ⟨RL, "house", "(LDoublecoat;ILDoublecoatLaw$Out;)I"⟩
abbrev cL_tour : ByteArray := method_18_code
def yL_tour : MethodName := ⟨RL, "tour", "(LDoublecoat;IILDoublecoatLaw$Out;)I"⟩
abbrev cL_would : ByteArray := method_19_code
def yL_would : MethodName := ⟨RL, "would", "(LDoublecoat;ILDoublecoatLaw$Out;)I"⟩
abbrev cL_without : ByteArray := method_20_code
def yL_without : MethodName := ⟨RL, "without", "(LDoublecoat;ILDoublecoatLaw$Out;)I"⟩
abbrev cL_shareOf : ByteArray := method_21_code
def yL_shareOf : MethodName := ⟨RL, "shareOf", "(LDoublecoat;IILDoublecoatLaw$Out;)I"⟩
abbrev cL_law : ByteArray := code
def yL_law : MethodName := ⟨RL, "law", "([I)Z"⟩
abbrev vwCl : List vw_C := [(RJ0, TJ0, 4), (RJ4, TJ4, 4), (RJx35411, TJx35411, 4), (RJx4a65c, TJx4a65c, 3), (RX0, TX0, 9), (RX1, TX1, 6), (RX2, TX2, 7), (RX3, TX3, 6), (RX4, TX4, 7), (RX5, TX5, 9), (RX6, TX6, 1), (RX7, TX7, 4), (RX8, TX8, 3), (RX9, TX9, 5), (RX10, TX10, 2), (RX11, TX11, 3), (RX12, TX12, 20)]
end
section
theorem dX0_init_0 : decode cX0_init 0 = .ok (.aload_n 0, 1) := by decide +kernel
theorem dX0_init_1 : decode cX0_init 1 = .ok (.invokespecial 3, 3) := by decide +kernel
theorem dX0_init_4 : decode cX0_init 4 = .ok (.aload_n 0, 1) := by decide +kernel
theorem dX0_init_5 : decode cX0_init 5 = .ok (.iconst 5, 1) := by decide +kernel
theorem dX0_init_6 : decode cX0_init 6 = .ok (.newarray .int, 2) := by decide +kernel
theorem dX0_init_8 : decode cX0_init 8 = .ok (.putfield 9, 3) := by decide +kernel
theorem dX0_init_11 : decode cX0_init 11 = .ok (.aload_n 0, 1) := by decide +kernel
theorem dX0_init_12 : decode cX0_init 12 = .ok (.bipush 7, 2) := by decide +kernel
theorem dX0_init_14 : decode cX0_init 14 = .ok (.newarray .int, 2) := by decide +kernel
theorem dX0_init_16 : decode cX0_init 16 = .ok (.putfield 15, 3) := by decide +kernel
theorem dX0_init_19 : decode cX0_init 19 = .ok (.aload_n 0, 1) := by decide +kernel
theorem dX0_init_20 : decode cX0_init 20 = .ok (.bipush 7, 2) := by decide +kernel
theorem dX0_init_22 : decode cX0_init 22 = .ok (.newarray .int, 2) := by decide +kernel
theorem dX0_init_24 : decode cX0_init 24 = .ok (.putfield 18, 3) := by decide +kernel
theorem dX0_init_27 : decode cX0_init 27 = .ok (.aload_n 0, 1) := by decide +kernel
theorem dX0_init_28 : decode cX0_init 28 = .ok (.bipush 7, 2) := by decide +kernel
theorem dX0_init_30 : decode cX0_init 30 = .ok (.newarray .int, 2) := by decide +kernel
theorem dX0_init_32 : decode cX0_init 32 = .ok (.putfield 21, 3) := by decide +kernel
theorem dX0_init_35 : decode cX0_init 35 = .ok (.aload_n 0, 1) := by decide +kernel
theorem dX0_init_36 : decode cX0_init 36 = .ok (.iconst 5, 1) := by decide +kernel
theorem dX0_init_37 : decode cX0_init 37 = .ok (.newarray .int, 2) := by decide +kernel
theorem dX0_init_39 : decode cX0_init 39 = .ok (.putfield 24, 3) := by decide +kernel
theorem dX0_init_42 : decode cX0_init 42 = .ok (.return_, 1) := by decide +kernel
theorem dX0_forget_0 : decode cX0_forget 0 = .ok (.aload_n 0, 1) := by decide +kernel
theorem dX0_forget_1 : decode cX0_forget 1 = .ok (.iconst 0, 1) := by decide +kernel
theorem dX0_forget_2 : decode cX0_forget 2 = .ok (.putfield 27, 3) := by decide +kernel
theorem dX0_forget_5 : decode cX0_forget 5 = .ok (.return_, 1) := by decide +kernel
theorem dX0_recall_0 : decode cX0_recall 0 = .ok (.aload_n 0, 1) := by decide +kernel
theorem dX0_recall_1 : decode cX0_recall 1 = .ok (.getfield 27, 3) := by decide +kernel
theorem dX0_recall_4 : decode cX0_recall 4 = .ok (.ifCond .eq 4, 3) := by decide +kernel
theorem dX0_recall_7 : decode cX0_recall 7 = .ok (.return_, 1) := by decide +kernel
theorem dX0_recall_8 : decode cX0_recall 8 = .ok (.aload_n 0, 1) := by decide +kernel
theorem dX0_recall_9 : decode cX0_recall 9 = .ok (.aload_n 0, 1) := by decide +kernel
theorem dX0_recall_10 : decode cX0_recall 10 = .ok (.aload_n 1, 1) := by decide +kernel
theorem dX0_recall_11 : decode cX0_recall 11 = .ok (.aload_n 2, 1) := by decide +kernel
theorem dX0_recall_12 : decode cX0_recall 12 = .ok (.aload_n 1, 1) := by decide +kernel
theorem dX0_recall_13 : decode cX0_recall 13 = .ok (.invokevirtual 31, 3) := by decide +kernel
theorem dX0_recall_16 : decode cX0_recall 16 = .ok (.invokevirtual 37, 3) := by decide +kernel
theorem dX0_recall_19 : decode cX0_recall 19 = .ok (.putfield 41, 3) := by decide +kernel
theorem dX0_recall_22 : decode cX0_recall 22 = .ok (.iconst 0, 1) := by decide +kernel
theorem dX0_recall_23 : decode cX0_recall 23 = .ok (.istore_n 3, 1) := by decide +kernel
theorem dX0_recall_24 : decode cX0_recall 24 = .ok (.iload_n 3, 1) := by decide +kernel
theorem dX0_recall_25 : decode cX0_recall 25 = .ok (.iconst 5, 1) := by decide +kernel
theorem dX0_recall_26 : decode cX0_recall 26 = .ok (.if_icmp .ge 16, 3) := by decide +kernel
theorem dX0_recall_29 : decode cX0_recall 29 = .ok (.aload_n 0, 1) := by decide +kernel
theorem dX0_recall_30 : decode cX0_recall 30 = .ok (.getfield 9, 3) := by decide +kernel
theorem dX0_recall_33 : decode cX0_recall 33 = .ok (.iload_n 3, 1) := by decide +kernel
theorem dX0_recall_34 : decode cX0_recall 34 = .ok (.iconst 0, 1) := by decide +kernel
theorem dX0_recall_35 : decode cX0_recall 35 = .ok (.iastore, 1) := by decide +kernel
theorem dX0_recall_36 : decode cX0_recall 36 = .ok (.iinc 3 1, 3) := by decide +kernel
theorem dX0_recall_39 : decode cX0_recall 39 = .ok (.goto (-15), 3) := by decide +kernel
theorem dX0_recall_42 : decode cX0_recall 42 = .ok (.aload_n 0, 1) := by decide +kernel
theorem dX0_recall_43 : decode cX0_recall 43 = .ok (.getfield 41, 3) := by decide +kernel
theorem dX0_recall_46 : decode cX0_recall 46 = .ok (.iconst (-1), 1) := by decide +kernel
theorem dX0_recall_47 : decode cX0_recall 47 = .ok (.if_icmp .eq 8, 3) := by decide +kernel
theorem dX0_recall_50 : decode cX0_recall 50 = .ok (.aload_n 0, 1) := by decide +kernel
theorem dX0_recall_51 : decode cX0_recall 51 = .ok (.aload_n 1, 1) := by decide +kernel
theorem dX0_recall_52 : decode cX0_recall 52 = .ok (.invokevirtual 45, 3) := by decide +kernel
theorem dX0_recall_55 : decode cX0_recall 55 = .ok (.aload_n 0, 1) := by decide +kernel
theorem dX0_recall_56 : decode cX0_recall 56 = .ok (.aload_n 0, 1) := by decide +kernel
theorem dX0_recall_57 : decode cX0_recall 57 = .ok (.aload_n 1, 1) := by decide +kernel
theorem dX0_recall_58 : decode cX0_recall 58 = .ok (.aload_n 2, 1) := by decide +kernel
theorem dX0_recall_59 : decode cX0_recall 59 = .ok (.invokevirtual 49, 3) := by decide +kernel
theorem dX0_recall_62 : decode cX0_recall 62 = .ok (.putfield 53, 3) := by decide +kernel
theorem dX0_recall_65 : decode cX0_recall 65 = .ok (.aload_n 0, 1) := by decide +kernel
theorem dX0_recall_66 : decode cX0_recall 66 = .ok (.iconst 1, 1) := by decide +kernel
theorem dX0_recall_67 : decode cX0_recall 67 = .ok (.putfield 27, 3) := by decide +kernel
theorem dX0_recall_70 : decode cX0_recall 70 = .ok (.return_, 1) := by decide +kernel
theorem dX0_keepFirst_0 : decode cX0_keepFirst 0 = .ok (.aload_n 0, 1) := by decide +kernel
theorem dX0_keepFirst_1 : decode cX0_keepFirst 1 = .ok (.aload_n 1, 1) := by decide +kernel
theorem dX0_keepFirst_2 : decode cX0_keepFirst 2 = .ok (.aload_n 1, 1) := by decide +kernel
theorem dX0_keepFirst_3 : decode cX0_keepFirst 3 = .ok (.invokevirtual 31, 3) := by decide +kernel
theorem dX0_keepFirst_6 : decode cX0_keepFirst 6 = .ok (.invokevirtual 56, 3) := by decide +kernel
theorem dX0_keepFirst_9 : decode cX0_keepFirst 9 = .ok (.invokevirtual 60, 3) := by decide +kernel
theorem dX0_keepFirst_12 : decode cX0_keepFirst 12 = .ok (.aload_n 0, 1) := by decide +kernel
theorem dX0_keepFirst_13 : decode cX0_keepFirst 13 = .ok (.aload_n 0, 1) := by decide +kernel
theorem dX0_keepFirst_14 : decode cX0_keepFirst 14 = .ok (.getfield 41, 3) := by decide +kernel
theorem dX0_keepFirst_17 : decode cX0_keepFirst 17 = .ok (.invokevirtual 64, 3) := by decide +kernel
theorem dX0_keepFirst_20 : decode cX0_keepFirst 20 = .ok (.ifCond .eq 17, 3) := by decide +kernel
theorem dX0_keepFirst_23 : decode cX0_keepFirst 23 = .ok (.aload_n 0, 1) := by decide +kernel
theorem dX0_keepFirst_24 : decode cX0_keepFirst 24 = .ok (.getfield 24, 3) := by decide +kernel
theorem dX0_keepFirst_27 : decode cX0_keepFirst 27 = .ok (.iconst 0, 1) := by decide +kernel
theorem dX0_keepFirst_28 : decode cX0_keepFirst 28 = .ok (.aload_n 0, 1) := by decide +kernel
theorem dX0_keepFirst_29 : decode cX0_keepFirst 29 = .ok (.getfield 9, 3) := by decide +kernel
theorem dX0_keepFirst_32 : decode cX0_keepFirst 32 = .ok (.iconst 0, 1) := by decide +kernel
theorem dX0_keepFirst_33 : decode cX0_keepFirst 33 = .ok (.iconst 5, 1) := by decide +kernel
theorem dX0_keepFirst_34 : decode cX0_keepFirst 34 = .ok (.invokestatic 68, 3) := by decide +kernel
theorem dX0_keepFirst_37 : decode cX0_keepFirst 37 = .ok (.return_, 1) := by decide +kernel
theorem dX0_fewestCut_0 : decode cX0_fewestCut 0 = .ok (.iconst 0, 1) := by decide +kernel
theorem dX0_fewestCut_1 : decode cX0_fewestCut 1 = .ok (.istore_n 3, 1) := by decide +kernel
theorem dX0_fewestCut_2 : decode cX0_fewestCut 2 = .ok (.iload_n 3, 1) := by decide +kernel
theorem dX0_fewestCut_3 : decode cX0_fewestCut 3 = .ok (.aload_n 1, 1) := by decide +kernel
theorem dX0_fewestCut_4 : decode cX0_fewestCut 4 = .ok (.getfield 74, 3) := by decide +kernel
theorem dX0_fewestCut_7 : decode cX0_fewestCut 7 = .ok (.if_icmp .ge 67, 3) := by decide +kernel
theorem dX0_fewestCut_10 : decode cX0_fewestCut 10 = .ok (.iconst 0, 1) := by decide +kernel
theorem dX0_fewestCut_11 : decode cX0_fewestCut 11 = .ok (.istore 4, 2) := by decide +kernel
theorem dX0_fewestCut_13 : decode cX0_fewestCut 13 = .ok (.iload 4, 2) := by decide +kernel
theorem dX0_fewestCut_15 : decode cX0_fewestCut 15 = .ok (.iconst 1, 1) := by decide +kernel
theorem dX0_fewestCut_16 : decode cX0_fewestCut 16 = .ok (.aload_n 1, 1) := by decide +kernel
theorem dX0_fewestCut_17 : decode cX0_fewestCut 17 = .ok (.getfield 74, 3) := by decide +kernel
theorem dX0_fewestCut_20 : decode cX0_fewestCut 20 = .ok (.ishl, 1) := by decide +kernel
theorem dX0_fewestCut_21 : decode cX0_fewestCut 21 = .ok (.if_icmp .ge 47, 3) := by decide +kernel
theorem dX0_fewestCut_24 : decode cX0_fewestCut 24 = .ok (.iload 4, 2) := by decide +kernel
theorem dX0_fewestCut_26 : decode cX0_fewestCut 26 = .ok (.invokestatic 77, 3) := by decide +kernel
theorem dX0_fewestCut_29 : decode cX0_fewestCut 29 = .ok (.iload_n 3, 1) := by decide +kernel
theorem dX0_fewestCut_30 : decode cX0_fewestCut 30 = .ok (.if_icmp .eq 6, 3) := by decide +kernel
theorem dX0_fewestCut_33 : decode cX0_fewestCut 33 = .ok (.goto 29, 3) := by decide +kernel
theorem dX0_fewestCut_36 : decode cX0_fewestCut 36 = .ok (.aload_n 0, 1) := by decide +kernel
theorem dX0_fewestCut_37 : decode cX0_fewestCut 37 = .ok (.aload_n 1, 1) := by decide +kernel
theorem dX0_fewestCut_38 : decode cX0_fewestCut 38 = .ok (.aload_n 2, 1) := by decide +kernel
theorem dX0_fewestCut_39 : decode cX0_fewestCut 39 = .ok (.aload_n 1, 1) := by decide +kernel
theorem dX0_fewestCut_40 : decode cX0_fewestCut 40 = .ok (.invokevirtual 31, 3) := by decide +kernel
theorem dX0_fewestCut_43 : decode cX0_fewestCut 43 = .ok (.iload 4, 2) := by decide +kernel
theorem dX0_fewestCut_45 : decode cX0_fewestCut 45 = .ok (.iconst (-1), 1) := by decide +kernel
theorem dX0_fewestCut_46 : decode cX0_fewestCut 46 = .ok (.ixor, 1) := by decide +kernel
theorem dX0_fewestCut_47 : decode cX0_fewestCut 47 = .ok (.iand, 1) := by decide +kernel
theorem dX0_fewestCut_48 : decode cX0_fewestCut 48 = .ok (.invokevirtual 82, 3) := by decide +kernel
theorem dX0_fewestCut_51 : decode cX0_fewestCut 51 = .ok (.aload_n 0, 1) := by decide +kernel
theorem dX0_fewestCut_52 : decode cX0_fewestCut 52 = .ok (.iconst 5, 1) := by decide +kernel
theorem dX0_fewestCut_53 : decode cX0_fewestCut 53 = .ok (.invokevirtual 64, 3) := by decide +kernel
theorem dX0_fewestCut_56 : decode cX0_fewestCut 56 = .ok (.ifCond .eq 6, 3) := by decide +kernel
theorem dX0_fewestCut_59 : decode cX0_fewestCut 59 = .ok (.iload 4, 2) := by decide +kernel
theorem dX0_fewestCut_61 : decode cX0_fewestCut 61 = .ok (.ireturn, 1) := by decide +kernel
theorem dX0_fewestCut_62 : decode cX0_fewestCut 62 = .ok (.iinc 4 1, 3) := by decide +kernel
theorem dX0_fewestCut_65 : decode cX0_fewestCut 65 = .ok (.goto (-52), 3) := by decide +kernel
theorem dX0_fewestCut_68 : decode cX0_fewestCut 68 = .ok (.iinc 3 1, 3) := by decide +kernel
theorem dX0_fewestCut_71 : decode cX0_fewestCut 71 = .ok (.goto (-69), 3) := by decide +kernel
theorem dX0_fewestCut_74 : decode cX0_fewestCut 74 = .ok (.aload_n 1, 1) := by decide +kernel
theorem dX0_fewestCut_75 : decode cX0_fewestCut 75 = .ok (.invokevirtual 31, 3) := by decide +kernel
theorem dX0_fewestCut_78 : decode cX0_fewestCut 78 = .ok (.ireturn, 1) := by decide +kernel
theorem dX0_playerOf_0 : decode cX0_playerOf 0 = .ok (.iconst 0, 1) := by decide +kernel
theorem dX0_playerOf_1 : decode cX0_playerOf 1 = .ok (.istore_n 2, 1) := by decide +kernel
theorem dX0_playerOf_2 : decode cX0_playerOf 2 = .ok (.iload_n 2, 1) := by decide +kernel
theorem dX0_playerOf_3 : decode cX0_playerOf 3 = .ok (.iconst 5, 1) := by decide +kernel
theorem dX0_playerOf_4 : decode cX0_playerOf 4 = .ok (.if_icmp .ge 24, 3) := by decide +kernel
theorem dX0_playerOf_7 : decode cX0_playerOf 7 = .ok (.aload_n 0, 1) := by decide +kernel
theorem dX0_playerOf_8 : decode cX0_playerOf 8 = .ok (.getfield 9, 3) := by decide +kernel
theorem dX0_playerOf_11 : decode cX0_playerOf 11 = .ok (.iload_n 2, 1) := by decide +kernel
theorem dX0_playerOf_12 : decode cX0_playerOf 12 = .ok (.iaload, 1) := by decide +kernel
theorem dX0_playerOf_13 : decode cX0_playerOf 13 = .ok (.iload_n 1, 1) := by decide +kernel
theorem dX0_playerOf_14 : decode cX0_playerOf 14 = .ok (.invokestatic 86, 3) := by decide +kernel
theorem dX0_playerOf_17 : decode cX0_playerOf 17 = .ok (.ifCond .eq 5, 3) := by decide +kernel
theorem dX0_playerOf_20 : decode cX0_playerOf 20 = .ok (.iload_n 2, 1) := by decide +kernel
theorem dX0_playerOf_21 : decode cX0_playerOf 21 = .ok (.ireturn, 1) := by decide +kernel
theorem dX0_playerOf_22 : decode cX0_playerOf 22 = .ok (.iinc 2 1, 3) := by decide +kernel
theorem dX0_playerOf_25 : decode cX0_playerOf 25 = .ok (.goto (-23), 3) := by decide +kernel
theorem dX0_playerOf_28 : decode cX0_playerOf 28 = .ok (.iconst (-1), 1) := by decide +kernel
theorem dX0_playerOf_29 : decode cX0_playerOf 29 = .ok (.ireturn, 1) := by decide +kernel
theorem dX0_actors_0 : decode cX0_actors 0 = .ok (.iconst 0, 1) := by decide +kernel
theorem dX0_actors_1 : decode cX0_actors 1 = .ok (.istore_n 1, 1) := by decide +kernel
theorem dX0_actors_2 : decode cX0_actors 2 = .ok (.iconst 0, 1) := by decide +kernel
theorem dX0_actors_3 : decode cX0_actors 3 = .ok (.istore_n 2, 1) := by decide +kernel
theorem dX0_actors_4 : decode cX0_actors 4 = .ok (.iload_n 2, 1) := by decide +kernel
theorem dX0_actors_5 : decode cX0_actors 5 = .ok (.iconst 5, 1) := by decide +kernel
theorem dX0_actors_6 : decode cX0_actors 6 = .ok (.if_icmp .ge 24, 3) := by decide +kernel
theorem dX0_actors_9 : decode cX0_actors 9 = .ok (.aload_n 0, 1) := by decide +kernel
theorem dX0_actors_10 : decode cX0_actors 10 = .ok (.getfield 9, 3) := by decide +kernel
theorem dX0_actors_13 : decode cX0_actors 13 = .ok (.iload_n 2, 1) := by decide +kernel
theorem dX0_actors_14 : decode cX0_actors 14 = .ok (.iaload, 1) := by decide +kernel
theorem dX0_actors_15 : decode cX0_actors 15 = .ok (.ifCond .eq 9, 3) := by decide +kernel
theorem dX0_actors_18 : decode cX0_actors 18 = .ok (.iload_n 1, 1) := by decide +kernel
theorem dX0_actors_19 : decode cX0_actors 19 = .ok (.iconst 1, 1) := by decide +kernel
theorem dX0_actors_20 : decode cX0_actors 20 = .ok (.iload_n 2, 1) := by decide +kernel
theorem dX0_actors_21 : decode cX0_actors 21 = .ok (.ishl, 1) := by decide +kernel
theorem dX0_actors_22 : decode cX0_actors 22 = .ok (.ior, 1) := by decide +kernel
theorem dX0_actors_23 : decode cX0_actors 23 = .ok (.istore_n 1, 1) := by decide +kernel
theorem dX0_actors_24 : decode cX0_actors 24 = .ok (.iinc 2 1, 3) := by decide +kernel
theorem dX0_actors_27 : decode cX0_actors 27 = .ok (.goto (-23), 3) := by decide +kernel
theorem dX0_actors_30 : decode cX0_actors 30 = .ok (.iload_n 1, 1) := by decide +kernel
theorem dX0_actors_31 : decode cX0_actors 31 = .ok (.ireturn, 1) := by decide +kernel
theorem dX0_clashesOf_0 : decode cX0_clashesOf 0 = .ok (.aload_n 2, 1) := by decide +kernel
theorem dX0_clashesOf_1 : decode cX0_clashesOf 1 = .ok (.aload_n 2, 1) := by decide +kernel
theorem dX0_clashesOf_2 : decode cX0_clashesOf 2 = .ok (.invokevirtual 31, 3) := by decide +kernel
theorem dX0_clashesOf_5 : decode cX0_clashesOf 5 = .ok (.aload_n 0, 1) := by decide +kernel
theorem dX0_clashesOf_6 : decode cX0_clashesOf 6 = .ok (.getfield 18, 3) := by decide +kernel
theorem dX0_clashesOf_9 : decode cX0_clashesOf 9 = .ok (.invokevirtual 90, 3) := by decide +kernel
theorem dX0_clashesOf_12 : decode cX0_clashesOf 12 = .ok (.aload_n 0, 1) := by decide +kernel
theorem dX0_clashesOf_13 : decode cX0_clashesOf 13 = .ok (.getfield 18, 3) := by decide +kernel
theorem dX0_clashesOf_16 : decode cX0_clashesOf 16 = .ok (.iload_n 1, 1) := by decide +kernel
theorem dX0_clashesOf_17 : decode cX0_clashesOf 17 = .ok (.iaload, 1) := by decide +kernel
theorem dX0_clashesOf_18 : decode cX0_clashesOf 18 = .ok (.ireturn, 1) := by decide +kernel
theorem dX0_fewest_0 : decode cX0_fewest 0 = .ok (.aload_n 0, 1) := by decide +kernel
theorem dX0_fewest_1 : decode cX0_fewest 1 = .ok (.aload_n 1, 1) := by decide +kernel
theorem dX0_fewest_2 : decode cX0_fewest 2 = .ok (.aload_n 2, 1) := by decide +kernel
theorem dX0_fewest_3 : decode cX0_fewest 3 = .ok (.iload_n 3, 1) := by decide +kernel
theorem dX0_fewest_4 : decode cX0_fewest 4 = .ok (.invokevirtual 82, 3) := by decide +kernel
theorem dX0_fewest_7 : decode cX0_fewest 7 = .ok (.aload_n 0, 1) := by decide +kernel
theorem dX0_fewest_8 : decode cX0_fewest 8 = .ok (.iconst 5, 1) := by decide +kernel
theorem dX0_fewest_9 : decode cX0_fewest 9 = .ok (.invokevirtual 64, 3) := by decide +kernel
theorem dX0_fewest_12 : decode cX0_fewest 12 = .ok (.ifCond .ne 5, 3) := by decide +kernel
theorem dX0_fewest_15 : decode cX0_fewest 15 = .ok (.iconst (-1), 1) := by decide +kernel
theorem dX0_fewest_16 : decode cX0_fewest 16 = .ok (.ireturn, 1) := by decide +kernel
theorem dX0_fewest_17 : decode cX0_fewest 17 = .ok (.iconst 0, 1) := by decide +kernel
theorem dX0_fewest_18 : decode cX0_fewest 18 = .ok (.istore 4, 2) := by decide +kernel
theorem dX0_fewest_20 : decode cX0_fewest 20 = .ok (.iload 4, 2) := by decide +kernel
theorem dX0_fewest_22 : decode cX0_fewest 22 = .ok (.iconst 5, 1) := by decide +kernel
theorem dX0_fewest_23 : decode cX0_fewest 23 = .ok (.if_icmp .ge 21, 3) := by decide +kernel
theorem dX0_fewest_26 : decode cX0_fewest 26 = .ok (.aload_n 0, 1) := by decide +kernel
theorem dX0_fewest_27 : decode cX0_fewest 27 = .ok (.iload 4, 2) := by decide +kernel
theorem dX0_fewest_29 : decode cX0_fewest 29 = .ok (.invokevirtual 64, 3) := by decide +kernel
theorem dX0_fewest_32 : decode cX0_fewest 32 = .ok (.ifCond .eq 6, 3) := by decide +kernel
theorem dX0_fewest_35 : decode cX0_fewest 35 = .ok (.iload 4, 2) := by decide +kernel
theorem dX0_fewest_37 : decode cX0_fewest 37 = .ok (.ireturn, 1) := by decide +kernel
theorem dX0_fewest_38 : decode cX0_fewest 38 = .ok (.iinc 4 1, 3) := by decide +kernel
theorem dX0_fewest_41 : decode cX0_fewest 41 = .ok (.goto (-21), 3) := by decide +kernel
theorem dX0_fewest_44 : decode cX0_fewest 44 = .ok (.iconst 5, 1) := by decide +kernel
theorem dX0_fewest_45 : decode cX0_fewest 45 = .ok (.ireturn, 1) := by decide +kernel
theorem dX0_prepare_0 : decode cX0_prepare 0 = .ok (.aload_n 1, 1) := by decide +kernel
theorem dX0_prepare_1 : decode cX0_prepare 1 = .ok (.iload_n 3, 1) := by decide +kernel
theorem dX0_prepare_2 : decode cX0_prepare 2 = .ok (.aload_n 0, 1) := by decide +kernel
theorem dX0_prepare_3 : decode cX0_prepare 3 = .ok (.getfield 18, 3) := by decide +kernel
theorem dX0_prepare_6 : decode cX0_prepare 6 = .ok (.invokevirtual 90, 3) := by decide +kernel
theorem dX0_prepare_9 : decode cX0_prepare 9 = .ok (.iconst 0, 1) := by decide +kernel
theorem dX0_prepare_10 : decode cX0_prepare 10 = .ok (.istore 4, 2) := by decide +kernel
theorem dX0_prepare_12 : decode cX0_prepare 12 = .ok (.iload 4, 2) := by decide +kernel
theorem dX0_prepare_14 : decode cX0_prepare 14 = .ok (.aload_n 1, 1) := by decide +kernel
theorem dX0_prepare_15 : decode cX0_prepare 15 = .ok (.getfield 94, 3) := by decide +kernel
theorem dX0_prepare_18 : decode cX0_prepare 18 = .ok (.if_icmp .ge 29, 3) := by decide +kernel
theorem dX0_prepare_21 : decode cX0_prepare 21 = .ok (.aload_n 0, 1) := by decide +kernel
theorem dX0_prepare_22 : decode cX0_prepare 22 = .ok (.getfield 15, 3) := by decide +kernel
theorem dX0_prepare_25 : decode cX0_prepare 25 = .ok (.iload 4, 2) := by decide +kernel
theorem dX0_prepare_27 : decode cX0_prepare 27 = .ok (.aload_n 2, 1) := by decide +kernel
theorem dX0_prepare_28 : decode cX0_prepare 28 = .ok (.iconst 1, 1) := by decide +kernel
theorem dX0_prepare_29 : decode cX0_prepare 29 = .ok (.aload_n 1, 1) := by decide +kernel
theorem dX0_prepare_30 : decode cX0_prepare 30 = .ok (.getfield 97, 3) := by decide +kernel
theorem dX0_prepare_33 : decode cX0_prepare 33 = .ok (.iload 4, 2) := by decide +kernel
theorem dX0_prepare_35 : decode cX0_prepare 35 = .ok (.iaload, 1) := by decide +kernel
theorem dX0_prepare_36 : decode cX0_prepare 36 = .ok (.ishl, 1) := by decide +kernel
theorem dX0_prepare_37 : decode cX0_prepare 37 = .ok (.invokevirtual 100, 3) := by decide +kernel
theorem dX0_prepare_40 : decode cX0_prepare 40 = .ok (.iastore, 1) := by decide +kernel
theorem dX0_prepare_41 : decode cX0_prepare 41 = .ok (.iinc 4 1, 3) := by decide +kernel
theorem dX0_prepare_44 : decode cX0_prepare 44 = .ok (.goto (-32), 3) := by decide +kernel
theorem dX0_prepare_47 : decode cX0_prepare 47 = .ok (.aload_n 0, 1) := by decide +kernel
theorem dX0_prepare_48 : decode cX0_prepare 48 = .ok (.aload_n 1, 1) := by decide +kernel
theorem dX0_prepare_49 : decode cX0_prepare 49 = .ok (.iload_n 3, 1) := by decide +kernel
theorem dX0_prepare_50 : decode cX0_prepare 50 = .ok (.invokevirtual 56, 3) := by decide +kernel
theorem dX0_prepare_53 : decode cX0_prepare 53 = .ok (.invokevirtual 105, 3) := by decide +kernel
theorem dX0_prepare_56 : decode cX0_prepare 56 = .ok (.return_, 1) := by decide +kernel
theorem dX0_orderByChoice_0 : decode cX0_orderByChoice 0 = .ok (.aload_n 0, 1) := by decide +kernel
theorem dX0_orderByChoice_1 : decode cX0_orderByChoice 1 = .ok (.iconst 0, 1) := by decide +kernel
theorem dX0_orderByChoice_2 : decode cX0_orderByChoice 2 = .ok (.putfield 108, 3) := by decide +kernel
theorem dX0_orderByChoice_5 : decode cX0_orderByChoice 5 = .ok (.iconst 0, 1) := by decide +kernel
theorem dX0_orderByChoice_6 : decode cX0_orderByChoice 6 = .ok (.istore_n 2, 1) := by decide +kernel
theorem dX0_orderByChoice_7 : decode cX0_orderByChoice 7 = .ok (.iload_n 2, 1) := by decide +kernel
theorem dX0_orderByChoice_8 : decode cX0_orderByChoice 8 = .ok (.iconst 5, 1) := by decide +kernel
theorem dX0_orderByChoice_9 : decode cX0_orderByChoice 9 = .ok (.if_icmp .gt 64, 3) := by decide +kernel
theorem dX0_orderByChoice_12 : decode cX0_orderByChoice 12 = .ok (.iconst 0, 1) := by decide +kernel
theorem dX0_orderByChoice_13 : decode cX0_orderByChoice 13 = .ok (.istore_n 3, 1) := by decide +kernel
theorem dX0_orderByChoice_14 : decode cX0_orderByChoice 14 = .ok (.iload_n 3, 1) := by decide +kernel
theorem dX0_orderByChoice_15 : decode cX0_orderByChoice 15 = .ok (.bipush 7, 2) := by decide +kernel
theorem dX0_orderByChoice_17 : decode cX0_orderByChoice 17 = .ok (.if_icmp .ge 50, 3) := by decide +kernel
theorem dX0_orderByChoice_20 : decode cX0_orderByChoice 20 = .ok (.iload_n 1, 1) := by decide +kernel
theorem dX0_orderByChoice_21 : decode cX0_orderByChoice 21 = .ok (.iload_n 3, 1) := by decide +kernel
theorem dX0_orderByChoice_22 : decode cX0_orderByChoice 22 = .ok (.invokestatic 86, 3) := by decide +kernel
theorem dX0_orderByChoice_25 : decode cX0_orderByChoice 25 = .ok (.ifCond .eq 36, 3) := by decide +kernel
theorem dX0_orderByChoice_28 : decode cX0_orderByChoice 28 = .ok (.aload_n 0, 1) := by decide +kernel
theorem dX0_orderByChoice_29 : decode cX0_orderByChoice 29 = .ok (.getfield 15, 3) := by decide +kernel
theorem dX0_orderByChoice_32 : decode cX0_orderByChoice 32 = .ok (.iload_n 3, 1) := by decide +kernel
theorem dX0_orderByChoice_33 : decode cX0_orderByChoice 33 = .ok (.iaload, 1) := by decide +kernel
theorem dX0_orderByChoice_34 : decode cX0_orderByChoice 34 = .ok (.invokestatic 77, 3) := by decide +kernel
theorem dX0_orderByChoice_37 : decode cX0_orderByChoice 37 = .ok (.iload_n 2, 1) := by decide +kernel
theorem dX0_orderByChoice_38 : decode cX0_orderByChoice 38 = .ok (.if_icmp .ne 23, 3) := by decide +kernel
theorem dX0_orderByChoice_41 : decode cX0_orderByChoice 41 = .ok (.aload_n 0, 1) := by decide +kernel
theorem dX0_orderByChoice_42 : decode cX0_orderByChoice 42 = .ok (.getfield 21, 3) := by decide +kernel
theorem dX0_orderByChoice_45 : decode cX0_orderByChoice 45 = .ok (.aload_n 0, 1) := by decide +kernel
theorem dX0_orderByChoice_46 : decode cX0_orderByChoice 46 = .ok (.getfield 108, 3) := by decide +kernel
theorem dX0_orderByChoice_49 : decode cX0_orderByChoice 49 = .ok (.iload_n 3, 1) := by decide +kernel
theorem dX0_orderByChoice_50 : decode cX0_orderByChoice 50 = .ok (.iastore, 1) := by decide +kernel
theorem dX0_orderByChoice_51 : decode cX0_orderByChoice 51 = .ok (.aload_n 0, 1) := by decide +kernel
theorem dX0_orderByChoice_52 : decode cX0_orderByChoice 52 = .ok (.dup, 1) := by decide +kernel
theorem dX0_orderByChoice_53 : decode cX0_orderByChoice 53 = .ok (.getfield 108, 3) := by decide +kernel
theorem dX0_orderByChoice_56 : decode cX0_orderByChoice 56 = .ok (.iconst 1, 1) := by decide +kernel
theorem dX0_orderByChoice_57 : decode cX0_orderByChoice 57 = .ok (.iadd, 1) := by decide +kernel
theorem dX0_orderByChoice_58 : decode cX0_orderByChoice 58 = .ok (.putfield 108, 3) := by decide +kernel
theorem dX0_orderByChoice_61 : decode cX0_orderByChoice 61 = .ok (.iinc 3 1, 3) := by decide +kernel
theorem dX0_orderByChoice_64 : decode cX0_orderByChoice 64 = .ok (.goto (-50), 3) := by decide +kernel
theorem dX0_orderByChoice_67 : decode cX0_orderByChoice 67 = .ok (.iinc 2 1, 3) := by decide +kernel
theorem dX0_orderByChoice_70 : decode cX0_orderByChoice 70 = .ok (.goto (-63), 3) := by decide +kernel
theorem dX0_orderByChoice_73 : decode cX0_orderByChoice 73 = .ok (.return_, 1) := by decide +kernel
theorem dX0_orderByNumber_0 : decode cX0_orderByNumber 0 = .ok (.aload_n 0, 1) := by decide +kernel
theorem dX0_orderByNumber_1 : decode cX0_orderByNumber 1 = .ok (.iconst 0, 1) := by decide +kernel
theorem dX0_orderByNumber_2 : decode cX0_orderByNumber 2 = .ok (.putfield 108, 3) := by decide +kernel
theorem dX0_orderByNumber_5 : decode cX0_orderByNumber 5 = .ok (.iconst 0, 1) := by decide +kernel
theorem dX0_orderByNumber_6 : decode cX0_orderByNumber 6 = .ok (.istore_n 2, 1) := by decide +kernel
theorem dX0_orderByNumber_7 : decode cX0_orderByNumber 7 = .ok (.iload_n 2, 1) := by decide +kernel
theorem dX0_orderByNumber_8 : decode cX0_orderByNumber 8 = .ok (.bipush 7, 2) := by decide +kernel
theorem dX0_orderByNumber_10 : decode cX0_orderByNumber 10 = .ok (.if_icmp .ge 37, 3) := by decide +kernel
theorem dX0_orderByNumber_13 : decode cX0_orderByNumber 13 = .ok (.iload_n 1, 1) := by decide +kernel
theorem dX0_orderByNumber_14 : decode cX0_orderByNumber 14 = .ok (.iload_n 2, 1) := by decide +kernel
theorem dX0_orderByNumber_15 : decode cX0_orderByNumber 15 = .ok (.invokestatic 86, 3) := by decide +kernel
theorem dX0_orderByNumber_18 : decode cX0_orderByNumber 18 = .ok (.ifCond .eq 23, 3) := by decide +kernel
theorem dX0_orderByNumber_21 : decode cX0_orderByNumber 21 = .ok (.aload_n 0, 1) := by decide +kernel
theorem dX0_orderByNumber_22 : decode cX0_orderByNumber 22 = .ok (.getfield 21, 3) := by decide +kernel
theorem dX0_orderByNumber_25 : decode cX0_orderByNumber 25 = .ok (.aload_n 0, 1) := by decide +kernel
theorem dX0_orderByNumber_26 : decode cX0_orderByNumber 26 = .ok (.getfield 108, 3) := by decide +kernel
theorem dX0_orderByNumber_29 : decode cX0_orderByNumber 29 = .ok (.iload_n 2, 1) := by decide +kernel
theorem dX0_orderByNumber_30 : decode cX0_orderByNumber 30 = .ok (.iastore, 1) := by decide +kernel
theorem dX0_orderByNumber_31 : decode cX0_orderByNumber 31 = .ok (.aload_n 0, 1) := by decide +kernel
theorem dX0_orderByNumber_32 : decode cX0_orderByNumber 32 = .ok (.dup, 1) := by decide +kernel
theorem dX0_orderByNumber_33 : decode cX0_orderByNumber 33 = .ok (.getfield 108, 3) := by decide +kernel
theorem dX0_orderByNumber_36 : decode cX0_orderByNumber 36 = .ok (.iconst 1, 1) := by decide +kernel
theorem dX0_orderByNumber_37 : decode cX0_orderByNumber 37 = .ok (.iadd, 1) := by decide +kernel
theorem dX0_orderByNumber_38 : decode cX0_orderByNumber 38 = .ok (.putfield 108, 3) := by decide +kernel
theorem dX0_orderByNumber_41 : decode cX0_orderByNumber 41 = .ok (.iinc 2 1, 3) := by decide +kernel
theorem dX0_orderByNumber_44 : decode cX0_orderByNumber 44 = .ok (.goto (-37), 3) := by decide +kernel
theorem dX0_orderByNumber_47 : decode cX0_orderByNumber 47 = .ok (.return_, 1) := by decide +kernel
theorem dX0_canPlace_0 : decode cX0_canPlace 0 = .ok (.iconst 0, 1) := by decide +kernel
theorem dX0_canPlace_1 : decode cX0_canPlace 1 = .ok (.istore_n 2, 1) := by decide +kernel
theorem dX0_canPlace_2 : decode cX0_canPlace 2 = .ok (.iload_n 2, 1) := by decide +kernel
theorem dX0_canPlace_3 : decode cX0_canPlace 3 = .ok (.iconst 5, 1) := by decide +kernel
theorem dX0_canPlace_4 : decode cX0_canPlace 4 = .ok (.if_icmp .ge 16, 3) := by decide +kernel
theorem dX0_canPlace_7 : decode cX0_canPlace 7 = .ok (.aload_n 0, 1) := by decide +kernel
theorem dX0_canPlace_8 : decode cX0_canPlace 8 = .ok (.getfield 24, 3) := by decide +kernel
theorem dX0_canPlace_11 : decode cX0_canPlace 11 = .ok (.iload_n 2, 1) := by decide +kernel
theorem dX0_canPlace_12 : decode cX0_canPlace 12 = .ok (.iconst 0, 1) := by decide +kernel
theorem dX0_canPlace_13 : decode cX0_canPlace 13 = .ok (.iastore, 1) := by decide +kernel
theorem dX0_canPlace_14 : decode cX0_canPlace 14 = .ok (.iinc 2 1, 3) := by decide +kernel
theorem dX0_canPlace_17 : decode cX0_canPlace 17 = .ok (.goto (-15), 3) := by decide +kernel
theorem dX0_canPlace_20 : decode cX0_canPlace 20 = .ok (.aload_n 0, 1) := by decide +kernel
theorem dX0_canPlace_21 : decode cX0_canPlace 21 = .ok (.iconst 0, 1) := by decide +kernel
theorem dX0_canPlace_22 : decode cX0_canPlace 22 = .ok (.iload_n 1, 1) := by decide +kernel
theorem dX0_canPlace_23 : decode cX0_canPlace 23 = .ok (.invokestatic 111, 3) := by decide +kernel
theorem dX0_canPlace_26 : decode cX0_canPlace 26 = .ok (.ireturn, 1) := by decide +kernel
theorem dX0_canPlaceFrom_0 : decode cX0_canPlaceFrom 0 = .ok (.iload_n 1, 1) := by decide +kernel
theorem dX0_canPlaceFrom_1 : decode cX0_canPlaceFrom 1 = .ok (.aload_n 0, 1) := by decide +kernel
theorem dX0_canPlaceFrom_2 : decode cX0_canPlaceFrom 2 = .ok (.getfield 108, 3) := by decide +kernel
theorem dX0_canPlaceFrom_5 : decode cX0_canPlaceFrom 5 = .ok (.if_icmp .lt 5, 3) := by decide +kernel
theorem dX0_canPlaceFrom_8 : decode cX0_canPlaceFrom 8 = .ok (.iconst 1, 1) := by decide +kernel
theorem dX0_canPlaceFrom_9 : decode cX0_canPlaceFrom 9 = .ok (.ireturn, 1) := by decide +kernel
theorem dX0_canPlaceFrom_10 : decode cX0_canPlaceFrom 10 = .ok (.aload_n 0, 1) := by decide +kernel
theorem dX0_canPlaceFrom_11 : decode cX0_canPlaceFrom 11 = .ok (.getfield 21, 3) := by decide +kernel
theorem dX0_canPlaceFrom_14 : decode cX0_canPlaceFrom 14 = .ok (.iload_n 1, 1) := by decide +kernel
theorem dX0_canPlaceFrom_15 : decode cX0_canPlaceFrom 15 = .ok (.iaload, 1) := by decide +kernel
theorem dX0_canPlaceFrom_16 : decode cX0_canPlaceFrom 16 = .ok (.istore_n 3, 1) := by decide +kernel
theorem dX0_canPlaceFrom_17 : decode cX0_canPlaceFrom 17 = .ok (.iconst 0, 1) := by decide +kernel
theorem dX0_canPlaceFrom_18 : decode cX0_canPlaceFrom 18 = .ok (.istore 4, 2) := by decide +kernel
theorem dX0_canPlaceFrom_20 : decode cX0_canPlaceFrom 20 = .ok (.iload 4, 2) := by decide +kernel
theorem dX0_canPlaceFrom_22 : decode cX0_canPlaceFrom 22 = .ok (.iconst 5, 1) := by decide +kernel
theorem dX0_canPlaceFrom_23 : decode cX0_canPlaceFrom 23 = .ok (.if_icmp .ge 110, 3) := by decide +kernel
theorem dX0_canPlaceFrom_26 : decode cX0_canPlaceFrom 26 = .ok (.aload_n 0, 1) := by decide +kernel
theorem dX0_canPlaceFrom_27 : decode cX0_canPlaceFrom 27 = .ok (.getfield 24, 3) := by decide +kernel
theorem dX0_canPlaceFrom_30 : decode cX0_canPlaceFrom 30 = .ok (.iload 4, 2) := by decide +kernel
theorem dX0_canPlaceFrom_32 : decode cX0_canPlaceFrom 32 = .ok (.iaload, 1) := by decide +kernel
theorem dX0_canPlaceFrom_33 : decode cX0_canPlaceFrom 33 = .ok (.ifCond .ne 7, 3) := by decide +kernel
theorem dX0_canPlaceFrom_36 : decode cX0_canPlaceFrom 36 = .ok (.iconst 1, 1) := by decide +kernel
theorem dX0_canPlaceFrom_37 : decode cX0_canPlaceFrom 37 = .ok (.goto 4, 3) := by decide +kernel
theorem dX0_canPlaceFrom_40 : decode cX0_canPlaceFrom 40 = .ok (.iconst 0, 1) := by decide +kernel
theorem dX0_canPlaceFrom_41 : decode cX0_canPlaceFrom 41 = .ok (.istore 5, 2) := by decide +kernel
theorem dX0_canPlaceFrom_43 : decode cX0_canPlaceFrom 43 = .ok (.aload_n 0, 1) := by decide +kernel
theorem dX0_canPlaceFrom_44 : decode cX0_canPlaceFrom 44 = .ok (.getfield 15, 3) := by decide +kernel
theorem dX0_canPlaceFrom_47 : decode cX0_canPlaceFrom 47 = .ok (.iload_n 3, 1) := by decide +kernel
theorem dX0_canPlaceFrom_48 : decode cX0_canPlaceFrom 48 = .ok (.iaload, 1) := by decide +kernel
theorem dX0_canPlaceFrom_49 : decode cX0_canPlaceFrom 49 = .ok (.iload 4, 2) := by decide +kernel
theorem dX0_canPlaceFrom_51 : decode cX0_canPlaceFrom 51 = .ok (.invokestatic 86, 3) := by decide +kernel
theorem dX0_canPlaceFrom_54 : decode cX0_canPlaceFrom 54 = .ok (.ifCond .eq 73, 3) := by decide +kernel
theorem dX0_canPlaceFrom_57 : decode cX0_canPlaceFrom 57 = .ok (.aload_n 0, 1) := by decide +kernel
theorem dX0_canPlaceFrom_58 : decode cX0_canPlaceFrom 58 = .ok (.getfield 24, 3) := by decide +kernel
theorem dX0_canPlaceFrom_61 : decode cX0_canPlaceFrom 61 = .ok (.iload 4, 2) := by decide +kernel
theorem dX0_canPlaceFrom_63 : decode cX0_canPlaceFrom 63 = .ok (.iaload, 1) := by decide +kernel
theorem dX0_canPlaceFrom_64 : decode cX0_canPlaceFrom 64 = .ok (.aload_n 0, 1) := by decide +kernel
theorem dX0_canPlaceFrom_65 : decode cX0_canPlaceFrom 65 = .ok (.getfield 18, 3) := by decide +kernel
theorem dX0_canPlaceFrom_68 : decode cX0_canPlaceFrom 68 = .ok (.iload_n 3, 1) := by decide +kernel
theorem dX0_canPlaceFrom_69 : decode cX0_canPlaceFrom 69 = .ok (.iaload, 1) := by decide +kernel
theorem dX0_canPlaceFrom_70 : decode cX0_canPlaceFrom 70 = .ok (.iand, 1) := by decide +kernel
theorem dX0_canPlaceFrom_71 : decode cX0_canPlaceFrom 71 = .ok (.ifCond .ne 56, 3) := by decide +kernel
theorem dX0_canPlaceFrom_74 : decode cX0_canPlaceFrom 74 = .ok (.iload 5, 2) := by decide +kernel
theorem dX0_canPlaceFrom_76 : decode cX0_canPlaceFrom 76 = .ok (.iload_n 2, 1) := by decide +kernel
theorem dX0_canPlaceFrom_77 : decode cX0_canPlaceFrom 77 = .ok (.if_icmp .le 6, 3) := by decide +kernel
theorem dX0_canPlaceFrom_80 : decode cX0_canPlaceFrom 80 = .ok (.goto 47, 3) := by decide +kernel
theorem dX0_canPlaceFrom_83 : decode cX0_canPlaceFrom 83 = .ok (.aload_n 0, 1) := by decide +kernel
theorem dX0_canPlaceFrom_84 : decode cX0_canPlaceFrom 84 = .ok (.getfield 24, 3) := by decide +kernel
theorem dX0_canPlaceFrom_87 : decode cX0_canPlaceFrom 87 = .ok (.iload 4, 2) := by decide +kernel
theorem dX0_canPlaceFrom_89 : decode cX0_canPlaceFrom 89 = .ok (.dup2, 1) := by decide +kernel
theorem dX0_canPlaceFrom_90 : decode cX0_canPlaceFrom 90 = .ok (.iaload, 1) := by decide +kernel
theorem dX0_canPlaceFrom_91 : decode cX0_canPlaceFrom 91 = .ok (.iconst 1, 1) := by decide +kernel
theorem dX0_canPlaceFrom_92 : decode cX0_canPlaceFrom 92 = .ok (.iload_n 3, 1) := by decide +kernel
theorem dX0_canPlaceFrom_93 : decode cX0_canPlaceFrom 93 = .ok (.ishl, 1) := by decide +kernel
theorem dX0_canPlaceFrom_94 : decode cX0_canPlaceFrom 94 = .ok (.ior, 1) := by decide +kernel
theorem dX0_canPlaceFrom_95 : decode cX0_canPlaceFrom 95 = .ok (.iastore, 1) := by decide +kernel
theorem dX0_canPlaceFrom_96 : decode cX0_canPlaceFrom 96 = .ok (.aload_n 0, 1) := by decide +kernel
theorem dX0_canPlaceFrom_97 : decode cX0_canPlaceFrom 97 = .ok (.iload_n 1, 1) := by decide +kernel
theorem dX0_canPlaceFrom_98 : decode cX0_canPlaceFrom 98 = .ok (.iconst 1, 1) := by decide +kernel
theorem dX0_canPlaceFrom_99 : decode cX0_canPlaceFrom 99 = .ok (.iadd, 1) := by decide +kernel
theorem dX0_canPlaceFrom_100 : decode cX0_canPlaceFrom 100 = .ok (.iload_n 2, 1) := by decide +kernel
theorem dX0_canPlaceFrom_101 : decode cX0_canPlaceFrom 101 = .ok (.iload 5, 2) := by decide +kernel
theorem dX0_canPlaceFrom_103 : decode cX0_canPlaceFrom 103 = .ok (.isub, 1) := by decide +kernel
theorem dX0_canPlaceFrom_104 : decode cX0_canPlaceFrom 104 = .ok (.invokestatic 111, 3) := by decide +kernel
theorem dX0_canPlaceFrom_107 : decode cX0_canPlaceFrom 107 = .ok (.ifCond .eq 5, 3) := by decide +kernel
theorem dX0_canPlaceFrom_110 : decode cX0_canPlaceFrom 110 = .ok (.iconst 1, 1) := by decide +kernel
theorem dX0_canPlaceFrom_111 : decode cX0_canPlaceFrom 111 = .ok (.ireturn, 1) := by decide +kernel
theorem dX0_canPlaceFrom_112 : decode cX0_canPlaceFrom 112 = .ok (.aload_n 0, 1) := by decide +kernel
theorem dX0_canPlaceFrom_113 : decode cX0_canPlaceFrom 113 = .ok (.getfield 24, 3) := by decide +kernel
theorem dX0_canPlaceFrom_116 : decode cX0_canPlaceFrom 116 = .ok (.iload 4, 2) := by decide +kernel
theorem dX0_canPlaceFrom_118 : decode cX0_canPlaceFrom 118 = .ok (.dup2, 1) := by decide +kernel
theorem dX0_canPlaceFrom_119 : decode cX0_canPlaceFrom 119 = .ok (.iaload, 1) := by decide +kernel
theorem dX0_canPlaceFrom_120 : decode cX0_canPlaceFrom 120 = .ok (.iconst 1, 1) := by decide +kernel
theorem dX0_canPlaceFrom_121 : decode cX0_canPlaceFrom 121 = .ok (.iload_n 3, 1) := by decide +kernel
theorem dX0_canPlaceFrom_122 : decode cX0_canPlaceFrom 122 = .ok (.ishl, 1) := by decide +kernel
theorem dX0_canPlaceFrom_123 : decode cX0_canPlaceFrom 123 = .ok (.iconst (-1), 1) := by decide +kernel
theorem dX0_canPlaceFrom_124 : decode cX0_canPlaceFrom 124 = .ok (.ixor, 1) := by decide +kernel
theorem dX0_canPlaceFrom_125 : decode cX0_canPlaceFrom 125 = .ok (.iand, 1) := by decide +kernel
theorem dX0_canPlaceFrom_126 : decode cX0_canPlaceFrom 126 = .ok (.iastore, 1) := by decide +kernel
theorem dX0_canPlaceFrom_127 : decode cX0_canPlaceFrom 127 = .ok (.iinc 4 1, 3) := by decide +kernel
theorem dX0_canPlaceFrom_130 : decode cX0_canPlaceFrom 130 = .ok (.goto (-110), 3) := by decide +kernel
theorem dX0_canPlaceFrom_133 : decode cX0_canPlaceFrom 133 = .ok (.iconst 0, 1) := by decide +kernel
theorem dX0_canPlaceFrom_134 : decode cX0_canPlaceFrom 134 = .ok (.ireturn, 1) := by decide +kernel
theorem dX1_init_0 : decode cX1_init 0 = .ok (.aload_n 0, 1) := by decide +kernel
theorem dX1_init_1 : decode cX1_init 1 = .ok (.invokespecial 3, 3) := by decide +kernel
theorem dX1_init_4 : decode cX1_init 4 = .ok (.aload_n 0, 1) := by decide +kernel
theorem dX1_init_5 : decode cX1_init 5 = .ok (.iconst 5, 1) := by decide +kernel
theorem dX1_init_6 : decode cX1_init 6 = .ok (.newarray .int, 2) := by decide +kernel
theorem dX1_init_8 : decode cX1_init 8 = .ok (.putfield 9, 3) := by decide +kernel
theorem dX1_init_11 : decode cX1_init 11 = .ok (.aload_n 0, 1) := by decide +kernel
theorem dX1_init_12 : decode cX1_init 12 = .ok (.iconst 5, 1) := by decide +kernel
theorem dX1_init_13 : decode cX1_init 13 = .ok (.newarray .int, 2) := by decide +kernel
theorem dX1_init_15 : decode cX1_init 15 = .ok (.putfield 15, 3) := by decide +kernel
theorem dX1_init_18 : decode cX1_init 18 = .ok (.aload_n 0, 1) := by decide +kernel
theorem dX1_init_19 : decode cX1_init 19 = .ok (.iconst 5, 1) := by decide +kernel
theorem dX1_init_20 : decode cX1_init 20 = .ok (.newarray .int, 2) := by decide +kernel
theorem dX1_init_22 : decode cX1_init 22 = .ok (.putfield 18, 3) := by decide +kernel
theorem dX1_init_25 : decode cX1_init 25 = .ok (.aload_n 0, 1) := by decide +kernel
theorem dX1_init_26 : decode cX1_init 26 = .ok (.iconst 5, 1) := by decide +kernel
theorem dX1_init_27 : decode cX1_init 27 = .ok (.newarray .int, 2) := by decide +kernel
theorem dX1_init_29 : decode cX1_init 29 = .ok (.putfield 21, 3) := by decide +kernel
theorem dX1_init_32 : decode cX1_init 32 = .ok (.return_, 1) := by decide +kernel
theorem dX1_addPlayer_0 : decode cX1_addPlayer 0 = .ok (.aload_n 0, 1) := by decide +kernel
theorem dX1_addPlayer_1 : decode cX1_addPlayer 1 = .ok (.getfield 9, 3) := by decide +kernel
theorem dX1_addPlayer_4 : decode cX1_addPlayer 4 = .ok (.aload_n 0, 1) := by decide +kernel
theorem dX1_addPlayer_5 : decode cX1_addPlayer 5 = .ok (.getfield 24, 3) := by decide +kernel
theorem dX1_addPlayer_8 : decode cX1_addPlayer 8 = .ok (.iload_n 1, 1) := by decide +kernel
theorem dX1_addPlayer_9 : decode cX1_addPlayer 9 = .ok (.iastore, 1) := by decide +kernel
theorem dX1_addPlayer_10 : decode cX1_addPlayer 10 = .ok (.aload_n 0, 1) := by decide +kernel
theorem dX1_addPlayer_11 : decode cX1_addPlayer 11 = .ok (.getfield 15, 3) := by decide +kernel
theorem dX1_addPlayer_14 : decode cX1_addPlayer 14 = .ok (.aload_n 0, 1) := by decide +kernel
theorem dX1_addPlayer_15 : decode cX1_addPlayer 15 = .ok (.getfield 24, 3) := by decide +kernel
theorem dX1_addPlayer_18 : decode cX1_addPlayer 18 = .ok (.iload_n 2, 1) := by decide +kernel
theorem dX1_addPlayer_19 : decode cX1_addPlayer 19 = .ok (.iastore, 1) := by decide +kernel
theorem dX1_addPlayer_20 : decode cX1_addPlayer 20 = .ok (.aload_n 0, 1) := by decide +kernel
theorem dX1_addPlayer_21 : decode cX1_addPlayer 21 = .ok (.getfield 18, 3) := by decide +kernel
theorem dX1_addPlayer_24 : decode cX1_addPlayer 24 = .ok (.aload_n 0, 1) := by decide +kernel
theorem dX1_addPlayer_25 : decode cX1_addPlayer 25 = .ok (.getfield 24, 3) := by decide +kernel
theorem dX1_addPlayer_28 : decode cX1_addPlayer 28 = .ok (.iload_n 3, 1) := by decide +kernel
theorem dX1_addPlayer_29 : decode cX1_addPlayer 29 = .ok (.iastore, 1) := by decide +kernel
theorem dX1_addPlayer_30 : decode cX1_addPlayer 30 = .ok (.aload_n 0, 1) := by decide +kernel
theorem dX1_addPlayer_31 : decode cX1_addPlayer 31 = .ok (.dup, 1) := by decide +kernel
theorem dX1_addPlayer_32 : decode cX1_addPlayer 32 = .ok (.getfield 24, 3) := by decide +kernel
theorem dX1_addPlayer_35 : decode cX1_addPlayer 35 = .ok (.iconst 1, 1) := by decide +kernel
theorem dX1_addPlayer_36 : decode cX1_addPlayer 36 = .ok (.iadd, 1) := by decide +kernel
theorem dX1_addPlayer_37 : decode cX1_addPlayer 37 = .ok (.putfield 24, 3) := by decide +kernel
theorem dX1_addPlayer_40 : decode cX1_addPlayer 40 = .ok (.aload_n 0, 1) := by decide +kernel
theorem dX1_addPlayer_41 : decode cX1_addPlayer 41 = .ok (.getfield 24, 3) := by decide +kernel
theorem dX1_addPlayer_44 : decode cX1_addPlayer 44 = .ok (.iconst 1, 1) := by decide +kernel
theorem dX1_addPlayer_45 : decode cX1_addPlayer 45 = .ok (.isub, 1) := by decide +kernel
theorem dX1_addPlayer_46 : decode cX1_addPlayer 46 = .ok (.ireturn, 1) := by decide +kernel
theorem dX1_countWell_0 : decode cX1_countWell 0 = .ok (.aload_n 0, 1) := by decide +kernel
theorem dX1_countWell_1 : decode cX1_countWell 1 = .ok (.getfield 24, 3) := by decide +kernel
theorem dX1_countWell_4 : decode cX1_countWell 4 = .ok (.aload_n 0, 1) := by decide +kernel
theorem dX1_countWell_5 : decode cX1_countWell 5 = .ok (.getfield 28, 3) := by decide +kernel
theorem dX1_countWell_8 : decode cX1_countWell 8 = .ok (.invokestatic 31, 3) := by decide +kernel
theorem dX1_countWell_11 : decode cX1_countWell 11 = .ok (.isub, 1) := by decide +kernel
theorem dX1_countWell_12 : decode cX1_countWell 12 = .ok (.ireturn, 1) := by decide +kernel
theorem dX1_ableOfAny_0 : decode cX1_ableOfAny 0 = .ok (.iconst 0, 1) := by decide +kernel
theorem dX1_ableOfAny_1 : decode cX1_ableOfAny 1 = .ok (.istore_n 2, 1) := by decide +kernel
theorem dX1_ableOfAny_2 : decode cX1_ableOfAny 2 = .ok (.iconst 0, 1) := by decide +kernel
theorem dX1_ableOfAny_3 : decode cX1_ableOfAny 3 = .ok (.istore_n 3, 1) := by decide +kernel
theorem dX1_ableOfAny_4 : decode cX1_ableOfAny 4 = .ok (.iload_n 3, 1) := by decide +kernel
theorem dX1_ableOfAny_5 : decode cX1_ableOfAny 5 = .ok (.aload_n 0, 1) := by decide +kernel
theorem dX1_ableOfAny_6 : decode cX1_ableOfAny 6 = .ok (.getfield 24, 3) := by decide +kernel
theorem dX1_ableOfAny_9 : decode cX1_ableOfAny 9 = .ok (.if_icmp .ge 37, 3) := by decide +kernel
theorem dX1_ableOfAny_12 : decode cX1_ableOfAny 12 = .ok (.aload_n 0, 1) := by decide +kernel
theorem dX1_ableOfAny_13 : decode cX1_ableOfAny 13 = .ok (.getfield 28, 3) := by decide +kernel
theorem dX1_ableOfAny_16 : decode cX1_ableOfAny 16 = .ok (.iload_n 3, 1) := by decide +kernel
theorem dX1_ableOfAny_17 : decode cX1_ableOfAny 17 = .ok (.invokestatic 37, 3) := by decide +kernel
theorem dX1_ableOfAny_20 : decode cX1_ableOfAny 20 = .ok (.ifCond .ne 20, 3) := by decide +kernel
theorem dX1_ableOfAny_23 : decode cX1_ableOfAny 23 = .ok (.aload_n 0, 1) := by decide +kernel
theorem dX1_ableOfAny_24 : decode cX1_ableOfAny 24 = .ok (.getfield 9, 3) := by decide +kernel
theorem dX1_ableOfAny_27 : decode cX1_ableOfAny 27 = .ok (.iload_n 3, 1) := by decide +kernel
theorem dX1_ableOfAny_28 : decode cX1_ableOfAny 28 = .ok (.iaload, 1) := by decide +kernel
theorem dX1_ableOfAny_29 : decode cX1_ableOfAny 29 = .ok (.iload_n 1, 1) := by decide +kernel
theorem dX1_ableOfAny_30 : decode cX1_ableOfAny 30 = .ok (.iand, 1) := by decide +kernel
theorem dX1_ableOfAny_31 : decode cX1_ableOfAny 31 = .ok (.ifCond .eq 9, 3) := by decide +kernel
theorem dX1_ableOfAny_34 : decode cX1_ableOfAny 34 = .ok (.iload_n 2, 1) := by decide +kernel
theorem dX1_ableOfAny_35 : decode cX1_ableOfAny 35 = .ok (.iconst 1, 1) := by decide +kernel
theorem dX1_ableOfAny_36 : decode cX1_ableOfAny 36 = .ok (.iload_n 3, 1) := by decide +kernel
theorem dX1_ableOfAny_37 : decode cX1_ableOfAny 37 = .ok (.ishl, 1) := by decide +kernel
theorem dX1_ableOfAny_38 : decode cX1_ableOfAny 38 = .ok (.ior, 1) := by decide +kernel
theorem dX1_ableOfAny_39 : decode cX1_ableOfAny 39 = .ok (.istore_n 2, 1) := by decide +kernel
theorem dX1_ableOfAny_40 : decode cX1_ableOfAny 40 = .ok (.iinc 3 1, 3) := by decide +kernel
theorem dX1_ableOfAny_43 : decode cX1_ableOfAny 43 = .ok (.goto (-39), 3) := by decide +kernel
theorem dX1_ableOfAny_46 : decode cX1_ableOfAny 46 = .ok (.iload_n 2, 1) := by decide +kernel
theorem dX1_ableOfAny_47 : decode cX1_ableOfAny 47 = .ok (.ireturn, 1) := by decide +kernel
theorem dX1_allPurses_0 : decode cX1_allPurses 0 = .ok (.iconst 0, 1) := by decide +kernel
theorem dX1_allPurses_1 : decode cX1_allPurses 1 = .ok (.istore_n 1, 1) := by decide +kernel
theorem dX1_allPurses_2 : decode cX1_allPurses 2 = .ok (.iconst 0, 1) := by decide +kernel
theorem dX1_allPurses_3 : decode cX1_allPurses 3 = .ok (.istore_n 2, 1) := by decide +kernel
theorem dX1_allPurses_4 : decode cX1_allPurses 4 = .ok (.iload_n 2, 1) := by decide +kernel
theorem dX1_allPurses_5 : decode cX1_allPurses 5 = .ok (.aload_n 0, 1) := by decide +kernel
theorem dX1_allPurses_6 : decode cX1_allPurses 6 = .ok (.getfield 24, 3) := by decide +kernel
theorem dX1_allPurses_9 : decode cX1_allPurses 9 = .ok (.if_icmp .ge 18, 3) := by decide +kernel
theorem dX1_allPurses_12 : decode cX1_allPurses 12 = .ok (.iload_n 1, 1) := by decide +kernel
theorem dX1_allPurses_13 : decode cX1_allPurses 13 = .ok (.aload_n 0, 1) := by decide +kernel
theorem dX1_allPurses_14 : decode cX1_allPurses 14 = .ok (.getfield 21, 3) := by decide +kernel
theorem dX1_allPurses_17 : decode cX1_allPurses 17 = .ok (.iload_n 2, 1) := by decide +kernel
theorem dX1_allPurses_18 : decode cX1_allPurses 18 = .ok (.iaload, 1) := by decide +kernel
theorem dX1_allPurses_19 : decode cX1_allPurses 19 = .ok (.iadd, 1) := by decide +kernel
theorem dX1_allPurses_20 : decode cX1_allPurses 20 = .ok (.istore_n 1, 1) := by decide +kernel
theorem dX1_allPurses_21 : decode cX1_allPurses 21 = .ok (.iinc 2 1, 3) := by decide +kernel
theorem dX1_allPurses_24 : decode cX1_allPurses 24 = .ok (.goto (-20), 3) := by decide +kernel
theorem dX1_allPurses_27 : decode cX1_allPurses 27 = .ok (.iload_n 1, 1) := by decide +kernel
theorem dX1_allPurses_28 : decode cX1_allPurses 28 = .ok (.ireturn, 1) := by decide +kernel
theorem dX1_hasDebt_0 : decode cX1_hasDebt 0 = .ok (.iconst 0, 1) := by decide +kernel
theorem dX1_hasDebt_1 : decode cX1_hasDebt 1 = .ok (.istore_n 1, 1) := by decide +kernel
theorem dX1_hasDebt_2 : decode cX1_hasDebt 2 = .ok (.iload_n 1, 1) := by decide +kernel
theorem dX1_hasDebt_3 : decode cX1_hasDebt 3 = .ok (.aload_n 0, 1) := by decide +kernel
theorem dX1_hasDebt_4 : decode cX1_hasDebt 4 = .ok (.getfield 24, 3) := by decide +kernel
theorem dX1_hasDebt_7 : decode cX1_hasDebt 7 = .ok (.if_icmp .ge 20, 3) := by decide +kernel
theorem dX1_hasDebt_10 : decode cX1_hasDebt 10 = .ok (.aload_n 0, 1) := by decide +kernel
theorem dX1_hasDebt_11 : decode cX1_hasDebt 11 = .ok (.getfield 21, 3) := by decide +kernel
theorem dX1_hasDebt_14 : decode cX1_hasDebt 14 = .ok (.iload_n 1, 1) := by decide +kernel
theorem dX1_hasDebt_15 : decode cX1_hasDebt 15 = .ok (.iaload, 1) := by decide +kernel
theorem dX1_hasDebt_16 : decode cX1_hasDebt 16 = .ok (.ifCond .ge 5, 3) := by decide +kernel
theorem dX1_hasDebt_19 : decode cX1_hasDebt 19 = .ok (.iconst 1, 1) := by decide +kernel
theorem dX1_hasDebt_20 : decode cX1_hasDebt 20 = .ok (.ireturn, 1) := by decide +kernel
theorem dX1_hasDebt_21 : decode cX1_hasDebt 21 = .ok (.iinc 1 1, 3) := by decide +kernel
theorem dX1_hasDebt_24 : decode cX1_hasDebt 24 = .ok (.goto (-22), 3) := by decide +kernel
theorem dX1_hasDebt_27 : decode cX1_hasDebt 27 = .ok (.iconst 0, 1) := by decide +kernel
theorem dX1_hasDebt_28 : decode cX1_hasDebt 28 = .ok (.ireturn, 1) := by decide +kernel
theorem dX1_portion_0 : decode cX1_portion 0 = .ok (.aload_n 0, 1) := by decide +kernel
theorem dX1_portion_1 : decode cX1_portion 1 = .ok (.iload_n 3, 1) := by decide +kernel
theorem dX1_portion_2 : decode cX1_portion 2 = .ok (.invokevirtual 41, 3) := by decide +kernel
theorem dX1_portion_5 : decode cX1_portion 5 = .ok (.istore 4, 2) := by decide +kernel
theorem dX1_portion_7 : decode cX1_portion 7 = .ok (.iload 4, 2) := by decide +kernel
theorem dX1_portion_9 : decode cX1_portion 9 = .ok (.ifCond .eq 11, 3) := by decide +kernel
theorem dX1_portion_12 : decode cX1_portion 12 = .ok (.iload_n 3, 1) := by decide +kernel
theorem dX1_portion_13 : decode cX1_portion 13 = .ok (.iload_n 2, 1) := by decide +kernel
theorem dX1_portion_14 : decode cX1_portion 14 = .ok (.invokestatic 37, 3) := by decide +kernel
theorem dX1_portion_17 : decode cX1_portion 17 = .ok (.ifCond .ne 5, 3) := by decide +kernel
theorem dX1_portion_20 : decode cX1_portion 20 = .ok (.iconst 0, 1) := by decide +kernel
theorem dX1_portion_21 : decode cX1_portion 21 = .ok (.ireturn, 1) := by decide +kernel
theorem dX1_portion_22 : decode cX1_portion 22 = .ok (.iload_n 1, 1) := by decide +kernel
theorem dX1_portion_23 : decode cX1_portion 23 = .ok (.aload_n 0, 1) := by decide +kernel
theorem dX1_portion_24 : decode cX1_portion 24 = .ok (.getfield 18, 3) := by decide +kernel
theorem dX1_portion_27 : decode cX1_portion 27 = .ok (.iload_n 2, 1) := by decide +kernel
theorem dX1_portion_28 : decode cX1_portion 28 = .ok (.iaload, 1) := by decide +kernel
theorem dX1_portion_29 : decode cX1_portion 29 = .ok (.imul, 1) := by decide +kernel
theorem dX1_portion_30 : decode cX1_portion 30 = .ok (.iload 4, 2) := by decide +kernel
theorem dX1_portion_32 : decode cX1_portion 32 = .ok (.irem, 1) := by decide +kernel
theorem dX1_portion_33 : decode cX1_portion 33 = .ok (.istore 5, 2) := by decide +kernel
theorem dX1_portion_35 : decode cX1_portion 35 = .ok (.iload_n 1, 1) := by decide +kernel
theorem dX1_portion_36 : decode cX1_portion 36 = .ok (.istore 6, 2) := by decide +kernel
theorem dX1_portion_38 : decode cX1_portion 38 = .ok (.iconst 0, 1) := by decide +kernel
theorem dX1_portion_39 : decode cX1_portion 39 = .ok (.istore 7, 2) := by decide +kernel
theorem dX1_portion_41 : decode cX1_portion 41 = .ok (.iconst 0, 1) := by decide +kernel
theorem dX1_portion_42 : decode cX1_portion 42 = .ok (.istore 8, 2) := by decide +kernel
theorem dX1_portion_44 : decode cX1_portion 44 = .ok (.iload 8, 2) := by decide +kernel
theorem dX1_portion_46 : decode cX1_portion 46 = .ok (.aload_n 0, 1) := by decide +kernel
theorem dX1_portion_47 : decode cX1_portion 47 = .ok (.getfield 24, 3) := by decide +kernel
theorem dX1_portion_50 : decode cX1_portion 50 = .ok (.if_icmp .ge 75, 3) := by decide +kernel
theorem dX1_portion_53 : decode cX1_portion 53 = .ok (.iload_n 3, 1) := by decide +kernel
theorem dX1_portion_54 : decode cX1_portion 54 = .ok (.iload 8, 2) := by decide +kernel
theorem dX1_portion_56 : decode cX1_portion 56 = .ok (.invokestatic 37, 3) := by decide +kernel
theorem dX1_portion_59 : decode cX1_portion 59 = .ok (.ifCond .ne 6, 3) := by decide +kernel
theorem dX1_portion_62 : decode cX1_portion 62 = .ok (.goto 57, 3) := by decide +kernel
theorem dX1_portion_65 : decode cX1_portion 65 = .ok (.iload 6, 2) := by decide +kernel
theorem dX1_portion_67 : decode cX1_portion 67 = .ok (.iload_n 1, 1) := by decide +kernel
theorem dX1_portion_68 : decode cX1_portion 68 = .ok (.aload_n 0, 1) := by decide +kernel
theorem dX1_portion_69 : decode cX1_portion 69 = .ok (.getfield 18, 3) := by decide +kernel
theorem dX1_portion_72 : decode cX1_portion 72 = .ok (.iload 8, 2) := by decide +kernel
theorem dX1_portion_74 : decode cX1_portion 74 = .ok (.iaload, 1) := by decide +kernel
theorem dX1_portion_75 : decode cX1_portion 75 = .ok (.imul, 1) := by decide +kernel
theorem dX1_portion_76 : decode cX1_portion 76 = .ok (.iload 4, 2) := by decide +kernel
theorem dX1_portion_78 : decode cX1_portion 78 = .ok (.idiv, 1) := by decide +kernel
theorem dX1_portion_79 : decode cX1_portion 79 = .ok (.isub, 1) := by decide +kernel
theorem dX1_portion_80 : decode cX1_portion 80 = .ok (.istore 6, 2) := by decide +kernel
theorem dX1_portion_82 : decode cX1_portion 82 = .ok (.iload_n 1, 1) := by decide +kernel
theorem dX1_portion_83 : decode cX1_portion 83 = .ok (.aload_n 0, 1) := by decide +kernel
theorem dX1_portion_84 : decode cX1_portion 84 = .ok (.getfield 18, 3) := by decide +kernel
theorem dX1_portion_87 : decode cX1_portion 87 = .ok (.iload 8, 2) := by decide +kernel
theorem dX1_portion_89 : decode cX1_portion 89 = .ok (.iaload, 1) := by decide +kernel
theorem dX1_portion_90 : decode cX1_portion 90 = .ok (.imul, 1) := by decide +kernel
theorem dX1_portion_91 : decode cX1_portion 91 = .ok (.iload 4, 2) := by decide +kernel
theorem dX1_portion_93 : decode cX1_portion 93 = .ok (.irem, 1) := by decide +kernel
theorem dX1_portion_94 : decode cX1_portion 94 = .ok (.istore 9, 2) := by decide +kernel
theorem dX1_portion_96 : decode cX1_portion 96 = .ok (.iload 9, 2) := by decide +kernel
theorem dX1_portion_98 : decode cX1_portion 98 = .ok (.iload 5, 2) := by decide +kernel
theorem dX1_portion_100 : decode cX1_portion 100 = .ok (.if_icmp .gt 16, 3) := by decide +kernel
theorem dX1_portion_103 : decode cX1_portion 103 = .ok (.iload 9, 2) := by decide +kernel
theorem dX1_portion_105 : decode cX1_portion 105 = .ok (.iload 5, 2) := by decide +kernel
theorem dX1_portion_107 : decode cX1_portion 107 = .ok (.if_icmp .ne 12, 3) := by decide +kernel
theorem dX1_portion_110 : decode cX1_portion 110 = .ok (.iload 8, 2) := by decide +kernel
theorem dX1_portion_112 : decode cX1_portion 112 = .ok (.iload_n 2, 1) := by decide +kernel
theorem dX1_portion_113 : decode cX1_portion 113 = .ok (.if_icmp .ge 6, 3) := by decide +kernel
theorem dX1_portion_116 : decode cX1_portion 116 = .ok (.iinc 7 1, 3) := by decide +kernel
theorem dX1_portion_119 : decode cX1_portion 119 = .ok (.iinc 8 1, 3) := by decide +kernel
theorem dX1_portion_122 : decode cX1_portion 122 = .ok (.goto (-78), 3) := by decide +kernel
theorem dX1_portion_125 : decode cX1_portion 125 = .ok (.iload_n 1, 1) := by decide +kernel
theorem dX1_portion_126 : decode cX1_portion 126 = .ok (.aload_n 0, 1) := by decide +kernel
theorem dX1_portion_127 : decode cX1_portion 127 = .ok (.getfield 18, 3) := by decide +kernel
theorem dX1_portion_130 : decode cX1_portion 130 = .ok (.iload_n 2, 1) := by decide +kernel
theorem dX1_portion_131 : decode cX1_portion 131 = .ok (.iaload, 1) := by decide +kernel
theorem dX1_portion_132 : decode cX1_portion 132 = .ok (.imul, 1) := by decide +kernel
theorem dX1_portion_133 : decode cX1_portion 133 = .ok (.iload 4, 2) := by decide +kernel
theorem dX1_portion_135 : decode cX1_portion 135 = .ok (.idiv, 1) := by decide +kernel
theorem dX1_portion_136 : decode cX1_portion 136 = .ok (.iload 7, 2) := by decide +kernel
theorem dX1_portion_138 : decode cX1_portion 138 = .ok (.iload 6, 2) := by decide +kernel
theorem dX1_portion_140 : decode cX1_portion 140 = .ok (.if_icmp .ge 7, 3) := by decide +kernel
theorem dX1_portion_143 : decode cX1_portion 143 = .ok (.iconst 1, 1) := by decide +kernel
theorem dX1_portion_144 : decode cX1_portion 144 = .ok (.goto 4, 3) := by decide +kernel
theorem dX1_portion_147 : decode cX1_portion 147 = .ok (.iconst 0, 1) := by decide +kernel
theorem dX1_portion_148 : decode cX1_portion 148 = .ok (.iadd, 1) := by decide +kernel
theorem dX1_portion_149 : decode cX1_portion 149 = .ok (.ireturn, 1) := by decide +kernel
theorem dX1_sharesOf_0 : decode cX1_sharesOf 0 = .ok (.iconst 0, 1) := by decide +kernel
theorem dX1_sharesOf_1 : decode cX1_sharesOf 1 = .ok (.istore_n 2, 1) := by decide +kernel
theorem dX1_sharesOf_2 : decode cX1_sharesOf 2 = .ok (.iconst 0, 1) := by decide +kernel
theorem dX1_sharesOf_3 : decode cX1_sharesOf 3 = .ok (.istore_n 3, 1) := by decide +kernel
theorem dX1_sharesOf_4 : decode cX1_sharesOf 4 = .ok (.iload_n 3, 1) := by decide +kernel
theorem dX1_sharesOf_5 : decode cX1_sharesOf 5 = .ok (.aload_n 0, 1) := by decide +kernel
theorem dX1_sharesOf_6 : decode cX1_sharesOf 6 = .ok (.getfield 24, 3) := by decide +kernel
theorem dX1_sharesOf_9 : decode cX1_sharesOf 9 = .ok (.if_icmp .ge 26, 3) := by decide +kernel
theorem dX1_sharesOf_12 : decode cX1_sharesOf 12 = .ok (.iload_n 1, 1) := by decide +kernel
theorem dX1_sharesOf_13 : decode cX1_sharesOf 13 = .ok (.iload_n 3, 1) := by decide +kernel
theorem dX1_sharesOf_14 : decode cX1_sharesOf 14 = .ok (.invokestatic 37, 3) := by decide +kernel
theorem dX1_sharesOf_17 : decode cX1_sharesOf 17 = .ok (.ifCond .eq 12, 3) := by decide +kernel
theorem dX1_sharesOf_20 : decode cX1_sharesOf 20 = .ok (.iload_n 2, 1) := by decide +kernel
theorem dX1_sharesOf_21 : decode cX1_sharesOf 21 = .ok (.aload_n 0, 1) := by decide +kernel
theorem dX1_sharesOf_22 : decode cX1_sharesOf 22 = .ok (.getfield 18, 3) := by decide +kernel
theorem dX1_sharesOf_25 : decode cX1_sharesOf 25 = .ok (.iload_n 3, 1) := by decide +kernel
theorem dX1_sharesOf_26 : decode cX1_sharesOf 26 = .ok (.iaload, 1) := by decide +kernel
theorem dX1_sharesOf_27 : decode cX1_sharesOf 27 = .ok (.iadd, 1) := by decide +kernel
theorem dX1_sharesOf_28 : decode cX1_sharesOf 28 = .ok (.istore_n 2, 1) := by decide +kernel
theorem dX1_sharesOf_29 : decode cX1_sharesOf 29 = .ok (.iinc 3 1, 3) := by decide +kernel
theorem dX1_sharesOf_32 : decode cX1_sharesOf 32 = .ok (.goto (-28), 3) := by decide +kernel
theorem dX1_sharesOf_35 : decode cX1_sharesOf 35 = .ok (.iload_n 2, 1) := by decide +kernel
theorem dX1_sharesOf_36 : decode cX1_sharesOf 36 = .ok (.ireturn, 1) := by decide +kernel
end
section
theorem dX2_init_0 : decode cX2_init 0 = .ok (.aload_n 0, 1) := by decide +kernel
theorem dX2_init_1 : decode cX2_init 1 = .ok (.invokespecial 3, 3) := by decide +kernel
theorem dX2_init_4 : decode cX2_init 4 = .ok (.aload_n 0, 1) := by decide +kernel
theorem dX2_init_5 : decode cX2_init 5 = .ok (.bipush 7, 2) := by decide +kernel
theorem dX2_init_7 : decode cX2_init 7 = .ok (.newarray .int, 2) := by decide +kernel
theorem dX2_init_9 : decode cX2_init 9 = .ok (.putfield 9, 3) := by decide +kernel
theorem dX2_init_12 : decode cX2_init 12 = .ok (.aload_n 0, 1) := by decide +kernel
theorem dX2_init_13 : decode cX2_init 13 = .ok (.bipush 7, 2) := by decide +kernel
theorem dX2_init_15 : decode cX2_init 15 = .ok (.newarray .int, 2) := by decide +kernel
theorem dX2_init_17 : decode cX2_init 17 = .ok (.putfield 15, 3) := by decide +kernel
theorem dX2_init_20 : decode cX2_init 20 = .ok (.aload_n 0, 1) := by decide +kernel
theorem dX2_init_21 : decode cX2_init 21 = .ok (.bipush 7, 2) := by decide +kernel
theorem dX2_init_23 : decode cX2_init 23 = .ok (.newarray .int, 2) := by decide +kernel
theorem dX2_init_25 : decode cX2_init 25 = .ok (.putfield 18, 3) := by decide +kernel
theorem dX2_init_28 : decode cX2_init 28 = .ok (.aload_n 0, 1) := by decide +kernel
theorem dX2_init_29 : decode cX2_init 29 = .ok (.bipush 6, 2) := by decide +kernel
theorem dX2_init_31 : decode cX2_init 31 = .ok (.newarray .int, 2) := by decide +kernel
theorem dX2_init_33 : decode cX2_init 33 = .ok (.putfield 21, 3) := by decide +kernel
theorem dX2_init_36 : decode cX2_init 36 = .ok (.aload_n 0, 1) := by decide +kernel
theorem dX2_init_37 : decode cX2_init 37 = .ok (.bipush 6, 2) := by decide +kernel
theorem dX2_init_39 : decode cX2_init 39 = .ok (.newarray .int, 2) := by decide +kernel
theorem dX2_init_41 : decode cX2_init 41 = .ok (.putfield 24, 3) := by decide +kernel
theorem dX2_init_44 : decode cX2_init 44 = .ok (.return_, 1) := by decide +kernel
theorem dX2_addPart_0 : decode cX2_addPart 0 = .ok (.aload_n 0, 1) := by decide +kernel
theorem dX2_addPart_1 : decode cX2_addPart 1 = .ok (.getfield 9, 3) := by decide +kernel
theorem dX2_addPart_4 : decode cX2_addPart 4 = .ok (.aload_n 0, 1) := by decide +kernel
theorem dX2_addPart_5 : decode cX2_addPart 5 = .ok (.getfield 27, 3) := by decide +kernel
theorem dX2_addPart_8 : decode cX2_addPart 8 = .ok (.iload_n 1, 1) := by decide +kernel
theorem dX2_addPart_9 : decode cX2_addPart 9 = .ok (.iastore, 1) := by decide +kernel
theorem dX2_addPart_10 : decode cX2_addPart 10 = .ok (.aload_n 0, 1) := by decide +kernel
theorem dX2_addPart_11 : decode cX2_addPart 11 = .ok (.getfield 15, 3) := by decide +kernel
theorem dX2_addPart_14 : decode cX2_addPart 14 = .ok (.aload_n 0, 1) := by decide +kernel
theorem dX2_addPart_15 : decode cX2_addPart 15 = .ok (.getfield 27, 3) := by decide +kernel
theorem dX2_addPart_18 : decode cX2_addPart 18 = .ok (.iload_n 2, 1) := by decide +kernel
theorem dX2_addPart_19 : decode cX2_addPart 19 = .ok (.iastore, 1) := by decide +kernel
theorem dX2_addPart_20 : decode cX2_addPart 20 = .ok (.aload_n 0, 1) := by decide +kernel
theorem dX2_addPart_21 : decode cX2_addPart 21 = .ok (.getfield 18, 3) := by decide +kernel
theorem dX2_addPart_24 : decode cX2_addPart 24 = .ok (.aload_n 0, 1) := by decide +kernel
theorem dX2_addPart_25 : decode cX2_addPart 25 = .ok (.getfield 27, 3) := by decide +kernel
theorem dX2_addPart_28 : decode cX2_addPart 28 = .ok (.iload_n 3, 1) := by decide +kernel
theorem dX2_addPart_29 : decode cX2_addPart 29 = .ok (.iastore, 1) := by decide +kernel
theorem dX2_addPart_30 : decode cX2_addPart 30 = .ok (.aload_n 0, 1) := by decide +kernel
theorem dX2_addPart_31 : decode cX2_addPart 31 = .ok (.dup, 1) := by decide +kernel
theorem dX2_addPart_32 : decode cX2_addPart 32 = .ok (.getfield 27, 3) := by decide +kernel
theorem dX2_addPart_35 : decode cX2_addPart 35 = .ok (.iconst 1, 1) := by decide +kernel
theorem dX2_addPart_36 : decode cX2_addPart 36 = .ok (.iadd, 1) := by decide +kernel
theorem dX2_addPart_37 : decode cX2_addPart 37 = .ok (.putfield 27, 3) := by decide +kernel
theorem dX2_addPart_40 : decode cX2_addPart 40 = .ok (.aload_n 0, 1) := by decide +kernel
theorem dX2_addPart_41 : decode cX2_addPart 41 = .ok (.getfield 27, 3) := by decide +kernel
theorem dX2_addPart_44 : decode cX2_addPart 44 = .ok (.iconst 1, 1) := by decide +kernel
theorem dX2_addPart_45 : decode cX2_addPart 45 = .ok (.isub, 1) := by decide +kernel
theorem dX2_addPart_46 : decode cX2_addPart 46 = .ok (.ireturn, 1) := by decide +kernel
theorem dX2_addScene_0 : decode cX2_addScene 0 = .ok (.aload_n 0, 1) := by decide +kernel
theorem dX2_addScene_1 : decode cX2_addScene 1 = .ok (.getfield 21, 3) := by decide +kernel
theorem dX2_addScene_4 : decode cX2_addScene 4 = .ok (.aload_n 0, 1) := by decide +kernel
theorem dX2_addScene_5 : decode cX2_addScene 5 = .ok (.getfield 31, 3) := by decide +kernel
theorem dX2_addScene_8 : decode cX2_addScene 8 = .ok (.iload_n 1, 1) := by decide +kernel
theorem dX2_addScene_9 : decode cX2_addScene 9 = .ok (.iastore, 1) := by decide +kernel
theorem dX2_addScene_10 : decode cX2_addScene 10 = .ok (.aload_n 0, 1) := by decide +kernel
theorem dX2_addScene_11 : decode cX2_addScene 11 = .ok (.getfield 24, 3) := by decide +kernel
theorem dX2_addScene_14 : decode cX2_addScene 14 = .ok (.aload_n 0, 1) := by decide +kernel
theorem dX2_addScene_15 : decode cX2_addScene 15 = .ok (.getfield 31, 3) := by decide +kernel
theorem dX2_addScene_18 : decode cX2_addScene 18 = .ok (.iload_n 2, 1) := by decide +kernel
theorem dX2_addScene_19 : decode cX2_addScene 19 = .ok (.iastore, 1) := by decide +kernel
theorem dX2_addScene_20 : decode cX2_addScene 20 = .ok (.aload_n 0, 1) := by decide +kernel
theorem dX2_addScene_21 : decode cX2_addScene 21 = .ok (.dup, 1) := by decide +kernel
theorem dX2_addScene_22 : decode cX2_addScene 22 = .ok (.getfield 31, 3) := by decide +kernel
theorem dX2_addScene_25 : decode cX2_addScene 25 = .ok (.iconst 1, 1) := by decide +kernel
theorem dX2_addScene_26 : decode cX2_addScene 26 = .ok (.iadd, 1) := by decide +kernel
theorem dX2_addScene_27 : decode cX2_addScene 27 = .ok (.putfield 31, 3) := by decide +kernel
theorem dX2_addScene_30 : decode cX2_addScene 30 = .ok (.aload_n 0, 1) := by decide +kernel
theorem dX2_addScene_31 : decode cX2_addScene 31 = .ok (.getfield 31, 3) := by decide +kernel
theorem dX2_addScene_34 : decode cX2_addScene 34 = .ok (.iconst 1, 1) := by decide +kernel
theorem dX2_addScene_35 : decode cX2_addScene 35 = .ok (.isub, 1) := by decide +kernel
theorem dX2_addScene_36 : decode cX2_addScene 36 = .ok (.ireturn, 1) := by decide +kernel
theorem dX2_allScenes_0 : decode cX2_allScenes 0 = .ok (.iconst 1, 1) := by decide +kernel
theorem dX2_allScenes_1 : decode cX2_allScenes 1 = .ok (.aload_n 0, 1) := by decide +kernel
theorem dX2_allScenes_2 : decode cX2_allScenes 2 = .ok (.getfield 31, 3) := by decide +kernel
theorem dX2_allScenes_5 : decode cX2_allScenes 5 = .ok (.ishl, 1) := by decide +kernel
theorem dX2_allScenes_6 : decode cX2_allScenes 6 = .ok (.iconst 1, 1) := by decide +kernel
theorem dX2_allScenes_7 : decode cX2_allScenes 7 = .ok (.isub, 1) := by decide +kernel
theorem dX2_allScenes_8 : decode cX2_allScenes 8 = .ok (.ireturn, 1) := by decide +kernel
theorem dX2_scenesWith_0 : decode cX2_scenesWith 0 = .ok (.iconst 0, 1) := by decide +kernel
theorem dX2_scenesWith_1 : decode cX2_scenesWith 1 = .ok (.istore_n 2, 1) := by decide +kernel
theorem dX2_scenesWith_2 : decode cX2_scenesWith 2 = .ok (.iconst 0, 1) := by decide +kernel
theorem dX2_scenesWith_3 : decode cX2_scenesWith 3 = .ok (.istore_n 3, 1) := by decide +kernel
theorem dX2_scenesWith_4 : decode cX2_scenesWith 4 = .ok (.iload_n 3, 1) := by decide +kernel
theorem dX2_scenesWith_5 : decode cX2_scenesWith 5 = .ok (.aload_n 0, 1) := by decide +kernel
theorem dX2_scenesWith_6 : decode cX2_scenesWith 6 = .ok (.getfield 31, 3) := by decide +kernel
theorem dX2_scenesWith_9 : decode cX2_scenesWith 9 = .ok (.if_icmp .ge 28, 3) := by decide +kernel
theorem dX2_scenesWith_12 : decode cX2_scenesWith 12 = .ok (.aload_n 0, 1) := by decide +kernel
theorem dX2_scenesWith_13 : decode cX2_scenesWith 13 = .ok (.getfield 21, 3) := by decide +kernel
theorem dX2_scenesWith_16 : decode cX2_scenesWith 16 = .ok (.iload_n 3, 1) := by decide +kernel
theorem dX2_scenesWith_17 : decode cX2_scenesWith 17 = .ok (.iaload, 1) := by decide +kernel
theorem dX2_scenesWith_18 : decode cX2_scenesWith 18 = .ok (.iload_n 1, 1) := by decide +kernel
theorem dX2_scenesWith_19 : decode cX2_scenesWith 19 = .ok (.invokestatic 34, 3) := by decide +kernel
theorem dX2_scenesWith_22 : decode cX2_scenesWith 22 = .ok (.ifCond .eq 9, 3) := by decide +kernel
theorem dX2_scenesWith_25 : decode cX2_scenesWith 25 = .ok (.iload_n 2, 1) := by decide +kernel
theorem dX2_scenesWith_26 : decode cX2_scenesWith 26 = .ok (.iconst 1, 1) := by decide +kernel
theorem dX2_scenesWith_27 : decode cX2_scenesWith 27 = .ok (.iload_n 3, 1) := by decide +kernel
theorem dX2_scenesWith_28 : decode cX2_scenesWith 28 = .ok (.ishl, 1) := by decide +kernel
theorem dX2_scenesWith_29 : decode cX2_scenesWith 29 = .ok (.ior, 1) := by decide +kernel
theorem dX2_scenesWith_30 : decode cX2_scenesWith 30 = .ok (.istore_n 2, 1) := by decide +kernel
theorem dX2_scenesWith_31 : decode cX2_scenesWith 31 = .ok (.iinc 3 1, 3) := by decide +kernel
theorem dX2_scenesWith_34 : decode cX2_scenesWith 34 = .ok (.goto (-30), 3) := by decide +kernel
theorem dX2_scenesWith_37 : decode cX2_scenesWith 37 = .ok (.iload_n 2, 1) := by decide +kernel
theorem dX2_scenesWith_38 : decode cX2_scenesWith 38 = .ok (.ireturn, 1) := by decide +kernel
theorem dX2_partsOf_0 : decode cX2_partsOf 0 = .ok (.iconst 0, 1) := by decide +kernel
theorem dX2_partsOf_1 : decode cX2_partsOf 1 = .ok (.istore_n 2, 1) := by decide +kernel
theorem dX2_partsOf_2 : decode cX2_partsOf 2 = .ok (.iconst 0, 1) := by decide +kernel
theorem dX2_partsOf_3 : decode cX2_partsOf 3 = .ok (.istore_n 3, 1) := by decide +kernel
theorem dX2_partsOf_4 : decode cX2_partsOf 4 = .ok (.iload_n 3, 1) := by decide +kernel
theorem dX2_partsOf_5 : decode cX2_partsOf 5 = .ok (.aload_n 0, 1) := by decide +kernel
theorem dX2_partsOf_6 : decode cX2_partsOf 6 = .ok (.getfield 31, 3) := by decide +kernel
theorem dX2_partsOf_9 : decode cX2_partsOf 9 = .ok (.if_icmp .ge 26, 3) := by decide +kernel
theorem dX2_partsOf_12 : decode cX2_partsOf 12 = .ok (.iload_n 1, 1) := by decide +kernel
theorem dX2_partsOf_13 : decode cX2_partsOf 13 = .ok (.iload_n 3, 1) := by decide +kernel
theorem dX2_partsOf_14 : decode cX2_partsOf 14 = .ok (.invokestatic 34, 3) := by decide +kernel
theorem dX2_partsOf_17 : decode cX2_partsOf 17 = .ok (.ifCond .eq 12, 3) := by decide +kernel
theorem dX2_partsOf_20 : decode cX2_partsOf 20 = .ok (.iload_n 2, 1) := by decide +kernel
theorem dX2_partsOf_21 : decode cX2_partsOf 21 = .ok (.aload_n 0, 1) := by decide +kernel
theorem dX2_partsOf_22 : decode cX2_partsOf 22 = .ok (.getfield 21, 3) := by decide +kernel
theorem dX2_partsOf_25 : decode cX2_partsOf 25 = .ok (.iload_n 3, 1) := by decide +kernel
theorem dX2_partsOf_26 : decode cX2_partsOf 26 = .ok (.iaload, 1) := by decide +kernel
theorem dX2_partsOf_27 : decode cX2_partsOf 27 = .ok (.ior, 1) := by decide +kernel
theorem dX2_partsOf_28 : decode cX2_partsOf 28 = .ok (.istore_n 2, 1) := by decide +kernel
theorem dX2_partsOf_29 : decode cX2_partsOf 29 = .ok (.iinc 3 1, 3) := by decide +kernel
theorem dX2_partsOf_32 : decode cX2_partsOf 32 = .ok (.goto (-28), 3) := by decide +kernel
theorem dX2_partsOf_35 : decode cX2_partsOf 35 = .ok (.iload_n 2, 1) := by decide +kernel
theorem dX2_partsOf_36 : decode cX2_partsOf 36 = .ok (.ireturn, 1) := by decide +kernel
theorem dX2_fillClashes_0 : decode cX2_fillClashes 0 = .ok (.iconst 0, 1) := by decide +kernel
theorem dX2_fillClashes_1 : decode cX2_fillClashes 1 = .ok (.istore_n 3, 1) := by decide +kernel
theorem dX2_fillClashes_2 : decode cX2_fillClashes 2 = .ok (.iload_n 3, 1) := by decide +kernel
theorem dX2_fillClashes_3 : decode cX2_fillClashes 3 = .ok (.aload_n 2, 1) := by decide +kernel
theorem dX2_fillClashes_4 : decode cX2_fillClashes 4 = .ok (.arraylength, 1) := by decide +kernel
theorem dX2_fillClashes_5 : decode cX2_fillClashes 5 = .ok (.if_icmp .ge 13, 3) := by decide +kernel
theorem dX2_fillClashes_8 : decode cX2_fillClashes 8 = .ok (.aload_n 2, 1) := by decide +kernel
theorem dX2_fillClashes_9 : decode cX2_fillClashes 9 = .ok (.iload_n 3, 1) := by decide +kernel
theorem dX2_fillClashes_10 : decode cX2_fillClashes 10 = .ok (.iconst 0, 1) := by decide +kernel
theorem dX2_fillClashes_11 : decode cX2_fillClashes 11 = .ok (.iastore, 1) := by decide +kernel
theorem dX2_fillClashes_12 : decode cX2_fillClashes 12 = .ok (.iinc 3 1, 3) := by decide +kernel
theorem dX2_fillClashes_15 : decode cX2_fillClashes 15 = .ok (.goto (-13), 3) := by decide +kernel
theorem dX2_fillClashes_18 : decode cX2_fillClashes 18 = .ok (.iconst (-1), 1) := by decide +kernel
theorem dX2_fillClashes_19 : decode cX2_fillClashes 19 = .ok (.istore_n 3, 1) := by decide +kernel
theorem dX2_fillClashes_20 : decode cX2_fillClashes 20 = .ok (.iconst 0, 1) := by decide +kernel
theorem dX2_fillClashes_21 : decode cX2_fillClashes 21 = .ok (.istore 4, 2) := by decide +kernel
theorem dX2_fillClashes_23 : decode cX2_fillClashes 23 = .ok (.iload 4, 2) := by decide +kernel
theorem dX2_fillClashes_25 : decode cX2_fillClashes 25 = .ok (.aload_n 0, 1) := by decide +kernel
theorem dX2_fillClashes_26 : decode cX2_fillClashes 26 = .ok (.getfield 31, 3) := by decide +kernel
theorem dX2_fillClashes_29 : decode cX2_fillClashes 29 = .ok (.if_icmp .ge 54, 3) := by decide +kernel
theorem dX2_fillClashes_32 : decode cX2_fillClashes 32 = .ok (.iload_n 1, 1) := by decide +kernel
theorem dX2_fillClashes_33 : decode cX2_fillClashes 33 = .ok (.iload 4, 2) := by decide +kernel
theorem dX2_fillClashes_35 : decode cX2_fillClashes 35 = .ok (.invokestatic 34, 3) := by decide +kernel
theorem dX2_fillClashes_38 : decode cX2_fillClashes 38 = .ok (.ifCond .ne 6, 3) := by decide +kernel
theorem dX2_fillClashes_41 : decode cX2_fillClashes 41 = .ok (.goto 36, 3) := by decide +kernel
theorem dX2_fillClashes_44 : decode cX2_fillClashes 44 = .ok (.aload_n 0, 1) := by decide +kernel
theorem dX2_fillClashes_45 : decode cX2_fillClashes 45 = .ok (.aload_n 0, 1) := by decide +kernel
theorem dX2_fillClashes_46 : decode cX2_fillClashes 46 = .ok (.getfield 21, 3) := by decide +kernel
theorem dX2_fillClashes_49 : decode cX2_fillClashes 49 = .ok (.iload 4, 2) := by decide +kernel
theorem dX2_fillClashes_51 : decode cX2_fillClashes 51 = .ok (.iaload, 1) := by decide +kernel
theorem dX2_fillClashes_52 : decode cX2_fillClashes 52 = .ok (.aload_n 2, 1) := by decide +kernel
theorem dX2_fillClashes_53 : decode cX2_fillClashes 53 = .ok (.invokevirtual 38, 3) := by decide +kernel
theorem dX2_fillClashes_56 : decode cX2_fillClashes 56 = .ok (.iload_n 3, 1) := by decide +kernel
theorem dX2_fillClashes_57 : decode cX2_fillClashes 57 = .ok (.iconst (-1), 1) := by decide +kernel
theorem dX2_fillClashes_58 : decode cX2_fillClashes 58 = .ok (.if_icmp .eq 16, 3) := by decide +kernel
theorem dX2_fillClashes_61 : decode cX2_fillClashes 61 = .ok (.aload_n 0, 1) := by decide +kernel
theorem dX2_fillClashes_62 : decode cX2_fillClashes 62 = .ok (.iload_n 3, 1) := by decide +kernel
theorem dX2_fillClashes_63 : decode cX2_fillClashes 63 = .ok (.aload_n 0, 1) := by decide +kernel
theorem dX2_fillClashes_64 : decode cX2_fillClashes 64 = .ok (.getfield 21, 3) := by decide +kernel
theorem dX2_fillClashes_67 : decode cX2_fillClashes 67 = .ok (.iload 4, 2) := by decide +kernel
theorem dX2_fillClashes_69 : decode cX2_fillClashes 69 = .ok (.iaload, 1) := by decide +kernel
theorem dX2_fillClashes_70 : decode cX2_fillClashes 70 = .ok (.aload_n 2, 1) := by decide +kernel
theorem dX2_fillClashes_71 : decode cX2_fillClashes 71 = .ok (.invokevirtual 42, 3) := by decide +kernel
theorem dX2_fillClashes_74 : decode cX2_fillClashes 74 = .ok (.iload 4, 2) := by decide +kernel
theorem dX2_fillClashes_76 : decode cX2_fillClashes 76 = .ok (.istore_n 3, 1) := by decide +kernel
theorem dX2_fillClashes_77 : decode cX2_fillClashes 77 = .ok (.iinc 4 1, 3) := by decide +kernel
theorem dX2_fillClashes_80 : decode cX2_fillClashes 80 = .ok (.goto (-57), 3) := by decide +kernel
theorem dX2_fillClashes_83 : decode cX2_fillClashes 83 = .ok (.return_, 1) := by decide +kernel
theorem dX2_clashTogether_0 : decode cX2_clashTogether 0 = .ok (.iconst 0, 1) := by decide +kernel
theorem dX2_clashTogether_1 : decode cX2_clashTogether 1 = .ok (.istore_n 3, 1) := by decide +kernel
theorem dX2_clashTogether_2 : decode cX2_clashTogether 2 = .ok (.iload_n 3, 1) := by decide +kernel
theorem dX2_clashTogether_3 : decode cX2_clashTogether 3 = .ok (.aload_n 0, 1) := by decide +kernel
theorem dX2_clashTogether_4 : decode cX2_clashTogether 4 = .ok (.getfield 27, 3) := by decide +kernel
theorem dX2_clashTogether_7 : decode cX2_clashTogether 7 = .ok (.if_icmp .ge 30, 3) := by decide +kernel
theorem dX2_clashTogether_10 : decode cX2_clashTogether 10 = .ok (.iload_n 1, 1) := by decide +kernel
theorem dX2_clashTogether_11 : decode cX2_clashTogether 11 = .ok (.iload_n 3, 1) := by decide +kernel
theorem dX2_clashTogether_12 : decode cX2_clashTogether 12 = .ok (.invokestatic 34, 3) := by decide +kernel
theorem dX2_clashTogether_15 : decode cX2_clashTogether 15 = .ok (.ifCond .eq 16, 3) := by decide +kernel
theorem dX2_clashTogether_18 : decode cX2_clashTogether 18 = .ok (.aload_n 2, 1) := by decide +kernel
theorem dX2_clashTogether_19 : decode cX2_clashTogether 19 = .ok (.iload_n 3, 1) := by decide +kernel
theorem dX2_clashTogether_20 : decode cX2_clashTogether 20 = .ok (.dup2, 1) := by decide +kernel
theorem dX2_clashTogether_21 : decode cX2_clashTogether 21 = .ok (.iaload, 1) := by decide +kernel
theorem dX2_clashTogether_22 : decode cX2_clashTogether 22 = .ok (.iload_n 1, 1) := by decide +kernel
theorem dX2_clashTogether_23 : decode cX2_clashTogether 23 = .ok (.iconst 1, 1) := by decide +kernel
theorem dX2_clashTogether_24 : decode cX2_clashTogether 24 = .ok (.iload_n 3, 1) := by decide +kernel
theorem dX2_clashTogether_25 : decode cX2_clashTogether 25 = .ok (.ishl, 1) := by decide +kernel
theorem dX2_clashTogether_26 : decode cX2_clashTogether 26 = .ok (.iconst (-1), 1) := by decide +kernel
theorem dX2_clashTogether_27 : decode cX2_clashTogether 27 = .ok (.ixor, 1) := by decide +kernel
theorem dX2_clashTogether_28 : decode cX2_clashTogether 28 = .ok (.iand, 1) := by decide +kernel
theorem dX2_clashTogether_29 : decode cX2_clashTogether 29 = .ok (.ior, 1) := by decide +kernel
theorem dX2_clashTogether_30 : decode cX2_clashTogether 30 = .ok (.iastore, 1) := by decide +kernel
theorem dX2_clashTogether_31 : decode cX2_clashTogether 31 = .ok (.iinc 3 1, 3) := by decide +kernel
theorem dX2_clashTogether_34 : decode cX2_clashTogether 34 = .ok (.goto (-32), 3) := by decide +kernel
theorem dX2_clashTogether_37 : decode cX2_clashTogether 37 = .ok (.return_, 1) := by decide +kernel
theorem dX2_clashInTurn_0 : decode cX2_clashInTurn 0 = .ok (.iconst 0, 1) := by decide +kernel
theorem dX2_clashInTurn_1 : decode cX2_clashInTurn 1 = .ok (.istore 4, 2) := by decide +kernel
theorem dX2_clashInTurn_3 : decode cX2_clashInTurn 3 = .ok (.iload 4, 2) := by decide +kernel
theorem dX2_clashInTurn_5 : decode cX2_clashInTurn 5 = .ok (.aload_n 0, 1) := by decide +kernel
theorem dX2_clashInTurn_6 : decode cX2_clashInTurn 6 = .ok (.getfield 27, 3) := by decide +kernel
theorem dX2_clashInTurn_9 : decode cX2_clashInTurn 9 = .ok (.if_icmp .ge 106, 3) := by decide +kernel
theorem dX2_clashInTurn_12 : decode cX2_clashInTurn 12 = .ok (.aload_n 0, 1) := by decide +kernel
theorem dX2_clashInTurn_13 : decode cX2_clashInTurn 13 = .ok (.getfield 21, 3) := by decide +kernel
theorem dX2_clashInTurn_16 : decode cX2_clashInTurn 16 = .ok (.iload_n 1, 1) := by decide +kernel
theorem dX2_clashInTurn_17 : decode cX2_clashInTurn 17 = .ok (.iaload, 1) := by decide +kernel
theorem dX2_clashInTurn_18 : decode cX2_clashInTurn 18 = .ok (.iload 4, 2) := by decide +kernel
theorem dX2_clashInTurn_20 : decode cX2_clashInTurn 20 = .ok (.invokestatic 34, 3) := by decide +kernel
theorem dX2_clashInTurn_23 : decode cX2_clashInTurn 23 = .ok (.ifCond .ne 6, 3) := by decide +kernel
theorem dX2_clashInTurn_26 : decode cX2_clashInTurn 26 = .ok (.goto 83, 3) := by decide +kernel
theorem dX2_clashInTurn_29 : decode cX2_clashInTurn 29 = .ok (.iconst 0, 1) := by decide +kernel
theorem dX2_clashInTurn_30 : decode cX2_clashInTurn 30 = .ok (.istore 5, 2) := by decide +kernel
theorem dX2_clashInTurn_32 : decode cX2_clashInTurn 32 = .ok (.iload 5, 2) := by decide +kernel
theorem dX2_clashInTurn_34 : decode cX2_clashInTurn 34 = .ok (.aload_n 0, 1) := by decide +kernel
theorem dX2_clashInTurn_35 : decode cX2_clashInTurn 35 = .ok (.getfield 27, 3) := by decide +kernel
theorem dX2_clashInTurn_38 : decode cX2_clashInTurn 38 = .ok (.if_icmp .ge 71, 3) := by decide +kernel
theorem dX2_clashInTurn_41 : decode cX2_clashInTurn 41 = .ok (.iload 5, 2) := by decide +kernel
theorem dX2_clashInTurn_43 : decode cX2_clashInTurn 43 = .ok (.iload 4, 2) := by decide +kernel
theorem dX2_clashInTurn_45 : decode cX2_clashInTurn 45 = .ok (.if_icmp .eq 58, 3) := by decide +kernel
theorem dX2_clashInTurn_48 : decode cX2_clashInTurn 48 = .ok (.iload_n 2, 1) := by decide +kernel
theorem dX2_clashInTurn_49 : decode cX2_clashInTurn 49 = .ok (.iload 5, 2) := by decide +kernel
theorem dX2_clashInTurn_51 : decode cX2_clashInTurn 51 = .ok (.invokestatic 34, 3) := by decide +kernel
theorem dX2_clashInTurn_54 : decode cX2_clashInTurn 54 = .ok (.ifCond .eq 49, 3) := by decide +kernel
theorem dX2_clashInTurn_57 : decode cX2_clashInTurn 57 = .ok (.aload_n 0, 1) := by decide +kernel
theorem dX2_clashInTurn_58 : decode cX2_clashInTurn 58 = .ok (.getfield 18, 3) := by decide +kernel
theorem dX2_clashInTurn_61 : decode cX2_clashInTurn 61 = .ok (.iload 4, 2) := by decide +kernel
theorem dX2_clashInTurn_63 : decode cX2_clashInTurn 63 = .ok (.iaload, 1) := by decide +kernel
theorem dX2_clashInTurn_64 : decode cX2_clashInTurn 64 = .ok (.aload_n 0, 1) := by decide +kernel
theorem dX2_clashInTurn_65 : decode cX2_clashInTurn 65 = .ok (.getfield 18, 3) := by decide +kernel
theorem dX2_clashInTurn_68 : decode cX2_clashInTurn 68 = .ok (.iload 5, 2) := by decide +kernel
theorem dX2_clashInTurn_70 : decode cX2_clashInTurn 70 = .ok (.iaload, 1) := by decide +kernel
theorem dX2_clashInTurn_71 : decode cX2_clashInTurn 71 = .ok (.iadd, 1) := by decide +kernel
theorem dX2_clashInTurn_72 : decode cX2_clashInTurn 72 = .ok (.aload_n 0, 1) := by decide +kernel
theorem dX2_clashInTurn_73 : decode cX2_clashInTurn 73 = .ok (.getfield 24, 3) := by decide +kernel
theorem dX2_clashInTurn_76 : decode cX2_clashInTurn 76 = .ok (.iload_n 1, 1) := by decide +kernel
theorem dX2_clashInTurn_77 : decode cX2_clashInTurn 77 = .ok (.iaload, 1) := by decide +kernel
theorem dX2_clashInTurn_78 : decode cX2_clashInTurn 78 = .ok (.if_icmp .le 25, 3) := by decide +kernel
theorem dX2_clashInTurn_81 : decode cX2_clashInTurn 81 = .ok (.aload_n 3, 1) := by decide +kernel
theorem dX2_clashInTurn_82 : decode cX2_clashInTurn 82 = .ok (.iload 4, 2) := by decide +kernel
theorem dX2_clashInTurn_84 : decode cX2_clashInTurn 84 = .ok (.dup2, 1) := by decide +kernel
theorem dX2_clashInTurn_85 : decode cX2_clashInTurn 85 = .ok (.iaload, 1) := by decide +kernel
theorem dX2_clashInTurn_86 : decode cX2_clashInTurn 86 = .ok (.iconst 1, 1) := by decide +kernel
theorem dX2_clashInTurn_87 : decode cX2_clashInTurn 87 = .ok (.iload 5, 2) := by decide +kernel
theorem dX2_clashInTurn_89 : decode cX2_clashInTurn 89 = .ok (.ishl, 1) := by decide +kernel
theorem dX2_clashInTurn_90 : decode cX2_clashInTurn 90 = .ok (.ior, 1) := by decide +kernel
theorem dX2_clashInTurn_91 : decode cX2_clashInTurn 91 = .ok (.iastore, 1) := by decide +kernel
theorem dX2_clashInTurn_92 : decode cX2_clashInTurn 92 = .ok (.aload_n 3, 1) := by decide +kernel
theorem dX2_clashInTurn_93 : decode cX2_clashInTurn 93 = .ok (.iload 5, 2) := by decide +kernel
theorem dX2_clashInTurn_95 : decode cX2_clashInTurn 95 = .ok (.dup2, 1) := by decide +kernel
theorem dX2_clashInTurn_96 : decode cX2_clashInTurn 96 = .ok (.iaload, 1) := by decide +kernel
theorem dX2_clashInTurn_97 : decode cX2_clashInTurn 97 = .ok (.iconst 1, 1) := by decide +kernel
theorem dX2_clashInTurn_98 : decode cX2_clashInTurn 98 = .ok (.iload 4, 2) := by decide +kernel
theorem dX2_clashInTurn_100 : decode cX2_clashInTurn 100 = .ok (.ishl, 1) := by decide +kernel
theorem dX2_clashInTurn_101 : decode cX2_clashInTurn 101 = .ok (.ior, 1) := by decide +kernel
theorem dX2_clashInTurn_102 : decode cX2_clashInTurn 102 = .ok (.iastore, 1) := by decide +kernel
theorem dX2_clashInTurn_103 : decode cX2_clashInTurn 103 = .ok (.iinc 5 1, 3) := by decide +kernel
theorem dX2_clashInTurn_106 : decode cX2_clashInTurn 106 = .ok (.goto (-74), 3) := by decide +kernel
theorem dX2_clashInTurn_109 : decode cX2_clashInTurn 109 = .ok (.iinc 4 1, 3) := by decide +kernel
theorem dX2_clashInTurn_112 : decode cX2_clashInTurn 112 = .ok (.goto (-109), 3) := by decide +kernel
theorem dX2_clashInTurn_115 : decode cX2_clashInTurn 115 = .ok (.return_, 1) := by decide +kernel
theorem dX3_init_0 : decode cX3_init 0 = .ok (.aload_n 0, 1) := by decide +kernel
theorem dX3_init_1 : decode cX3_init 1 = .ok (.invokespecial 3, 3) := by decide +kernel
theorem dX3_init_4 : decode cX3_init 4 = .ok (.aload_n 0, 1) := by decide +kernel
theorem dX3_init_5 : decode cX3_init 5 = .ok (.iconst 5, 1) := by decide +kernel
theorem dX3_init_6 : decode cX3_init 6 = .ok (.newarray .int, 2) := by decide +kernel
theorem dX3_init_8 : decode cX3_init 8 = .ok (.putfield 9, 3) := by decide +kernel
theorem dX3_init_11 : decode cX3_init 11 = .ok (.aload_n 0, 1) := by decide +kernel
theorem dX3_init_12 : decode cX3_init 12 = .ok (.iconst 5, 1) := by decide +kernel
theorem dX3_init_13 : decode cX3_init 13 = .ok (.newarray .int, 2) := by decide +kernel
theorem dX3_init_15 : decode cX3_init 15 = .ok (.putfield 15, 3) := by decide +kernel
theorem dX3_init_18 : decode cX3_init 18 = .ok (.aload_n 0, 1) := by decide +kernel
theorem dX3_init_19 : decode cX3_init 19 = .ok (.iconst 5, 1) := by decide +kernel
theorem dX3_init_20 : decode cX3_init 20 = .ok (.newarray .int, 2) := by decide +kernel
theorem dX3_init_22 : decode cX3_init 22 = .ok (.putfield 18, 3) := by decide +kernel
theorem dX3_init_25 : decode cX3_init 25 = .ok (.aload_n 0, 1) := by decide +kernel
theorem dX3_init_26 : decode cX3_init 26 = .ok (.bipush 32, 2) := by decide +kernel
theorem dX3_init_28 : decode cX3_init 28 = .ok (.newarray .int, 2) := by decide +kernel
theorem dX3_init_30 : decode cX3_init 30 = .ok (.putfield 21, 3) := by decide +kernel
theorem dX3_init_33 : decode cX3_init 33 = .ok (.aload_n 0, 1) := by decide +kernel
theorem dX3_init_34 : decode cX3_init 34 = .ok (.bipush 32, 2) := by decide +kernel
theorem dX3_init_36 : decode cX3_init 36 = .ok (.iconst 5, 1) := by decide +kernel
theorem dX3_init_37 : decode cX3_init 37 = .ok (.multianewarray 24 2, 4) := by decide +kernel
theorem dX3_init_41 : decode cX3_init 41 = .ok (.putfield 26, 3) := by decide +kernel
theorem dX3_init_44 : decode cX3_init 44 = .ok (.return_, 1) := by decide +kernel
theorem dX3_addTown_0 : decode cX3_addTown 0 = .ok (.aload_n 0, 1) := by decide +kernel
theorem dX3_addTown_1 : decode cX3_addTown 1 = .ok (.getfield 29, 3) := by decide +kernel
theorem dX3_addTown_4 : decode cX3_addTown 4 = .ok (.istore 4, 2) := by decide +kernel
theorem dX3_addTown_6 : decode cX3_addTown 6 = .ok (.aload_n 0, 1) := by decide +kernel
theorem dX3_addTown_7 : decode cX3_addTown 7 = .ok (.getfield 9, 3) := by decide +kernel
theorem dX3_addTown_10 : decode cX3_addTown 10 = .ok (.iload 4, 2) := by decide +kernel
theorem dX3_addTown_12 : decode cX3_addTown 12 = .ok (.iload_n 1, 1) := by decide +kernel
theorem dX3_addTown_13 : decode cX3_addTown 13 = .ok (.iastore, 1) := by decide +kernel
theorem dX3_addTown_14 : decode cX3_addTown 14 = .ok (.aload_n 0, 1) := by decide +kernel
theorem dX3_addTown_15 : decode cX3_addTown 15 = .ok (.getfield 15, 3) := by decide +kernel
theorem dX3_addTown_18 : decode cX3_addTown 18 = .ok (.iload 4, 2) := by decide +kernel
theorem dX3_addTown_20 : decode cX3_addTown 20 = .ok (.iload_n 2, 1) := by decide +kernel
theorem dX3_addTown_21 : decode cX3_addTown 21 = .ok (.iastore, 1) := by decide +kernel
theorem dX3_addTown_22 : decode cX3_addTown 22 = .ok (.aload_n 0, 1) := by decide +kernel
theorem dX3_addTown_23 : decode cX3_addTown 23 = .ok (.getfield 18, 3) := by decide +kernel
theorem dX3_addTown_26 : decode cX3_addTown 26 = .ok (.iload 4, 2) := by decide +kernel
theorem dX3_addTown_28 : decode cX3_addTown 28 = .ok (.iload_n 3, 1) := by decide +kernel
theorem dX3_addTown_29 : decode cX3_addTown 29 = .ok (.iastore, 1) := by decide +kernel
theorem dX3_addTown_30 : decode cX3_addTown 30 = .ok (.aload_n 0, 1) := by decide +kernel
theorem dX3_addTown_31 : decode cX3_addTown 31 = .ok (.dup, 1) := by decide +kernel
theorem dX3_addTown_32 : decode cX3_addTown 32 = .ok (.getfield 29, 3) := by decide +kernel
theorem dX3_addTown_35 : decode cX3_addTown 35 = .ok (.iconst 1, 1) := by decide +kernel
theorem dX3_addTown_36 : decode cX3_addTown 36 = .ok (.iadd, 1) := by decide +kernel
theorem dX3_addTown_37 : decode cX3_addTown 37 = .ok (.putfield 29, 3) := by decide +kernel
theorem dX3_addTown_40 : decode cX3_addTown 40 = .ok (.iconst 1, 1) := by decide +kernel
theorem dX3_addTown_41 : decode cX3_addTown 41 = .ok (.iload 4, 2) := by decide +kernel
theorem dX3_addTown_43 : decode cX3_addTown 43 = .ok (.ishl, 1) := by decide +kernel
theorem dX3_addTown_44 : decode cX3_addTown 44 = .ok (.istore 5, 2) := by decide +kernel
theorem dX3_addTown_46 : decode cX3_addTown 46 = .ok (.iload 5, 2) := by decide +kernel
theorem dX3_addTown_48 : decode cX3_addTown 48 = .ok (.iconst 1, 1) := by decide +kernel
theorem dX3_addTown_49 : decode cX3_addTown 49 = .ok (.aload_n 0, 1) := by decide +kernel
theorem dX3_addTown_50 : decode cX3_addTown 50 = .ok (.getfield 29, 3) := by decide +kernel
theorem dX3_addTown_53 : decode cX3_addTown 53 = .ok (.ishl, 1) := by decide +kernel
theorem dX3_addTown_54 : decode cX3_addTown 54 = .ok (.if_icmp .ge 15, 3) := by decide +kernel
theorem dX3_addTown_57 : decode cX3_addTown 57 = .ok (.aload_n 0, 1) := by decide +kernel
theorem dX3_addTown_58 : decode cX3_addTown 58 = .ok (.iload 5, 2) := by decide +kernel
theorem dX3_addTown_60 : decode cX3_addTown 60 = .ok (.invokevirtual 33, 3) := by decide +kernel
theorem dX3_addTown_63 : decode cX3_addTown 63 = .ok (.iinc 5 1, 3) := by decide +kernel
theorem dX3_addTown_66 : decode cX3_addTown 66 = .ok (.goto (-20), 3) := by decide +kernel
theorem dX3_addTown_69 : decode cX3_addTown 69 = .ok (.iload 4, 2) := by decide +kernel
theorem dX3_addTown_71 : decode cX3_addTown 71 = .ok (.ireturn, 1) := by decide +kernel
theorem dX3_measure_0 : decode cX3_measure 0 = .ok (.aload_n 0, 1) := by decide +kernel
theorem dX3_measure_1 : decode cX3_measure 1 = .ok (.getfield 21, 3) := by decide +kernel
theorem dX3_measure_4 : decode cX3_measure 4 = .ok (.iload_n 1, 1) := by decide +kernel
theorem dX3_measure_5 : decode cX3_measure 5 = .ok (.iconst (-1), 1) := by decide +kernel
theorem dX3_measure_6 : decode cX3_measure 6 = .ok (.iastore, 1) := by decide +kernel
theorem dX3_measure_7 : decode cX3_measure 7 = .ok (.iconst 0, 1) := by decide +kernel
theorem dX3_measure_8 : decode cX3_measure 8 = .ok (.istore_n 2, 1) := by decide +kernel
theorem dX3_measure_9 : decode cX3_measure 9 = .ok (.iload_n 2, 1) := by decide +kernel
theorem dX3_measure_10 : decode cX3_measure 10 = .ok (.aload_n 0, 1) := by decide +kernel
theorem dX3_measure_11 : decode cX3_measure 11 = .ok (.getfield 29, 3) := by decide +kernel
theorem dX3_measure_14 : decode cX3_measure 14 = .ok (.if_icmp .ge 82, 3) := by decide +kernel
theorem dX3_measure_17 : decode cX3_measure 17 = .ok (.iload_n 1, 1) := by decide +kernel
theorem dX3_measure_18 : decode cX3_measure 18 = .ok (.iload_n 2, 1) := by decide +kernel
theorem dX3_measure_19 : decode cX3_measure 19 = .ok (.invokestatic 37, 3) := by decide +kernel
theorem dX3_measure_22 : decode cX3_measure 22 = .ok (.ifCond .ne 6, 3) := by decide +kernel
theorem dX3_measure_25 : decode cX3_measure 25 = .ok (.goto 65, 3) := by decide +kernel
theorem dX3_measure_28 : decode cX3_measure 28 = .ok (.aload_n 0, 1) := by decide +kernel
theorem dX3_measure_29 : decode cX3_measure 29 = .ok (.getfield 26, 3) := by decide +kernel
theorem dX3_measure_32 : decode cX3_measure 32 = .ok (.iload_n 1, 1) := by decide +kernel
theorem dX3_measure_33 : decode cX3_measure 33 = .ok (.aaload, 1) := by decide +kernel
theorem dX3_measure_34 : decode cX3_measure 34 = .ok (.iload_n 2, 1) := by decide +kernel
theorem dX3_measure_35 : decode cX3_measure 35 = .ok (.aload_n 0, 1) := by decide +kernel
theorem dX3_measure_36 : decode cX3_measure 36 = .ok (.iload_n 1, 1) := by decide +kernel
theorem dX3_measure_37 : decode cX3_measure 37 = .ok (.iconst 1, 1) := by decide +kernel
theorem dX3_measure_38 : decode cX3_measure 38 = .ok (.iload_n 2, 1) := by decide +kernel
theorem dX3_measure_39 : decode cX3_measure 39 = .ok (.ishl, 1) := by decide +kernel
theorem dX3_measure_40 : decode cX3_measure 40 = .ok (.iconst (-1), 1) := by decide +kernel
theorem dX3_measure_41 : decode cX3_measure 41 = .ok (.ixor, 1) := by decide +kernel
theorem dX3_measure_42 : decode cX3_measure 42 = .ok (.iand, 1) := by decide +kernel
theorem dX3_measure_43 : decode cX3_measure 43 = .ok (.iload_n 2, 1) := by decide +kernel
theorem dX3_measure_44 : decode cX3_measure 44 = .ok (.invokevirtual 41, 3) := by decide +kernel
theorem dX3_measure_47 : decode cX3_measure 47 = .ok (.iastore, 1) := by decide +kernel
theorem dX3_measure_48 : decode cX3_measure 48 = .ok (.aload_n 0, 1) := by decide +kernel
theorem dX3_measure_49 : decode cX3_measure 49 = .ok (.getfield 26, 3) := by decide +kernel
theorem dX3_measure_52 : decode cX3_measure 52 = .ok (.iload_n 1, 1) := by decide +kernel
theorem dX3_measure_53 : decode cX3_measure 53 = .ok (.aaload, 1) := by decide +kernel
theorem dX3_measure_54 : decode cX3_measure 54 = .ok (.iload_n 2, 1) := by decide +kernel
theorem dX3_measure_55 : decode cX3_measure 55 = .ok (.iaload, 1) := by decide +kernel
theorem dX3_measure_56 : decode cX3_measure 56 = .ok (.aload_n 0, 1) := by decide +kernel
theorem dX3_measure_57 : decode cX3_measure 57 = .ok (.iload_n 2, 1) := by decide +kernel
theorem dX3_measure_58 : decode cX3_measure 58 = .ok (.invokevirtual 45, 3) := by decide +kernel
theorem dX3_measure_61 : decode cX3_measure 61 = .ok (.iadd, 1) := by decide +kernel
theorem dX3_measure_62 : decode cX3_measure 62 = .ok (.istore_n 3, 1) := by decide +kernel
theorem dX3_measure_63 : decode cX3_measure 63 = .ok (.aload_n 0, 1) := by decide +kernel
theorem dX3_measure_64 : decode cX3_measure 64 = .ok (.getfield 21, 3) := by decide +kernel
theorem dX3_measure_67 : decode cX3_measure 67 = .ok (.iload_n 1, 1) := by decide +kernel
theorem dX3_measure_68 : decode cX3_measure 68 = .ok (.iaload, 1) := by decide +kernel
theorem dX3_measure_69 : decode cX3_measure 69 = .ok (.iconst (-1), 1) := by decide +kernel
theorem dX3_measure_70 : decode cX3_measure 70 = .ok (.if_icmp .eq 13, 3) := by decide +kernel
theorem dX3_measure_73 : decode cX3_measure 73 = .ok (.iload_n 3, 1) := by decide +kernel
theorem dX3_measure_74 : decode cX3_measure 74 = .ok (.aload_n 0, 1) := by decide +kernel
theorem dX3_measure_75 : decode cX3_measure 75 = .ok (.getfield 21, 3) := by decide +kernel
theorem dX3_measure_78 : decode cX3_measure 78 = .ok (.iload_n 1, 1) := by decide +kernel
theorem dX3_measure_79 : decode cX3_measure 79 = .ok (.iaload, 1) := by decide +kernel
theorem dX3_measure_80 : decode cX3_measure 80 = .ok (.if_icmp .ge 10, 3) := by decide +kernel
theorem dX3_measure_83 : decode cX3_measure 83 = .ok (.aload_n 0, 1) := by decide +kernel
theorem dX3_measure_84 : decode cX3_measure 84 = .ok (.getfield 21, 3) := by decide +kernel
theorem dX3_measure_87 : decode cX3_measure 87 = .ok (.iload_n 1, 1) := by decide +kernel
theorem dX3_measure_88 : decode cX3_measure 88 = .ok (.iload_n 3, 1) := by decide +kernel
theorem dX3_measure_89 : decode cX3_measure 89 = .ok (.iastore, 1) := by decide +kernel
theorem dX3_measure_90 : decode cX3_measure 90 = .ok (.iinc 2 1, 3) := by decide +kernel
theorem dX3_measure_93 : decode cX3_measure 93 = .ok (.goto (-84), 3) := by decide +kernel
theorem dX3_measure_96 : decode cX3_measure 96 = .ok (.return_, 1) := by decide +kernel
theorem dX3_milesOut_0 : decode cX3_milesOut 0 = .ok (.iload_n 1, 1) := by decide +kernel
theorem dX3_milesOut_1 : decode cX3_milesOut 1 = .ok (.ifCond .ne 9, 3) := by decide +kernel
theorem dX3_milesOut_4 : decode cX3_milesOut 4 = .ok (.aload_n 0, 1) := by decide +kernel
theorem dX3_milesOut_5 : decode cX3_milesOut 5 = .ok (.iload_n 2, 1) := by decide +kernel
theorem dX3_milesOut_6 : decode cX3_milesOut 6 = .ok (.invokevirtual 45, 3) := by decide +kernel
theorem dX3_milesOut_9 : decode cX3_milesOut 9 = .ok (.ireturn, 1) := by decide +kernel
theorem dX3_milesOut_10 : decode cX3_milesOut 10 = .ok (.iconst (-1), 1) := by decide +kernel
theorem dX3_milesOut_11 : decode cX3_milesOut 11 = .ok (.istore_n 3, 1) := by decide +kernel
theorem dX3_milesOut_12 : decode cX3_milesOut 12 = .ok (.iconst 0, 1) := by decide +kernel
theorem dX3_milesOut_13 : decode cX3_milesOut 13 = .ok (.istore 4, 2) := by decide +kernel
theorem dX3_milesOut_15 : decode cX3_milesOut 15 = .ok (.iload 4, 2) := by decide +kernel
theorem dX3_milesOut_17 : decode cX3_milesOut 17 = .ok (.aload_n 0, 1) := by decide +kernel
theorem dX3_milesOut_18 : decode cX3_milesOut 18 = .ok (.getfield 29, 3) := by decide +kernel
theorem dX3_milesOut_21 : decode cX3_milesOut 21 = .ok (.if_icmp .ge 82, 3) := by decide +kernel
theorem dX3_milesOut_24 : decode cX3_milesOut 24 = .ok (.iload_n 1, 1) := by decide +kernel
theorem dX3_milesOut_25 : decode cX3_milesOut 25 = .ok (.iload 4, 2) := by decide +kernel
theorem dX3_milesOut_27 : decode cX3_milesOut 27 = .ok (.invokestatic 37, 3) := by decide +kernel
theorem dX3_milesOut_30 : decode cX3_milesOut 30 = .ok (.ifCond .ne 6, 3) := by decide +kernel
theorem dX3_milesOut_33 : decode cX3_milesOut 33 = .ok (.goto 64, 3) := by decide +kernel
theorem dX3_milesOut_36 : decode cX3_milesOut 36 = .ok (.aload_n 0, 1) := by decide +kernel
theorem dX3_milesOut_37 : decode cX3_milesOut 37 = .ok (.getfield 26, 3) := by decide +kernel
theorem dX3_milesOut_40 : decode cX3_milesOut 40 = .ok (.iload_n 1, 1) := by decide +kernel
theorem dX3_milesOut_41 : decode cX3_milesOut 41 = .ok (.aaload, 1) := by decide +kernel
theorem dX3_milesOut_42 : decode cX3_milesOut 42 = .ok (.iload 4, 2) := by decide +kernel
theorem dX3_milesOut_44 : decode cX3_milesOut 44 = .ok (.iaload, 1) := by decide +kernel
theorem dX3_milesOut_45 : decode cX3_milesOut 45 = .ok (.aload_n 0, 1) := by decide +kernel
theorem dX3_milesOut_46 : decode cX3_milesOut 46 = .ok (.getfield 9, 3) := by decide +kernel
theorem dX3_milesOut_49 : decode cX3_milesOut 49 = .ok (.iload 4, 2) := by decide +kernel
theorem dX3_milesOut_51 : decode cX3_milesOut 51 = .ok (.iaload, 1) := by decide +kernel
theorem dX3_milesOut_52 : decode cX3_milesOut 52 = .ok (.aload_n 0, 1) := by decide +kernel
theorem dX3_milesOut_53 : decode cX3_milesOut 53 = .ok (.getfield 9, 3) := by decide +kernel
theorem dX3_milesOut_56 : decode cX3_milesOut 56 = .ok (.iload_n 2, 1) := by decide +kernel
theorem dX3_milesOut_57 : decode cX3_milesOut 57 = .ok (.iaload, 1) := by decide +kernel
theorem dX3_milesOut_58 : decode cX3_milesOut 58 = .ok (.isub, 1) := by decide +kernel
theorem dX3_milesOut_59 : decode cX3_milesOut 59 = .ok (.invokestatic 49, 3) := by decide +kernel
theorem dX3_milesOut_62 : decode cX3_milesOut 62 = .ok (.iadd, 1) := by decide +kernel
theorem dX3_milesOut_63 : decode cX3_milesOut 63 = .ok (.aload_n 0, 1) := by decide +kernel
theorem dX3_milesOut_64 : decode cX3_milesOut 64 = .ok (.getfield 15, 3) := by decide +kernel
theorem dX3_milesOut_67 : decode cX3_milesOut 67 = .ok (.iload 4, 2) := by decide +kernel
theorem dX3_milesOut_69 : decode cX3_milesOut 69 = .ok (.iaload, 1) := by decide +kernel
theorem dX3_milesOut_70 : decode cX3_milesOut 70 = .ok (.aload_n 0, 1) := by decide +kernel
theorem dX3_milesOut_71 : decode cX3_milesOut 71 = .ok (.getfield 15, 3) := by decide +kernel
theorem dX3_milesOut_74 : decode cX3_milesOut 74 = .ok (.iload_n 2, 1) := by decide +kernel
theorem dX3_milesOut_75 : decode cX3_milesOut 75 = .ok (.iaload, 1) := by decide +kernel
theorem dX3_milesOut_76 : decode cX3_milesOut 76 = .ok (.isub, 1) := by decide +kernel
theorem dX3_milesOut_77 : decode cX3_milesOut 77 = .ok (.invokestatic 49, 3) := by decide +kernel
theorem dX3_milesOut_80 : decode cX3_milesOut 80 = .ok (.iadd, 1) := by decide +kernel
theorem dX3_milesOut_81 : decode cX3_milesOut 81 = .ok (.istore 5, 2) := by decide +kernel
theorem dX3_milesOut_83 : decode cX3_milesOut 83 = .ok (.iload_n 3, 1) := by decide +kernel
theorem dX3_milesOut_84 : decode cX3_milesOut 84 = .ok (.iconst (-1), 1) := by decide +kernel
theorem dX3_milesOut_85 : decode cX3_milesOut 85 = .ok (.if_icmp .eq 9, 3) := by decide +kernel
theorem dX3_milesOut_88 : decode cX3_milesOut 88 = .ok (.iload 5, 2) := by decide +kernel
theorem dX3_milesOut_90 : decode cX3_milesOut 90 = .ok (.iload_n 3, 1) := by decide +kernel
theorem dX3_milesOut_91 : decode cX3_milesOut 91 = .ok (.if_icmp .ge 6, 3) := by decide +kernel
theorem dX3_milesOut_94 : decode cX3_milesOut 94 = .ok (.iload 5, 2) := by decide +kernel
theorem dX3_milesOut_96 : decode cX3_milesOut 96 = .ok (.istore_n 3, 1) := by decide +kernel
theorem dX3_milesOut_97 : decode cX3_milesOut 97 = .ok (.iinc 4 1, 3) := by decide +kernel
theorem dX3_milesOut_100 : decode cX3_milesOut 100 = .ok (.goto (-85), 3) := by decide +kernel
theorem dX3_milesOut_103 : decode cX3_milesOut 103 = .ok (.iload_n 3, 1) := by decide +kernel
theorem dX3_milesOut_104 : decode cX3_milesOut 104 = .ok (.ireturn, 1) := by decide +kernel
theorem dX3_milesHome_0 : decode cX3_milesHome 0 = .ok (.aload_n 0, 1) := by decide +kernel
theorem dX3_milesHome_1 : decode cX3_milesHome 1 = .ok (.getfield 9, 3) := by decide +kernel
theorem dX3_milesHome_4 : decode cX3_milesHome 4 = .ok (.iload_n 1, 1) := by decide +kernel
theorem dX3_milesHome_5 : decode cX3_milesHome 5 = .ok (.iaload, 1) := by decide +kernel
theorem dX3_milesHome_6 : decode cX3_milesHome 6 = .ok (.aload_n 0, 1) := by decide +kernel
theorem dX3_milesHome_7 : decode cX3_milesHome 7 = .ok (.getfield 15, 3) := by decide +kernel
theorem dX3_milesHome_10 : decode cX3_milesHome 10 = .ok (.iload_n 1, 1) := by decide +kernel
theorem dX3_milesHome_11 : decode cX3_milesHome 11 = .ok (.iaload, 1) := by decide +kernel
theorem dX3_milesHome_12 : decode cX3_milesHome 12 = .ok (.iadd, 1) := by decide +kernel
theorem dX3_milesHome_13 : decode cX3_milesHome 13 = .ok (.ireturn, 1) := by decide +kernel
theorem dX3_takingsOf_0 : decode cX3_takingsOf 0 = .ok (.iconst 0, 1) := by decide +kernel
theorem dX3_takingsOf_1 : decode cX3_takingsOf 1 = .ok (.istore_n 2, 1) := by decide +kernel
theorem dX3_takingsOf_2 : decode cX3_takingsOf 2 = .ok (.iconst 0, 1) := by decide +kernel
theorem dX3_takingsOf_3 : decode cX3_takingsOf 3 = .ok (.istore_n 3, 1) := by decide +kernel
theorem dX3_takingsOf_4 : decode cX3_takingsOf 4 = .ok (.iload_n 3, 1) := by decide +kernel
theorem dX3_takingsOf_5 : decode cX3_takingsOf 5 = .ok (.aload_n 0, 1) := by decide +kernel
theorem dX3_takingsOf_6 : decode cX3_takingsOf 6 = .ok (.getfield 29, 3) := by decide +kernel
theorem dX3_takingsOf_9 : decode cX3_takingsOf 9 = .ok (.if_icmp .ge 26, 3) := by decide +kernel
theorem dX3_takingsOf_12 : decode cX3_takingsOf 12 = .ok (.iload_n 1, 1) := by decide +kernel
theorem dX3_takingsOf_13 : decode cX3_takingsOf 13 = .ok (.iload_n 3, 1) := by decide +kernel
theorem dX3_takingsOf_14 : decode cX3_takingsOf 14 = .ok (.invokestatic 37, 3) := by decide +kernel
theorem dX3_takingsOf_17 : decode cX3_takingsOf 17 = .ok (.ifCond .eq 12, 3) := by decide +kernel
theorem dX3_takingsOf_20 : decode cX3_takingsOf 20 = .ok (.iload_n 2, 1) := by decide +kernel
theorem dX3_takingsOf_21 : decode cX3_takingsOf 21 = .ok (.aload_n 0, 1) := by decide +kernel
theorem dX3_takingsOf_22 : decode cX3_takingsOf 22 = .ok (.getfield 18, 3) := by decide +kernel
theorem dX3_takingsOf_25 : decode cX3_takingsOf 25 = .ok (.iload_n 3, 1) := by decide +kernel
theorem dX3_takingsOf_26 : decode cX3_takingsOf 26 = .ok (.iaload, 1) := by decide +kernel
theorem dX3_takingsOf_27 : decode cX3_takingsOf 27 = .ok (.iadd, 1) := by decide +kernel
theorem dX3_takingsOf_28 : decode cX3_takingsOf 28 = .ok (.istore_n 2, 1) := by decide +kernel
theorem dX3_takingsOf_29 : decode cX3_takingsOf 29 = .ok (.iinc 3 1, 3) := by decide +kernel
theorem dX3_takingsOf_32 : decode cX3_takingsOf 32 = .ok (.goto (-28), 3) := by decide +kernel
theorem dX3_takingsOf_35 : decode cX3_takingsOf 35 = .ok (.iload_n 2, 1) := by decide +kernel
theorem dX3_takingsOf_36 : decode cX3_takingsOf 36 = .ok (.ireturn, 1) := by decide +kernel
theorem dX3_bestTour_0 : decode cX3_bestTour 0 = .ok (.iconst 0, 1) := by decide +kernel
theorem dX3_bestTour_1 : decode cX3_bestTour 1 = .ok (.istore_n 2, 1) := by decide +kernel
theorem dX3_bestTour_2 : decode cX3_bestTour 2 = .ok (.iconst 1, 1) := by decide +kernel
theorem dX3_bestTour_3 : decode cX3_bestTour 3 = .ok (.istore_n 3, 1) := by decide +kernel
theorem dX3_bestTour_4 : decode cX3_bestTour 4 = .ok (.iload_n 3, 1) := by decide +kernel
theorem dX3_bestTour_5 : decode cX3_bestTour 5 = .ok (.iconst 1, 1) := by decide +kernel
theorem dX3_bestTour_6 : decode cX3_bestTour 6 = .ok (.aload_n 0, 1) := by decide +kernel
theorem dX3_bestTour_7 : decode cX3_bestTour 7 = .ok (.getfield 29, 3) := by decide +kernel
theorem dX3_bestTour_10 : decode cX3_bestTour 10 = .ok (.ishl, 1) := by decide +kernel
theorem dX3_bestTour_11 : decode cX3_bestTour 11 = .ok (.if_icmp .ge 62, 3) := by decide +kernel
theorem dX3_bestTour_14 : decode cX3_bestTour 14 = .ok (.aload_n 0, 1) := by decide +kernel
theorem dX3_bestTour_15 : decode cX3_bestTour 15 = .ok (.getfield 21, 3) := by decide +kernel
theorem dX3_bestTour_18 : decode cX3_bestTour 18 = .ok (.iload_n 3, 1) := by decide +kernel
theorem dX3_bestTour_19 : decode cX3_bestTour 19 = .ok (.iaload, 1) := by decide +kernel
theorem dX3_bestTour_20 : decode cX3_bestTour 20 = .ok (.iload_n 1, 1) := by decide +kernel
theorem dX3_bestTour_21 : decode cX3_bestTour 21 = .ok (.if_icmp .le 6, 3) := by decide +kernel
theorem dX3_bestTour_24 : decode cX3_bestTour 24 = .ok (.goto 43, 3) := by decide +kernel
theorem dX3_bestTour_27 : decode cX3_bestTour 27 = .ok (.aload_n 0, 1) := by decide +kernel
theorem dX3_bestTour_28 : decode cX3_bestTour 28 = .ok (.iload_n 3, 1) := by decide +kernel
theorem dX3_bestTour_29 : decode cX3_bestTour 29 = .ok (.invokevirtual 54, 3) := by decide +kernel
theorem dX3_bestTour_32 : decode cX3_bestTour 32 = .ok (.aload_n 0, 1) := by decide +kernel
theorem dX3_bestTour_33 : decode cX3_bestTour 33 = .ok (.iload_n 2, 1) := by decide +kernel
theorem dX3_bestTour_34 : decode cX3_bestTour 34 = .ok (.invokevirtual 54, 3) := by decide +kernel
theorem dX3_bestTour_37 : decode cX3_bestTour 37 = .ok (.isub, 1) := by decide +kernel
theorem dX3_bestTour_38 : decode cX3_bestTour 38 = .ok (.istore 4, 2) := by decide +kernel
theorem dX3_bestTour_40 : decode cX3_bestTour 40 = .ok (.iload 4, 2) := by decide +kernel
theorem dX3_bestTour_42 : decode cX3_bestTour 42 = .ok (.ifCond .gt 23, 3) := by decide +kernel
theorem dX3_bestTour_45 : decode cX3_bestTour 45 = .ok (.iload 4, 2) := by decide +kernel
theorem dX3_bestTour_47 : decode cX3_bestTour 47 = .ok (.ifCond .ne 20, 3) := by decide +kernel
theorem dX3_bestTour_50 : decode cX3_bestTour 50 = .ok (.aload_n 0, 1) := by decide +kernel
theorem dX3_bestTour_51 : decode cX3_bestTour 51 = .ok (.getfield 21, 3) := by decide +kernel
theorem dX3_bestTour_54 : decode cX3_bestTour 54 = .ok (.iload_n 3, 1) := by decide +kernel
theorem dX3_bestTour_55 : decode cX3_bestTour 55 = .ok (.iaload, 1) := by decide +kernel
theorem dX3_bestTour_56 : decode cX3_bestTour 56 = .ok (.aload_n 0, 1) := by decide +kernel
theorem dX3_bestTour_57 : decode cX3_bestTour 57 = .ok (.getfield 21, 3) := by decide +kernel
theorem dX3_bestTour_60 : decode cX3_bestTour 60 = .ok (.iload_n 2, 1) := by decide +kernel
theorem dX3_bestTour_61 : decode cX3_bestTour 61 = .ok (.iaload, 1) := by decide +kernel
theorem dX3_bestTour_62 : decode cX3_bestTour 62 = .ok (.if_icmp .ge 5, 3) := by decide +kernel
theorem dX3_bestTour_65 : decode cX3_bestTour 65 = .ok (.iload_n 3, 1) := by decide +kernel
theorem dX3_bestTour_66 : decode cX3_bestTour 66 = .ok (.istore_n 2, 1) := by decide +kernel
theorem dX3_bestTour_67 : decode cX3_bestTour 67 = .ok (.iinc 3 1, 3) := by decide +kernel
theorem dX3_bestTour_70 : decode cX3_bestTour 70 = .ok (.goto (-66), 3) := by decide +kernel
theorem dX3_bestTour_73 : decode cX3_bestTour 73 = .ok (.iload_n 2, 1) := by decide +kernel
theorem dX3_bestTour_74 : decode cX3_bestTour 74 = .ok (.ireturn, 1) := by decide +kernel
theorem dX4_init_0 : decode cX4_init 0 = .ok (.aload_n 0, 1) := by decide +kernel
theorem dX4_init_1 : decode cX4_init 1 = .ok (.invokespecial 3, 3) := by decide +kernel
theorem dX4_init_4 : decode cX4_init 4 = .ok (.aload_n 0, 1) := by decide +kernel
theorem dX4_init_5 : decode cX4_init 5 = .ok (.bipush 6, 2) := by decide +kernel
theorem dX4_init_7 : decode cX4_init 7 = .ok (.newarray .int, 2) := by decide +kernel
theorem dX4_init_9 : decode cX4_init 9 = .ok (.putfield 9, 3) := by decide +kernel
theorem dX4_init_12 : decode cX4_init 12 = .ok (.aload_n 0, 1) := by decide +kernel
theorem dX4_init_13 : decode cX4_init 13 = .ok (.bipush 6, 2) := by decide +kernel
theorem dX4_init_15 : decode cX4_init 15 = .ok (.newarray .int, 2) := by decide +kernel
theorem dX4_init_17 : decode cX4_init 17 = .ok (.putfield 15, 3) := by decide +kernel
theorem dX4_init_20 : decode cX4_init 20 = .ok (.aload_n 0, 1) := by decide +kernel
theorem dX4_init_21 : decode cX4_init 21 = .ok (.bipush 6, 2) := by decide +kernel
theorem dX4_init_23 : decode cX4_init 23 = .ok (.newarray .int, 2) := by decide +kernel
theorem dX4_init_25 : decode cX4_init 25 = .ok (.putfield 18, 3) := by decide +kernel
theorem dX4_init_28 : decode cX4_init 28 = .ok (.aload_n 0, 1) := by decide +kernel
theorem dX4_init_29 : decode cX4_init 29 = .ok (.bipush 64, 2) := by decide +kernel
theorem dX4_init_31 : decode cX4_init 31 = .ok (.newarray .int, 2) := by decide +kernel
theorem dX4_init_33 : decode cX4_init 33 = .ok (.putfield 21, 3) := by decide +kernel
theorem dX4_init_36 : decode cX4_init 36 = .ok (.return_, 1) := by decide +kernel
theorem dX4_addCoat_0 : decode cX4_addCoat 0 = .ok (.aload_n 0, 1) := by decide +kernel
theorem dX4_addCoat_1 : decode cX4_addCoat 1 = .ok (.getfield 9, 3) := by decide +kernel
theorem dX4_addCoat_4 : decode cX4_addCoat 4 = .ok (.aload_n 0, 1) := by decide +kernel
theorem dX4_addCoat_5 : decode cX4_addCoat 5 = .ok (.getfield 24, 3) := by decide +kernel
theorem dX4_addCoat_8 : decode cX4_addCoat 8 = .ok (.iload_n 1, 1) := by decide +kernel
theorem dX4_addCoat_9 : decode cX4_addCoat 9 = .ok (.iastore, 1) := by decide +kernel
theorem dX4_addCoat_10 : decode cX4_addCoat 10 = .ok (.aload_n 0, 1) := by decide +kernel
theorem dX4_addCoat_11 : decode cX4_addCoat 11 = .ok (.getfield 15, 3) := by decide +kernel
theorem dX4_addCoat_14 : decode cX4_addCoat 14 = .ok (.aload_n 0, 1) := by decide +kernel
theorem dX4_addCoat_15 : decode cX4_addCoat 15 = .ok (.getfield 24, 3) := by decide +kernel
theorem dX4_addCoat_18 : decode cX4_addCoat 18 = .ok (.iload_n 2, 1) := by decide +kernel
theorem dX4_addCoat_19 : decode cX4_addCoat 19 = .ok (.iastore, 1) := by decide +kernel
theorem dX4_addCoat_20 : decode cX4_addCoat 20 = .ok (.aload_n 0, 1) := by decide +kernel
theorem dX4_addCoat_21 : decode cX4_addCoat 21 = .ok (.getfield 18, 3) := by decide +kernel
theorem dX4_addCoat_24 : decode cX4_addCoat 24 = .ok (.aload_n 0, 1) := by decide +kernel
theorem dX4_addCoat_25 : decode cX4_addCoat 25 = .ok (.getfield 24, 3) := by decide +kernel
theorem dX4_addCoat_28 : decode cX4_addCoat 28 = .ok (.iload_n 3, 1) := by decide +kernel
theorem dX4_addCoat_29 : decode cX4_addCoat 29 = .ok (.iastore, 1) := by decide +kernel
theorem dX4_addCoat_30 : decode cX4_addCoat 30 = .ok (.aload_n 0, 1) := by decide +kernel
theorem dX4_addCoat_31 : decode cX4_addCoat 31 = .ok (.dup, 1) := by decide +kernel
theorem dX4_addCoat_32 : decode cX4_addCoat 32 = .ok (.getfield 24, 3) := by decide +kernel
theorem dX4_addCoat_35 : decode cX4_addCoat 35 = .ok (.iconst 1, 1) := by decide +kernel
theorem dX4_addCoat_36 : decode cX4_addCoat 36 = .ok (.iadd, 1) := by decide +kernel
theorem dX4_addCoat_37 : decode cX4_addCoat 37 = .ok (.putfield 24, 3) := by decide +kernel
theorem dX4_addCoat_40 : decode cX4_addCoat 40 = .ok (.aload_n 0, 1) := by decide +kernel
theorem dX4_addCoat_41 : decode cX4_addCoat 41 = .ok (.getfield 24, 3) := by decide +kernel
theorem dX4_addCoat_44 : decode cX4_addCoat 44 = .ok (.iconst 1, 1) := by decide +kernel
theorem dX4_addCoat_45 : decode cX4_addCoat 45 = .ok (.isub, 1) := by decide +kernel
theorem dX4_addCoat_46 : decode cX4_addCoat 46 = .ok (.ireturn, 1) := by decide +kernel
theorem dX4_startDressing_0 : decode cX4_startDressing 0 = .ok (.iconst 0, 1) := by decide +kernel
theorem dX4_startDressing_1 : decode cX4_startDressing 1 = .ok (.istore_n 1, 1) := by decide +kernel
theorem dX4_startDressing_2 : decode cX4_startDressing 2 = .ok (.iload_n 1, 1) := by decide +kernel
theorem dX4_startDressing_3 : decode cX4_startDressing 3 = .ok (.aload_n 0, 1) := by decide +kernel
theorem dX4_startDressing_4 : decode cX4_startDressing 4 = .ok (.getfield 21, 3) := by decide +kernel
theorem dX4_startDressing_7 : decode cX4_startDressing 7 = .ok (.arraylength, 1) := by decide +kernel
theorem dX4_startDressing_8 : decode cX4_startDressing 8 = .ok (.if_icmp .ge 16, 3) := by decide +kernel
theorem dX4_startDressing_11 : decode cX4_startDressing 11 = .ok (.aload_n 0, 1) := by decide +kernel
theorem dX4_startDressing_12 : decode cX4_startDressing 12 = .ok (.getfield 21, 3) := by decide +kernel
theorem dX4_startDressing_15 : decode cX4_startDressing 15 = .ok (.iload_n 1, 1) := by decide +kernel
theorem dX4_startDressing_16 : decode cX4_startDressing 16 = .ok (.iconst (-1), 1) := by decide +kernel
theorem dX4_startDressing_17 : decode cX4_startDressing 17 = .ok (.iastore, 1) := by decide +kernel
theorem dX4_startDressing_18 : decode cX4_startDressing 18 = .ok (.iinc 1 1, 3) := by decide +kernel
theorem dX4_startDressing_21 : decode cX4_startDressing 21 = .ok (.goto (-19), 3) := by decide +kernel
theorem dX4_startDressing_24 : decode cX4_startDressing 24 = .ok (.aload_n 0, 1) := by decide +kernel
theorem dX4_startDressing_25 : decode cX4_startDressing 25 = .ok (.getfield 21, 3) := by decide +kernel
theorem dX4_startDressing_28 : decode cX4_startDressing 28 = .ok (.iconst 0, 1) := by decide +kernel
theorem dX4_startDressing_29 : decode cX4_startDressing 29 = .ok (.iconst 0, 1) := by decide +kernel
theorem dX4_startDressing_30 : decode cX4_startDressing 30 = .ok (.iastore, 1) := by decide +kernel
theorem dX4_startDressing_31 : decode cX4_startDressing 31 = .ok (.aload_n 0, 1) := by decide +kernel
theorem dX4_startDressing_32 : decode cX4_startDressing 32 = .ok (.iconst 0, 1) := by decide +kernel
theorem dX4_startDressing_33 : decode cX4_startDressing 33 = .ok (.putfield 28, 3) := by decide +kernel
theorem dX4_startDressing_36 : decode cX4_startDressing 36 = .ok (.return_, 1) := by decide +kernel
theorem dX4_dressOneMore_0 : decode cX4_dressOneMore 0 = .ok (.iconst 0, 1) := by decide +kernel
theorem dX4_dressOneMore_1 : decode cX4_dressOneMore 1 = .ok (.istore_n 3, 1) := by decide +kernel
theorem dX4_dressOneMore_2 : decode cX4_dressOneMore 2 = .ok (.iload_n 3, 1) := by decide +kernel
theorem dX4_dressOneMore_3 : decode cX4_dressOneMore 3 = .ok (.iconst 1, 1) := by decide +kernel
theorem dX4_dressOneMore_4 : decode cX4_dressOneMore 4 = .ok (.aload_n 0, 1) := by decide +kernel
theorem dX4_dressOneMore_5 : decode cX4_dressOneMore 5 = .ok (.getfield 24, 3) := by decide +kernel
theorem dX4_dressOneMore_8 : decode cX4_dressOneMore 8 = .ok (.ishl, 1) := by decide +kernel
theorem dX4_dressOneMore_9 : decode cX4_dressOneMore 9 = .ok (.if_icmp .ge 95, 3) := by decide +kernel
theorem dX4_dressOneMore_12 : decode cX4_dressOneMore 12 = .ok (.iload_n 3, 1) := by decide +kernel
theorem dX4_dressOneMore_13 : decode cX4_dressOneMore 13 = .ok (.invokestatic 31, 3) := by decide +kernel
theorem dX4_dressOneMore_16 : decode cX4_dressOneMore 16 = .ok (.aload_n 0, 1) := by decide +kernel
theorem dX4_dressOneMore_17 : decode cX4_dressOneMore 17 = .ok (.getfield 28, 3) := by decide +kernel
theorem dX4_dressOneMore_20 : decode cX4_dressOneMore 20 = .ok (.if_icmp .ne 78, 3) := by decide +kernel
theorem dX4_dressOneMore_23 : decode cX4_dressOneMore 23 = .ok (.aload_n 0, 1) := by decide +kernel
theorem dX4_dressOneMore_24 : decode cX4_dressOneMore 24 = .ok (.getfield 21, 3) := by decide +kernel
theorem dX4_dressOneMore_27 : decode cX4_dressOneMore 27 = .ok (.iload_n 3, 1) := by decide +kernel
theorem dX4_dressOneMore_28 : decode cX4_dressOneMore 28 = .ok (.iaload, 1) := by decide +kernel
theorem dX4_dressOneMore_29 : decode cX4_dressOneMore 29 = .ok (.iconst (-1), 1) := by decide +kernel
theorem dX4_dressOneMore_30 : decode cX4_dressOneMore 30 = .ok (.if_icmp .ne 6, 3) := by decide +kernel
theorem dX4_dressOneMore_33 : decode cX4_dressOneMore 33 = .ok (.goto 65, 3) := by decide +kernel
theorem dX4_dressOneMore_36 : decode cX4_dressOneMore 36 = .ok (.iconst 0, 1) := by decide +kernel
theorem dX4_dressOneMore_37 : decode cX4_dressOneMore 37 = .ok (.istore 4, 2) := by decide +kernel
theorem dX4_dressOneMore_39 : decode cX4_dressOneMore 39 = .ok (.iload 4, 2) := by decide +kernel
theorem dX4_dressOneMore_41 : decode cX4_dressOneMore 41 = .ok (.aload_n 0, 1) := by decide +kernel
theorem dX4_dressOneMore_42 : decode cX4_dressOneMore 42 = .ok (.getfield 24, 3) := by decide +kernel
theorem dX4_dressOneMore_45 : decode cX4_dressOneMore 45 = .ok (.if_icmp .ge 53, 3) := by decide +kernel
theorem dX4_dressOneMore_48 : decode cX4_dressOneMore 48 = .ok (.aload_n 0, 1) := by decide +kernel
theorem dX4_dressOneMore_49 : decode cX4_dressOneMore 49 = .ok (.iload 4, 2) := by decide +kernel
theorem dX4_dressOneMore_51 : decode cX4_dressOneMore 51 = .ok (.iload_n 1, 1) := by decide +kernel
theorem dX4_dressOneMore_52 : decode cX4_dressOneMore 52 = .ok (.iload_n 2, 1) := by decide +kernel
theorem dX4_dressOneMore_53 : decode cX4_dressOneMore 53 = .ok (.invokevirtual 37, 3) := by decide +kernel
theorem dX4_dressOneMore_56 : decode cX4_dressOneMore 56 = .ok (.istore 5, 2) := by decide +kernel
theorem dX4_dressOneMore_58 : decode cX4_dressOneMore 58 = .ok (.iload 5, 2) := by decide +kernel
theorem dX4_dressOneMore_60 : decode cX4_dressOneMore 60 = .ok (.iconst (-1), 1) := by decide +kernel
theorem dX4_dressOneMore_61 : decode cX4_dressOneMore 61 = .ok (.if_icmp .eq 31, 3) := by decide +kernel
theorem dX4_dressOneMore_64 : decode cX4_dressOneMore 64 = .ok (.iload_n 3, 1) := by decide +kernel
theorem dX4_dressOneMore_65 : decode cX4_dressOneMore 65 = .ok (.iload 4, 2) := by decide +kernel
theorem dX4_dressOneMore_67 : decode cX4_dressOneMore 67 = .ok (.invokestatic 41, 3) := by decide +kernel
theorem dX4_dressOneMore_70 : decode cX4_dressOneMore 70 = .ok (.ifCond .ne 22, 3) := by decide +kernel
theorem dX4_dressOneMore_73 : decode cX4_dressOneMore 73 = .ok (.aload_n 0, 1) := by decide +kernel
theorem dX4_dressOneMore_74 : decode cX4_dressOneMore 74 = .ok (.iload_n 3, 1) := by decide +kernel
theorem dX4_dressOneMore_75 : decode cX4_dressOneMore 75 = .ok (.iconst 1, 1) := by decide +kernel
theorem dX4_dressOneMore_76 : decode cX4_dressOneMore 76 = .ok (.iload 4, 2) := by decide +kernel
theorem dX4_dressOneMore_78 : decode cX4_dressOneMore 78 = .ok (.ishl, 1) := by decide +kernel
theorem dX4_dressOneMore_79 : decode cX4_dressOneMore 79 = .ok (.ior, 1) := by decide +kernel
theorem dX4_dressOneMore_80 : decode cX4_dressOneMore 80 = .ok (.aload_n 0, 1) := by decide +kernel
theorem dX4_dressOneMore_81 : decode cX4_dressOneMore 81 = .ok (.getfield 21, 3) := by decide +kernel
theorem dX4_dressOneMore_84 : decode cX4_dressOneMore 84 = .ok (.iload_n 3, 1) := by decide +kernel
theorem dX4_dressOneMore_85 : decode cX4_dressOneMore 85 = .ok (.iaload, 1) := by decide +kernel
theorem dX4_dressOneMore_86 : decode cX4_dressOneMore 86 = .ok (.iload 5, 2) := by decide +kernel
theorem dX4_dressOneMore_88 : decode cX4_dressOneMore 88 = .ok (.iadd, 1) := by decide +kernel
theorem dX4_dressOneMore_89 : decode cX4_dressOneMore 89 = .ok (.invokevirtual 45, 3) := by decide +kernel
theorem dX4_dressOneMore_92 : decode cX4_dressOneMore 92 = .ok (.iinc 4 1, 3) := by decide +kernel
theorem dX4_dressOneMore_95 : decode cX4_dressOneMore 95 = .ok (.goto (-56), 3) := by decide +kernel
theorem dX4_dressOneMore_98 : decode cX4_dressOneMore 98 = .ok (.iinc 3 1, 3) := by decide +kernel
theorem dX4_dressOneMore_101 : decode cX4_dressOneMore 101 = .ok (.goto (-99), 3) := by decide +kernel
theorem dX4_dressOneMore_104 : decode cX4_dressOneMore 104 = .ok (.aload_n 0, 1) := by decide +kernel
theorem dX4_dressOneMore_105 : decode cX4_dressOneMore 105 = .ok (.dup, 1) := by decide +kernel
theorem dX4_dressOneMore_106 : decode cX4_dressOneMore 106 = .ok (.getfield 28, 3) := by decide +kernel
theorem dX4_dressOneMore_109 : decode cX4_dressOneMore 109 = .ok (.iconst 1, 1) := by decide +kernel
theorem dX4_dressOneMore_110 : decode cX4_dressOneMore 110 = .ok (.iadd, 1) := by decide +kernel
theorem dX4_dressOneMore_111 : decode cX4_dressOneMore 111 = .ok (.putfield 28, 3) := by decide +kernel
theorem dX4_dressOneMore_114 : decode cX4_dressOneMore 114 = .ok (.return_, 1) := by decide +kernel
theorem dX4_leastWaste_0 : decode cX4_leastWaste 0 = .ok (.iconst (-1), 1) := by decide +kernel
theorem dX4_leastWaste_1 : decode cX4_leastWaste 1 = .ok (.istore_n 1, 1) := by decide +kernel
theorem dX4_leastWaste_2 : decode cX4_leastWaste 2 = .ok (.iconst 0, 1) := by decide +kernel
theorem dX4_leastWaste_3 : decode cX4_leastWaste 3 = .ok (.istore_n 2, 1) := by decide +kernel
theorem dX4_leastWaste_4 : decode cX4_leastWaste 4 = .ok (.iload_n 2, 1) := by decide +kernel
theorem dX4_leastWaste_5 : decode cX4_leastWaste 5 = .ok (.iconst 1, 1) := by decide +kernel
theorem dX4_leastWaste_6 : decode cX4_leastWaste 6 = .ok (.aload_n 0, 1) := by decide +kernel
theorem dX4_leastWaste_7 : decode cX4_leastWaste 7 = .ok (.getfield 24, 3) := by decide +kernel
theorem dX4_leastWaste_10 : decode cX4_leastWaste 10 = .ok (.ishl, 1) := by decide +kernel
theorem dX4_leastWaste_11 : decode cX4_leastWaste 11 = .ok (.if_icmp .ge 52, 3) := by decide +kernel
theorem dX4_leastWaste_14 : decode cX4_leastWaste 14 = .ok (.iload_n 2, 1) := by decide +kernel
theorem dX4_leastWaste_15 : decode cX4_leastWaste 15 = .ok (.invokestatic 31, 3) := by decide +kernel
theorem dX4_leastWaste_18 : decode cX4_leastWaste 18 = .ok (.aload_n 0, 1) := by decide +kernel
theorem dX4_leastWaste_19 : decode cX4_leastWaste 19 = .ok (.getfield 28, 3) := by decide +kernel
theorem dX4_leastWaste_22 : decode cX4_leastWaste 22 = .ok (.if_icmp .ne 35, 3) := by decide +kernel
theorem dX4_leastWaste_25 : decode cX4_leastWaste 25 = .ok (.aload_n 0, 1) := by decide +kernel
theorem dX4_leastWaste_26 : decode cX4_leastWaste 26 = .ok (.getfield 21, 3) := by decide +kernel
theorem dX4_leastWaste_29 : decode cX4_leastWaste 29 = .ok (.iload_n 2, 1) := by decide +kernel
theorem dX4_leastWaste_30 : decode cX4_leastWaste 30 = .ok (.iaload, 1) := by decide +kernel
theorem dX4_leastWaste_31 : decode cX4_leastWaste 31 = .ok (.iconst (-1), 1) := by decide +kernel
theorem dX4_leastWaste_32 : decode cX4_leastWaste 32 = .ok (.if_icmp .eq 25, 3) := by decide +kernel
theorem dX4_leastWaste_35 : decode cX4_leastWaste 35 = .ok (.iload_n 1, 1) := by decide +kernel
theorem dX4_leastWaste_36 : decode cX4_leastWaste 36 = .ok (.iconst (-1), 1) := by decide +kernel
theorem dX4_leastWaste_37 : decode cX4_leastWaste 37 = .ok (.if_icmp .eq 13, 3) := by decide +kernel
theorem dX4_leastWaste_40 : decode cX4_leastWaste 40 = .ok (.aload_n 0, 1) := by decide +kernel
theorem dX4_leastWaste_41 : decode cX4_leastWaste 41 = .ok (.getfield 21, 3) := by decide +kernel
theorem dX4_leastWaste_44 : decode cX4_leastWaste 44 = .ok (.iload_n 2, 1) := by decide +kernel
theorem dX4_leastWaste_45 : decode cX4_leastWaste 45 = .ok (.iaload, 1) := by decide +kernel
theorem dX4_leastWaste_46 : decode cX4_leastWaste 46 = .ok (.iload_n 1, 1) := by decide +kernel
theorem dX4_leastWaste_47 : decode cX4_leastWaste 47 = .ok (.if_icmp .ge 10, 3) := by decide +kernel
theorem dX4_leastWaste_50 : decode cX4_leastWaste 50 = .ok (.aload_n 0, 1) := by decide +kernel
theorem dX4_leastWaste_51 : decode cX4_leastWaste 51 = .ok (.getfield 21, 3) := by decide +kernel
theorem dX4_leastWaste_54 : decode cX4_leastWaste 54 = .ok (.iload_n 2, 1) := by decide +kernel
theorem dX4_leastWaste_55 : decode cX4_leastWaste 55 = .ok (.iaload, 1) := by decide +kernel
theorem dX4_leastWaste_56 : decode cX4_leastWaste 56 = .ok (.istore_n 1, 1) := by decide +kernel
theorem dX4_leastWaste_57 : decode cX4_leastWaste 57 = .ok (.iinc 2 1, 3) := by decide +kernel
theorem dX4_leastWaste_60 : decode cX4_leastWaste 60 = .ok (.goto (-56), 3) := by decide +kernel
theorem dX4_leastWaste_63 : decode cX4_leastWaste 63 = .ok (.iload_n 1, 1) := by decide +kernel
theorem dX4_leastWaste_64 : decode cX4_leastWaste 64 = .ok (.ireturn, 1) := by decide +kernel
theorem dX4_keepLess_0 : decode cX4_keepLess 0 = .ok (.aload_n 0, 1) := by decide +kernel
theorem dX4_keepLess_1 : decode cX4_keepLess 1 = .ok (.getfield 21, 3) := by decide +kernel
theorem dX4_keepLess_4 : decode cX4_keepLess 4 = .ok (.iload_n 1, 1) := by decide +kernel
theorem dX4_keepLess_5 : decode cX4_keepLess 5 = .ok (.iaload, 1) := by decide +kernel
theorem dX4_keepLess_6 : decode cX4_keepLess 6 = .ok (.iconst (-1), 1) := by decide +kernel
theorem dX4_keepLess_7 : decode cX4_keepLess 7 = .ok (.if_icmp .eq 13, 3) := by decide +kernel
theorem dX4_keepLess_10 : decode cX4_keepLess 10 = .ok (.iload_n 2, 1) := by decide +kernel
theorem dX4_keepLess_11 : decode cX4_keepLess 11 = .ok (.aload_n 0, 1) := by decide +kernel
theorem dX4_keepLess_12 : decode cX4_keepLess 12 = .ok (.getfield 21, 3) := by decide +kernel
theorem dX4_keepLess_15 : decode cX4_keepLess 15 = .ok (.iload_n 1, 1) := by decide +kernel
theorem dX4_keepLess_16 : decode cX4_keepLess 16 = .ok (.iaload, 1) := by decide +kernel
theorem dX4_keepLess_17 : decode cX4_keepLess 17 = .ok (.if_icmp .ge 10, 3) := by decide +kernel
theorem dX4_keepLess_20 : decode cX4_keepLess 20 = .ok (.aload_n 0, 1) := by decide +kernel
theorem dX4_keepLess_21 : decode cX4_keepLess 21 = .ok (.getfield 21, 3) := by decide +kernel
theorem dX4_keepLess_24 : decode cX4_keepLess 24 = .ok (.iload_n 1, 1) := by decide +kernel
theorem dX4_keepLess_25 : decode cX4_keepLess 25 = .ok (.iload_n 2, 1) := by decide +kernel
theorem dX4_keepLess_26 : decode cX4_keepLess 26 = .ok (.iastore, 1) := by decide +kernel
theorem dX4_keepLess_27 : decode cX4_keepLess 27 = .ok (.return_, 1) := by decide +kernel
theorem dX4_wasteOf_0 : decode cX4_wasteOf 0 = .ok (.aload_n 0, 1) := by decide +kernel
theorem dX4_wasteOf_1 : decode cX4_wasteOf 1 = .ok (.getfield 15, 3) := by decide +kernel
theorem dX4_wasteOf_4 : decode cX4_wasteOf 4 = .ok (.iload_n 1, 1) := by decide +kernel
theorem dX4_wasteOf_5 : decode cX4_wasteOf 5 = .ok (.iaload, 1) := by decide +kernel
theorem dX4_wasteOf_6 : decode cX4_wasteOf 6 = .ok (.iload_n 3, 1) := by decide +kernel
theorem dX4_wasteOf_7 : decode cX4_wasteOf 7 = .ok (.isub, 1) := by decide +kernel
theorem dX4_wasteOf_8 : decode cX4_wasteOf 8 = .ok (.invokestatic 49, 3) := by decide +kernel
theorem dX4_wasteOf_11 : decode cX4_wasteOf 11 = .ok (.istore 4, 2) := by decide +kernel
theorem dX4_wasteOf_13 : decode cX4_wasteOf 13 = .ok (.aload_n 0, 1) := by decide +kernel
theorem dX4_wasteOf_14 : decode cX4_wasteOf 14 = .ok (.getfield 54, 3) := by decide +kernel
theorem dX4_wasteOf_17 : decode cX4_wasteOf 17 = .ok (.iload_n 1, 1) := by decide +kernel
theorem dX4_wasteOf_18 : decode cX4_wasteOf 18 = .ok (.invokestatic 41, 3) := by decide +kernel
theorem dX4_wasteOf_21 : decode cX4_wasteOf 21 = .ok (.ifCond .ne 19, 3) := by decide +kernel
theorem dX4_wasteOf_24 : decode cX4_wasteOf 24 = .ok (.aload_n 0, 1) := by decide +kernel
theorem dX4_wasteOf_25 : decode cX4_wasteOf 25 = .ok (.getfield 9, 3) := by decide +kernel
theorem dX4_wasteOf_28 : decode cX4_wasteOf 28 = .ok (.iload_n 1, 1) := by decide +kernel
theorem dX4_wasteOf_29 : decode cX4_wasteOf 29 = .ok (.iaload, 1) := by decide +kernel
theorem dX4_wasteOf_30 : decode cX4_wasteOf 30 = .ok (.iload_n 2, 1) := by decide +kernel
theorem dX4_wasteOf_31 : decode cX4_wasteOf 31 = .ok (.if_icmp .lt 9, 3) := by decide +kernel
theorem dX4_wasteOf_34 : decode cX4_wasteOf 34 = .ok (.iload 4, 2) := by decide +kernel
theorem dX4_wasteOf_36 : decode cX4_wasteOf 36 = .ok (.iconst 2, 1) := by decide +kernel
theorem dX4_wasteOf_37 : decode cX4_wasteOf 37 = .ok (.if_icmp .le 5, 3) := by decide +kernel
theorem dX4_wasteOf_40 : decode cX4_wasteOf 40 = .ok (.iconst (-1), 1) := by decide +kernel
theorem dX4_wasteOf_41 : decode cX4_wasteOf 41 = .ok (.ireturn, 1) := by decide +kernel
theorem dX4_wasteOf_42 : decode cX4_wasteOf 42 = .ok (.aload_n 0, 1) := by decide +kernel
theorem dX4_wasteOf_43 : decode cX4_wasteOf 43 = .ok (.getfield 9, 3) := by decide +kernel
theorem dX4_wasteOf_46 : decode cX4_wasteOf 46 = .ok (.iload_n 1, 1) := by decide +kernel
theorem dX4_wasteOf_47 : decode cX4_wasteOf 47 = .ok (.iaload, 1) := by decide +kernel
theorem dX4_wasteOf_48 : decode cX4_wasteOf 48 = .ok (.iload_n 2, 1) := by decide +kernel
theorem dX4_wasteOf_49 : decode cX4_wasteOf 49 = .ok (.isub, 1) := by decide +kernel
theorem dX4_wasteOf_50 : decode cX4_wasteOf 50 = .ok (.iload 4, 2) := by decide +kernel
theorem dX4_wasteOf_52 : decode cX4_wasteOf 52 = .ok (.iadd, 1) := by decide +kernel
theorem dX4_wasteOf_53 : decode cX4_wasteOf 53 = .ok (.ireturn, 1) := by decide +kernel
end
section
theorem dX5_init_0 : decode cX5_init 0 = .ok (.aload_n 0, 1) := by decide +kernel
theorem dX5_init_1 : decode cX5_init 1 = .ok (.invokespecial 1, 3) := by decide +kernel
theorem dX5_init_4 : decode cX5_init 4 = .ok (.aload_n 0, 1) := by decide +kernel
theorem dX5_init_5 : decode cX5_init 5 = .ok (.new 7, 3) := by decide +kernel
theorem dX5_init_8 : decode cX5_init 8 = .ok (.dup, 1) := by decide +kernel
theorem dX5_init_9 : decode cX5_init 9 = .ok (.invokespecial 9, 3) := by decide +kernel
theorem dX5_init_12 : decode cX5_init 12 = .ok (.putfield 10, 3) := by decide +kernel
theorem dX5_init_15 : decode cX5_init 15 = .ok (.aload_n 0, 1) := by decide +kernel
theorem dX5_init_16 : decode cX5_init 16 = .ok (.new 16, 3) := by decide +kernel
theorem dX5_init_19 : decode cX5_init 19 = .ok (.dup, 1) := by decide +kernel
theorem dX5_init_20 : decode cX5_init 20 = .ok (.invokespecial 18, 3) := by decide +kernel
theorem dX5_init_23 : decode cX5_init 23 = .ok (.putfield 19, 3) := by decide +kernel
theorem dX5_init_26 : decode cX5_init 26 = .ok (.aload_n 0, 1) := by decide +kernel
theorem dX5_init_27 : decode cX5_init 27 = .ok (.new 23, 3) := by decide +kernel
theorem dX5_init_30 : decode cX5_init 30 = .ok (.dup, 1) := by decide +kernel
theorem dX5_init_31 : decode cX5_init 31 = .ok (.invokespecial 25, 3) := by decide +kernel
theorem dX5_init_34 : decode cX5_init 34 = .ok (.putfield 26, 3) := by decide +kernel
theorem dX5_init_37 : decode cX5_init 37 = .ok (.aload_n 0, 1) := by decide +kernel
theorem dX5_init_38 : decode cX5_init 38 = .ok (.new 30, 3) := by decide +kernel
theorem dX5_init_41 : decode cX5_init 41 = .ok (.dup, 1) := by decide +kernel
theorem dX5_init_42 : decode cX5_init 42 = .ok (.invokespecial 32, 3) := by decide +kernel
theorem dX5_init_45 : decode cX5_init 45 = .ok (.putfield 33, 3) := by decide +kernel
theorem dX5_init_48 : decode cX5_init 48 = .ok (.aload_n 0, 1) := by decide +kernel
theorem dX5_init_49 : decode cX5_init 49 = .ok (.new 37, 3) := by decide +kernel
theorem dX5_init_52 : decode cX5_init 52 = .ok (.dup, 1) := by decide +kernel
theorem dX5_init_53 : decode cX5_init 53 = .ok (.invokespecial 39, 3) := by decide +kernel
theorem dX5_init_56 : decode cX5_init 56 = .ok (.putfield 40, 3) := by decide +kernel
theorem dX5_init_59 : decode cX5_init 59 = .ok (.return_, 1) := by decide +kernel
theorem dX5_part_0 : decode cX5_part 0 = .ok (.iload_n 1, 1) := by decide +kernel
theorem dX5_part_1 : decode cX5_part 1 = .ok (.iconst 0, 1) := by decide +kernel
theorem dX5_part_2 : decode cX5_part 2 = .ok (.iconst 3, 1) := by decide +kernel
theorem dX5_part_3 : decode cX5_part 3 = .ok (.invokestatic 44, 3) := by decide +kernel
theorem dX5_part_6 : decode cX5_part 6 = .ok (.iload_n 2, 1) := by decide +kernel
theorem dX5_part_7 : decode cX5_part 7 = .ok (.iconst 0, 1) := by decide +kernel
theorem dX5_part_8 : decode cX5_part 8 = .ok (.iconst 3, 1) := by decide +kernel
theorem dX5_part_9 : decode cX5_part 9 = .ok (.invokestatic 44, 3) := by decide +kernel
theorem dX5_part_12 : decode cX5_part 12 = .ok (.iload_n 3, 1) := by decide +kernel
theorem dX5_part_13 : decode cX5_part 13 = .ok (.iconst 0, 1) := by decide +kernel
theorem dX5_part_14 : decode cX5_part 14 = .ok (.bipush 9, 2) := by decide +kernel
theorem dX5_part_16 : decode cX5_part 16 = .ok (.invokestatic 44, 3) := by decide +kernel
theorem dX5_part_19 : decode cX5_part 19 = .ok (.aload_n 0, 1) := by decide +kernel
theorem dX5_part_20 : decode cX5_part 20 = .ok (.getfield 10, 3) := by decide +kernel
theorem dX5_part_23 : decode cX5_part 23 = .ok (.getfield 48, 3) := by decide +kernel
theorem dX5_part_26 : decode cX5_part 26 = .ok (.bipush 7, 2) := by decide +kernel
theorem dX5_part_28 : decode cX5_part 28 = .ok (.invokestatic 52, 3) := by decide +kernel
theorem dX5_part_31 : decode cX5_part 31 = .ok (.aload_n 0, 1) := by decide +kernel
theorem dX5_part_32 : decode cX5_part 32 = .ok (.getfield 26, 3) := by decide +kernel
theorem dX5_part_35 : decode cX5_part 35 = .ok (.invokevirtual 56, 3) := by decide +kernel
theorem dX5_part_38 : decode cX5_part 38 = .ok (.aload_n 0, 1) := by decide +kernel
theorem dX5_part_39 : decode cX5_part 39 = .ok (.getfield 10, 3) := by decide +kernel
theorem dX5_part_42 : decode cX5_part 42 = .ok (.iload_n 1, 1) := by decide +kernel
theorem dX5_part_43 : decode cX5_part 43 = .ok (.iload_n 2, 1) := by decide +kernel
theorem dX5_part_44 : decode cX5_part 44 = .ok (.iload_n 3, 1) := by decide +kernel
theorem dX5_part_45 : decode cX5_part 45 = .ok (.invokevirtual 59, 3) := by decide +kernel
theorem dX5_part_48 : decode cX5_part 48 = .ok (.ireturn, 1) := by decide +kernel
theorem dX5_player_0 : decode cX5_player 0 = .ok (.iload_n 1, 1) := by decide +kernel
theorem dX5_player_1 : decode cX5_player 1 = .ok (.iconst 4, 1) := by decide +kernel
theorem dX5_player_2 : decode cX5_player 2 = .ok (.invokestatic 63, 3) := by decide +kernel
theorem dX5_player_5 : decode cX5_player 5 = .ok (.iload_n 2, 1) := by decide +kernel
theorem dX5_player_6 : decode cX5_player 6 = .ok (.iconst 1, 1) := by decide +kernel
theorem dX5_player_7 : decode cX5_player 7 = .ok (.bipush 9, 2) := by decide +kernel
theorem dX5_player_9 : decode cX5_player 9 = .ok (.invokestatic 44, 3) := by decide +kernel
theorem dX5_player_12 : decode cX5_player 12 = .ok (.iload_n 3, 1) := by decide +kernel
theorem dX5_player_13 : decode cX5_player 13 = .ok (.iconst 1, 1) := by decide +kernel
theorem dX5_player_14 : decode cX5_player 14 = .ok (.iconst 5, 1) := by decide +kernel
theorem dX5_player_15 : decode cX5_player 15 = .ok (.invokestatic 44, 3) := by decide +kernel
theorem dX5_player_18 : decode cX5_player 18 = .ok (.aload_n 0, 1) := by decide +kernel
theorem dX5_player_19 : decode cX5_player 19 = .ok (.getfield 19, 3) := by decide +kernel
theorem dX5_player_22 : decode cX5_player 22 = .ok (.getfield 66, 3) := by decide +kernel
theorem dX5_player_25 : decode cX5_player 25 = .ok (.iconst 5, 1) := by decide +kernel
theorem dX5_player_26 : decode cX5_player 26 = .ok (.invokestatic 52, 3) := by decide +kernel
theorem dX5_player_29 : decode cX5_player 29 = .ok (.aload_n 0, 1) := by decide +kernel
theorem dX5_player_30 : decode cX5_player 30 = .ok (.getfield 26, 3) := by decide +kernel
theorem dX5_player_33 : decode cX5_player 33 = .ok (.invokevirtual 56, 3) := by decide +kernel
theorem dX5_player_36 : decode cX5_player 36 = .ok (.aload_n 0, 1) := by decide +kernel
theorem dX5_player_37 : decode cX5_player 37 = .ok (.getfield 19, 3) := by decide +kernel
theorem dX5_player_40 : decode cX5_player 40 = .ok (.iload_n 1, 1) := by decide +kernel
theorem dX5_player_41 : decode cX5_player 41 = .ok (.iload_n 2, 1) := by decide +kernel
theorem dX5_player_42 : decode cX5_player 42 = .ok (.iload_n 3, 1) := by decide +kernel
theorem dX5_player_43 : decode cX5_player 43 = .ok (.invokevirtual 69, 3) := by decide +kernel
theorem dX5_player_46 : decode cX5_player 46 = .ok (.ireturn, 1) := by decide +kernel
theorem dX5_scene_0 : decode cX5_scene 0 = .ok (.iload_n 1, 1) := by decide +kernel
theorem dX5_scene_1 : decode cX5_scene 1 = .ok (.aload_n 0, 1) := by decide +kernel
theorem dX5_scene_2 : decode cX5_scene 2 = .ok (.getfield 10, 3) := by decide +kernel
theorem dX5_scene_5 : decode cX5_scene 5 = .ok (.getfield 48, 3) := by decide +kernel
theorem dX5_scene_8 : decode cX5_scene 8 = .ok (.invokestatic 63, 3) := by decide +kernel
theorem dX5_scene_11 : decode cX5_scene 11 = .ok (.iload_n 1, 1) := by decide +kernel
theorem dX5_scene_12 : decode cX5_scene 12 = .ok (.iconst 1, 1) := by decide +kernel
theorem dX5_scene_13 : decode cX5_scene 13 = .ok (.bipush 127, 2) := by decide +kernel
theorem dX5_scene_15 : decode cX5_scene 15 = .ok (.invokestatic 44, 3) := by decide +kernel
theorem dX5_scene_18 : decode cX5_scene 18 = .ok (.iload_n 2, 1) := by decide +kernel
theorem dX5_scene_19 : decode cX5_scene 19 = .ok (.iconst 0, 1) := by decide +kernel
theorem dX5_scene_20 : decode cX5_scene 20 = .ok (.bipush 9, 2) := by decide +kernel
theorem dX5_scene_22 : decode cX5_scene 22 = .ok (.invokestatic 44, 3) := by decide +kernel
theorem dX5_scene_25 : decode cX5_scene 25 = .ok (.aload_n 0, 1) := by decide +kernel
theorem dX5_scene_26 : decode cX5_scene 26 = .ok (.getfield 10, 3) := by decide +kernel
theorem dX5_scene_29 : decode cX5_scene 29 = .ok (.getfield 72, 3) := by decide +kernel
theorem dX5_scene_32 : decode cX5_scene 32 = .ok (.bipush 6, 2) := by decide +kernel
theorem dX5_scene_34 : decode cX5_scene 34 = .ok (.invokestatic 52, 3) := by decide +kernel
theorem dX5_scene_37 : decode cX5_scene 37 = .ok (.aload_n 0, 1) := by decide +kernel
theorem dX5_scene_38 : decode cX5_scene 38 = .ok (.getfield 26, 3) := by decide +kernel
theorem dX5_scene_41 : decode cX5_scene 41 = .ok (.invokevirtual 56, 3) := by decide +kernel
theorem dX5_scene_44 : decode cX5_scene 44 = .ok (.aload_n 0, 1) := by decide +kernel
theorem dX5_scene_45 : decode cX5_scene 45 = .ok (.getfield 10, 3) := by decide +kernel
theorem dX5_scene_48 : decode cX5_scene 48 = .ok (.iload_n 1, 1) := by decide +kernel
theorem dX5_scene_49 : decode cX5_scene 49 = .ok (.iload_n 2, 1) := by decide +kernel
theorem dX5_scene_50 : decode cX5_scene 50 = .ok (.invokevirtual 75, 3) := by decide +kernel
theorem dX5_scene_53 : decode cX5_scene 53 = .ok (.ireturn, 1) := by decide +kernel
theorem dX5_pause_0 : decode cX5_pause 0 = .ok (.iload_n 1, 1) := by decide +kernel
theorem dX5_pause_1 : decode cX5_pause 1 = .ok (.aload_n 0, 1) := by decide +kernel
theorem dX5_pause_2 : decode cX5_pause 2 = .ok (.getfield 10, 3) := by decide +kernel
theorem dX5_pause_5 : decode cX5_pause 5 = .ok (.getfield 72, 3) := by decide +kernel
theorem dX5_pause_8 : decode cX5_pause 8 = .ok (.invokestatic 79, 3) := by decide +kernel
theorem dX5_pause_11 : decode cX5_pause 11 = .ok (.iload_n 2, 1) := by decide +kernel
theorem dX5_pause_12 : decode cX5_pause 12 = .ok (.iconst 0, 1) := by decide +kernel
theorem dX5_pause_13 : decode cX5_pause 13 = .ok (.bipush 9, 2) := by decide +kernel
theorem dX5_pause_15 : decode cX5_pause 15 = .ok (.invokestatic 44, 3) := by decide +kernel
theorem dX5_pause_18 : decode cX5_pause 18 = .ok (.aload_n 0, 1) := by decide +kernel
theorem dX5_pause_19 : decode cX5_pause 19 = .ok (.getfield 26, 3) := by decide +kernel
theorem dX5_pause_22 : decode cX5_pause 22 = .ok (.invokevirtual 56, 3) := by decide +kernel
theorem dX5_pause_25 : decode cX5_pause 25 = .ok (.aload_n 0, 1) := by decide +kernel
theorem dX5_pause_26 : decode cX5_pause 26 = .ok (.getfield 10, 3) := by decide +kernel
theorem dX5_pause_29 : decode cX5_pause 29 = .ok (.getfield 82, 3) := by decide +kernel
theorem dX5_pause_32 : decode cX5_pause 32 = .ok (.iload_n 1, 1) := by decide +kernel
theorem dX5_pause_33 : decode cX5_pause 33 = .ok (.iaload, 1) := by decide +kernel
theorem dX5_pause_34 : decode cX5_pause 34 = .ok (.istore_n 3, 1) := by decide +kernel
theorem dX5_pause_35 : decode cX5_pause 35 = .ok (.aload_n 0, 1) := by decide +kernel
theorem dX5_pause_36 : decode cX5_pause 36 = .ok (.getfield 10, 3) := by decide +kernel
theorem dX5_pause_39 : decode cX5_pause 39 = .ok (.getfield 82, 3) := by decide +kernel
theorem dX5_pause_42 : decode cX5_pause 42 = .ok (.iload_n 1, 1) := by decide +kernel
theorem dX5_pause_43 : decode cX5_pause 43 = .ok (.iload_n 2, 1) := by decide +kernel
theorem dX5_pause_44 : decode cX5_pause 44 = .ok (.iastore, 1) := by decide +kernel
theorem dX5_pause_45 : decode cX5_pause 45 = .ok (.iload_n 3, 1) := by decide +kernel
theorem dX5_pause_46 : decode cX5_pause 46 = .ok (.ireturn, 1) := by decide +kernel
theorem dX5_sick_0 : decode cX5_sick 0 = .ok (.iload_n 1, 1) := by decide +kernel
theorem dX5_sick_1 : decode cX5_sick 1 = .ok (.aload_n 0, 1) := by decide +kernel
theorem dX5_sick_2 : decode cX5_sick 2 = .ok (.getfield 19, 3) := by decide +kernel
theorem dX5_sick_5 : decode cX5_sick 5 = .ok (.getfield 66, 3) := by decide +kernel
theorem dX5_sick_8 : decode cX5_sick 8 = .ok (.invokestatic 79, 3) := by decide +kernel
theorem dX5_sick_11 : decode cX5_sick 11 = .ok (.aload_n 0, 1) := by decide +kernel
theorem dX5_sick_12 : decode cX5_sick 12 = .ok (.getfield 26, 3) := by decide +kernel
theorem dX5_sick_15 : decode cX5_sick 15 = .ok (.invokevirtual 56, 3) := by decide +kernel
theorem dX5_sick_18 : decode cX5_sick 18 = .ok (.aload_n 0, 1) := by decide +kernel
theorem dX5_sick_19 : decode cX5_sick 19 = .ok (.getfield 19, 3) := by decide +kernel
theorem dX5_sick_22 : decode cX5_sick 22 = .ok (.iload_n 2, 1) := by decide +kernel
theorem dX5_sick_23 : decode cX5_sick 23 = .ok (.ifCond .eq 17, 3) := by decide +kernel
theorem dX5_sick_26 : decode cX5_sick 26 = .ok (.aload_n 0, 1) := by decide +kernel
theorem dX5_sick_27 : decode cX5_sick 27 = .ok (.getfield 19, 3) := by decide +kernel
theorem dX5_sick_30 : decode cX5_sick 30 = .ok (.getfield 86, 3) := by decide +kernel
theorem dX5_sick_33 : decode cX5_sick 33 = .ok (.iconst 1, 1) := by decide +kernel
theorem dX5_sick_34 : decode cX5_sick 34 = .ok (.iload_n 1, 1) := by decide +kernel
theorem dX5_sick_35 : decode cX5_sick 35 = .ok (.ishl, 1) := by decide +kernel
theorem dX5_sick_36 : decode cX5_sick 36 = .ok (.ior, 1) := by decide +kernel
theorem dX5_sick_37 : decode cX5_sick 37 = .ok (.goto 16, 3) := by decide +kernel
theorem dX5_sick_40 : decode cX5_sick 40 = .ok (.aload_n 0, 1) := by decide +kernel
theorem dX5_sick_41 : decode cX5_sick 41 = .ok (.getfield 19, 3) := by decide +kernel
theorem dX5_sick_44 : decode cX5_sick 44 = .ok (.getfield 86, 3) := by decide +kernel
theorem dX5_sick_47 : decode cX5_sick 47 = .ok (.iconst 1, 1) := by decide +kernel
theorem dX5_sick_48 : decode cX5_sick 48 = .ok (.iload_n 1, 1) := by decide +kernel
theorem dX5_sick_49 : decode cX5_sick 49 = .ok (.ishl, 1) := by decide +kernel
theorem dX5_sick_50 : decode cX5_sick 50 = .ok (.iconst (-1), 1) := by decide +kernel
theorem dX5_sick_51 : decode cX5_sick 51 = .ok (.ixor, 1) := by decide +kernel
theorem dX5_sick_52 : decode cX5_sick 52 = .ok (.iand, 1) := by decide +kernel
theorem dX5_sick_53 : decode cX5_sick 53 = .ok (.putfield 86, 3) := by decide +kernel
theorem dX5_sick_56 : decode cX5_sick 56 = .ok (.aload_n 0, 1) := by decide +kernel
theorem dX5_sick_57 : decode cX5_sick 57 = .ok (.getfield 19, 3) := by decide +kernel
theorem dX5_sick_60 : decode cX5_sick 60 = .ok (.invokevirtual 89, 3) := by decide +kernel
theorem dX5_sick_63 : decode cX5_sick 63 = .ok (.ireturn, 1) := by decide +kernel
theorem dX5_coat_0 : decode cX5_coat 0 = .ok (.iload_n 1, 1) := by decide +kernel
theorem dX5_coat_1 : decode cX5_coat 1 = .ok (.iconst 0, 1) := by decide +kernel
theorem dX5_coat_2 : decode cX5_coat 2 = .ok (.iconst 3, 1) := by decide +kernel
theorem dX5_coat_3 : decode cX5_coat 3 = .ok (.invokestatic 44, 3) := by decide +kernel
theorem dX5_coat_6 : decode cX5_coat 6 = .ok (.iload_n 2, 1) := by decide +kernel
theorem dX5_coat_7 : decode cX5_coat 7 = .ok (.iconst 1, 1) := by decide +kernel
theorem dX5_coat_8 : decode cX5_coat 8 = .ok (.bipush 9, 2) := by decide +kernel
theorem dX5_coat_10 : decode cX5_coat 10 = .ok (.invokestatic 44, 3) := by decide +kernel
theorem dX5_coat_13 : decode cX5_coat 13 = .ok (.iload_n 3, 1) := by decide +kernel
theorem dX5_coat_14 : decode cX5_coat 14 = .ok (.iconst 1, 1) := by decide +kernel
theorem dX5_coat_15 : decode cX5_coat 15 = .ok (.bipush 99, 2) := by decide +kernel
theorem dX5_coat_17 : decode cX5_coat 17 = .ok (.invokestatic 44, 3) := by decide +kernel
theorem dX5_coat_20 : decode cX5_coat 20 = .ok (.aload_n 0, 1) := by decide +kernel
theorem dX5_coat_21 : decode cX5_coat 21 = .ok (.getfield 33, 3) := by decide +kernel
theorem dX5_coat_24 : decode cX5_coat 24 = .ok (.getfield 93, 3) := by decide +kernel
theorem dX5_coat_27 : decode cX5_coat 27 = .ok (.bipush 6, 2) := by decide +kernel
theorem dX5_coat_29 : decode cX5_coat 29 = .ok (.invokestatic 52, 3) := by decide +kernel
theorem dX5_coat_32 : decode cX5_coat 32 = .ok (.aload_n 0, 1) := by decide +kernel
theorem dX5_coat_33 : decode cX5_coat 33 = .ok (.getfield 33, 3) := by decide +kernel
theorem dX5_coat_36 : decode cX5_coat 36 = .ok (.iload_n 1, 1) := by decide +kernel
theorem dX5_coat_37 : decode cX5_coat 37 = .ok (.iload_n 2, 1) := by decide +kernel
theorem dX5_coat_38 : decode cX5_coat 38 = .ok (.iload_n 3, 1) := by decide +kernel
theorem dX5_coat_39 : decode cX5_coat 39 = .ok (.invokevirtual 96, 3) := by decide +kernel
theorem dX5_coat_42 : decode cX5_coat 42 = .ok (.ireturn, 1) := by decide +kernel
theorem dX5_pawn_0 : decode cX5_pawn 0 = .ok (.iload_n 1, 1) := by decide +kernel
theorem dX5_pawn_1 : decode cX5_pawn 1 = .ok (.aload_n 0, 1) := by decide +kernel
theorem dX5_pawn_2 : decode cX5_pawn 2 = .ok (.getfield 33, 3) := by decide +kernel
theorem dX5_pawn_5 : decode cX5_pawn 5 = .ok (.getfield 93, 3) := by decide +kernel
theorem dX5_pawn_8 : decode cX5_pawn 8 = .ok (.invokestatic 79, 3) := by decide +kernel
theorem dX5_pawn_11 : decode cX5_pawn 11 = .ok (.iload_n 2, 1) := by decide +kernel
theorem dX5_pawn_12 : decode cX5_pawn 12 = .ok (.aload_n 0, 1) := by decide +kernel
theorem dX5_pawn_13 : decode cX5_pawn 13 = .ok (.getfield 19, 3) := by decide +kernel
theorem dX5_pawn_16 : decode cX5_pawn 16 = .ok (.getfield 66, 3) := by decide +kernel
theorem dX5_pawn_19 : decode cX5_pawn 19 = .ok (.invokestatic 79, 3) := by decide +kernel
theorem dX5_pawn_22 : decode cX5_pawn 22 = .ok (.aload_n 0, 1) := by decide +kernel
theorem dX5_pawn_23 : decode cX5_pawn 23 = .ok (.getfield 33, 3) := by decide +kernel
theorem dX5_pawn_26 : decode cX5_pawn 26 = .ok (.getfield 99, 3) := by decide +kernel
theorem dX5_pawn_29 : decode cX5_pawn 29 = .ok (.iload_n 1, 1) := by decide +kernel
theorem dX5_pawn_30 : decode cX5_pawn 30 = .ok (.invokestatic 102, 3) := by decide +kernel
theorem dX5_pawn_33 : decode cX5_pawn 33 = .ok (.ifCond .eq 13, 3) := by decide +kernel
theorem dX5_pawn_36 : decode cX5_pawn 36 = .ok (.new 106, 3) := by decide +kernel
theorem dX5_pawn_39 : decode cX5_pawn 39 = .ok (.dup, 1) := by decide +kernel
theorem dX5_pawn_40 : decode cX5_pawn 40 = .ok (.ldc 108, 2) := by decide +kernel
theorem dX5_pawn_42 : decode cX5_pawn 42 = .ok (.invokespecial 110, 3) := by decide +kernel
theorem dX5_pawn_45 : decode cX5_pawn 45 = .ok (.athrow, 1) := by decide +kernel
theorem dX5_pawn_46 : decode cX5_pawn 46 = .ok (.aload_n 0, 1) := by decide +kernel
theorem dX5_pawn_47 : decode cX5_pawn 47 = .ok (.getfield 33, 3) := by decide +kernel
theorem dX5_pawn_50 : decode cX5_pawn 50 = .ok (.dup, 1) := by decide +kernel
theorem dX5_pawn_51 : decode cX5_pawn 51 = .ok (.getfield 99, 3) := by decide +kernel
theorem dX5_pawn_54 : decode cX5_pawn 54 = .ok (.iconst 1, 1) := by decide +kernel
theorem dX5_pawn_55 : decode cX5_pawn 55 = .ok (.iload_n 1, 1) := by decide +kernel
theorem dX5_pawn_56 : decode cX5_pawn 56 = .ok (.ishl, 1) := by decide +kernel
theorem dX5_pawn_57 : decode cX5_pawn 57 = .ok (.ior, 1) := by decide +kernel
theorem dX5_pawn_58 : decode cX5_pawn 58 = .ok (.putfield 99, 3) := by decide +kernel
theorem dX5_pawn_61 : decode cX5_pawn 61 = .ok (.aload_n 0, 1) := by decide +kernel
theorem dX5_pawn_62 : decode cX5_pawn 62 = .ok (.dup, 1) := by decide +kernel
theorem dX5_pawn_63 : decode cX5_pawn 63 = .ok (.getfield 113, 3) := by decide +kernel
theorem dX5_pawn_66 : decode cX5_pawn 66 = .ok (.aload_n 0, 1) := by decide +kernel
theorem dX5_pawn_67 : decode cX5_pawn 67 = .ok (.getfield 33, 3) := by decide +kernel
theorem dX5_pawn_70 : decode cX5_pawn 70 = .ok (.getfield 116, 3) := by decide +kernel
theorem dX5_pawn_73 : decode cX5_pawn 73 = .ok (.iload_n 1, 1) := by decide +kernel
theorem dX5_pawn_74 : decode cX5_pawn 74 = .ok (.iaload, 1) := by decide +kernel
theorem dX5_pawn_75 : decode cX5_pawn 75 = .ok (.iadd, 1) := by decide +kernel
theorem dX5_pawn_76 : decode cX5_pawn 76 = .ok (.putfield 113, 3) := by decide +kernel
theorem dX5_pawn_79 : decode cX5_pawn 79 = .ok (.aload_n 0, 1) := by decide +kernel
theorem dX5_pawn_80 : decode cX5_pawn 80 = .ok (.getfield 19, 3) := by decide +kernel
theorem dX5_pawn_83 : decode cX5_pawn 83 = .ok (.getfield 119, 3) := by decide +kernel
theorem dX5_pawn_86 : decode cX5_pawn 86 = .ok (.iload_n 2, 1) := by decide +kernel
theorem dX5_pawn_87 : decode cX5_pawn 87 = .ok (.dup2, 1) := by decide +kernel
theorem dX5_pawn_88 : decode cX5_pawn 88 = .ok (.iaload, 1) := by decide +kernel
theorem dX5_pawn_89 : decode cX5_pawn 89 = .ok (.aload_n 0, 1) := by decide +kernel
theorem dX5_pawn_90 : decode cX5_pawn 90 = .ok (.getfield 33, 3) := by decide +kernel
theorem dX5_pawn_93 : decode cX5_pawn 93 = .ok (.getfield 116, 3) := by decide +kernel
theorem dX5_pawn_96 : decode cX5_pawn 96 = .ok (.iload_n 1, 1) := by decide +kernel
theorem dX5_pawn_97 : decode cX5_pawn 97 = .ok (.iaload, 1) := by decide +kernel
theorem dX5_pawn_98 : decode cX5_pawn 98 = .ok (.iadd, 1) := by decide +kernel
theorem dX5_pawn_99 : decode cX5_pawn 99 = .ok (.iastore, 1) := by decide +kernel
theorem dX5_pawn_100 : decode cX5_pawn 100 = .ok (.aload_n 0, 1) := by decide +kernel
theorem dX5_pawn_101 : decode cX5_pawn 101 = .ok (.getfield 19, 3) := by decide +kernel
theorem dX5_pawn_104 : decode cX5_pawn 104 = .ok (.getfield 119, 3) := by decide +kernel
theorem dX5_pawn_107 : decode cX5_pawn 107 = .ok (.iload_n 2, 1) := by decide +kernel
theorem dX5_pawn_108 : decode cX5_pawn 108 = .ok (.iaload, 1) := by decide +kernel
theorem dX5_pawn_109 : decode cX5_pawn 109 = .ok (.ireturn, 1) := by decide +kernel
theorem dX5_redeem_0 : decode cX5_redeem 0 = .ok (.iload_n 1, 1) := by decide +kernel
theorem dX5_redeem_1 : decode cX5_redeem 1 = .ok (.aload_n 0, 1) := by decide +kernel
theorem dX5_redeem_2 : decode cX5_redeem 2 = .ok (.getfield 33, 3) := by decide +kernel
theorem dX5_redeem_5 : decode cX5_redeem 5 = .ok (.getfield 93, 3) := by decide +kernel
theorem dX5_redeem_8 : decode cX5_redeem 8 = .ok (.invokestatic 79, 3) := by decide +kernel
theorem dX5_redeem_11 : decode cX5_redeem 11 = .ok (.iload_n 2, 1) := by decide +kernel
theorem dX5_redeem_12 : decode cX5_redeem 12 = .ok (.aload_n 0, 1) := by decide +kernel
theorem dX5_redeem_13 : decode cX5_redeem 13 = .ok (.getfield 19, 3) := by decide +kernel
theorem dX5_redeem_16 : decode cX5_redeem 16 = .ok (.getfield 66, 3) := by decide +kernel
theorem dX5_redeem_19 : decode cX5_redeem 19 = .ok (.invokestatic 79, 3) := by decide +kernel
theorem dX5_redeem_22 : decode cX5_redeem 22 = .ok (.aload_n 0, 1) := by decide +kernel
theorem dX5_redeem_23 : decode cX5_redeem 23 = .ok (.getfield 33, 3) := by decide +kernel
theorem dX5_redeem_26 : decode cX5_redeem 26 = .ok (.getfield 116, 3) := by decide +kernel
theorem dX5_redeem_29 : decode cX5_redeem 29 = .ok (.iload_n 1, 1) := by decide +kernel
theorem dX5_redeem_30 : decode cX5_redeem 30 = .ok (.iaload, 1) := by decide +kernel
theorem dX5_redeem_31 : decode cX5_redeem 31 = .ok (.aload_n 0, 1) := by decide +kernel
theorem dX5_redeem_32 : decode cX5_redeem 32 = .ok (.getfield 33, 3) := by decide +kernel
theorem dX5_redeem_35 : decode cX5_redeem 35 = .ok (.getfield 116, 3) := by decide +kernel
theorem dX5_redeem_38 : decode cX5_redeem 38 = .ok (.iload_n 1, 1) := by decide +kernel
theorem dX5_redeem_39 : decode cX5_redeem 39 = .ok (.iaload, 1) := by decide +kernel
theorem dX5_redeem_40 : decode cX5_redeem 40 = .ok (.bipush 10, 2) := by decide +kernel
theorem dX5_redeem_42 : decode cX5_redeem 42 = .ok (.idiv, 1) := by decide +kernel
theorem dX5_redeem_43 : decode cX5_redeem 43 = .ok (.iadd, 1) := by decide +kernel
theorem dX5_redeem_44 : decode cX5_redeem 44 = .ok (.istore_n 3, 1) := by decide +kernel
theorem dX5_redeem_45 : decode cX5_redeem 45 = .ok (.aload_n 0, 1) := by decide +kernel
theorem dX5_redeem_46 : decode cX5_redeem 46 = .ok (.getfield 33, 3) := by decide +kernel
theorem dX5_redeem_49 : decode cX5_redeem 49 = .ok (.getfield 99, 3) := by decide +kernel
theorem dX5_redeem_52 : decode cX5_redeem 52 = .ok (.iload_n 1, 1) := by decide +kernel
theorem dX5_redeem_53 : decode cX5_redeem 53 = .ok (.invokestatic 102, 3) := by decide +kernel
theorem dX5_redeem_56 : decode cX5_redeem 56 = .ok (.ifCond .eq 16, 3) := by decide +kernel
theorem dX5_redeem_59 : decode cX5_redeem 59 = .ok (.aload_n 0, 1) := by decide +kernel
theorem dX5_redeem_60 : decode cX5_redeem 60 = .ok (.getfield 19, 3) := by decide +kernel
theorem dX5_redeem_63 : decode cX5_redeem 63 = .ok (.getfield 119, 3) := by decide +kernel
theorem dX5_redeem_66 : decode cX5_redeem 66 = .ok (.iload_n 2, 1) := by decide +kernel
theorem dX5_redeem_67 : decode cX5_redeem 67 = .ok (.iaload, 1) := by decide +kernel
theorem dX5_redeem_68 : decode cX5_redeem 68 = .ok (.iload_n 3, 1) := by decide +kernel
theorem dX5_redeem_69 : decode cX5_redeem 69 = .ok (.if_icmp .ge 13, 3) := by decide +kernel
theorem dX5_redeem_72 : decode cX5_redeem 72 = .ok (.new 106, 3) := by decide +kernel
theorem dX5_redeem_75 : decode cX5_redeem 75 = .ok (.dup, 1) := by decide +kernel
theorem dX5_redeem_76 : decode cX5_redeem 76 = .ok (.ldc 122, 2) := by decide +kernel
theorem dX5_redeem_78 : decode cX5_redeem 78 = .ok (.invokespecial 110, 3) := by decide +kernel
theorem dX5_redeem_81 : decode cX5_redeem 81 = .ok (.athrow, 1) := by decide +kernel
theorem dX5_redeem_82 : decode cX5_redeem 82 = .ok (.aload_n 0, 1) := by decide +kernel
theorem dX5_redeem_83 : decode cX5_redeem 83 = .ok (.getfield 33, 3) := by decide +kernel
theorem dX5_redeem_86 : decode cX5_redeem 86 = .ok (.dup, 1) := by decide +kernel
theorem dX5_redeem_87 : decode cX5_redeem 87 = .ok (.getfield 99, 3) := by decide +kernel
theorem dX5_redeem_90 : decode cX5_redeem 90 = .ok (.iconst 1, 1) := by decide +kernel
theorem dX5_redeem_91 : decode cX5_redeem 91 = .ok (.iload_n 1, 1) := by decide +kernel
theorem dX5_redeem_92 : decode cX5_redeem 92 = .ok (.ishl, 1) := by decide +kernel
theorem dX5_redeem_93 : decode cX5_redeem 93 = .ok (.iconst (-1), 1) := by decide +kernel
theorem dX5_redeem_94 : decode cX5_redeem 94 = .ok (.ixor, 1) := by decide +kernel
theorem dX5_redeem_95 : decode cX5_redeem 95 = .ok (.iand, 1) := by decide +kernel
theorem dX5_redeem_96 : decode cX5_redeem 96 = .ok (.putfield 99, 3) := by decide +kernel
theorem dX5_redeem_99 : decode cX5_redeem 99 = .ok (.aload_n 0, 1) := by decide +kernel
theorem dX5_redeem_100 : decode cX5_redeem 100 = .ok (.dup, 1) := by decide +kernel
theorem dX5_redeem_101 : decode cX5_redeem 101 = .ok (.getfield 124, 3) := by decide +kernel
theorem dX5_redeem_104 : decode cX5_redeem 104 = .ok (.iload_n 3, 1) := by decide +kernel
theorem dX5_redeem_105 : decode cX5_redeem 105 = .ok (.iadd, 1) := by decide +kernel
theorem dX5_redeem_106 : decode cX5_redeem 106 = .ok (.putfield 124, 3) := by decide +kernel
theorem dX5_redeem_109 : decode cX5_redeem 109 = .ok (.aload_n 0, 1) := by decide +kernel
theorem dX5_redeem_110 : decode cX5_redeem 110 = .ok (.getfield 19, 3) := by decide +kernel
theorem dX5_redeem_113 : decode cX5_redeem 113 = .ok (.getfield 119, 3) := by decide +kernel
theorem dX5_redeem_116 : decode cX5_redeem 116 = .ok (.iload_n 2, 1) := by decide +kernel
theorem dX5_redeem_117 : decode cX5_redeem 117 = .ok (.dup2, 1) := by decide +kernel
theorem dX5_redeem_118 : decode cX5_redeem 118 = .ok (.iaload, 1) := by decide +kernel
theorem dX5_redeem_119 : decode cX5_redeem 119 = .ok (.iload_n 3, 1) := by decide +kernel
theorem dX5_redeem_120 : decode cX5_redeem 120 = .ok (.isub, 1) := by decide +kernel
theorem dX5_redeem_121 : decode cX5_redeem 121 = .ok (.iastore, 1) := by decide +kernel
theorem dX5_redeem_122 : decode cX5_redeem 122 = .ok (.aload_n 0, 1) := by decide +kernel
theorem dX5_redeem_123 : decode cX5_redeem 123 = .ok (.getfield 19, 3) := by decide +kernel
theorem dX5_redeem_126 : decode cX5_redeem 126 = .ok (.getfield 119, 3) := by decide +kernel
theorem dX5_redeem_129 : decode cX5_redeem 129 = .ok (.iload_n 2, 1) := by decide +kernel
theorem dX5_redeem_130 : decode cX5_redeem 130 = .ok (.iaload, 1) := by decide +kernel
theorem dX5_redeem_131 : decode cX5_redeem 131 = .ok (.ireturn, 1) := by decide +kernel
theorem dX5_town_0 : decode cX5_town 0 = .ok (.iload_n 1, 1) := by decide +kernel
theorem dX5_town_1 : decode cX5_town 1 = .ok (.iconst 0, 1) := by decide +kernel
theorem dX5_town_2 : decode cX5_town 2 = .ok (.bipush 99, 2) := by decide +kernel
theorem dX5_town_4 : decode cX5_town 4 = .ok (.invokestatic 44, 3) := by decide +kernel
theorem dX5_town_7 : decode cX5_town 7 = .ok (.iload_n 2, 1) := by decide +kernel
theorem dX5_town_8 : decode cX5_town 8 = .ok (.iconst 0, 1) := by decide +kernel
theorem dX5_town_9 : decode cX5_town 9 = .ok (.bipush 99, 2) := by decide +kernel
theorem dX5_town_11 : decode cX5_town 11 = .ok (.invokestatic 44, 3) := by decide +kernel
theorem dX5_town_14 : decode cX5_town 14 = .ok (.iload_n 3, 1) := by decide +kernel
theorem dX5_town_15 : decode cX5_town 15 = .ok (.iconst 0, 1) := by decide +kernel
theorem dX5_town_16 : decode cX5_town 16 = .ok (.sipush 999, 3) := by decide +kernel
theorem dX5_town_19 : decode cX5_town 19 = .ok (.invokestatic 44, 3) := by decide +kernel
theorem dX5_town_22 : decode cX5_town 22 = .ok (.aload_n 0, 1) := by decide +kernel
theorem dX5_town_23 : decode cX5_town 23 = .ok (.getfield 40, 3) := by decide +kernel
theorem dX5_town_26 : decode cX5_town 26 = .ok (.getfield 127, 3) := by decide +kernel
theorem dX5_town_29 : decode cX5_town 29 = .ok (.iconst 5, 1) := by decide +kernel
theorem dX5_town_30 : decode cX5_town 30 = .ok (.invokestatic 52, 3) := by decide +kernel
theorem dX5_town_33 : decode cX5_town 33 = .ok (.aload_n 0, 1) := by decide +kernel
theorem dX5_town_34 : decode cX5_town 34 = .ok (.getfield 40, 3) := by decide +kernel
theorem dX5_town_37 : decode cX5_town 37 = .ok (.iload_n 1, 1) := by decide +kernel
theorem dX5_town_38 : decode cX5_town 38 = .ok (.iload_n 2, 1) := by decide +kernel
theorem dX5_town_39 : decode cX5_town 39 = .ok (.iload_n 3, 1) := by decide +kernel
theorem dX5_town_40 : decode cX5_town 40 = .ok (.invokevirtual 130, 3) := by decide +kernel
theorem dX5_town_43 : decode cX5_town 43 = .ok (.ireturn, 1) := by decide +kernel
theorem dX5_night_0 : decode cX5_night 0 = .ok (.iload_n 1, 1) := by decide +kernel
theorem dX5_night_1 : decode cX5_night 1 = .ok (.aload_n 0, 1) := by decide +kernel
theorem dX5_night_2 : decode cX5_night 2 = .ok (.getfield 40, 3) := by decide +kernel
theorem dX5_night_5 : decode cX5_night 5 = .ok (.getfield 127, 3) := by decide +kernel
theorem dX5_night_8 : decode cX5_night 8 = .ok (.invokestatic 79, 3) := by decide +kernel
theorem dX5_night_11 : decode cX5_night 11 = .ok (.aload_n 0, 1) := by decide +kernel
theorem dX5_night_12 : decode cX5_night 12 = .ok (.getfield 26, 3) := by decide +kernel
theorem dX5_night_15 : decode cX5_night 15 = .ok (.aload_n 0, 1) := by decide +kernel
theorem dX5_night_16 : decode cX5_night 16 = .ok (.getfield 10, 3) := by decide +kernel
theorem dX5_night_19 : decode cX5_night 19 = .ok (.aload_n 0, 1) := by decide +kernel
theorem dX5_night_20 : decode cX5_night 20 = .ok (.getfield 19, 3) := by decide +kernel
theorem dX5_night_23 : decode cX5_night 23 = .ok (.invokevirtual 133, 3) := by decide +kernel
theorem dX5_night_26 : decode cX5_night 26 = .ok (.aload_n 0, 1) := by decide +kernel
theorem dX5_night_27 : decode cX5_night 27 = .ok (.getfield 26, 3) := by decide +kernel
theorem dX5_night_30 : decode cX5_night 30 = .ok (.invokevirtual 137, 3) := by decide +kernel
theorem dX5_night_33 : decode cX5_night 33 = .ok (.istore_n 2, 1) := by decide +kernel
theorem dX5_night_34 : decode cX5_night 34 = .ok (.iload_n 2, 1) := by decide +kernel
theorem dX5_night_35 : decode cX5_night 35 = .ok (.ifCond .ne 13, 3) := by decide +kernel
theorem dX5_night_38 : decode cX5_night 38 = .ok (.new 106, 3) := by decide +kernel
theorem dX5_night_41 : decode cX5_night 41 = .ok (.dup, 1) := by decide +kernel
theorem dX5_night_42 : decode cX5_night 42 = .ok (.ldc 140, 2) := by decide +kernel
theorem dX5_night_44 : decode cX5_night 44 = .ok (.invokespecial 110, 3) := by decide +kernel
theorem dX5_night_47 : decode cX5_night 47 = .ok (.athrow, 1) := by decide +kernel
theorem dX5_night_48 : decode cX5_night 48 = .ok (.aload_n 0, 1) := by decide +kernel
theorem dX5_night_49 : decode cX5_night 49 = .ok (.getfield 40, 3) := by decide +kernel
theorem dX5_night_52 : decode cX5_night 52 = .ok (.getfield 142, 3) := by decide +kernel
theorem dX5_night_55 : decode cX5_night 55 = .ok (.iload_n 1, 1) := by decide +kernel
theorem dX5_night_56 : decode cX5_night 56 = .ok (.iaload, 1) := by decide +kernel
theorem dX5_night_57 : decode cX5_night 57 = .ok (.istore_n 3, 1) := by decide +kernel
theorem dX5_night_58 : decode cX5_night 58 = .ok (.iconst 0, 1) := by decide +kernel
theorem dX5_night_59 : decode cX5_night 59 = .ok (.istore 4, 2) := by decide +kernel
theorem dX5_night_61 : decode cX5_night 61 = .ok (.iload 4, 2) := by decide +kernel
theorem dX5_night_63 : decode cX5_night 63 = .ok (.aload_n 0, 1) := by decide +kernel
theorem dX5_night_64 : decode cX5_night 64 = .ok (.getfield 19, 3) := by decide +kernel
theorem dX5_night_67 : decode cX5_night 67 = .ok (.getfield 66, 3) := by decide +kernel
theorem dX5_night_70 : decode cX5_night 70 = .ok (.if_icmp .ge 33, 3) := by decide +kernel
theorem dX5_night_73 : decode cX5_night 73 = .ok (.aload_n 0, 1) := by decide +kernel
theorem dX5_night_74 : decode cX5_night 74 = .ok (.getfield 19, 3) := by decide +kernel
theorem dX5_night_77 : decode cX5_night 77 = .ok (.getfield 119, 3) := by decide +kernel
theorem dX5_night_80 : decode cX5_night 80 = .ok (.iload 4, 2) := by decide +kernel
theorem dX5_night_82 : decode cX5_night 82 = .ok (.dup2, 1) := by decide +kernel
theorem dX5_night_83 : decode cX5_night 83 = .ok (.iaload, 1) := by decide +kernel
theorem dX5_night_84 : decode cX5_night 84 = .ok (.aload_n 0, 1) := by decide +kernel
theorem dX5_night_85 : decode cX5_night 85 = .ok (.getfield 19, 3) := by decide +kernel
theorem dX5_night_88 : decode cX5_night 88 = .ok (.iload_n 3, 1) := by decide +kernel
theorem dX5_night_89 : decode cX5_night 89 = .ok (.iload 4, 2) := by decide +kernel
theorem dX5_night_91 : decode cX5_night 91 = .ok (.iload_n 2, 1) := by decide +kernel
theorem dX5_night_92 : decode cX5_night 92 = .ok (.invokevirtual 145, 3) := by decide +kernel
theorem dX5_night_95 : decode cX5_night 95 = .ok (.iadd, 1) := by decide +kernel
theorem dX5_night_96 : decode cX5_night 96 = .ok (.iastore, 1) := by decide +kernel
theorem dX5_night_97 : decode cX5_night 97 = .ok (.iinc 4 1, 3) := by decide +kernel
theorem dX5_night_100 : decode cX5_night 100 = .ok (.goto (-39), 3) := by decide +kernel
theorem dX5_night_103 : decode cX5_night 103 = .ok (.aload_n 0, 1) := by decide +kernel
theorem dX5_night_104 : decode cX5_night 104 = .ok (.dup, 1) := by decide +kernel
theorem dX5_night_105 : decode cX5_night 105 = .ok (.getfield 113, 3) := by decide +kernel
theorem dX5_night_108 : decode cX5_night 108 = .ok (.iload_n 3, 1) := by decide +kernel
theorem dX5_night_109 : decode cX5_night 109 = .ok (.iadd, 1) := by decide +kernel
theorem dX5_night_110 : decode cX5_night 110 = .ok (.putfield 113, 3) := by decide +kernel
theorem dX5_night_113 : decode cX5_night 113 = .ok (.aload_n 0, 1) := by decide +kernel
theorem dX5_night_114 : decode cX5_night 114 = .ok (.dup, 1) := by decide +kernel
theorem dX5_night_115 : decode cX5_night 115 = .ok (.getfield 148, 3) := by decide +kernel
theorem dX5_night_118 : decode cX5_night 118 = .ok (.iconst 1, 1) := by decide +kernel
theorem dX5_night_119 : decode cX5_night 119 = .ok (.iadd, 1) := by decide +kernel
theorem dX5_night_120 : decode cX5_night 120 = .ok (.putfield 148, 3) := by decide +kernel
theorem dX5_night_123 : decode cX5_night 123 = .ok (.aload_n 0, 1) := by decide +kernel
theorem dX5_night_124 : decode cX5_night 124 = .ok (.getfield 40, 3) := by decide +kernel
theorem dX5_night_127 : decode cX5_night 127 = .ok (.getfield 142, 3) := by decide +kernel
theorem dX5_night_130 : decode cX5_night 130 = .ok (.iload_n 1, 1) := by decide +kernel
theorem dX5_night_131 : decode cX5_night 131 = .ok (.iload_n 3, 1) := by decide +kernel
theorem dX5_night_132 : decode cX5_night 132 = .ok (.iconst 2, 1) := by decide +kernel
theorem dX5_night_133 : decode cX5_night 133 = .ok (.idiv, 1) := by decide +kernel
theorem dX5_night_134 : decode cX5_night 134 = .ok (.iastore, 1) := by decide +kernel
theorem dX5_night_135 : decode cX5_night 135 = .ok (.iload_n 3, 1) := by decide +kernel
theorem dX5_night_136 : decode cX5_night 136 = .ok (.ireturn, 1) := by decide +kernel
theorem dX5_knock_0 : decode cX5_knock 0 = .ok (.aload_n 0, 1) := by decide +kernel
theorem dX5_knock_1 : decode cX5_knock 1 = .ok (.dup, 1) := by decide +kernel
theorem dX5_knock_2 : decode cX5_knock 2 = .ok (.getfield 151, 3) := by decide +kernel
theorem dX5_knock_5 : decode cX5_knock 5 = .ok (.iconst 1, 1) := by decide +kernel
theorem dX5_knock_6 : decode cX5_knock 6 = .ok (.iadd, 1) := by decide +kernel
theorem dX5_knock_7 : decode cX5_knock 7 = .ok (.putfield 151, 3) := by decide +kernel
theorem dX5_knock_10 : decode cX5_knock 10 = .ok (.aload_n 0, 1) := by decide +kernel
theorem dX5_knock_11 : decode cX5_knock 11 = .ok (.getfield 151, 3) := by decide +kernel
theorem dX5_knock_14 : decode cX5_knock 14 = .ok (.ireturn, 1) := by decide +kernel
theorem dX5_ofPart_0 : decode cX5_ofPart 0 = .ok (.iload_n 1, 1) := by decide +kernel
theorem dX5_ofPart_1 : decode cX5_ofPart 1 = .ok (.aload_n 0, 1) := by decide +kernel
theorem dX5_ofPart_2 : decode cX5_ofPart 2 = .ok (.getfield 10, 3) := by decide +kernel
theorem dX5_ofPart_5 : decode cX5_ofPart 5 = .ok (.getfield 48, 3) := by decide +kernel
theorem dX5_ofPart_8 : decode cX5_ofPart 8 = .ok (.invokestatic 79, 3) := by decide +kernel
theorem dX5_ofPart_11 : decode cX5_ofPart 11 = .ok (.iload_n 2, 1) := by decide +kernel
theorem dX5_ofPart_12 : decode cX5_ofPart 12 = .ok (.iconst 0, 1) := by decide +kernel
theorem dX5_ofPart_13 : decode cX5_ofPart 13 = .ok (.bipush 6, 2) := by decide +kernel
theorem dX5_ofPart_15 : decode cX5_ofPart 15 = .ok (.invokestatic 44, 3) := by decide +kernel
theorem dX5_ofPart_18 : decode cX5_ofPart 18 = .ok (.iload_n 2, 1) := by decide +kernel
theorem dX5_ofPart_19 : decode cX5_ofPart 19 = .ok (.tableswitch 108 0 5 #[37, 47, 57, 67, 76, 89], 37) := by decide +kernel
theorem dX5_ofPart_56 : decode cX5_ofPart 56 = .ok (.aload_n 0, 1) := by decide +kernel
theorem dX5_ofPart_57 : decode cX5_ofPart 57 = .ok (.getfield 10, 3) := by decide +kernel
theorem dX5_ofPart_60 : decode cX5_ofPart 60 = .ok (.getfield 154, 3) := by decide +kernel
theorem dX5_ofPart_63 : decode cX5_ofPart 63 = .ok (.iload_n 1, 1) := by decide +kernel
theorem dX5_ofPart_64 : decode cX5_ofPart 64 = .ok (.iaload, 1) := by decide +kernel
theorem dX5_ofPart_65 : decode cX5_ofPart 65 = .ok (.ireturn, 1) := by decide +kernel
theorem dX5_ofPart_66 : decode cX5_ofPart 66 = .ok (.aload_n 0, 1) := by decide +kernel
theorem dX5_ofPart_67 : decode cX5_ofPart 67 = .ok (.getfield 10, 3) := by decide +kernel
theorem dX5_ofPart_70 : decode cX5_ofPart 70 = .ok (.getfield 157, 3) := by decide +kernel
theorem dX5_ofPart_73 : decode cX5_ofPart 73 = .ok (.iload_n 1, 1) := by decide +kernel
theorem dX5_ofPart_74 : decode cX5_ofPart 74 = .ok (.iaload, 1) := by decide +kernel
theorem dX5_ofPart_75 : decode cX5_ofPart 75 = .ok (.ireturn, 1) := by decide +kernel
theorem dX5_ofPart_76 : decode cX5_ofPart 76 = .ok (.aload_n 0, 1) := by decide +kernel
theorem dX5_ofPart_77 : decode cX5_ofPart 77 = .ok (.getfield 10, 3) := by decide +kernel
theorem dX5_ofPart_80 : decode cX5_ofPart 80 = .ok (.getfield 160, 3) := by decide +kernel
theorem dX5_ofPart_83 : decode cX5_ofPart 83 = .ok (.iload_n 1, 1) := by decide +kernel
theorem dX5_ofPart_84 : decode cX5_ofPart 84 = .ok (.iaload, 1) := by decide +kernel
theorem dX5_ofPart_85 : decode cX5_ofPart 85 = .ok (.ireturn, 1) := by decide +kernel
theorem dX5_ofPart_86 : decode cX5_ofPart 86 = .ok (.aload_n 0, 1) := by decide +kernel
theorem dX5_ofPart_87 : decode cX5_ofPart 87 = .ok (.getfield 10, 3) := by decide +kernel
theorem dX5_ofPart_90 : decode cX5_ofPart 90 = .ok (.iload_n 1, 1) := by decide +kernel
theorem dX5_ofPart_91 : decode cX5_ofPart 91 = .ok (.invokevirtual 163, 3) := by decide +kernel
theorem dX5_ofPart_94 : decode cX5_ofPart 94 = .ok (.ireturn, 1) := by decide +kernel
theorem dX5_ofPart_95 : decode cX5_ofPart 95 = .ok (.aload_n 0, 1) := by decide +kernel
theorem dX5_ofPart_96 : decode cX5_ofPart 96 = .ok (.getfield 26, 3) := by decide +kernel
theorem dX5_ofPart_99 : decode cX5_ofPart 99 = .ok (.iload_n 1, 1) := by decide +kernel
theorem dX5_ofPart_100 : decode cX5_ofPart 100 = .ok (.aload_n 0, 1) := by decide +kernel
theorem dX5_ofPart_101 : decode cX5_ofPart 101 = .ok (.getfield 10, 3) := by decide +kernel
theorem dX5_ofPart_104 : decode cX5_ofPart 104 = .ok (.invokevirtual 167, 3) := by decide +kernel
theorem dX5_ofPart_107 : decode cX5_ofPart 107 = .ok (.ireturn, 1) := by decide +kernel
theorem dX5_ofPart_108 : decode cX5_ofPart 108 = .ok (.aload_n 0, 1) := by decide +kernel
theorem dX5_ofPart_109 : decode cX5_ofPart 109 = .ok (.getfield 19, 3) := by decide +kernel
theorem dX5_ofPart_112 : decode cX5_ofPart 112 = .ok (.iconst 1, 1) := by decide +kernel
theorem dX5_ofPart_113 : decode cX5_ofPart 113 = .ok (.aload_n 0, 1) := by decide +kernel
theorem dX5_ofPart_114 : decode cX5_ofPart 114 = .ok (.getfield 10, 3) := by decide +kernel
theorem dX5_ofPart_117 : decode cX5_ofPart 117 = .ok (.getfield 154, 3) := by decide +kernel
theorem dX5_ofPart_120 : decode cX5_ofPart 120 = .ok (.iload_n 1, 1) := by decide +kernel
theorem dX5_ofPart_121 : decode cX5_ofPart 121 = .ok (.iaload, 1) := by decide +kernel
theorem dX5_ofPart_122 : decode cX5_ofPart 122 = .ok (.ishl, 1) := by decide +kernel
theorem dX5_ofPart_123 : decode cX5_ofPart 123 = .ok (.invokevirtual 171, 3) := by decide +kernel
theorem dX5_ofPart_126 : decode cX5_ofPart 126 = .ok (.ireturn, 1) := by decide +kernel
theorem dX5_ofPart_127 : decode cX5_ofPart 127 = .ok (.aload_n 0, 1) := by decide +kernel
theorem dX5_ofPart_128 : decode cX5_ofPart 128 = .ok (.getfield 26, 3) := by decide +kernel
theorem dX5_ofPart_131 : decode cX5_ofPart 131 = .ok (.aload_n 0, 1) := by decide +kernel
theorem dX5_ofPart_132 : decode cX5_ofPart 132 = .ok (.getfield 10, 3) := by decide +kernel
theorem dX5_ofPart_135 : decode cX5_ofPart 135 = .ok (.aload_n 0, 1) := by decide +kernel
theorem dX5_ofPart_136 : decode cX5_ofPart 136 = .ok (.getfield 19, 3) := by decide +kernel
theorem dX5_ofPart_139 : decode cX5_ofPart 139 = .ok (.invokevirtual 133, 3) := by decide +kernel
theorem dX5_ofPart_142 : decode cX5_ofPart 142 = .ok (.aload_n 0, 1) := by decide +kernel
theorem dX5_ofPart_143 : decode cX5_ofPart 143 = .ok (.getfield 26, 3) := by decide +kernel
theorem dX5_ofPart_146 : decode cX5_ofPart 146 = .ok (.iload_n 1, 1) := by decide +kernel
theorem dX5_ofPart_147 : decode cX5_ofPart 147 = .ok (.invokevirtual 174, 3) := by decide +kernel
theorem dX5_ofPart_150 : decode cX5_ofPart 150 = .ok (.ireturn, 1) := by decide +kernel
theorem dX5_ofPlayer_0 : decode cX5_ofPlayer 0 = .ok (.iload_n 1, 1) := by decide +kernel
theorem dX5_ofPlayer_1 : decode cX5_ofPlayer 1 = .ok (.aload_n 0, 1) := by decide +kernel
theorem dX5_ofPlayer_2 : decode cX5_ofPlayer 2 = .ok (.getfield 19, 3) := by decide +kernel
theorem dX5_ofPlayer_5 : decode cX5_ofPlayer 5 = .ok (.getfield 66, 3) := by decide +kernel
theorem dX5_ofPlayer_8 : decode cX5_ofPlayer 8 = .ok (.invokestatic 79, 3) := by decide +kernel
theorem dX5_ofPlayer_11 : decode cX5_ofPlayer 11 = .ok (.iload_n 2, 1) := by decide +kernel
theorem dX5_ofPlayer_12 : decode cX5_ofPlayer 12 = .ok (.iconst 0, 1) := by decide +kernel
theorem dX5_ofPlayer_13 : decode cX5_ofPlayer 13 = .ok (.iconst 5, 1) := by decide +kernel
theorem dX5_ofPlayer_14 : decode cX5_ofPlayer 14 = .ok (.invokestatic 44, 3) := by decide +kernel
theorem dX5_ofPlayer_17 : decode cX5_ofPlayer 17 = .ok (.iload_n 2, 1) := by decide +kernel
theorem dX5_ofPlayer_18 : decode cX5_ofPlayer 18 = .ok (.tableswitch 109 0 4 #[34, 44, 54, 64, 84], 34) := by decide +kernel
theorem dX5_ofPlayer_52 : decode cX5_ofPlayer 52 = .ok (.aload_n 0, 1) := by decide +kernel
theorem dX5_ofPlayer_53 : decode cX5_ofPlayer 53 = .ok (.getfield 19, 3) := by decide +kernel
theorem dX5_ofPlayer_56 : decode cX5_ofPlayer 56 = .ok (.getfield 177, 3) := by decide +kernel
theorem dX5_ofPlayer_59 : decode cX5_ofPlayer 59 = .ok (.iload_n 1, 1) := by decide +kernel
theorem dX5_ofPlayer_60 : decode cX5_ofPlayer 60 = .ok (.iaload, 1) := by decide +kernel
theorem dX5_ofPlayer_61 : decode cX5_ofPlayer 61 = .ok (.ireturn, 1) := by decide +kernel
theorem dX5_ofPlayer_62 : decode cX5_ofPlayer 62 = .ok (.aload_n 0, 1) := by decide +kernel
theorem dX5_ofPlayer_63 : decode cX5_ofPlayer 63 = .ok (.getfield 19, 3) := by decide +kernel
theorem dX5_ofPlayer_66 : decode cX5_ofPlayer 66 = .ok (.getfield 180, 3) := by decide +kernel
theorem dX5_ofPlayer_69 : decode cX5_ofPlayer 69 = .ok (.iload_n 1, 1) := by decide +kernel
theorem dX5_ofPlayer_70 : decode cX5_ofPlayer 70 = .ok (.iaload, 1) := by decide +kernel
theorem dX5_ofPlayer_71 : decode cX5_ofPlayer 71 = .ok (.ireturn, 1) := by decide +kernel
theorem dX5_ofPlayer_72 : decode cX5_ofPlayer 72 = .ok (.aload_n 0, 1) := by decide +kernel
theorem dX5_ofPlayer_73 : decode cX5_ofPlayer 73 = .ok (.getfield 19, 3) := by decide +kernel
theorem dX5_ofPlayer_76 : decode cX5_ofPlayer 76 = .ok (.getfield 183, 3) := by decide +kernel
theorem dX5_ofPlayer_79 : decode cX5_ofPlayer 79 = .ok (.iload_n 1, 1) := by decide +kernel
theorem dX5_ofPlayer_80 : decode cX5_ofPlayer 80 = .ok (.iaload, 1) := by decide +kernel
theorem dX5_ofPlayer_81 : decode cX5_ofPlayer 81 = .ok (.ireturn, 1) := by decide +kernel
theorem dX5_ofPlayer_82 : decode cX5_ofPlayer 82 = .ok (.aload_n 0, 1) := by decide +kernel
theorem dX5_ofPlayer_83 : decode cX5_ofPlayer 83 = .ok (.getfield 19, 3) := by decide +kernel
theorem dX5_ofPlayer_86 : decode cX5_ofPlayer 86 = .ok (.getfield 86, 3) := by decide +kernel
theorem dX5_ofPlayer_89 : decode cX5_ofPlayer 89 = .ok (.iload_n 1, 1) := by decide +kernel
theorem dX5_ofPlayer_90 : decode cX5_ofPlayer 90 = .ok (.invokestatic 102, 3) := by decide +kernel
theorem dX5_ofPlayer_93 : decode cX5_ofPlayer 93 = .ok (.ifCond .eq 7, 3) := by decide +kernel
theorem dX5_ofPlayer_96 : decode cX5_ofPlayer 96 = .ok (.iconst 1, 1) := by decide +kernel
theorem dX5_ofPlayer_97 : decode cX5_ofPlayer 97 = .ok (.goto 4, 3) := by decide +kernel
theorem dX5_ofPlayer_100 : decode cX5_ofPlayer 100 = .ok (.iconst 0, 1) := by decide +kernel
theorem dX5_ofPlayer_101 : decode cX5_ofPlayer 101 = .ok (.ireturn, 1) := by decide +kernel
theorem dX5_ofPlayer_102 : decode cX5_ofPlayer 102 = .ok (.aload_n 0, 1) := by decide +kernel
theorem dX5_ofPlayer_103 : decode cX5_ofPlayer 103 = .ok (.getfield 26, 3) := by decide +kernel
theorem dX5_ofPlayer_106 : decode cX5_ofPlayer 106 = .ok (.aload_n 0, 1) := by decide +kernel
theorem dX5_ofPlayer_107 : decode cX5_ofPlayer 107 = .ok (.getfield 10, 3) := by decide +kernel
theorem dX5_ofPlayer_110 : decode cX5_ofPlayer 110 = .ok (.aload_n 0, 1) := by decide +kernel
theorem dX5_ofPlayer_111 : decode cX5_ofPlayer 111 = .ok (.getfield 19, 3) := by decide +kernel
theorem dX5_ofPlayer_114 : decode cX5_ofPlayer 114 = .ok (.invokevirtual 133, 3) := by decide +kernel
theorem dX5_ofPlayer_117 : decode cX5_ofPlayer 117 = .ok (.aload_n 0, 1) := by decide +kernel
theorem dX5_ofPlayer_118 : decode cX5_ofPlayer 118 = .ok (.getfield 26, 3) := by decide +kernel
theorem dX5_ofPlayer_121 : decode cX5_ofPlayer 121 = .ok (.getfield 186, 3) := by decide +kernel
theorem dX5_ofPlayer_124 : decode cX5_ofPlayer 124 = .ok (.iload_n 1, 1) := by decide +kernel
theorem dX5_ofPlayer_125 : decode cX5_ofPlayer 125 = .ok (.iaload, 1) := by decide +kernel
theorem dX5_ofPlayer_126 : decode cX5_ofPlayer 126 = .ok (.ireturn, 1) := by decide +kernel
theorem dX5_ofPlayer_127 : decode cX5_ofPlayer 127 = .ok (.aload_n 0, 1) := by decide +kernel
theorem dX5_ofPlayer_128 : decode cX5_ofPlayer 128 = .ok (.getfield 19, 3) := by decide +kernel
theorem dX5_ofPlayer_131 : decode cX5_ofPlayer 131 = .ok (.getfield 119, 3) := by decide +kernel
theorem dX5_ofPlayer_134 : decode cX5_ofPlayer 134 = .ok (.iload_n 1, 1) := by decide +kernel
theorem dX5_ofPlayer_135 : decode cX5_ofPlayer 135 = .ok (.iaload, 1) := by decide +kernel
theorem dX5_ofPlayer_136 : decode cX5_ofPlayer 136 = .ok (.ireturn, 1) := by decide +kernel
theorem dX5_ofScene_0 : decode cX5_ofScene 0 = .ok (.iload_n 1, 1) := by decide +kernel
theorem dX5_ofScene_1 : decode cX5_ofScene 1 = .ok (.aload_n 0, 1) := by decide +kernel
theorem dX5_ofScene_2 : decode cX5_ofScene 2 = .ok (.getfield 10, 3) := by decide +kernel
theorem dX5_ofScene_5 : decode cX5_ofScene 5 = .ok (.getfield 72, 3) := by decide +kernel
theorem dX5_ofScene_8 : decode cX5_ofScene 8 = .ok (.invokestatic 79, 3) := by decide +kernel
theorem dX5_ofScene_11 : decode cX5_ofScene 11 = .ok (.iload_n 2, 1) := by decide +kernel
theorem dX5_ofScene_12 : decode cX5_ofScene 12 = .ok (.iconst 0, 1) := by decide +kernel
theorem dX5_ofScene_13 : decode cX5_ofScene 13 = .ok (.iconst 5, 1) := by decide +kernel
theorem dX5_ofScene_14 : decode cX5_ofScene 14 = .ok (.invokestatic 44, 3) := by decide +kernel
theorem dX5_ofScene_17 : decode cX5_ofScene 17 = .ok (.aload_n 0, 1) := by decide +kernel
theorem dX5_ofScene_18 : decode cX5_ofScene 18 = .ok (.getfield 10, 3) := by decide +kernel
theorem dX5_ofScene_21 : decode cX5_ofScene 21 = .ok (.getfield 189, 3) := by decide +kernel
theorem dX5_ofScene_24 : decode cX5_ofScene 24 = .ok (.iload_n 1, 1) := by decide +kernel
theorem dX5_ofScene_25 : decode cX5_ofScene 25 = .ok (.iaload, 1) := by decide +kernel
theorem dX5_ofScene_26 : decode cX5_ofScene 26 = .ok (.istore_n 3, 1) := by decide +kernel
theorem dX5_ofScene_27 : decode cX5_ofScene 27 = .ok (.iload_n 2, 1) := by decide +kernel
theorem dX5_ofScene_28 : decode cX5_ofScene 28 = .ok (.tableswitch 70 0 4 #[36, 38, 48, 54, 60], 36) := by decide +kernel
theorem dX5_ofScene_64 : decode cX5_ofScene 64 = .ok (.iload_n 3, 1) := by decide +kernel
theorem dX5_ofScene_65 : decode cX5_ofScene 65 = .ok (.ireturn, 1) := by decide +kernel
theorem dX5_ofScene_66 : decode cX5_ofScene 66 = .ok (.aload_n 0, 1) := by decide +kernel
theorem dX5_ofScene_67 : decode cX5_ofScene 67 = .ok (.getfield 10, 3) := by decide +kernel
theorem dX5_ofScene_70 : decode cX5_ofScene 70 = .ok (.getfield 82, 3) := by decide +kernel
theorem dX5_ofScene_73 : decode cX5_ofScene 73 = .ok (.iload_n 1, 1) := by decide +kernel
theorem dX5_ofScene_74 : decode cX5_ofScene 74 = .ok (.iaload, 1) := by decide +kernel
theorem dX5_ofScene_75 : decode cX5_ofScene 75 = .ok (.ireturn, 1) := by decide +kernel
theorem dX5_ofScene_76 : decode cX5_ofScene 76 = .ok (.aload_n 0, 1) := by decide +kernel
theorem dX5_ofScene_77 : decode cX5_ofScene 77 = .ok (.iload_n 3, 1) := by decide +kernel
theorem dX5_ofScene_78 : decode cX5_ofScene 78 = .ok (.invokevirtual 192, 3) := by decide +kernel
theorem dX5_ofScene_81 : decode cX5_ofScene 81 = .ok (.ireturn, 1) := by decide +kernel
theorem dX5_ofScene_82 : decode cX5_ofScene 82 = .ok (.aload_n 0, 1) := by decide +kernel
theorem dX5_ofScene_83 : decode cX5_ofScene 83 = .ok (.iload_n 3, 1) := by decide +kernel
theorem dX5_ofScene_84 : decode cX5_ofScene 84 = .ok (.invokevirtual 195, 3) := by decide +kernel
theorem dX5_ofScene_87 : decode cX5_ofScene 87 = .ok (.ireturn, 1) := by decide +kernel
theorem dX5_ofScene_88 : decode cX5_ofScene 88 = .ok (.aload_n 0, 1) := by decide +kernel
theorem dX5_ofScene_89 : decode cX5_ofScene 89 = .ok (.aload_n 0, 1) := by decide +kernel
theorem dX5_ofScene_90 : decode cX5_ofScene 90 = .ok (.iload_n 3, 1) := by decide +kernel
theorem dX5_ofScene_91 : decode cX5_ofScene 91 = .ok (.invokevirtual 195, 3) := by decide +kernel
theorem dX5_ofScene_94 : decode cX5_ofScene 94 = .ok (.invokevirtual 198, 3) := by decide +kernel
theorem dX5_ofScene_97 : decode cX5_ofScene 97 = .ok (.ireturn, 1) := by decide +kernel
theorem dX5_ofScene_98 : decode cX5_ofScene 98 = .ok (.aload_n 0, 1) := by decide +kernel
theorem dX5_ofScene_99 : decode cX5_ofScene 99 = .ok (.getfield 26, 3) := by decide +kernel
theorem dX5_ofScene_102 : decode cX5_ofScene 102 = .ok (.aload_n 0, 1) := by decide +kernel
theorem dX5_ofScene_103 : decode cX5_ofScene 103 = .ok (.getfield 10, 3) := by decide +kernel
theorem dX5_ofScene_106 : decode cX5_ofScene 106 = .ok (.aload_n 0, 1) := by decide +kernel
theorem dX5_ofScene_107 : decode cX5_ofScene 107 = .ok (.getfield 19, 3) := by decide +kernel
theorem dX5_ofScene_110 : decode cX5_ofScene 110 = .ok (.invokevirtual 133, 3) := by decide +kernel
theorem dX5_ofScene_113 : decode cX5_ofScene 113 = .ok (.aload_n 0, 1) := by decide +kernel
theorem dX5_ofScene_114 : decode cX5_ofScene 114 = .ok (.iload_n 3, 1) := by decide +kernel
theorem dX5_ofScene_115 : decode cX5_ofScene 115 = .ok (.invokevirtual 201, 3) := by decide +kernel
theorem dX5_ofScene_118 : decode cX5_ofScene 118 = .ok (.ireturn, 1) := by decide +kernel
theorem dX5_ofCoat_0 : decode cX5_ofCoat 0 = .ok (.iload_n 1, 1) := by decide +kernel
theorem dX5_ofCoat_1 : decode cX5_ofCoat 1 = .ok (.aload_n 0, 1) := by decide +kernel
theorem dX5_ofCoat_2 : decode cX5_ofCoat 2 = .ok (.getfield 33, 3) := by decide +kernel
theorem dX5_ofCoat_5 : decode cX5_ofCoat 5 = .ok (.getfield 93, 3) := by decide +kernel
theorem dX5_ofCoat_8 : decode cX5_ofCoat 8 = .ok (.invokestatic 79, 3) := by decide +kernel
theorem dX5_ofCoat_11 : decode cX5_ofCoat 11 = .ok (.iload_n 2, 1) := by decide +kernel
theorem dX5_ofCoat_12 : decode cX5_ofCoat 12 = .ok (.iconst 0, 1) := by decide +kernel
theorem dX5_ofCoat_13 : decode cX5_ofCoat 13 = .ok (.iconst 3, 1) := by decide +kernel
theorem dX5_ofCoat_14 : decode cX5_ofCoat 14 = .ok (.invokestatic 44, 3) := by decide +kernel
theorem dX5_ofCoat_17 : decode cX5_ofCoat 17 = .ok (.iload_n 2, 1) := by decide +kernel
theorem dX5_ofCoat_18 : decode cX5_ofCoat 18 = .ok (.tableswitch 56 0 2 #[26, 36, 46], 26) := by decide +kernel
theorem dX5_ofCoat_44 : decode cX5_ofCoat 44 = .ok (.aload_n 0, 1) := by decide +kernel
theorem dX5_ofCoat_45 : decode cX5_ofCoat 45 = .ok (.getfield 33, 3) := by decide +kernel
theorem dX5_ofCoat_48 : decode cX5_ofCoat 48 = .ok (.getfield 204, 3) := by decide +kernel
theorem dX5_ofCoat_51 : decode cX5_ofCoat 51 = .ok (.iload_n 1, 1) := by decide +kernel
theorem dX5_ofCoat_52 : decode cX5_ofCoat 52 = .ok (.iaload, 1) := by decide +kernel
theorem dX5_ofCoat_53 : decode cX5_ofCoat 53 = .ok (.ireturn, 1) := by decide +kernel
theorem dX5_ofCoat_54 : decode cX5_ofCoat 54 = .ok (.aload_n 0, 1) := by decide +kernel
theorem dX5_ofCoat_55 : decode cX5_ofCoat 55 = .ok (.getfield 33, 3) := by decide +kernel
theorem dX5_ofCoat_58 : decode cX5_ofCoat 58 = .ok (.getfield 205, 3) := by decide +kernel
theorem dX5_ofCoat_61 : decode cX5_ofCoat 61 = .ok (.iload_n 1, 1) := by decide +kernel
theorem dX5_ofCoat_62 : decode cX5_ofCoat 62 = .ok (.iaload, 1) := by decide +kernel
theorem dX5_ofCoat_63 : decode cX5_ofCoat 63 = .ok (.ireturn, 1) := by decide +kernel
theorem dX5_ofCoat_64 : decode cX5_ofCoat 64 = .ok (.aload_n 0, 1) := by decide +kernel
theorem dX5_ofCoat_65 : decode cX5_ofCoat 65 = .ok (.getfield 33, 3) := by decide +kernel
theorem dX5_ofCoat_68 : decode cX5_ofCoat 68 = .ok (.getfield 116, 3) := by decide +kernel
theorem dX5_ofCoat_71 : decode cX5_ofCoat 71 = .ok (.iload_n 1, 1) := by decide +kernel
theorem dX5_ofCoat_72 : decode cX5_ofCoat 72 = .ok (.iaload, 1) := by decide +kernel
theorem dX5_ofCoat_73 : decode cX5_ofCoat 73 = .ok (.ireturn, 1) := by decide +kernel
theorem dX5_ofCoat_74 : decode cX5_ofCoat 74 = .ok (.aload_n 0, 1) := by decide +kernel
theorem dX5_ofCoat_75 : decode cX5_ofCoat 75 = .ok (.getfield 33, 3) := by decide +kernel
theorem dX5_ofCoat_78 : decode cX5_ofCoat 78 = .ok (.getfield 99, 3) := by decide +kernel
theorem dX5_ofCoat_81 : decode cX5_ofCoat 81 = .ok (.iload_n 1, 1) := by decide +kernel
theorem dX5_ofCoat_82 : decode cX5_ofCoat 82 = .ok (.invokestatic 102, 3) := by decide +kernel
theorem dX5_ofCoat_85 : decode cX5_ofCoat 85 = .ok (.ifCond .eq 7, 3) := by decide +kernel
theorem dX5_ofCoat_88 : decode cX5_ofCoat 88 = .ok (.iconst 1, 1) := by decide +kernel
theorem dX5_ofCoat_89 : decode cX5_ofCoat 89 = .ok (.goto 4, 3) := by decide +kernel
theorem dX5_ofCoat_92 : decode cX5_ofCoat 92 = .ok (.iconst 0, 1) := by decide +kernel
theorem dX5_ofCoat_93 : decode cX5_ofCoat 93 = .ok (.ireturn, 1) := by decide +kernel
theorem dX5_ofTown_0 : decode cX5_ofTown 0 = .ok (.iload_n 1, 1) := by decide +kernel
theorem dX5_ofTown_1 : decode cX5_ofTown 1 = .ok (.aload_n 0, 1) := by decide +kernel
theorem dX5_ofTown_2 : decode cX5_ofTown 2 = .ok (.getfield 40, 3) := by decide +kernel
theorem dX5_ofTown_5 : decode cX5_ofTown 5 = .ok (.getfield 127, 3) := by decide +kernel
theorem dX5_ofTown_8 : decode cX5_ofTown 8 = .ok (.invokestatic 79, 3) := by decide +kernel
theorem dX5_ofTown_11 : decode cX5_ofTown 11 = .ok (.iload_n 2, 1) := by decide +kernel
theorem dX5_ofTown_12 : decode cX5_ofTown 12 = .ok (.iconst 0, 1) := by decide +kernel
theorem dX5_ofTown_13 : decode cX5_ofTown 13 = .ok (.iconst 3, 1) := by decide +kernel
theorem dX5_ofTown_14 : decode cX5_ofTown 14 = .ok (.invokestatic 44, 3) := by decide +kernel
theorem dX5_ofTown_17 : decode cX5_ofTown 17 = .ok (.iload_n 2, 1) := by decide +kernel
theorem dX5_ofTown_18 : decode cX5_ofTown 18 = .ok (.tableswitch 56 0 2 #[26, 36, 46], 26) := by decide +kernel
theorem dX5_ofTown_44 : decode cX5_ofTown 44 = .ok (.aload_n 0, 1) := by decide +kernel
theorem dX5_ofTown_45 : decode cX5_ofTown 45 = .ok (.getfield 40, 3) := by decide +kernel
theorem dX5_ofTown_48 : decode cX5_ofTown 48 = .ok (.getfield 206, 3) := by decide +kernel
theorem dX5_ofTown_51 : decode cX5_ofTown 51 = .ok (.iload_n 1, 1) := by decide +kernel
theorem dX5_ofTown_52 : decode cX5_ofTown 52 = .ok (.iaload, 1) := by decide +kernel
theorem dX5_ofTown_53 : decode cX5_ofTown 53 = .ok (.ireturn, 1) := by decide +kernel
theorem dX5_ofTown_54 : decode cX5_ofTown 54 = .ok (.aload_n 0, 1) := by decide +kernel
theorem dX5_ofTown_55 : decode cX5_ofTown 55 = .ok (.getfield 40, 3) := by decide +kernel
theorem dX5_ofTown_58 : decode cX5_ofTown 58 = .ok (.getfield 209, 3) := by decide +kernel
theorem dX5_ofTown_61 : decode cX5_ofTown 61 = .ok (.iload_n 1, 1) := by decide +kernel
theorem dX5_ofTown_62 : decode cX5_ofTown 62 = .ok (.iaload, 1) := by decide +kernel
theorem dX5_ofTown_63 : decode cX5_ofTown 63 = .ok (.ireturn, 1) := by decide +kernel
theorem dX5_ofTown_64 : decode cX5_ofTown 64 = .ok (.aload_n 0, 1) := by decide +kernel
theorem dX5_ofTown_65 : decode cX5_ofTown 65 = .ok (.getfield 40, 3) := by decide +kernel
theorem dX5_ofTown_68 : decode cX5_ofTown 68 = .ok (.getfield 142, 3) := by decide +kernel
theorem dX5_ofTown_71 : decode cX5_ofTown 71 = .ok (.iload_n 1, 1) := by decide +kernel
theorem dX5_ofTown_72 : decode cX5_ofTown 72 = .ok (.iaload, 1) := by decide +kernel
theorem dX5_ofTown_73 : decode cX5_ofTown 73 = .ok (.ireturn, 1) := by decide +kernel
theorem dX5_ofTown_74 : decode cX5_ofTown 74 = .ok (.aload_n 0, 1) := by decide +kernel
theorem dX5_ofTown_75 : decode cX5_ofTown 75 = .ok (.getfield 40, 3) := by decide +kernel
theorem dX5_ofTown_78 : decode cX5_ofTown 78 = .ok (.iload_n 1, 1) := by decide +kernel
theorem dX5_ofTown_79 : decode cX5_ofTown 79 = .ok (.invokevirtual 212, 3) := by decide +kernel
theorem dX5_ofTown_82 : decode cX5_ofTown 82 = .ok (.ireturn, 1) := by decide +kernel
theorem dX5_house_0 : decode cX5_house 0 = .ok (.iload_n 1, 1) := by decide +kernel
theorem dX5_house_1 : decode cX5_house 1 = .ok (.iconst 0, 1) := by decide +kernel
theorem dX5_house_2 : decode cX5_house 2 = .ok (.bipush 13, 2) := by decide +kernel
theorem dX5_house_4 : decode cX5_house 4 = .ok (.invokestatic 44, 3) := by decide +kernel
theorem dX5_house_7 : decode cX5_house 7 = .ok (.iload_n 1, 1) := by decide +kernel
theorem dX5_house_8 : decode cX5_house 8 = .ok (.tableswitch 196 0 12 #[68, 76, 84, 92, 100, 108, 119, 127, 150, 173, 178, 183, 191], 68) := by decide +kernel
theorem dX5_house_76 : decode cX5_house 76 = .ok (.aload_n 0, 1) := by decide +kernel
theorem dX5_house_77 : decode cX5_house 77 = .ok (.getfield 10, 3) := by decide +kernel
theorem dX5_house_80 : decode cX5_house 80 = .ok (.getfield 48, 3) := by decide +kernel
theorem dX5_house_83 : decode cX5_house 83 = .ok (.ireturn, 1) := by decide +kernel
theorem dX5_house_84 : decode cX5_house 84 = .ok (.aload_n 0, 1) := by decide +kernel
theorem dX5_house_85 : decode cX5_house 85 = .ok (.getfield 19, 3) := by decide +kernel
theorem dX5_house_88 : decode cX5_house 88 = .ok (.getfield 66, 3) := by decide +kernel
theorem dX5_house_91 : decode cX5_house 91 = .ok (.ireturn, 1) := by decide +kernel
theorem dX5_house_92 : decode cX5_house 92 = .ok (.aload_n 0, 1) := by decide +kernel
theorem dX5_house_93 : decode cX5_house 93 = .ok (.getfield 19, 3) := by decide +kernel
theorem dX5_house_96 : decode cX5_house 96 = .ok (.invokevirtual 89, 3) := by decide +kernel
theorem dX5_house_99 : decode cX5_house 99 = .ok (.ireturn, 1) := by decide +kernel
theorem dX5_house_100 : decode cX5_house 100 = .ok (.aload_n 0, 1) := by decide +kernel
theorem dX5_house_101 : decode cX5_house 101 = .ok (.getfield 10, 3) := by decide +kernel
theorem dX5_house_104 : decode cX5_house 104 = .ok (.getfield 72, 3) := by decide +kernel
theorem dX5_house_107 : decode cX5_house 107 = .ok (.ireturn, 1) := by decide +kernel
theorem dX5_house_108 : decode cX5_house 108 = .ok (.aload_n 0, 1) := by decide +kernel
theorem dX5_house_109 : decode cX5_house 109 = .ok (.getfield 33, 3) := by decide +kernel
theorem dX5_house_112 : decode cX5_house 112 = .ok (.getfield 93, 3) := by decide +kernel
theorem dX5_house_115 : decode cX5_house 115 = .ok (.ireturn, 1) := by decide +kernel
theorem dX5_house_116 : decode cX5_house 116 = .ok (.aload_n 0, 1) := by decide +kernel
theorem dX5_house_117 : decode cX5_house 117 = .ok (.getfield 33, 3) := by decide +kernel
theorem dX5_house_120 : decode cX5_house 120 = .ok (.getfield 99, 3) := by decide +kernel
theorem dX5_house_123 : decode cX5_house 123 = .ok (.invokestatic 215, 3) := by decide +kernel
theorem dX5_house_126 : decode cX5_house 126 = .ok (.ireturn, 1) := by decide +kernel
theorem dX5_house_127 : decode cX5_house 127 = .ok (.aload_n 0, 1) := by decide +kernel
theorem dX5_house_128 : decode cX5_house 128 = .ok (.getfield 40, 3) := by decide +kernel
theorem dX5_house_131 : decode cX5_house 131 = .ok (.getfield 127, 3) := by decide +kernel
theorem dX5_house_134 : decode cX5_house 134 = .ok (.ireturn, 1) := by decide +kernel
theorem dX5_house_135 : decode cX5_house 135 = .ok (.aload_n 0, 1) := by decide +kernel
theorem dX5_house_136 : decode cX5_house 136 = .ok (.getfield 26, 3) := by decide +kernel
theorem dX5_house_139 : decode cX5_house 139 = .ok (.aload_n 0, 1) := by decide +kernel
theorem dX5_house_140 : decode cX5_house 140 = .ok (.getfield 10, 3) := by decide +kernel
theorem dX5_house_143 : decode cX5_house 143 = .ok (.aload_n 0, 1) := by decide +kernel
theorem dX5_house_144 : decode cX5_house 144 = .ok (.getfield 19, 3) := by decide +kernel
theorem dX5_house_147 : decode cX5_house 147 = .ok (.invokevirtual 133, 3) := by decide +kernel
theorem dX5_house_150 : decode cX5_house 150 = .ok (.aload_n 0, 1) := by decide +kernel
theorem dX5_house_151 : decode cX5_house 151 = .ok (.getfield 26, 3) := by decide +kernel
theorem dX5_house_154 : decode cX5_house 154 = .ok (.getfield 220, 3) := by decide +kernel
theorem dX5_house_157 : decode cX5_house 157 = .ok (.ireturn, 1) := by decide +kernel
theorem dX5_house_158 : decode cX5_house 158 = .ok (.aload_n 0, 1) := by decide +kernel
theorem dX5_house_159 : decode cX5_house 159 = .ok (.getfield 26, 3) := by decide +kernel
theorem dX5_house_162 : decode cX5_house 162 = .ok (.aload_n 0, 1) := by decide +kernel
theorem dX5_house_163 : decode cX5_house 163 = .ok (.getfield 10, 3) := by decide +kernel
theorem dX5_house_166 : decode cX5_house 166 = .ok (.aload_n 0, 1) := by decide +kernel
theorem dX5_house_167 : decode cX5_house 167 = .ok (.getfield 19, 3) := by decide +kernel
theorem dX5_house_170 : decode cX5_house 170 = .ok (.invokevirtual 133, 3) := by decide +kernel
theorem dX5_house_173 : decode cX5_house 173 = .ok (.aload_n 0, 1) := by decide +kernel
theorem dX5_house_174 : decode cX5_house 174 = .ok (.getfield 26, 3) := by decide +kernel
theorem dX5_house_177 : decode cX5_house 177 = .ok (.getfield 223, 3) := by decide +kernel
theorem dX5_house_180 : decode cX5_house 180 = .ok (.ireturn, 1) := by decide +kernel
theorem dX5_house_181 : decode cX5_house 181 = .ok (.aload_n 0, 1) := by decide +kernel
theorem dX5_house_182 : decode cX5_house 182 = .ok (.getfield 113, 3) := by decide +kernel
theorem dX5_house_185 : decode cX5_house 185 = .ok (.ireturn, 1) := by decide +kernel
theorem dX5_house_186 : decode cX5_house 186 = .ok (.aload_n 0, 1) := by decide +kernel
theorem dX5_house_187 : decode cX5_house 187 = .ok (.getfield 124, 3) := by decide +kernel
theorem dX5_house_190 : decode cX5_house 190 = .ok (.ireturn, 1) := by decide +kernel
theorem dX5_house_191 : decode cX5_house 191 = .ok (.aload_n 0, 1) := by decide +kernel
theorem dX5_house_192 : decode cX5_house 192 = .ok (.getfield 19, 3) := by decide +kernel
theorem dX5_house_195 : decode cX5_house 195 = .ok (.invokevirtual 226, 3) := by decide +kernel
theorem dX5_house_198 : decode cX5_house 198 = .ok (.ireturn, 1) := by decide +kernel
theorem dX5_house_199 : decode cX5_house 199 = .ok (.aload_n 0, 1) := by decide +kernel
theorem dX5_house_200 : decode cX5_house 200 = .ok (.getfield 148, 3) := by decide +kernel
theorem dX5_house_203 : decode cX5_house 203 = .ok (.ireturn, 1) := by decide +kernel
theorem dX5_house_204 : decode cX5_house 204 = .ok (.aload_n 0, 1) := by decide +kernel
theorem dX5_house_205 : decode cX5_house 205 = .ok (.getfield 151, 3) := by decide +kernel
theorem dX5_house_208 : decode cX5_house 208 = .ok (.ireturn, 1) := by decide +kernel
theorem dX5_cast_0 : decode cX5_cast 0 = .ok (.aload_n 0, 1) := by decide +kernel
theorem dX5_cast_1 : decode cX5_cast 1 = .ok (.getfield 26, 3) := by decide +kernel
theorem dX5_cast_4 : decode cX5_cast 4 = .ok (.aload_n 0, 1) := by decide +kernel
theorem dX5_cast_5 : decode cX5_cast 5 = .ok (.getfield 10, 3) := by decide +kernel
theorem dX5_cast_8 : decode cX5_cast 8 = .ok (.aload_n 0, 1) := by decide +kernel
theorem dX5_cast_9 : decode cX5_cast 9 = .ok (.getfield 19, 3) := by decide +kernel
theorem dX5_cast_12 : decode cX5_cast 12 = .ok (.invokevirtual 133, 3) := by decide +kernel
theorem dX5_cast_15 : decode cX5_cast 15 = .ok (.aload_n 0, 1) := by decide +kernel
theorem dX5_cast_16 : decode cX5_cast 16 = .ok (.getfield 26, 3) := by decide +kernel
theorem dX5_cast_19 : decode cX5_cast 19 = .ok (.getfield 220, 3) := by decide +kernel
theorem dX5_cast_22 : decode cX5_cast 22 = .ok (.iconst (-1), 1) := by decide +kernel
theorem dX5_cast_23 : decode cX5_cast 23 = .ok (.if_icmp .ne 6, 3) := by decide +kernel
theorem dX5_cast_26 : decode cX5_cast 26 = .ok (.ldc 229, 2) := by decide +kernel
theorem dX5_cast_28 : decode cX5_cast 28 = .ok (.areturn, 1) := by decide +kernel
theorem dX5_cast_29 : decode cX5_cast 29 = .ok (.new 231, 3) := by decide +kernel
theorem dX5_cast_32 : decode cX5_cast 32 = .ok (.dup, 1) := by decide +kernel
theorem dX5_cast_33 : decode cX5_cast 33 = .ok (.invokespecial 233, 3) := by decide +kernel
theorem dX5_cast_36 : decode cX5_cast 36 = .ok (.astore_n 1, 1) := by decide +kernel
theorem dX5_cast_37 : decode cX5_cast 37 = .ok (.iconst 0, 1) := by decide +kernel
theorem dX5_cast_38 : decode cX5_cast 38 = .ok (.istore_n 2, 1) := by decide +kernel
theorem dX5_cast_39 : decode cX5_cast 39 = .ok (.iload_n 2, 1) := by decide +kernel
theorem dX5_cast_40 : decode cX5_cast 40 = .ok (.aload_n 0, 1) := by decide +kernel
theorem dX5_cast_41 : decode cX5_cast 41 = .ok (.getfield 10, 3) := by decide +kernel
theorem dX5_cast_44 : decode cX5_cast 44 = .ok (.getfield 48, 3) := by decide +kernel
theorem dX5_cast_47 : decode cX5_cast 47 = .ok (.if_icmp .ge 38, 3) := by decide +kernel
theorem dX5_cast_50 : decode cX5_cast 50 = .ok (.aload_n 0, 1) := by decide +kernel
theorem dX5_cast_51 : decode cX5_cast 51 = .ok (.getfield 26, 3) := by decide +kernel
theorem dX5_cast_54 : decode cX5_cast 54 = .ok (.iload_n 2, 1) := by decide +kernel
theorem dX5_cast_55 : decode cX5_cast 55 = .ok (.invokevirtual 174, 3) := by decide +kernel
theorem dX5_cast_58 : decode cX5_cast 58 = .ok (.istore_n 3, 1) := by decide +kernel
theorem dX5_cast_59 : decode cX5_cast 59 = .ok (.aload_n 1, 1) := by decide +kernel
theorem dX5_cast_60 : decode cX5_cast 60 = .ok (.iload_n 3, 1) := by decide +kernel
theorem dX5_cast_61 : decode cX5_cast 61 = .ok (.iconst (-1), 1) := by decide +kernel
theorem dX5_cast_62 : decode cX5_cast 62 = .ok (.if_icmp .ne 8, 3) := by decide +kernel
theorem dX5_cast_65 : decode cX5_cast 65 = .ok (.bipush 46, 2) := by decide +kernel
theorem dX5_cast_67 : decode cX5_cast 67 = .ok (.goto 8, 3) := by decide +kernel
theorem dX5_cast_70 : decode cX5_cast 70 = .ok (.bipush 48, 2) := by decide +kernel
theorem dX5_cast_72 : decode cX5_cast 72 = .ok (.iload_n 3, 1) := by decide +kernel
theorem dX5_cast_73 : decode cX5_cast 73 = .ok (.iadd, 1) := by decide +kernel
theorem dX5_cast_74 : decode cX5_cast 74 = .ok (.i2c, 1) := by decide +kernel
theorem dX5_cast_75 : decode cX5_cast 75 = .ok (.invokevirtual 234, 3) := by decide +kernel
theorem dX5_cast_78 : decode cX5_cast 78 = .ok (.pop, 1) := by decide +kernel
theorem dX5_cast_79 : decode cX5_cast 79 = .ok (.iinc 2 1, 3) := by decide +kernel
theorem dX5_cast_82 : decode cX5_cast 82 = .ok (.goto (-43), 3) := by decide +kernel
theorem dX5_cast_85 : decode cX5_cast 85 = .ok (.aload_n 1, 1) := by decide +kernel
theorem dX5_cast_86 : decode cX5_cast 86 = .ok (.invokevirtual 238, 3) := by decide +kernel
theorem dX5_cast_89 : decode cX5_cast 89 = .ok (.areturn, 1) := by decide +kernel
theorem dX5_tour_0 : decode cX5_tour 0 = .ok (.iload_n 1, 1) := by decide +kernel
theorem dX5_tour_1 : decode cX5_tour 1 = .ok (.iconst 0, 1) := by decide +kernel
theorem dX5_tour_2 : decode cX5_tour 2 = .ok (.sipush 2000, 3) := by decide +kernel
theorem dX5_tour_5 : decode cX5_tour 5 = .ok (.invokestatic 44, 3) := by decide +kernel
theorem dX5_tour_8 : decode cX5_tour 8 = .ok (.iload_n 2, 1) := by decide +kernel
theorem dX5_tour_9 : decode cX5_tour 9 = .ok (.iconst 0, 1) := by decide +kernel
theorem dX5_tour_10 : decode cX5_tour 10 = .ok (.iconst 2, 1) := by decide +kernel
theorem dX5_tour_11 : decode cX5_tour 11 = .ok (.invokestatic 44, 3) := by decide +kernel
theorem dX5_tour_14 : decode cX5_tour 14 = .ok (.aload_n 0, 1) := by decide +kernel
theorem dX5_tour_15 : decode cX5_tour 15 = .ok (.getfield 40, 3) := by decide +kernel
theorem dX5_tour_18 : decode cX5_tour 18 = .ok (.iload_n 1, 1) := by decide +kernel
theorem dX5_tour_19 : decode cX5_tour 19 = .ok (.invokevirtual 242, 3) := by decide +kernel
theorem dX5_tour_22 : decode cX5_tour 22 = .ok (.istore_n 3, 1) := by decide +kernel
theorem dX5_tour_23 : decode cX5_tour 23 = .ok (.iload_n 2, 1) := by decide +kernel
theorem dX5_tour_24 : decode cX5_tour 24 = .ok (.lookupswitch 39 #[(0, 28), (1, 30)], 28) := by decide +kernel
theorem dX5_tour_52 : decode cX5_tour 52 = .ok (.iload_n 3, 1) := by decide +kernel
theorem dX5_tour_53 : decode cX5_tour 53 = .ok (.ireturn, 1) := by decide +kernel
theorem dX5_tour_54 : decode cX5_tour 54 = .ok (.aload_n 0, 1) := by decide +kernel
theorem dX5_tour_55 : decode cX5_tour 55 = .ok (.getfield 40, 3) := by decide +kernel
theorem dX5_tour_58 : decode cX5_tour 58 = .ok (.iload_n 3, 1) := by decide +kernel
theorem dX5_tour_59 : decode cX5_tour 59 = .ok (.invokevirtual 245, 3) := by decide +kernel
theorem dX5_tour_62 : decode cX5_tour 62 = .ok (.ireturn, 1) := by decide +kernel
theorem dX5_tour_63 : decode cX5_tour 63 = .ok (.aload_n 0, 1) := by decide +kernel
theorem dX5_tour_64 : decode cX5_tour 64 = .ok (.getfield 40, 3) := by decide +kernel
theorem dX5_tour_67 : decode cX5_tour 67 = .ok (.getfield 248, 3) := by decide +kernel
theorem dX5_tour_70 : decode cX5_tour 70 = .ok (.iload_n 3, 1) := by decide +kernel
theorem dX5_tour_71 : decode cX5_tour 71 = .ok (.iaload, 1) := by decide +kernel
theorem dX5_tour_72 : decode cX5_tour 72 = .ok (.ireturn, 1) := by decide +kernel
theorem dX5_would_0 : decode cX5_would 0 = .ok (.iload_n 1, 1) := by decide +kernel
theorem dX5_would_1 : decode cX5_would 1 = .ok (.aload_n 0, 1) := by decide +kernel
theorem dX5_would_2 : decode cX5_would 2 = .ok (.getfield 10, 3) := by decide +kernel
theorem dX5_would_5 : decode cX5_would 5 = .ok (.getfield 72, 3) := by decide +kernel
theorem dX5_would_8 : decode cX5_would 8 = .ok (.invokestatic 63, 3) := by decide +kernel
theorem dX5_would_11 : decode cX5_would 11 = .ok (.aload_n 0, 1) := by decide +kernel
theorem dX5_would_12 : decode cX5_would 12 = .ok (.getfield 26, 3) := by decide +kernel
theorem dX5_would_15 : decode cX5_would 15 = .ok (.aload_n 0, 1) := by decide +kernel
theorem dX5_would_16 : decode cX5_would 16 = .ok (.getfield 10, 3) := by decide +kernel
theorem dX5_would_19 : decode cX5_would 19 = .ok (.aload_n 0, 1) := by decide +kernel
theorem dX5_would_20 : decode cX5_would 20 = .ok (.getfield 19, 3) := by decide +kernel
theorem dX5_would_23 : decode cX5_would 23 = .ok (.aload_n 0, 1) := by decide +kernel
theorem dX5_would_24 : decode cX5_would 24 = .ok (.getfield 10, 3) := by decide +kernel
theorem dX5_would_27 : decode cX5_would 27 = .ok (.invokevirtual 251, 3) := by decide +kernel
theorem dX5_would_30 : decode cX5_would 30 = .ok (.iload_n 1, 1) := by decide +kernel
theorem dX5_would_31 : decode cX5_would 31 = .ok (.iconst (-1), 1) := by decide +kernel
theorem dX5_would_32 : decode cX5_would 32 = .ok (.ixor, 1) := by decide +kernel
theorem dX5_would_33 : decode cX5_would 33 = .ok (.iand, 1) := by decide +kernel
theorem dX5_would_34 : decode cX5_would 34 = .ok (.invokevirtual 254, 3) := by decide +kernel
theorem dX5_would_37 : decode cX5_would 37 = .ok (.ireturn, 1) := by decide +kernel
theorem dX5_without_0 : decode cX5_without 0 = .ok (.iload_n 1, 1) := by decide +kernel
theorem dX5_without_1 : decode cX5_without 1 = .ok (.aload_n 0, 1) := by decide +kernel
theorem dX5_without_2 : decode cX5_without 2 = .ok (.getfield 19, 3) := by decide +kernel
theorem dX5_without_5 : decode cX5_without 5 = .ok (.getfield 66, 3) := by decide +kernel
theorem dX5_without_8 : decode cX5_without 8 = .ok (.invokestatic 79, 3) := by decide +kernel
theorem dX5_without_11 : decode cX5_without 11 = .ok (.aload_n 0, 1) := by decide +kernel
theorem dX5_without_12 : decode cX5_without 12 = .ok (.getfield 19, 3) := by decide +kernel
theorem dX5_without_15 : decode cX5_without 15 = .ok (.getfield 86, 3) := by decide +kernel
theorem dX5_without_18 : decode cX5_without 18 = .ok (.istore_n 2, 1) := by decide +kernel
theorem dX5_without_19 : decode cX5_without 19 = .ok (.aload_n 0, 1) := by decide +kernel
theorem dX5_without_20 : decode cX5_without 20 = .ok (.getfield 19, 3) := by decide +kernel
theorem dX5_without_23 : decode cX5_without 23 = .ok (.dup, 1) := by decide +kernel
theorem dX5_without_24 : decode cX5_without 24 = .ok (.getfield 86, 3) := by decide +kernel
theorem dX5_without_27 : decode cX5_without 27 = .ok (.iconst 1, 1) := by decide +kernel
theorem dX5_without_28 : decode cX5_without 28 = .ok (.iload_n 1, 1) := by decide +kernel
theorem dX5_without_29 : decode cX5_without 29 = .ok (.ishl, 1) := by decide +kernel
theorem dX5_without_30 : decode cX5_without 30 = .ok (.ior, 1) := by decide +kernel
theorem dX5_without_31 : decode cX5_without 31 = .ok (.putfield 86, 3) := by decide +kernel
theorem dX5_without_34 : decode cX5_without 34 = .ok (.aload_n 0, 1) := by decide +kernel
theorem dX5_without_35 : decode cX5_without 35 = .ok (.getfield 26, 3) := by decide +kernel
theorem dX5_without_38 : decode cX5_without 38 = .ok (.aload_n 0, 1) := by decide +kernel
theorem dX5_without_39 : decode cX5_without 39 = .ok (.getfield 10, 3) := by decide +kernel
theorem dX5_without_42 : decode cX5_without 42 = .ok (.aload_n 0, 1) := by decide +kernel
theorem dX5_without_43 : decode cX5_without 43 = .ok (.getfield 19, 3) := by decide +kernel
theorem dX5_without_46 : decode cX5_without 46 = .ok (.aload_n 0, 1) := by decide +kernel
theorem dX5_without_47 : decode cX5_without 47 = .ok (.getfield 10, 3) := by decide +kernel
theorem dX5_without_50 : decode cX5_without 50 = .ok (.invokevirtual 251, 3) := by decide +kernel
theorem dX5_without_53 : decode cX5_without 53 = .ok (.invokevirtual 254, 3) := by decide +kernel
theorem dX5_without_56 : decode cX5_without 56 = .ok (.istore_n 3, 1) := by decide +kernel
theorem dX5_without_57 : decode cX5_without 57 = .ok (.aload_n 0, 1) := by decide +kernel
theorem dX5_without_58 : decode cX5_without 58 = .ok (.getfield 19, 3) := by decide +kernel
theorem dX5_without_61 : decode cX5_without 61 = .ok (.iload_n 2, 1) := by decide +kernel
theorem dX5_without_62 : decode cX5_without 62 = .ok (.putfield 86, 3) := by decide +kernel
theorem dX5_without_65 : decode cX5_without 65 = .ok (.iload_n 3, 1) := by decide +kernel
theorem dX5_without_66 : decode cX5_without 66 = .ok (.ireturn, 1) := by decide +kernel
theorem dX5_shareOf_0 : decode cX5_shareOf 0 = .ok (.iload_n 2, 1) := by decide +kernel
theorem dX5_shareOf_1 : decode cX5_shareOf 1 = .ok (.aload_n 0, 1) := by decide +kernel
theorem dX5_shareOf_2 : decode cX5_shareOf 2 = .ok (.getfield 19, 3) := by decide +kernel
theorem dX5_shareOf_5 : decode cX5_shareOf 5 = .ok (.getfield 66, 3) := by decide +kernel
theorem dX5_shareOf_8 : decode cX5_shareOf 8 = .ok (.invokestatic 79, 3) := by decide +kernel
theorem dX5_shareOf_11 : decode cX5_shareOf 11 = .ok (.iload_n 1, 1) := by decide +kernel
theorem dX5_shareOf_12 : decode cX5_shareOf 12 = .ok (.iconst 0, 1) := by decide +kernel
theorem dX5_shareOf_13 : decode cX5_shareOf 13 = .ok (.sipush 9999, 3) := by decide +kernel
theorem dX5_shareOf_16 : decode cX5_shareOf 16 = .ok (.invokestatic 44, 3) := by decide +kernel
theorem dX5_shareOf_19 : decode cX5_shareOf 19 = .ok (.aload_n 0, 1) := by decide +kernel
theorem dX5_shareOf_20 : decode cX5_shareOf 20 = .ok (.getfield 26, 3) := by decide +kernel
theorem dX5_shareOf_23 : decode cX5_shareOf 23 = .ok (.aload_n 0, 1) := by decide +kernel
theorem dX5_shareOf_24 : decode cX5_shareOf 24 = .ok (.getfield 10, 3) := by decide +kernel
theorem dX5_shareOf_27 : decode cX5_shareOf 27 = .ok (.aload_n 0, 1) := by decide +kernel
theorem dX5_shareOf_28 : decode cX5_shareOf 28 = .ok (.getfield 19, 3) := by decide +kernel
theorem dX5_shareOf_31 : decode cX5_shareOf 31 = .ok (.invokevirtual 133, 3) := by decide +kernel
theorem dX5_shareOf_34 : decode cX5_shareOf 34 = .ok (.aload_n 0, 1) := by decide +kernel
theorem dX5_shareOf_35 : decode cX5_shareOf 35 = .ok (.getfield 19, 3) := by decide +kernel
theorem dX5_shareOf_38 : decode cX5_shareOf 38 = .ok (.iload_n 1, 1) := by decide +kernel
theorem dX5_shareOf_39 : decode cX5_shareOf 39 = .ok (.iload_n 2, 1) := by decide +kernel
end
section
theorem dX5_shareOf_40 : decode cX5_shareOf 40 = .ok (.aload_n 0, 1) := by decide +kernel
theorem dX5_shareOf_41 : decode cX5_shareOf 41 = .ok (.getfield 26, 3) := by decide +kernel
theorem dX5_shareOf_44 : decode cX5_shareOf 44 = .ok (.invokevirtual 137, 3) := by decide +kernel
theorem dX5_shareOf_47 : decode cX5_shareOf 47 = .ok (.invokevirtual 145, 3) := by decide +kernel
theorem dX5_shareOf_50 : decode cX5_shareOf 50 = .ok (.ireturn, 1) := by decide +kernel
theorem dX5_isSound_0 : decode cX5_isSound 0 = .ok (.iconst 0, 1) := by decide +kernel
theorem dX5_isSound_1 : decode cX5_isSound 1 = .ok (.istore_n 1, 1) := by decide +kernel
theorem dX5_isSound_2 : decode cX5_isSound 2 = .ok (.iload_n 1, 1) := by decide +kernel
theorem dX5_isSound_3 : decode cX5_isSound 3 = .ok (.aload_n 0, 1) := by decide +kernel
theorem dX5_isSound_4 : decode cX5_isSound 4 = .ok (.getfield 10, 3) := by decide +kernel
theorem dX5_isSound_7 : decode cX5_isSound 7 = .ok (.getfield 72, 3) := by decide +kernel
theorem dX5_isSound_10 : decode cX5_isSound 10 = .ok (.if_icmp .ge 43, 3) := by decide +kernel
theorem dX5_isSound_13 : decode cX5_isSound 13 = .ok (.aload_n 0, 1) := by decide +kernel
theorem dX5_isSound_14 : decode cX5_isSound 14 = .ok (.getfield 10, 3) := by decide +kernel
theorem dX5_isSound_17 : decode cX5_isSound 17 = .ok (.getfield 189, 3) := by decide +kernel
theorem dX5_isSound_20 : decode cX5_isSound 20 = .ok (.iload_n 1, 1) := by decide +kernel
theorem dX5_isSound_21 : decode cX5_isSound 21 = .ok (.iaload, 1) := by decide +kernel
theorem dX5_isSound_22 : decode cX5_isSound 22 = .ok (.istore_n 2, 1) := by decide +kernel
theorem dX5_isSound_23 : decode cX5_isSound 23 = .ok (.aload_n 0, 1) := by decide +kernel
theorem dX5_isSound_24 : decode cX5_isSound 24 = .ok (.iload_n 2, 1) := by decide +kernel
theorem dX5_isSound_25 : decode cX5_isSound 25 = .ok (.invokevirtual 192, 3) := by decide +kernel
theorem dX5_isSound_28 : decode cX5_isSound 28 = .ok (.aload_n 0, 1) := by decide +kernel
theorem dX5_isSound_29 : decode cX5_isSound 29 = .ok (.aload_n 0, 1) := by decide +kernel
theorem dX5_isSound_30 : decode cX5_isSound 30 = .ok (.iload_n 2, 1) := by decide +kernel
theorem dX5_isSound_31 : decode cX5_isSound 31 = .ok (.invokevirtual 195, 3) := by decide +kernel
theorem dX5_isSound_34 : decode cX5_isSound 34 = .ok (.invokevirtual 198, 3) := by decide +kernel
theorem dX5_isSound_37 : decode cX5_isSound 37 = .ok (.iadd, 1) := by decide +kernel
theorem dX5_isSound_38 : decode cX5_isSound 38 = .ok (.iload_n 2, 1) := by decide +kernel
theorem dX5_isSound_39 : decode cX5_isSound 39 = .ok (.invokestatic 215, 3) := by decide +kernel
theorem dX5_isSound_42 : decode cX5_isSound 42 = .ok (.if_icmp .eq 5, 3) := by decide +kernel
theorem dX5_isSound_45 : decode cX5_isSound 45 = .ok (.iconst 0, 1) := by decide +kernel
theorem dX5_isSound_46 : decode cX5_isSound 46 = .ok (.ireturn, 1) := by decide +kernel
theorem dX5_isSound_47 : decode cX5_isSound 47 = .ok (.iinc 1 1, 3) := by decide +kernel
theorem dX5_isSound_50 : decode cX5_isSound 50 = .ok (.goto (-48), 3) := by decide +kernel
theorem dX5_isSound_53 : decode cX5_isSound 53 = .ok (.aload_n 0, 1) := by decide +kernel
theorem dX5_isSound_54 : decode cX5_isSound 54 = .ok (.getfield 19, 3) := by decide +kernel
theorem dX5_isSound_57 : decode cX5_isSound 57 = .ok (.invokevirtual 226, 3) := by decide +kernel
theorem dX5_isSound_60 : decode cX5_isSound 60 = .ok (.aload_n 0, 1) := by decide +kernel
theorem dX5_isSound_61 : decode cX5_isSound 61 = .ok (.getfield 113, 3) := by decide +kernel
theorem dX5_isSound_64 : decode cX5_isSound 64 = .ok (.aload_n 0, 1) := by decide +kernel
theorem dX5_isSound_65 : decode cX5_isSound 65 = .ok (.getfield 124, 3) := by decide +kernel
theorem dX5_isSound_68 : decode cX5_isSound 68 = .ok (.isub, 1) := by decide +kernel
theorem dX5_isSound_69 : decode cX5_isSound 69 = .ok (.if_icmp .ne 13, 3) := by decide +kernel
theorem dX5_isSound_72 : decode cX5_isSound 72 = .ok (.aload_n 0, 1) := by decide +kernel
theorem dX5_isSound_73 : decode cX5_isSound 73 = .ok (.getfield 19, 3) := by decide +kernel
theorem dX5_isSound_76 : decode cX5_isSound 76 = .ok (.invokevirtual 258, 3) := by decide +kernel
theorem dX5_isSound_79 : decode cX5_isSound 79 = .ok (.ifCond .eq 5, 3) := by decide +kernel
theorem dX5_isSound_82 : decode cX5_isSound 82 = .ok (.iconst 0, 1) := by decide +kernel
theorem dX5_isSound_83 : decode cX5_isSound 83 = .ok (.ireturn, 1) := by decide +kernel
theorem dX5_isSound_84 : decode cX5_isSound 84 = .ok (.aload_n 0, 1) := by decide +kernel
theorem dX5_isSound_85 : decode cX5_isSound 85 = .ok (.getfield 26, 3) := by decide +kernel
theorem dX5_isSound_88 : decode cX5_isSound 88 = .ok (.aload_n 0, 1) := by decide +kernel
theorem dX5_isSound_89 : decode cX5_isSound 89 = .ok (.getfield 10, 3) := by decide +kernel
theorem dX5_isSound_92 : decode cX5_isSound 92 = .ok (.aload_n 0, 1) := by decide +kernel
theorem dX5_isSound_93 : decode cX5_isSound 93 = .ok (.getfield 19, 3) := by decide +kernel
theorem dX5_isSound_96 : decode cX5_isSound 96 = .ok (.invokevirtual 133, 3) := by decide +kernel
theorem dX5_isSound_99 : decode cX5_isSound 99 = .ok (.aload_n 0, 1) := by decide +kernel
theorem dX5_isSound_100 : decode cX5_isSound 100 = .ok (.getfield 26, 3) := by decide +kernel
theorem dX5_isSound_103 : decode cX5_isSound 103 = .ok (.getfield 220, 3) := by decide +kernel
theorem dX5_isSound_106 : decode cX5_isSound 106 = .ok (.iconst (-1), 1) := by decide +kernel
theorem dX5_isSound_107 : decode cX5_isSound 107 = .ok (.if_icmp .ne 19, 3) := by decide +kernel
theorem dX5_isSound_110 : decode cX5_isSound 110 = .ok (.aload_n 0, 1) := by decide +kernel
theorem dX5_isSound_111 : decode cX5_isSound 111 = .ok (.getfield 26, 3) := by decide +kernel
theorem dX5_isSound_114 : decode cX5_isSound 114 = .ok (.getfield 223, 3) := by decide +kernel
theorem dX5_isSound_117 : decode cX5_isSound 117 = .ok (.ifCond .eq 7, 3) := by decide +kernel
theorem dX5_isSound_120 : decode cX5_isSound 120 = .ok (.iconst 1, 1) := by decide +kernel
theorem dX5_isSound_121 : decode cX5_isSound 121 = .ok (.goto 4, 3) := by decide +kernel
theorem dX5_isSound_124 : decode cX5_isSound 124 = .ok (.iconst 0, 1) := by decide +kernel
theorem dX5_isSound_125 : decode cX5_isSound 125 = .ok (.ireturn, 1) := by decide +kernel
theorem dX5_isSound_126 : decode cX5_isSound 126 = .ok (.aload_n 0, 1) := by decide +kernel
theorem dX5_isSound_127 : decode cX5_isSound 127 = .ok (.getfield 26, 3) := by decide +kernel
theorem dX5_isSound_130 : decode cX5_isSound 130 = .ok (.getfield 223, 3) := by decide +kernel
theorem dX5_isSound_133 : decode cX5_isSound 133 = .ok (.ifCond .ne 14, 3) := by decide +kernel
theorem dX5_isSound_136 : decode cX5_isSound 136 = .ok (.aload_n 0, 1) := by decide +kernel
theorem dX5_isSound_137 : decode cX5_isSound 137 = .ok (.invokevirtual 262, 3) := by decide +kernel
theorem dX5_isSound_140 : decode cX5_isSound 140 = .ok (.ifCond .ne 7, 3) := by decide +kernel
theorem dX5_isSound_143 : decode cX5_isSound 143 = .ok (.iconst 1, 1) := by decide +kernel
theorem dX5_isSound_144 : decode cX5_isSound 144 = .ok (.goto 4, 3) := by decide +kernel
theorem dX5_isSound_147 : decode cX5_isSound 147 = .ok (.iconst 0, 1) := by decide +kernel
theorem dX5_isSound_148 : decode cX5_isSound 148 = .ok (.ireturn, 1) := by decide +kernel
theorem dX5_digest_0 : decode cX5_digest 0 = .ok (.ldc2_w 265, 3) := by decide +kernel
theorem dX5_digest_3 : decode cX5_digest 3 = .ok (.lstore_n 1, 1) := by decide +kernel
theorem dX5_digest_4 : decode cX5_digest 4 = .ok (.iconst 0, 1) := by decide +kernel
theorem dX5_digest_5 : decode cX5_digest 5 = .ok (.istore_n 3, 1) := by decide +kernel
theorem dX5_digest_6 : decode cX5_digest 6 = .ok (.iload_n 3, 1) := by decide +kernel
theorem dX5_digest_7 : decode cX5_digest 7 = .ok (.bipush 13, 2) := by decide +kernel
theorem dX5_digest_9 : decode cX5_digest 9 = .ok (.if_icmp .gt 22, 3) := by decide +kernel
theorem dX5_digest_12 : decode cX5_digest 12 = .ok (.lload_n 1, 1) := by decide +kernel
theorem dX5_digest_13 : decode cX5_digest 13 = .ok (.ldc2_w 267, 3) := by decide +kernel
theorem dX5_digest_16 : decode cX5_digest 16 = .ok (.lmul, 1) := by decide +kernel
theorem dX5_digest_17 : decode cX5_digest 17 = .ok (.aload_n 0, 1) := by decide +kernel
theorem dX5_digest_18 : decode cX5_digest 18 = .ok (.iload_n 3, 1) := by decide +kernel
theorem dX5_digest_19 : decode cX5_digest 19 = .ok (.invokevirtual 269, 3) := by decide +kernel
theorem dX5_digest_22 : decode cX5_digest 22 = .ok (.i2l, 1) := by decide +kernel
theorem dX5_digest_23 : decode cX5_digest 23 = .ok (.ladd, 1) := by decide +kernel
theorem dX5_digest_24 : decode cX5_digest 24 = .ok (.lstore_n 1, 1) := by decide +kernel
theorem dX5_digest_25 : decode cX5_digest 25 = .ok (.iinc 3 1, 3) := by decide +kernel
theorem dX5_digest_28 : decode cX5_digest 28 = .ok (.goto (-22), 3) := by decide +kernel
theorem dX5_digest_31 : decode cX5_digest 31 = .ok (.iconst 0, 1) := by decide +kernel
theorem dX5_digest_32 : decode cX5_digest 32 = .ok (.istore_n 3, 1) := by decide +kernel
theorem dX5_digest_33 : decode cX5_digest 33 = .ok (.iload_n 3, 1) := by decide +kernel
theorem dX5_digest_34 : decode cX5_digest 34 = .ok (.aload_n 0, 1) := by decide +kernel
theorem dX5_digest_35 : decode cX5_digest 35 = .ok (.getfield 10, 3) := by decide +kernel
theorem dX5_digest_38 : decode cX5_digest 38 = .ok (.getfield 48, 3) := by decide +kernel
theorem dX5_digest_41 : decode cX5_digest 41 = .ok (.if_icmp .ge 40, 3) := by decide +kernel
theorem dX5_digest_44 : decode cX5_digest 44 = .ok (.iconst 0, 1) := by decide +kernel
theorem dX5_digest_45 : decode cX5_digest 45 = .ok (.istore 4, 2) := by decide +kernel
theorem dX5_digest_47 : decode cX5_digest 47 = .ok (.iload 4, 2) := by decide +kernel
theorem dX5_digest_49 : decode cX5_digest 49 = .ok (.bipush 6, 2) := by decide +kernel
theorem dX5_digest_51 : decode cX5_digest 51 = .ok (.if_icmp .gt 24, 3) := by decide +kernel
theorem dX5_digest_54 : decode cX5_digest 54 = .ok (.lload_n 1, 1) := by decide +kernel
theorem dX5_digest_55 : decode cX5_digest 55 = .ok (.ldc2_w 267, 3) := by decide +kernel
theorem dX5_digest_58 : decode cX5_digest 58 = .ok (.lmul, 1) := by decide +kernel
theorem dX5_digest_59 : decode cX5_digest 59 = .ok (.aload_n 0, 1) := by decide +kernel
theorem dX5_digest_60 : decode cX5_digest 60 = .ok (.iload_n 3, 1) := by decide +kernel
theorem dX5_digest_61 : decode cX5_digest 61 = .ok (.iload 4, 2) := by decide +kernel
theorem dX5_digest_63 : decode cX5_digest 63 = .ok (.invokevirtual 272, 3) := by decide +kernel
theorem dX5_digest_66 : decode cX5_digest 66 = .ok (.i2l, 1) := by decide +kernel
theorem dX5_digest_67 : decode cX5_digest 67 = .ok (.ladd, 1) := by decide +kernel
theorem dX5_digest_68 : decode cX5_digest 68 = .ok (.lstore_n 1, 1) := by decide +kernel
theorem dX5_digest_69 : decode cX5_digest 69 = .ok (.iinc 4 1, 3) := by decide +kernel
theorem dX5_digest_72 : decode cX5_digest 72 = .ok (.goto (-25), 3) := by decide +kernel
theorem dX5_digest_75 : decode cX5_digest 75 = .ok (.iinc 3 1, 3) := by decide +kernel
theorem dX5_digest_78 : decode cX5_digest 78 = .ok (.goto (-45), 3) := by decide +kernel
theorem dX5_digest_81 : decode cX5_digest 81 = .ok (.iconst 0, 1) := by decide +kernel
theorem dX5_digest_82 : decode cX5_digest 82 = .ok (.istore_n 3, 1) := by decide +kernel
theorem dX5_digest_83 : decode cX5_digest 83 = .ok (.iload_n 3, 1) := by decide +kernel
theorem dX5_digest_84 : decode cX5_digest 84 = .ok (.aload_n 0, 1) := by decide +kernel
theorem dX5_digest_85 : decode cX5_digest 85 = .ok (.getfield 19, 3) := by decide +kernel
theorem dX5_digest_88 : decode cX5_digest 88 = .ok (.getfield 66, 3) := by decide +kernel
theorem dX5_digest_91 : decode cX5_digest 91 = .ok (.if_icmp .ge 67, 3) := by decide +kernel
theorem dX5_digest_94 : decode cX5_digest 94 = .ok (.iconst 0, 1) := by decide +kernel
theorem dX5_digest_95 : decode cX5_digest 95 = .ok (.istore 4, 2) := by decide +kernel
theorem dX5_digest_97 : decode cX5_digest 97 = .ok (.iload 4, 2) := by decide +kernel
theorem dX5_digest_99 : decode cX5_digest 99 = .ok (.iconst 5, 1) := by decide +kernel
theorem dX5_digest_100 : decode cX5_digest 100 = .ok (.if_icmp .gt 24, 3) := by decide +kernel
theorem dX5_digest_103 : decode cX5_digest 103 = .ok (.lload_n 1, 1) := by decide +kernel
theorem dX5_digest_104 : decode cX5_digest 104 = .ok (.ldc2_w 267, 3) := by decide +kernel
theorem dX5_digest_107 : decode cX5_digest 107 = .ok (.lmul, 1) := by decide +kernel
theorem dX5_digest_108 : decode cX5_digest 108 = .ok (.aload_n 0, 1) := by decide +kernel
theorem dX5_digest_109 : decode cX5_digest 109 = .ok (.iload_n 3, 1) := by decide +kernel
theorem dX5_digest_110 : decode cX5_digest 110 = .ok (.iload 4, 2) := by decide +kernel
theorem dX5_digest_112 : decode cX5_digest 112 = .ok (.invokevirtual 275, 3) := by decide +kernel
theorem dX5_digest_115 : decode cX5_digest 115 = .ok (.i2l, 1) := by decide +kernel
theorem dX5_digest_116 : decode cX5_digest 116 = .ok (.ladd, 1) := by decide +kernel
theorem dX5_digest_117 : decode cX5_digest 117 = .ok (.lstore_n 1, 1) := by decide +kernel
theorem dX5_digest_118 : decode cX5_digest 118 = .ok (.iinc 4 1, 3) := by decide +kernel
theorem dX5_digest_121 : decode cX5_digest 121 = .ok (.goto (-24), 3) := by decide +kernel
theorem dX5_digest_124 : decode cX5_digest 124 = .ok (.lload_n 1, 1) := by decide +kernel
theorem dX5_digest_125 : decode cX5_digest 125 = .ok (.ldc2_w 267, 3) := by decide +kernel
theorem dX5_digest_128 : decode cX5_digest 128 = .ok (.lmul, 1) := by decide +kernel
theorem dX5_digest_129 : decode cX5_digest 129 = .ok (.aload_n 0, 1) := by decide +kernel
theorem dX5_digest_130 : decode cX5_digest 130 = .ok (.iload_n 3, 1) := by decide +kernel
theorem dX5_digest_131 : decode cX5_digest 131 = .ok (.invokevirtual 278, 3) := by decide +kernel
theorem dX5_digest_134 : decode cX5_digest 134 = .ok (.i2l, 1) := by decide +kernel
theorem dX5_digest_135 : decode cX5_digest 135 = .ok (.ladd, 1) := by decide +kernel
theorem dX5_digest_136 : decode cX5_digest 136 = .ok (.lstore_n 1, 1) := by decide +kernel
theorem dX5_digest_137 : decode cX5_digest 137 = .ok (.lload_n 1, 1) := by decide +kernel
theorem dX5_digest_138 : decode cX5_digest 138 = .ok (.ldc2_w 267, 3) := by decide +kernel
theorem dX5_digest_141 : decode cX5_digest 141 = .ok (.lmul, 1) := by decide +kernel
theorem dX5_digest_142 : decode cX5_digest 142 = .ok (.aload_n 0, 1) := by decide +kernel
theorem dX5_digest_143 : decode cX5_digest 143 = .ok (.bipush 100, 2) := by decide +kernel
theorem dX5_digest_145 : decode cX5_digest 145 = .ok (.iload_n 3, 1) := by decide +kernel
theorem dX5_digest_146 : decode cX5_digest 146 = .ok (.invokevirtual 281, 3) := by decide +kernel
theorem dX5_digest_149 : decode cX5_digest 149 = .ok (.i2l, 1) := by decide +kernel
theorem dX5_digest_150 : decode cX5_digest 150 = .ok (.ladd, 1) := by decide +kernel
theorem dX5_digest_151 : decode cX5_digest 151 = .ok (.lstore_n 1, 1) := by decide +kernel
theorem dX5_digest_152 : decode cX5_digest 152 = .ok (.iinc 3 1, 3) := by decide +kernel
theorem dX5_digest_155 : decode cX5_digest 155 = .ok (.goto (-72), 3) := by decide +kernel
theorem dX5_digest_158 : decode cX5_digest 158 = .ok (.iconst 0, 1) := by decide +kernel
theorem dX5_digest_159 : decode cX5_digest 159 = .ok (.istore_n 3, 1) := by decide +kernel
theorem dX5_digest_160 : decode cX5_digest 160 = .ok (.iload_n 3, 1) := by decide +kernel
theorem dX5_digest_161 : decode cX5_digest 161 = .ok (.aload_n 0, 1) := by decide +kernel
theorem dX5_digest_162 : decode cX5_digest 162 = .ok (.getfield 10, 3) := by decide +kernel
theorem dX5_digest_165 : decode cX5_digest 165 = .ok (.getfield 72, 3) := by decide +kernel
theorem dX5_digest_168 : decode cX5_digest 168 = .ok (.if_icmp .ge 39, 3) := by decide +kernel
theorem dX5_digest_171 : decode cX5_digest 171 = .ok (.iconst 0, 1) := by decide +kernel
theorem dX5_digest_172 : decode cX5_digest 172 = .ok (.istore 4, 2) := by decide +kernel
theorem dX5_digest_174 : decode cX5_digest 174 = .ok (.iload 4, 2) := by decide +kernel
theorem dX5_digest_176 : decode cX5_digest 176 = .ok (.iconst 5, 1) := by decide +kernel
theorem dX5_digest_177 : decode cX5_digest 177 = .ok (.if_icmp .gt 24, 3) := by decide +kernel
theorem dX5_digest_180 : decode cX5_digest 180 = .ok (.lload_n 1, 1) := by decide +kernel
theorem dX5_digest_181 : decode cX5_digest 181 = .ok (.ldc2_w 267, 3) := by decide +kernel
theorem dX5_digest_184 : decode cX5_digest 184 = .ok (.lmul, 1) := by decide +kernel
theorem dX5_digest_185 : decode cX5_digest 185 = .ok (.aload_n 0, 1) := by decide +kernel
theorem dX5_digest_186 : decode cX5_digest 186 = .ok (.iload_n 3, 1) := by decide +kernel
theorem dX5_digest_187 : decode cX5_digest 187 = .ok (.iload 4, 2) := by decide +kernel
theorem dX5_digest_189 : decode cX5_digest 189 = .ok (.invokevirtual 284, 3) := by decide +kernel
theorem dX5_digest_192 : decode cX5_digest 192 = .ok (.i2l, 1) := by decide +kernel
theorem dX5_digest_193 : decode cX5_digest 193 = .ok (.ladd, 1) := by decide +kernel
theorem dX5_digest_194 : decode cX5_digest 194 = .ok (.lstore_n 1, 1) := by decide +kernel
theorem dX5_digest_195 : decode cX5_digest 195 = .ok (.iinc 4 1, 3) := by decide +kernel
theorem dX5_digest_198 : decode cX5_digest 198 = .ok (.goto (-24), 3) := by decide +kernel
theorem dX5_digest_201 : decode cX5_digest 201 = .ok (.iinc 3 1, 3) := by decide +kernel
theorem dX5_digest_204 : decode cX5_digest 204 = .ok (.goto (-44), 3) := by decide +kernel
theorem dX5_digest_207 : decode cX5_digest 207 = .ok (.iconst 0, 1) := by decide +kernel
theorem dX5_digest_208 : decode cX5_digest 208 = .ok (.istore_n 3, 1) := by decide +kernel
theorem dX5_digest_209 : decode cX5_digest 209 = .ok (.iload_n 3, 1) := by decide +kernel
theorem dX5_digest_210 : decode cX5_digest 210 = .ok (.aload_n 0, 1) := by decide +kernel
theorem dX5_digest_211 : decode cX5_digest 211 = .ok (.getfield 33, 3) := by decide +kernel
theorem dX5_digest_214 : decode cX5_digest 214 = .ok (.getfield 93, 3) := by decide +kernel
theorem dX5_digest_217 : decode cX5_digest 217 = .ok (.if_icmp .ge 23, 3) := by decide +kernel
theorem dX5_digest_220 : decode cX5_digest 220 = .ok (.lload_n 1, 1) := by decide +kernel
theorem dX5_digest_221 : decode cX5_digest 221 = .ok (.ldc2_w 267, 3) := by decide +kernel
theorem dX5_digest_224 : decode cX5_digest 224 = .ok (.lmul, 1) := by decide +kernel
theorem dX5_digest_225 : decode cX5_digest 225 = .ok (.aload_n 0, 1) := by decide +kernel
theorem dX5_digest_226 : decode cX5_digest 226 = .ok (.iload_n 3, 1) := by decide +kernel
theorem dX5_digest_227 : decode cX5_digest 227 = .ok (.iconst 3, 1) := by decide +kernel
theorem dX5_digest_228 : decode cX5_digest 228 = .ok (.invokevirtual 287, 3) := by decide +kernel
theorem dX5_digest_231 : decode cX5_digest 231 = .ok (.i2l, 1) := by decide +kernel
theorem dX5_digest_232 : decode cX5_digest 232 = .ok (.ladd, 1) := by decide +kernel
theorem dX5_digest_233 : decode cX5_digest 233 = .ok (.lstore_n 1, 1) := by decide +kernel
theorem dX5_digest_234 : decode cX5_digest 234 = .ok (.iinc 3 1, 3) := by decide +kernel
theorem dX5_digest_237 : decode cX5_digest 237 = .ok (.goto (-28), 3) := by decide +kernel
theorem dX5_digest_240 : decode cX5_digest 240 = .ok (.iconst 0, 1) := by decide +kernel
theorem dX5_digest_241 : decode cX5_digest 241 = .ok (.istore_n 3, 1) := by decide +kernel
theorem dX5_digest_242 : decode cX5_digest 242 = .ok (.iload_n 3, 1) := by decide +kernel
theorem dX5_digest_243 : decode cX5_digest 243 = .ok (.aload_n 0, 1) := by decide +kernel
theorem dX5_digest_244 : decode cX5_digest 244 = .ok (.getfield 40, 3) := by decide +kernel
theorem dX5_digest_247 : decode cX5_digest 247 = .ok (.getfield 127, 3) := by decide +kernel
theorem dX5_digest_250 : decode cX5_digest 250 = .ok (.if_icmp .ge 37, 3) := by decide +kernel
theorem dX5_digest_253 : decode cX5_digest 253 = .ok (.lload_n 1, 1) := by decide +kernel
theorem dX5_digest_254 : decode cX5_digest 254 = .ok (.ldc2_w 267, 3) := by decide +kernel
theorem dX5_digest_257 : decode cX5_digest 257 = .ok (.lmul, 1) := by decide +kernel
theorem dX5_digest_258 : decode cX5_digest 258 = .ok (.aload_n 0, 1) := by decide +kernel
theorem dX5_digest_259 : decode cX5_digest 259 = .ok (.iload_n 3, 1) := by decide +kernel
theorem dX5_digest_260 : decode cX5_digest 260 = .ok (.iconst 2, 1) := by decide +kernel
theorem dX5_digest_261 : decode cX5_digest 261 = .ok (.invokevirtual 290, 3) := by decide +kernel
theorem dX5_digest_264 : decode cX5_digest 264 = .ok (.i2l, 1) := by decide +kernel
theorem dX5_digest_265 : decode cX5_digest 265 = .ok (.ladd, 1) := by decide +kernel
theorem dX5_digest_266 : decode cX5_digest 266 = .ok (.lstore_n 1, 1) := by decide +kernel
theorem dX5_digest_267 : decode cX5_digest 267 = .ok (.lload_n 1, 1) := by decide +kernel
theorem dX5_digest_268 : decode cX5_digest 268 = .ok (.ldc2_w 267, 3) := by decide +kernel
theorem dX5_digest_271 : decode cX5_digest 271 = .ok (.lmul, 1) := by decide +kernel
theorem dX5_digest_272 : decode cX5_digest 272 = .ok (.aload_n 0, 1) := by decide +kernel
theorem dX5_digest_273 : decode cX5_digest 273 = .ok (.iload_n 3, 1) := by decide +kernel
theorem dX5_digest_274 : decode cX5_digest 274 = .ok (.iconst 3, 1) := by decide +kernel
theorem dX5_digest_275 : decode cX5_digest 275 = .ok (.invokevirtual 290, 3) := by decide +kernel
theorem dX5_digest_278 : decode cX5_digest 278 = .ok (.i2l, 1) := by decide +kernel
theorem dX5_digest_279 : decode cX5_digest 279 = .ok (.ladd, 1) := by decide +kernel
theorem dX5_digest_280 : decode cX5_digest 280 = .ok (.lstore_n 1, 1) := by decide +kernel
theorem dX5_digest_281 : decode cX5_digest 281 = .ok (.iinc 3 1, 3) := by decide +kernel
theorem dX5_digest_284 : decode cX5_digest 284 = .ok (.goto (-42), 3) := by decide +kernel
theorem dX5_digest_287 : decode cX5_digest 287 = .ok (.iconst 0, 1) := by decide +kernel
theorem dX5_digest_288 : decode cX5_digest 288 = .ok (.istore_n 3, 1) := by decide +kernel
theorem dX5_digest_289 : decode cX5_digest 289 = .ok (.iload_n 3, 1) := by decide +kernel
theorem dX5_digest_290 : decode cX5_digest 290 = .ok (.iconst 2, 1) := by decide +kernel
theorem dX5_digest_291 : decode cX5_digest 291 = .ok (.if_icmp .gt 25, 3) := by decide +kernel
theorem dX5_digest_294 : decode cX5_digest 294 = .ok (.lload_n 1, 1) := by decide +kernel
theorem dX5_digest_295 : decode cX5_digest 295 = .ok (.ldc2_w 267, 3) := by decide +kernel
theorem dX5_digest_298 : decode cX5_digest 298 = .ok (.lmul, 1) := by decide +kernel
theorem dX5_digest_299 : decode cX5_digest 299 = .ok (.aload_n 0, 1) := by decide +kernel
theorem dX5_digest_300 : decode cX5_digest 300 = .ok (.sipush 150, 3) := by decide +kernel
theorem dX5_digest_303 : decode cX5_digest 303 = .ok (.iload_n 3, 1) := by decide +kernel
theorem dX5_digest_304 : decode cX5_digest 304 = .ok (.invokevirtual 293, 3) := by decide +kernel
theorem dX5_digest_307 : decode cX5_digest 307 = .ok (.i2l, 1) := by decide +kernel
theorem dX5_digest_308 : decode cX5_digest 308 = .ok (.ladd, 1) := by decide +kernel
theorem dX5_digest_309 : decode cX5_digest 309 = .ok (.lstore_n 1, 1) := by decide +kernel
theorem dX5_digest_310 : decode cX5_digest 310 = .ok (.iinc 3 1, 3) := by decide +kernel
theorem dX5_digest_313 : decode cX5_digest 313 = .ok (.goto (-24), 3) := by decide +kernel
theorem dX5_digest_316 : decode cX5_digest 316 = .ok (.lload_n 1, 1) := by decide +kernel
theorem dX5_digest_317 : decode cX5_digest 317 = .ok (.ldc2_w 267, 3) := by decide +kernel
theorem dX5_digest_320 : decode cX5_digest 320 = .ok (.lmul, 1) := by decide +kernel
theorem dX5_digest_321 : decode cX5_digest 321 = .ok (.aload_n 0, 1) := by decide +kernel
theorem dX5_digest_322 : decode cX5_digest 322 = .ok (.invokevirtual 296, 3) := by decide +kernel
theorem dX5_digest_325 : decode cX5_digest 325 = .ok (.invokevirtual 299, 3) := by decide +kernel
theorem dX5_digest_328 : decode cX5_digest 328 = .ok (.i2l, 1) := by decide +kernel
theorem dX5_digest_329 : decode cX5_digest 329 = .ok (.ladd, 1) := by decide +kernel
theorem dX5_digest_330 : decode cX5_digest 330 = .ok (.lstore_n 1, 1) := by decide +kernel
theorem dX5_digest_331 : decode cX5_digest 331 = .ok (.lload_n 1, 1) := by decide +kernel
theorem dX5_digest_332 : decode cX5_digest 332 = .ok (.ldc2_w 267, 3) := by decide +kernel
theorem dX5_digest_335 : decode cX5_digest 335 = .ok (.lmul, 1) := by decide +kernel
theorem dX5_digest_336 : decode cX5_digest 336 = .ok (.aload_n 0, 1) := by decide +kernel
theorem dX5_digest_337 : decode cX5_digest 337 = .ok (.invokevirtual 304, 3) := by decide +kernel
theorem dX5_digest_340 : decode cX5_digest 340 = .ok (.ifCond .eq 7, 3) := by decide +kernel
theorem dX5_digest_343 : decode cX5_digest 343 = .ok (.iconst 1, 1) := by decide +kernel
theorem dX5_digest_344 : decode cX5_digest 344 = .ok (.goto 4, 3) := by decide +kernel
theorem dX5_digest_347 : decode cX5_digest 347 = .ok (.iconst 0, 1) := by decide +kernel
theorem dX5_digest_348 : decode cX5_digest 348 = .ok (.i2l, 1) := by decide +kernel
theorem dX5_digest_349 : decode cX5_digest 349 = .ok (.ladd, 1) := by decide +kernel
theorem dX5_digest_350 : decode cX5_digest 350 = .ok (.lreturn, 1) := by decide +kernel
theorem dX5_needWithin_0 : decode cX5_needWithin 0 = .ok (.iload_n 0, 1) := by decide +kernel
theorem dX5_needWithin_1 : decode cX5_needWithin 1 = .ok (.iload_n 1, 1) := by decide +kernel
theorem dX5_needWithin_2 : decode cX5_needWithin 2 = .ok (.if_icmp .lt 8, 3) := by decide +kernel
theorem dX5_needWithin_5 : decode cX5_needWithin 5 = .ok (.iload_n 0, 1) := by decide +kernel
theorem dX5_needWithin_6 : decode cX5_needWithin 6 = .ok (.iload_n 2, 1) := by decide +kernel
theorem dX5_needWithin_7 : decode cX5_needWithin 7 = .ok (.if_icmp .le 14, 3) := by decide +kernel
theorem dX5_needWithin_10 : decode cX5_needWithin 10 = .ok (.new 307, 3) := by decide +kernel
theorem dX5_needWithin_13 : decode cX5_needWithin 13 = .ok (.dup, 1) := by decide +kernel
theorem dX5_needWithin_14 : decode cX5_needWithin 14 = .ok (.ldc_w 309, 3) := by decide +kernel
theorem dX5_needWithin_17 : decode cX5_needWithin 17 = .ok (.invokespecial 311, 3) := by decide +kernel
theorem dX5_needWithin_20 : decode cX5_needWithin 20 = .ok (.athrow, 1) := by decide +kernel
theorem dX5_needWithin_21 : decode cX5_needWithin 21 = .ok (.return_, 1) := by decide +kernel
theorem dX5_needSet_0 : decode cX5_needSet 0 = .ok (.iload_n 0, 1) := by decide +kernel
theorem dX5_needSet_1 : decode cX5_needSet 1 = .ok (.ifCond .lt 10, 3) := by decide +kernel
theorem dX5_needSet_4 : decode cX5_needSet 4 = .ok (.iload_n 0, 1) := by decide +kernel
theorem dX5_needSet_5 : decode cX5_needSet 5 = .ok (.iconst 1, 1) := by decide +kernel
theorem dX5_needSet_6 : decode cX5_needSet 6 = .ok (.iload_n 1, 1) := by decide +kernel
theorem dX5_needSet_7 : decode cX5_needSet 7 = .ok (.ishl, 1) := by decide +kernel
theorem dX5_needSet_8 : decode cX5_needSet 8 = .ok (.if_icmp .lt 14, 3) := by decide +kernel
theorem dX5_needSet_11 : decode cX5_needSet 11 = .ok (.new 307, 3) := by decide +kernel
theorem dX5_needSet_14 : decode cX5_needSet 14 = .ok (.dup, 1) := by decide +kernel
theorem dX5_needSet_15 : decode cX5_needSet 15 = .ok (.ldc_w 312, 3) := by decide +kernel
theorem dX5_needSet_18 : decode cX5_needSet 18 = .ok (.invokespecial 311, 3) := by decide +kernel
theorem dX5_needSet_21 : decode cX5_needSet 21 = .ok (.athrow, 1) := by decide +kernel
theorem dX5_needSet_22 : decode cX5_needSet 22 = .ok (.return_, 1) := by decide +kernel
theorem dX5_needIndex_0 : decode cX5_needIndex 0 = .ok (.iload_n 0, 1) := by decide +kernel
theorem dX5_needIndex_1 : decode cX5_needIndex 1 = .ok (.ifCond .lt 8, 3) := by decide +kernel
theorem dX5_needIndex_4 : decode cX5_needIndex 4 = .ok (.iload_n 0, 1) := by decide +kernel
theorem dX5_needIndex_5 : decode cX5_needIndex 5 = .ok (.iload_n 1, 1) := by decide +kernel
theorem dX5_needIndex_6 : decode cX5_needIndex 6 = .ok (.if_icmp .lt 14, 3) := by decide +kernel
theorem dX5_needIndex_9 : decode cX5_needIndex 9 = .ok (.new 314, 3) := by decide +kernel
theorem dX5_needIndex_12 : decode cX5_needIndex 12 = .ok (.dup, 1) := by decide +kernel
theorem dX5_needIndex_13 : decode cX5_needIndex 13 = .ok (.ldc_w 316, 3) := by decide +kernel
theorem dX5_needIndex_16 : decode cX5_needIndex 16 = .ok (.invokespecial 318, 3) := by decide +kernel
theorem dX5_needIndex_19 : decode cX5_needIndex 19 = .ok (.athrow, 1) := by decide +kernel
theorem dX5_needIndex_20 : decode cX5_needIndex 20 = .ok (.return_, 1) := by decide +kernel
theorem dX5_needRoom_0 : decode cX5_needRoom 0 = .ok (.iload_n 0, 1) := by decide +kernel
theorem dX5_needRoom_1 : decode cX5_needRoom 1 = .ok (.iload_n 1, 1) := by decide +kernel
theorem dX5_needRoom_2 : decode cX5_needRoom 2 = .ok (.if_icmp .lt 14, 3) := by decide +kernel
theorem dX5_needRoom_5 : decode cX5_needRoom 5 = .ok (.new 106, 3) := by decide +kernel
theorem dX5_needRoom_8 : decode cX5_needRoom 8 = .ok (.dup, 1) := by decide +kernel
theorem dX5_needRoom_9 : decode cX5_needRoom 9 = .ok (.ldc_w 319, 3) := by decide +kernel
theorem dX5_needRoom_12 : decode cX5_needRoom 12 = .ok (.invokespecial 110, 3) := by decide +kernel
theorem dX5_needRoom_15 : decode cX5_needRoom 15 = .ok (.athrow, 1) := by decide +kernel
theorem dX5_needRoom_16 : decode cX5_needRoom 16 = .ok (.return_, 1) := by decide +kernel
theorem dX5_has_0 : decode cX5_has 0 = .ok (.iload_n 0, 1) := by decide +kernel
theorem dX5_has_1 : decode cX5_has 1 = .ok (.iload_n 1, 1) := by decide +kernel
theorem dX5_has_2 : decode cX5_has 2 = .ok (.ishr, 1) := by decide +kernel
theorem dX5_has_3 : decode cX5_has 3 = .ok (.iconst 1, 1) := by decide +kernel
theorem dX5_has_4 : decode cX5_has 4 = .ok (.iand, 1) := by decide +kernel
theorem dX5_has_5 : decode cX5_has 5 = .ok (.ifCond .eq 7, 3) := by decide +kernel
theorem dX5_has_8 : decode cX5_has 8 = .ok (.iconst 1, 1) := by decide +kernel
theorem dX5_has_9 : decode cX5_has 9 = .ok (.goto 4, 3) := by decide +kernel
theorem dX5_has_12 : decode cX5_has 12 = .ok (.iconst 0, 1) := by decide +kernel
theorem dX5_has_13 : decode cX5_has 13 = .ok (.ireturn, 1) := by decide +kernel
theorem dX5_bestCastClashes_0 : decode cX5_bestCastClashes 0 = .ok (.iconst 0, 1) := by decide +kernel
theorem dX5_bestCastClashes_1 : decode cX5_bestCastClashes 1 = .ok (.istore_n 1, 1) := by decide +kernel
theorem dX5_bestCastClashes_2 : decode cX5_bestCastClashes 2 = .ok (.iload_n 1, 1) := by decide +kernel
theorem dX5_bestCastClashes_3 : decode cX5_bestCastClashes 3 = .ok (.aload_n 0, 1) := by decide +kernel
theorem dX5_bestCastClashes_4 : decode cX5_bestCastClashes 4 = .ok (.getfield 10, 3) := by decide +kernel
theorem dX5_bestCastClashes_7 : decode cX5_bestCastClashes 7 = .ok (.getfield 48, 3) := by decide +kernel
theorem dX5_bestCastClashes_10 : decode cX5_bestCastClashes 10 = .ok (.if_icmp .ge 50, 3) := by decide +kernel
theorem dX5_bestCastClashes_13 : decode cX5_bestCastClashes 13 = .ok (.aload_n 0, 1) := by decide +kernel
theorem dX5_bestCastClashes_14 : decode cX5_bestCastClashes 14 = .ok (.getfield 26, 3) := by decide +kernel
theorem dX5_bestCastClashes_17 : decode cX5_bestCastClashes 17 = .ok (.iload_n 1, 1) := by decide +kernel
theorem dX5_bestCastClashes_18 : decode cX5_bestCastClashes 18 = .ok (.invokevirtual 174, 3) := by decide +kernel
theorem dX5_bestCastClashes_21 : decode cX5_bestCastClashes 21 = .ok (.istore_n 2, 1) := by decide +kernel
theorem dX5_bestCastClashes_22 : decode cX5_bestCastClashes 22 = .ok (.iload_n 2, 1) := by decide +kernel
theorem dX5_bestCastClashes_23 : decode cX5_bestCastClashes 23 = .ok (.iconst (-1), 1) := by decide +kernel
theorem dX5_bestCastClashes_24 : decode cX5_bestCastClashes 24 = .ok (.if_icmp .eq 30, 3) := by decide +kernel
theorem dX5_bestCastClashes_27 : decode cX5_bestCastClashes 27 = .ok (.aload_n 0, 1) := by decide +kernel
theorem dX5_bestCastClashes_28 : decode cX5_bestCastClashes 28 = .ok (.getfield 26, 3) := by decide +kernel
theorem dX5_bestCastClashes_31 : decode cX5_bestCastClashes 31 = .ok (.getfield 186, 3) := by decide +kernel
theorem dX5_bestCastClashes_34 : decode cX5_bestCastClashes 34 = .ok (.iload_n 2, 1) := by decide +kernel
theorem dX5_bestCastClashes_35 : decode cX5_bestCastClashes 35 = .ok (.iaload, 1) := by decide +kernel
theorem dX5_bestCastClashes_36 : decode cX5_bestCastClashes 36 = .ok (.aload_n 0, 1) := by decide +kernel
theorem dX5_bestCastClashes_37 : decode cX5_bestCastClashes 37 = .ok (.getfield 26, 3) := by decide +kernel
theorem dX5_bestCastClashes_40 : decode cX5_bestCastClashes 40 = .ok (.iload_n 1, 1) := by decide +kernel
theorem dX5_bestCastClashes_41 : decode cX5_bestCastClashes 41 = .ok (.aload_n 0, 1) := by decide +kernel
theorem dX5_bestCastClashes_42 : decode cX5_bestCastClashes 42 = .ok (.getfield 10, 3) := by decide +kernel
theorem dX5_bestCastClashes_45 : decode cX5_bestCastClashes 45 = .ok (.invokevirtual 167, 3) := by decide +kernel
theorem dX5_bestCastClashes_48 : decode cX5_bestCastClashes 48 = .ok (.iand, 1) := by decide +kernel
theorem dX5_bestCastClashes_49 : decode cX5_bestCastClashes 49 = .ok (.ifCond .eq 5, 3) := by decide +kernel
theorem dX5_bestCastClashes_52 : decode cX5_bestCastClashes 52 = .ok (.iconst 1, 1) := by decide +kernel
theorem dX5_bestCastClashes_53 : decode cX5_bestCastClashes 53 = .ok (.ireturn, 1) := by decide +kernel
theorem dX5_bestCastClashes_54 : decode cX5_bestCastClashes 54 = .ok (.iinc 1 1, 3) := by decide +kernel
theorem dX5_bestCastClashes_57 : decode cX5_bestCastClashes 57 = .ok (.goto (-55), 3) := by decide +kernel
theorem dX5_bestCastClashes_60 : decode cX5_bestCastClashes 60 = .ok (.iconst 0, 1) := by decide +kernel
theorem dX5_bestCastClashes_61 : decode cX5_bestCastClashes 61 = .ok (.ireturn, 1) := by decide +kernel
theorem dX5_filled_0 : decode cX5_filled 0 = .ok (.iconst 1, 1) := by decide +kernel
theorem dX5_filled_1 : decode cX5_filled 1 = .ok (.istore_n 2, 1) := by decide +kernel
theorem dX5_filled_2 : decode cX5_filled 2 = .ok (.iconst 0, 1) := by decide +kernel
theorem dX5_filled_3 : decode cX5_filled 3 = .ok (.istore_n 3, 1) := by decide +kernel
theorem dX5_filled_4 : decode cX5_filled 4 = .ok (.iload_n 3, 1) := by decide +kernel
theorem dX5_filled_5 : decode cX5_filled 5 = .ok (.aload_n 0, 1) := by decide +kernel
theorem dX5_filled_6 : decode cX5_filled 6 = .ok (.getfield 10, 3) := by decide +kernel
theorem dX5_filled_9 : decode cX5_filled 9 = .ok (.getfield 48, 3) := by decide +kernel
theorem dX5_filled_12 : decode cX5_filled 12 = .ok (.if_icmp .ge 40, 3) := by decide +kernel
theorem dX5_filled_15 : decode cX5_filled 15 = .ok (.iload_n 1, 1) := by decide +kernel
theorem dX5_filled_16 : decode cX5_filled 16 = .ok (.iload_n 3, 1) := by decide +kernel
theorem dX5_filled_17 : decode cX5_filled 17 = .ok (.invokestatic 102, 3) := by decide +kernel
theorem dX5_filled_20 : decode cX5_filled 20 = .ok (.ifCond .eq 26, 3) := by decide +kernel
theorem dX5_filled_23 : decode cX5_filled 23 = .ok (.iload_n 2, 1) := by decide +kernel
theorem dX5_filled_24 : decode cX5_filled 24 = .ok (.aload_n 0, 1) := by decide +kernel
theorem dX5_filled_25 : decode cX5_filled 25 = .ok (.getfield 19, 3) := by decide +kernel
theorem dX5_filled_28 : decode cX5_filled 28 = .ok (.iconst 1, 1) := by decide +kernel
theorem dX5_filled_29 : decode cX5_filled 29 = .ok (.aload_n 0, 1) := by decide +kernel
theorem dX5_filled_30 : decode cX5_filled 30 = .ok (.getfield 10, 3) := by decide +kernel
theorem dX5_filled_33 : decode cX5_filled 33 = .ok (.getfield 154, 3) := by decide +kernel
theorem dX5_filled_36 : decode cX5_filled 36 = .ok (.iload_n 3, 1) := by decide +kernel
theorem dX5_filled_37 : decode cX5_filled 37 = .ok (.iaload, 1) := by decide +kernel
theorem dX5_filled_38 : decode cX5_filled 38 = .ok (.ishl, 1) := by decide +kernel
theorem dX5_filled_39 : decode cX5_filled 39 = .ok (.invokevirtual 171, 3) := by decide +kernel
theorem dX5_filled_42 : decode cX5_filled 42 = .ok (.invokestatic 321, 3) := by decide +kernel
theorem dX5_filled_45 : decode cX5_filled 45 = .ok (.istore_n 2, 1) := by decide +kernel
theorem dX5_filled_46 : decode cX5_filled 46 = .ok (.iinc 3 1, 3) := by decide +kernel
theorem dX5_filled_49 : decode cX5_filled 49 = .ok (.goto (-45), 3) := by decide +kernel
theorem dX5_filled_52 : decode cX5_filled 52 = .ok (.iconst 0, 1) := by decide +kernel
theorem dX5_filled_53 : decode cX5_filled 53 = .ok (.istore_n 3, 1) := by decide +kernel
theorem dX5_filled_54 : decode cX5_filled 54 = .ok (.iconst 0, 1) := by decide +kernel
theorem dX5_filled_55 : decode cX5_filled 55 = .ok (.istore 4, 2) := by decide +kernel
theorem dX5_filled_57 : decode cX5_filled 57 = .ok (.iload 4, 2) := by decide +kernel
theorem dX5_filled_59 : decode cX5_filled 59 = .ok (.bipush 32, 2) := by decide +kernel
theorem dX5_filled_61 : decode cX5_filled 61 = .ok (.if_icmp .ge 28, 3) := by decide +kernel
theorem dX5_filled_64 : decode cX5_filled 64 = .ok (.iload_n 2, 1) := by decide +kernel
theorem dX5_filled_65 : decode cX5_filled 65 = .ok (.iload 4, 2) := by decide +kernel
theorem dX5_filled_67 : decode cX5_filled 67 = .ok (.invokestatic 102, 3) := by decide +kernel
theorem dX5_filled_70 : decode cX5_filled 70 = .ok (.ifCond .eq 13, 3) := by decide +kernel
theorem dX5_filled_73 : decode cX5_filled 73 = .ok (.iload_n 3, 1) := by decide +kernel
theorem dX5_filled_74 : decode cX5_filled 74 = .ok (.iload 4, 2) := by decide +kernel
theorem dX5_filled_76 : decode cX5_filled 76 = .ok (.invokestatic 215, 3) := by decide +kernel
theorem dX5_filled_79 : decode cX5_filled 79 = .ok (.invokestatic 324, 3) := by decide +kernel
theorem dX5_filled_82 : decode cX5_filled 82 = .ok (.istore_n 3, 1) := by decide +kernel
theorem dX5_filled_83 : decode cX5_filled 83 = .ok (.iinc 4 1, 3) := by decide +kernel
theorem dX5_filled_86 : decode cX5_filled 86 = .ok (.goto (-29), 3) := by decide +kernel
theorem dX5_filled_89 : decode cX5_filled 89 = .ok (.iload_n 3, 1) := by decide +kernel
theorem dX5_filled_90 : decode cX5_filled 90 = .ok (.ireturn, 1) := by decide +kernel
theorem dX5_withOneMore_0 : decode cX5_withOneMore 0 = .ok (.iload_n 0, 1) := by decide +kernel
theorem dX5_withOneMore_1 : decode cX5_withOneMore 1 = .ok (.istore_n 2, 1) := by decide +kernel
theorem dX5_withOneMore_2 : decode cX5_withOneMore 2 = .ok (.iconst 0, 1) := by decide +kernel
theorem dX5_withOneMore_3 : decode cX5_withOneMore 3 = .ok (.istore_n 3, 1) := by decide +kernel
theorem dX5_withOneMore_4 : decode cX5_withOneMore 4 = .ok (.iload_n 3, 1) := by decide +kernel
theorem dX5_withOneMore_5 : decode cX5_withOneMore 5 = .ok (.bipush 32, 2) := by decide +kernel
theorem dX5_withOneMore_7 : decode cX5_withOneMore 7 = .ok (.if_icmp .ge 59, 3) := by decide +kernel
theorem dX5_withOneMore_10 : decode cX5_withOneMore 10 = .ok (.iload_n 0, 1) := by decide +kernel
theorem dX5_withOneMore_11 : decode cX5_withOneMore 11 = .ok (.iload_n 3, 1) := by decide +kernel
theorem dX5_withOneMore_12 : decode cX5_withOneMore 12 = .ok (.invokestatic 102, 3) := by decide +kernel
theorem dX5_withOneMore_15 : decode cX5_withOneMore 15 = .ok (.ifCond .ne 6, 3) := by decide +kernel
theorem dX5_withOneMore_18 : decode cX5_withOneMore 18 = .ok (.goto 42, 3) := by decide +kernel
theorem dX5_withOneMore_21 : decode cX5_withOneMore 21 = .ok (.iconst 0, 1) := by decide +kernel
theorem dX5_withOneMore_22 : decode cX5_withOneMore 22 = .ok (.istore 4, 2) := by decide +kernel
theorem dX5_withOneMore_24 : decode cX5_withOneMore 24 = .ok (.iload 4, 2) := by decide +kernel
theorem dX5_withOneMore_26 : decode cX5_withOneMore 26 = .ok (.iconst 5, 1) := by decide +kernel
theorem dX5_withOneMore_27 : decode cX5_withOneMore 27 = .ok (.if_icmp .ge 33, 3) := by decide +kernel
theorem dX5_withOneMore_30 : decode cX5_withOneMore 30 = .ok (.iload_n 1, 1) := by decide +kernel
theorem dX5_withOneMore_31 : decode cX5_withOneMore 31 = .ok (.iload_n 3, 1) := by decide +kernel
theorem dX5_withOneMore_32 : decode cX5_withOneMore 32 = .ok (.iconst (-1), 1) := by decide +kernel
theorem dX5_withOneMore_33 : decode cX5_withOneMore 33 = .ok (.ixor, 1) := by decide +kernel
theorem dX5_withOneMore_34 : decode cX5_withOneMore 34 = .ok (.iand, 1) := by decide +kernel
theorem dX5_withOneMore_35 : decode cX5_withOneMore 35 = .ok (.iload 4, 2) := by decide +kernel
theorem dX5_withOneMore_37 : decode cX5_withOneMore 37 = .ok (.invokestatic 102, 3) := by decide +kernel
theorem dX5_withOneMore_40 : decode cX5_withOneMore 40 = .ok (.ifCond .eq 14, 3) := by decide +kernel
theorem dX5_withOneMore_43 : decode cX5_withOneMore 43 = .ok (.iload_n 2, 1) := by decide +kernel
theorem dX5_withOneMore_44 : decode cX5_withOneMore 44 = .ok (.iconst 1, 1) := by decide +kernel
theorem dX5_withOneMore_45 : decode cX5_withOneMore 45 = .ok (.iload_n 3, 1) := by decide +kernel
theorem dX5_withOneMore_46 : decode cX5_withOneMore 46 = .ok (.iconst 1, 1) := by decide +kernel
theorem dX5_withOneMore_47 : decode cX5_withOneMore 47 = .ok (.iload 4, 2) := by decide +kernel
theorem dX5_withOneMore_49 : decode cX5_withOneMore 49 = .ok (.ishl, 1) := by decide +kernel
theorem dX5_withOneMore_50 : decode cX5_withOneMore 50 = .ok (.ior, 1) := by decide +kernel
theorem dX5_withOneMore_51 : decode cX5_withOneMore 51 = .ok (.ishl, 1) := by decide +kernel
theorem dX5_withOneMore_52 : decode cX5_withOneMore 52 = .ok (.ior, 1) := by decide +kernel
theorem dX5_withOneMore_53 : decode cX5_withOneMore 53 = .ok (.istore_n 2, 1) := by decide +kernel
theorem dX5_withOneMore_54 : decode cX5_withOneMore 54 = .ok (.iinc 4 1, 3) := by decide +kernel
theorem dX5_withOneMore_57 : decode cX5_withOneMore 57 = .ok (.goto (-33), 3) := by decide +kernel
theorem dX5_withOneMore_60 : decode cX5_withOneMore 60 = .ok (.iinc 3 1, 3) := by decide +kernel
theorem dX5_withOneMore_63 : decode cX5_withOneMore 63 = .ok (.goto (-59), 3) := by decide +kernel
theorem dX5_withOneMore_66 : decode cX5_withOneMore 66 = .ok (.iload_n 2, 1) := by decide +kernel
theorem dX5_withOneMore_67 : decode cX5_withOneMore 67 = .ok (.ireturn, 1) := by decide +kernel
theorem dX5_lack_0 : decode cX5_lack 0 = .ok (.iconst 0, 1) := by decide +kernel
theorem dX5_lack_1 : decode cX5_lack 1 = .ok (.istore_n 2, 1) := by decide +kernel
theorem dX5_lack_2 : decode cX5_lack 2 = .ok (.iconst 0, 1) := by decide +kernel
theorem dX5_lack_3 : decode cX5_lack 3 = .ok (.istore_n 3, 1) := by decide +kernel
theorem dX5_lack_4 : decode cX5_lack 4 = .ok (.iconst 1, 1) := by decide +kernel
theorem dX5_lack_5 : decode cX5_lack 5 = .ok (.istore 4, 2) := by decide +kernel
theorem dX5_lack_7 : decode cX5_lack 7 = .ok (.iload 4, 2) := by decide +kernel
theorem dX5_lack_9 : decode cX5_lack 9 = .ok (.iload_n 1, 1) := by decide +kernel
theorem dX5_lack_10 : decode cX5_lack 10 = .ok (.if_icmp .gt 41, 3) := by decide +kernel
theorem dX5_lack_13 : decode cX5_lack 13 = .ok (.iload 4, 2) := by decide +kernel
theorem dX5_lack_15 : decode cX5_lack 15 = .ok (.iload_n 1, 1) := by decide +kernel
theorem dX5_lack_16 : decode cX5_lack 16 = .ok (.iconst (-1), 1) := by decide +kernel
theorem dX5_lack_17 : decode cX5_lack 17 = .ok (.ixor, 1) := by decide +kernel
theorem dX5_lack_18 : decode cX5_lack 18 = .ok (.iand, 1) := by decide +kernel
theorem dX5_lack_19 : decode cX5_lack 19 = .ok (.ifCond .eq 6, 3) := by decide +kernel
theorem dX5_lack_22 : decode cX5_lack 22 = .ok (.goto 23, 3) := by decide +kernel
theorem dX5_lack_25 : decode cX5_lack 25 = .ok (.aload_n 0, 1) := by decide +kernel
theorem dX5_lack_26 : decode cX5_lack 26 = .ok (.iload 4, 2) := by decide +kernel
theorem dX5_lack_28 : decode cX5_lack 28 = .ok (.invokevirtual 198, 3) := by decide +kernel
theorem dX5_lack_31 : decode cX5_lack 31 = .ok (.istore 5, 2) := by decide +kernel
theorem dX5_lack_33 : decode cX5_lack 33 = .ok (.iload 5, 2) := by decide +kernel
theorem dX5_lack_35 : decode cX5_lack 35 = .ok (.iload_n 3, 1) := by decide +kernel
theorem dX5_lack_36 : decode cX5_lack 36 = .ok (.if_icmp .le 9, 3) := by decide +kernel
theorem dX5_lack_39 : decode cX5_lack 39 = .ok (.iload 4, 2) := by decide +kernel
theorem dX5_lack_41 : decode cX5_lack 41 = .ok (.istore_n 2, 1) := by decide +kernel
theorem dX5_lack_42 : decode cX5_lack 42 = .ok (.iload 5, 2) := by decide +kernel
theorem dX5_lack_44 : decode cX5_lack 44 = .ok (.istore_n 3, 1) := by decide +kernel
theorem dX5_lack_45 : decode cX5_lack 45 = .ok (.iinc 4 1, 3) := by decide +kernel
theorem dX5_lack_48 : decode cX5_lack 48 = .ok (.goto (-41), 3) := by decide +kernel
theorem dX5_lack_51 : decode cX5_lack 51 = .ok (.iload_n 2, 1) := by decide +kernel
theorem dX5_lack_52 : decode cX5_lack 52 = .ok (.ireturn, 1) := by decide +kernel
theorem dX5_excess_0 : decode cX5_excess 0 = .ok (.iconst 0, 1) := by decide +kernel
theorem dX5_excess_1 : decode cX5_excess 1 = .ok (.istore_n 2, 1) := by decide +kernel
theorem dX5_excess_2 : decode cX5_excess 2 = .ok (.iconst 0, 1) := by decide +kernel
theorem dX5_excess_3 : decode cX5_excess 3 = .ok (.istore_n 3, 1) := by decide +kernel
theorem dX5_excess_4 : decode cX5_excess 4 = .ok (.iload_n 3, 1) := by decide +kernel
theorem dX5_excess_5 : decode cX5_excess 5 = .ok (.aload_n 0, 1) := by decide +kernel
theorem dX5_excess_6 : decode cX5_excess 6 = .ok (.getfield 10, 3) := by decide +kernel
theorem dX5_excess_9 : decode cX5_excess 9 = .ok (.getfield 48, 3) := by decide +kernel
theorem dX5_excess_12 : decode cX5_excess 12 = .ok (.if_icmp .ge 31, 3) := by decide +kernel
theorem dX5_excess_15 : decode cX5_excess 15 = .ok (.iload_n 1, 1) := by decide +kernel
theorem dX5_excess_16 : decode cX5_excess 16 = .ok (.iload_n 3, 1) := by decide +kernel
theorem dX5_excess_17 : decode cX5_excess 17 = .ok (.invokestatic 102, 3) := by decide +kernel
theorem dX5_excess_20 : decode cX5_excess 20 = .ok (.ifCond .eq 17, 3) := by decide +kernel
theorem dX5_excess_23 : decode cX5_excess 23 = .ok (.iload_n 2, 1) := by decide +kernel
theorem dX5_excess_24 : decode cX5_excess 24 = .ok (.iconst 1, 1) := by decide +kernel
theorem dX5_excess_25 : decode cX5_excess 25 = .ok (.aload_n 0, 1) := by decide +kernel
theorem dX5_excess_26 : decode cX5_excess 26 = .ok (.getfield 10, 3) := by decide +kernel
theorem dX5_excess_29 : decode cX5_excess 29 = .ok (.getfield 154, 3) := by decide +kernel
theorem dX5_excess_32 : decode cX5_excess 32 = .ok (.iload_n 3, 1) := by decide +kernel
theorem dX5_excess_33 : decode cX5_excess 33 = .ok (.iaload, 1) := by decide +kernel
theorem dX5_excess_34 : decode cX5_excess 34 = .ok (.ishl, 1) := by decide +kernel
theorem dX5_excess_35 : decode cX5_excess 35 = .ok (.ior, 1) := by decide +kernel
theorem dX5_excess_36 : decode cX5_excess 36 = .ok (.istore_n 2, 1) := by decide +kernel
theorem dX5_excess_37 : decode cX5_excess 37 = .ok (.iinc 3 1, 3) := by decide +kernel
theorem dX5_excess_40 : decode cX5_excess 40 = .ok (.goto (-36), 3) := by decide +kernel
theorem dX5_excess_43 : decode cX5_excess 43 = .ok (.iload_n 1, 1) := by decide +kernel
theorem dX5_excess_44 : decode cX5_excess 44 = .ok (.invokestatic 215, 3) := by decide +kernel
theorem dX5_excess_47 : decode cX5_excess 47 = .ok (.aload_n 0, 1) := by decide +kernel
theorem dX5_excess_48 : decode cX5_excess 48 = .ok (.getfield 19, 3) := by decide +kernel
theorem dX5_excess_51 : decode cX5_excess 51 = .ok (.iload_n 2, 1) := by decide +kernel
theorem dX5_excess_52 : decode cX5_excess 52 = .ok (.invokevirtual 171, 3) := by decide +kernel
theorem dX5_excess_55 : decode cX5_excess 55 = .ok (.invokestatic 215, 3) := by decide +kernel
theorem dX5_excess_58 : decode cX5_excess 58 = .ok (.isub, 1) := by decide +kernel
theorem dX5_excess_59 : decode cX5_excess 59 = .ok (.ireturn, 1) := by decide +kernel
theorem dX5_leastWaste_0 : decode cX5_leastWaste 0 = .ok (.aload_n 0, 1) := by decide +kernel
theorem dX5_leastWaste_1 : decode cX5_leastWaste 1 = .ok (.getfield 26, 3) := by decide +kernel
theorem dX5_leastWaste_4 : decode cX5_leastWaste 4 = .ok (.getfield 220, 3) := by decide +kernel
theorem dX5_leastWaste_7 : decode cX5_leastWaste 7 = .ok (.iconst (-1), 1) := by decide +kernel
theorem dX5_leastWaste_8 : decode cX5_leastWaste 8 = .ok (.if_icmp .ne 5, 3) := by decide +kernel
theorem dX5_leastWaste_11 : decode cX5_leastWaste 11 = .ok (.iconst (-1), 1) := by decide +kernel
theorem dX5_leastWaste_12 : decode cX5_leastWaste 12 = .ok (.ireturn, 1) := by decide +kernel
theorem dX5_leastWaste_13 : decode cX5_leastWaste 13 = .ok (.aload_n 0, 1) := by decide +kernel
theorem dX5_leastWaste_14 : decode cX5_leastWaste 14 = .ok (.getfield 33, 3) := by decide +kernel
theorem dX5_leastWaste_17 : decode cX5_leastWaste 17 = .ok (.invokevirtual 329, 3) := by decide +kernel
theorem dX5_leastWaste_20 : decode cX5_leastWaste 20 = .ok (.iconst 0, 1) := by decide +kernel
theorem dX5_leastWaste_21 : decode cX5_leastWaste 21 = .ok (.istore_n 2, 1) := by decide +kernel
theorem dX5_leastWaste_22 : decode cX5_leastWaste 22 = .ok (.iload_n 2, 1) := by decide +kernel
theorem dX5_leastWaste_23 : decode cX5_leastWaste 23 = .ok (.aload_n 0, 1) := by decide +kernel
theorem dX5_leastWaste_24 : decode cX5_leastWaste 24 = .ok (.getfield 10, 3) := by decide +kernel
theorem dX5_leastWaste_27 : decode cX5_leastWaste 27 = .ok (.getfield 48, 3) := by decide +kernel
theorem dX5_leastWaste_30 : decode cX5_leastWaste 30 = .ok (.if_icmp .ge 61, 3) := by decide +kernel
theorem dX5_leastWaste_33 : decode cX5_leastWaste 33 = .ok (.iload_n 1, 1) := by decide +kernel
theorem dX5_leastWaste_34 : decode cX5_leastWaste 34 = .ok (.iload_n 2, 1) := by decide +kernel
theorem dX5_leastWaste_35 : decode cX5_leastWaste 35 = .ok (.invokestatic 102, 3) := by decide +kernel
theorem dX5_leastWaste_38 : decode cX5_leastWaste 38 = .ok (.ifCond .ne 6, 3) := by decide +kernel
theorem dX5_leastWaste_41 : decode cX5_leastWaste 41 = .ok (.goto 44, 3) := by decide +kernel
theorem dX5_leastWaste_44 : decode cX5_leastWaste 44 = .ok (.aload_n 0, 1) := by decide +kernel
theorem dX5_leastWaste_45 : decode cX5_leastWaste 45 = .ok (.getfield 26, 3) := by decide +kernel
theorem dX5_leastWaste_48 : decode cX5_leastWaste 48 = .ok (.iload_n 2, 1) := by decide +kernel
theorem dX5_leastWaste_49 : decode cX5_leastWaste 49 = .ok (.invokevirtual 174, 3) := by decide +kernel
theorem dX5_leastWaste_52 : decode cX5_leastWaste 52 = .ok (.istore_n 3, 1) := by decide +kernel
theorem dX5_leastWaste_53 : decode cX5_leastWaste 53 = .ok (.iload_n 3, 1) := by decide +kernel
theorem dX5_leastWaste_54 : decode cX5_leastWaste 54 = .ok (.iconst (-1), 1) := by decide +kernel
theorem dX5_leastWaste_55 : decode cX5_leastWaste 55 = .ok (.if_icmp .ne 5, 3) := by decide +kernel
theorem dX5_leastWaste_58 : decode cX5_leastWaste 58 = .ok (.iconst (-1), 1) := by decide +kernel
theorem dX5_leastWaste_59 : decode cX5_leastWaste 59 = .ok (.ireturn, 1) := by decide +kernel
theorem dX5_leastWaste_60 : decode cX5_leastWaste 60 = .ok (.aload_n 0, 1) := by decide +kernel
theorem dX5_leastWaste_61 : decode cX5_leastWaste 61 = .ok (.getfield 33, 3) := by decide +kernel
theorem dX5_leastWaste_64 : decode cX5_leastWaste 64 = .ok (.aload_n 0, 1) := by decide +kernel
theorem dX5_leastWaste_65 : decode cX5_leastWaste 65 = .ok (.getfield 10, 3) := by decide +kernel
theorem dX5_leastWaste_68 : decode cX5_leastWaste 68 = .ok (.getfield 157, 3) := by decide +kernel
theorem dX5_leastWaste_71 : decode cX5_leastWaste 71 = .ok (.iload_n 2, 1) := by decide +kernel
theorem dX5_leastWaste_72 : decode cX5_leastWaste 72 = .ok (.iaload, 1) := by decide +kernel
theorem dX5_leastWaste_73 : decode cX5_leastWaste 73 = .ok (.aload_n 0, 1) := by decide +kernel
theorem dX5_leastWaste_74 : decode cX5_leastWaste 74 = .ok (.getfield 19, 3) := by decide +kernel
theorem dX5_leastWaste_77 : decode cX5_leastWaste 77 = .ok (.getfield 180, 3) := by decide +kernel
theorem dX5_leastWaste_80 : decode cX5_leastWaste 80 = .ok (.iload_n 3, 1) := by decide +kernel
theorem dX5_leastWaste_81 : decode cX5_leastWaste 81 = .ok (.iaload, 1) := by decide +kernel
theorem dX5_leastWaste_82 : decode cX5_leastWaste 82 = .ok (.invokevirtual 332, 3) := by decide +kernel
theorem dX5_leastWaste_85 : decode cX5_leastWaste 85 = .ok (.iinc 2 1, 3) := by decide +kernel
theorem dX5_leastWaste_88 : decode cX5_leastWaste 88 = .ok (.goto (-66), 3) := by decide +kernel
theorem dX5_leastWaste_91 : decode cX5_leastWaste 91 = .ok (.aload_n 0, 1) := by decide +kernel
theorem dX5_leastWaste_92 : decode cX5_leastWaste 92 = .ok (.getfield 33, 3) := by decide +kernel
theorem dX5_leastWaste_95 : decode cX5_leastWaste 95 = .ok (.invokevirtual 335, 3) := by decide +kernel
theorem dX5_leastWaste_98 : decode cX5_leastWaste 98 = .ok (.ireturn, 1) := by decide +kernel
theorem dX6_init_0 : decode cX6_init 0 = .ok (.aload_n 0, 1) := by decide +kernel
theorem dX6_init_1 : decode cX6_init 1 = .ok (.invokespecial 1, 3) := by decide +kernel
theorem dX6_init_4 : decode cX6_init 4 = .ok (.return_, 1) := by decide +kernel
theorem dX7_init_0 : decode cX7_init 0 = .ok (.aload_n 0, 1) := by decide +kernel
theorem dX7_init_1 : decode cX7_init 1 = .ok (.invokespecial 1, 3) := by decide +kernel
theorem dX7_init_4 : decode cX7_init 4 = .ok (.return_, 1) := by decide +kernel
theorem dX8_init_0 : decode cX8_init 0 = .ok (.aload_n 0, 1) := by decide +kernel
theorem dX8_init_1 : decode cX8_init 1 = .ok (.invokespecial 1, 3) := by decide +kernel
theorem dX8_init_4 : decode cX8_init 4 = .ok (.return_, 1) := by decide +kernel
theorem dX9_init_0 : decode cX9_init 0 = .ok (.aload_n 0, 1) := by decide +kernel
theorem dX9_init_1 : decode cX9_init 1 = .ok (.invokespecial 1, 3) := by decide +kernel
theorem dX9_init_4 : decode cX9_init 4 = .ok (.return_, 1) := by decide +kernel
theorem dX10_init_0 : decode cX10_init 0 = .ok (.aload_n 0, 1) := by decide +kernel
theorem dX10_init_1 : decode cX10_init 1 = .ok (.invokespecial 1, 3) := by decide +kernel
theorem dX10_init_4 : decode cX10_init 4 = .ok (.return_, 1) := by decide +kernel
theorem dX11_init_0 : decode cX11_init 0 = .ok (.aload_n 0, 1) := by decide +kernel
theorem dX11_init_1 : decode cX11_init 1 = .ok (.invokespecial 1, 3) := by decide +kernel
theorem dX11_init_4 : decode cX11_init 4 = .ok (.return_, 1) := by decide +kernel
end
section
theorem dJ5_init_d00df_0 : decode cJ5_init_d00df 0 = .ok (.aload_n 0, 1) := by decide +kernel
theorem dJ5_init_d00df_1 : decode cJ5_init_d00df 1 = .ok (.invokespecial 3, 3) := by decide +kernel
theorem dJ5_init_d00df_4 : decode cJ5_init_d00df 4 = .ok (.getstatic 18, 3) := by decide +kernel
theorem dJ5_init_d00df_7 : decode cJ5_init_d00df 7 = .ok (.ifCond .eq 18, 3) := by decide +kernel
theorem dJ5_init_d00df_10 : decode cJ5_init_d00df 10 = .ok (.aload_n 0, 1) := by decide +kernel
theorem dJ5_init_d00df_11 : decode cJ5_init_d00df 11 = .ok (.iload_n 1, 1) := by decide +kernel
theorem dJ5_init_d00df_12 : decode cJ5_init_d00df 12 = .ok (.newarray .byte, 2) := by decide +kernel
theorem dJ5_init_d00df_14 : decode cJ5_init_d00df 14 = .ok (.putfield 15, 3) := by decide +kernel
theorem dJ5_init_d00df_17 : decode cJ5_init_d00df 17 = .ok (.aload_n 0, 1) := by decide +kernel
theorem dJ5_init_d00df_18 : decode cJ5_init_d00df 18 = .ok (.iconst 0, 1) := by decide +kernel
theorem dJ5_init_d00df_19 : decode cJ5_init_d00df 19 = .ok (.putfield 22, 3) := by decide +kernel
theorem dJ5_init_d00df_22 : decode cJ5_init_d00df 22 = .ok (.goto 16, 3) := by decide +kernel
theorem dJ5_init_d00df_25 : decode cJ5_init_d00df 25 = .ok (.aload_n 0, 1) := by decide +kernel
theorem dJ5_init_d00df_26 : decode cJ5_init_d00df 26 = .ok (.iload_n 1, 1) := by decide +kernel
theorem dJ5_init_d00df_27 : decode cJ5_init_d00df 27 = .ok (.invokestatic 26, 3) := by decide +kernel
theorem dJ5_init_d00df_30 : decode cJ5_init_d00df 30 = .ok (.putfield 15, 3) := by decide +kernel
theorem dJ5_init_d00df_33 : decode cJ5_init_d00df 33 = .ok (.aload_n 0, 1) := by decide +kernel
theorem dJ5_init_d00df_34 : decode cJ5_init_d00df 34 = .ok (.iconst 1, 1) := by decide +kernel
theorem dJ5_init_d00df_35 : decode cJ5_init_d00df 35 = .ok (.putfield 22, 3) := by decide +kernel
theorem dJ5_init_d00df_38 : decode cJ5_init_d00df 38 = .ok (.return_, 1) := by decide +kernel
theorem dJ5_length_8abf5_0 : decode cJ5_length_8abf5 0 = .ok (.aload_n 0, 1) := by decide +kernel
theorem dJ5_length_8abf5_1 : decode cJ5_length_8abf5 1 = .ok (.getfield 79, 3) := by decide +kernel
theorem dJ5_length_8abf5_4 : decode cJ5_length_8abf5 4 = .ok (.ireturn, 1) := by decide +kernel
theorem dJ5_ensureCapacityInternal_d00df_0 : decode cJ5_ensureCapacityInternal_d00df 0 = .ok (.aload_n 0, 1) := by decide +kernel
theorem dJ5_ensureCapacityInternal_d00df_1 : decode cJ5_ensureCapacityInternal_d00df 1 = .ok (.getfield 15, 3) := by decide +kernel
theorem dJ5_ensureCapacityInternal_d00df_4 : decode cJ5_ensureCapacityInternal_d00df 4 = .ok (.arraylength, 1) := by decide +kernel
theorem dJ5_ensureCapacityInternal_d00df_5 : decode cJ5_ensureCapacityInternal_d00df 5 = .ok (.aload_n 0, 1) := by decide +kernel
theorem dJ5_ensureCapacityInternal_d00df_6 : decode cJ5_ensureCapacityInternal_d00df 6 = .ok (.getfield 22, 3) := by decide +kernel
theorem dJ5_ensureCapacityInternal_d00df_9 : decode cJ5_ensureCapacityInternal_d00df 9 = .ok (.ishr, 1) := by decide +kernel
theorem dJ5_ensureCapacityInternal_d00df_10 : decode cJ5_ensureCapacityInternal_d00df 10 = .ok (.istore_n 2, 1) := by decide +kernel
theorem dJ5_ensureCapacityInternal_d00df_11 : decode cJ5_ensureCapacityInternal_d00df 11 = .ok (.iload_n 1, 1) := by decide +kernel
theorem dJ5_ensureCapacityInternal_d00df_12 : decode cJ5_ensureCapacityInternal_d00df 12 = .ok (.iload_n 2, 1) := by decide +kernel
theorem dJ5_ensureCapacityInternal_d00df_13 : decode cJ5_ensureCapacityInternal_d00df 13 = .ok (.isub, 1) := by decide +kernel
theorem dJ5_ensureCapacityInternal_d00df_14 : decode cJ5_ensureCapacityInternal_d00df 14 = .ok (.ifCond .le 24, 3) := by decide +kernel
theorem dJ5_ensureCapacityInternal_d00df_17 : decode cJ5_ensureCapacityInternal_d00df 17 = .ok (.aload_n 0, 1) := by decide +kernel
theorem dJ5_ensureCapacityInternal_d00df_18 : decode cJ5_ensureCapacityInternal_d00df 18 = .ok (.aload_n 0, 1) := by decide +kernel
theorem dJ5_ensureCapacityInternal_d00df_19 : decode cJ5_ensureCapacityInternal_d00df 19 = .ok (.getfield 15, 3) := by decide +kernel
theorem dJ5_ensureCapacityInternal_d00df_22 : decode cJ5_ensureCapacityInternal_d00df 22 = .ok (.aload_n 0, 1) := by decide +kernel
theorem dJ5_ensureCapacityInternal_d00df_23 : decode cJ5_ensureCapacityInternal_d00df 23 = .ok (.iload_n 1, 1) := by decide +kernel
theorem dJ5_ensureCapacityInternal_d00df_24 : decode cJ5_ensureCapacityInternal_d00df 24 = .ok (.invokevirtual 104, 3) := by decide +kernel
theorem dJ5_ensureCapacityInternal_d00df_27 : decode cJ5_ensureCapacityInternal_d00df 27 = .ok (.aload_n 0, 1) := by decide +kernel
theorem dJ5_ensureCapacityInternal_d00df_28 : decode cJ5_ensureCapacityInternal_d00df 28 = .ok (.getfield 22, 3) := by decide +kernel
theorem dJ5_ensureCapacityInternal_d00df_31 : decode cJ5_ensureCapacityInternal_d00df 31 = .ok (.ishl, 1) := by decide +kernel
theorem dJ5_ensureCapacityInternal_d00df_32 : decode cJ5_ensureCapacityInternal_d00df 32 = .ok (.invokestatic 108, 3) := by decide +kernel
theorem dJ5_ensureCapacityInternal_d00df_35 : decode cJ5_ensureCapacityInternal_d00df 35 = .ok (.putfield 15, 3) := by decide +kernel
theorem dJ5_ensureCapacityInternal_d00df_38 : decode cJ5_ensureCapacityInternal_d00df 38 = .ok (.return_, 1) := by decide +kernel
theorem dJ5_newCapacity_0f7a4_0 : decode cJ5_newCapacity_0f7a4 0 = .ok (.aload_n 0, 1) := by decide +kernel
theorem dJ5_newCapacity_0f7a4_1 : decode cJ5_newCapacity_0f7a4 1 = .ok (.getfield 15, 3) := by decide +kernel
theorem dJ5_newCapacity_0f7a4_4 : decode cJ5_newCapacity_0f7a4 4 = .ok (.arraylength, 1) := by decide +kernel
theorem dJ5_newCapacity_0f7a4_5 : decode cJ5_newCapacity_0f7a4 5 = .ok (.istore_n 2, 1) := by decide +kernel
theorem dJ5_newCapacity_0f7a4_6 : decode cJ5_newCapacity_0f7a4 6 = .ok (.iload_n 1, 1) := by decide +kernel
theorem dJ5_newCapacity_0f7a4_7 : decode cJ5_newCapacity_0f7a4 7 = .ok (.aload_n 0, 1) := by decide +kernel
theorem dJ5_newCapacity_0f7a4_8 : decode cJ5_newCapacity_0f7a4 8 = .ok (.getfield 22, 3) := by decide +kernel
theorem dJ5_newCapacity_0f7a4_11 : decode cJ5_newCapacity_0f7a4 11 = .ok (.ishl, 1) := by decide +kernel
theorem dJ5_newCapacity_0f7a4_12 : decode cJ5_newCapacity_0f7a4 12 = .ok (.istore_n 3, 1) := by decide +kernel
theorem dJ5_newCapacity_0f7a4_13 : decode cJ5_newCapacity_0f7a4 13 = .ok (.iload_n 3, 1) := by decide +kernel
theorem dJ5_newCapacity_0f7a4_14 : decode cJ5_newCapacity_0f7a4 14 = .ok (.iload_n 2, 1) := by decide +kernel
theorem dJ5_newCapacity_0f7a4_15 : decode cJ5_newCapacity_0f7a4 15 = .ok (.isub, 1) := by decide +kernel
theorem dJ5_newCapacity_0f7a4_16 : decode cJ5_newCapacity_0f7a4 16 = .ok (.istore 4, 2) := by decide +kernel
theorem dJ5_newCapacity_0f7a4_18 : decode cJ5_newCapacity_0f7a4 18 = .ok (.iload_n 2, 1) := by decide +kernel
theorem dJ5_newCapacity_0f7a4_19 : decode cJ5_newCapacity_0f7a4 19 = .ok (.iload 4, 2) := by decide +kernel
theorem dJ5_newCapacity_0f7a4_21 : decode cJ5_newCapacity_0f7a4 21 = .ok (.iload_n 2, 1) := by decide +kernel
theorem dJ5_newCapacity_0f7a4_22 : decode cJ5_newCapacity_0f7a4 22 = .ok (.iconst 2, 1) := by decide +kernel
theorem dJ5_newCapacity_0f7a4_23 : decode cJ5_newCapacity_0f7a4 23 = .ok (.aload_n 0, 1) := by decide +kernel
theorem dJ5_newCapacity_0f7a4_24 : decode cJ5_newCapacity_0f7a4 24 = .ok (.getfield 22, 3) := by decide +kernel
theorem dJ5_newCapacity_0f7a4_27 : decode cJ5_newCapacity_0f7a4 27 = .ok (.ishl, 1) := by decide +kernel
theorem dJ5_newCapacity_0f7a4_28 : decode cJ5_newCapacity_0f7a4 28 = .ok (.iadd, 1) := by decide +kernel
theorem dJ5_newCapacity_0f7a4_29 : decode cJ5_newCapacity_0f7a4 29 = .ok (.invokestatic 114, 3) := by decide +kernel
theorem dJ5_newCapacity_0f7a4_32 : decode cJ5_newCapacity_0f7a4 32 = .ok (.istore 5, 2) := by decide +kernel
theorem dJ5_newCapacity_0f7a4_34 : decode cJ5_newCapacity_0f7a4 34 = .ok (.iload 5, 2) := by decide +kernel
theorem dJ5_newCapacity_0f7a4_36 : decode cJ5_newCapacity_0f7a4 36 = .ok (.ldc 39, 2) := by decide +kernel
theorem dJ5_newCapacity_0f7a4_38 : decode cJ5_newCapacity_0f7a4 38 = .ok (.if_icmp .ne 13, 3) := by decide +kernel
theorem dJ5_newCapacity_0f7a4_41 : decode cJ5_newCapacity_0f7a4 41 = .ok (.new 120, 3) := by decide +kernel
theorem dJ5_newCapacity_0f7a4_44 : decode cJ5_newCapacity_0f7a4 44 = .ok (.dup, 1) := by decide +kernel
theorem dJ5_newCapacity_0f7a4_45 : decode cJ5_newCapacity_0f7a4 45 = .ok (.ldc 122, 2) := by decide +kernel
theorem dJ5_newCapacity_0f7a4_47 : decode cJ5_newCapacity_0f7a4 47 = .ok (.invokespecial 124, 3) := by decide +kernel
theorem dJ5_newCapacity_0f7a4_50 : decode cJ5_newCapacity_0f7a4 50 = .ok (.athrow, 1) := by decide +kernel
theorem dJ5_newCapacity_0f7a4_51 : decode cJ5_newCapacity_0f7a4 51 = .ok (.iload 5, 2) := by decide +kernel
theorem dJ5_newCapacity_0f7a4_53 : decode cJ5_newCapacity_0f7a4 53 = .ok (.aload_n 0, 1) := by decide +kernel
theorem dJ5_newCapacity_0f7a4_54 : decode cJ5_newCapacity_0f7a4 54 = .ok (.getfield 22, 3) := by decide +kernel
theorem dJ5_newCapacity_0f7a4_57 : decode cJ5_newCapacity_0f7a4 57 = .ok (.ishr, 1) := by decide +kernel
theorem dJ5_newCapacity_0f7a4_58 : decode cJ5_newCapacity_0f7a4 58 = .ok (.ireturn, 1) := by decide +kernel
theorem dJ5_inflate_da8c8_0 : decode cJ5_inflate_da8c8 0 = .ok (.aload_n 0, 1) := by decide +kernel
theorem dJ5_inflate_da8c8_1 : decode cJ5_inflate_da8c8 1 = .ok (.invokevirtual 83, 3) := by decide +kernel
theorem dJ5_inflate_da8c8_4 : decode cJ5_inflate_da8c8 4 = .ok (.ifCond .ne 4, 3) := by decide +kernel
theorem dJ5_inflate_da8c8_7 : decode cJ5_inflate_da8c8 7 = .ok (.return_, 1) := by decide +kernel
theorem dJ5_inflate_da8c8_8 : decode cJ5_inflate_da8c8 8 = .ok (.aload_n 0, 1) := by decide +kernel
theorem dJ5_inflate_da8c8_9 : decode cJ5_inflate_da8c8 9 = .ok (.getfield 15, 3) := by decide +kernel
theorem dJ5_inflate_da8c8_12 : decode cJ5_inflate_da8c8 12 = .ok (.arraylength, 1) := by decide +kernel
theorem dJ5_inflate_da8c8_13 : decode cJ5_inflate_da8c8 13 = .ok (.invokestatic 26, 3) := by decide +kernel
theorem dJ5_inflate_da8c8_16 : decode cJ5_inflate_da8c8 16 = .ok (.astore_n 1, 1) := by decide +kernel
theorem dJ5_inflate_da8c8_17 : decode cJ5_inflate_da8c8 17 = .ok (.aload_n 0, 1) := by decide +kernel
theorem dJ5_inflate_da8c8_18 : decode cJ5_inflate_da8c8 18 = .ok (.getfield 15, 3) := by decide +kernel
theorem dJ5_inflate_da8c8_21 : decode cJ5_inflate_da8c8 21 = .ok (.iconst 0, 1) := by decide +kernel
theorem dJ5_inflate_da8c8_22 : decode cJ5_inflate_da8c8 22 = .ok (.aload_n 1, 1) := by decide +kernel
theorem dJ5_inflate_da8c8_23 : decode cJ5_inflate_da8c8 23 = .ok (.iconst 0, 1) := by decide +kernel
theorem dJ5_inflate_da8c8_24 : decode cJ5_inflate_da8c8 24 = .ok (.aload_n 0, 1) := by decide +kernel
theorem dJ5_inflate_da8c8_25 : decode cJ5_inflate_da8c8 25 = .ok (.getfield 79, 3) := by decide +kernel
theorem dJ5_inflate_da8c8_28 : decode cJ5_inflate_da8c8 28 = .ok (.invokestatic 125, 3) := by decide +kernel
theorem dJ5_inflate_da8c8_31 : decode cJ5_inflate_da8c8 31 = .ok (.aload_n 0, 1) := by decide +kernel
theorem dJ5_inflate_da8c8_32 : decode cJ5_inflate_da8c8 32 = .ok (.aload_n 1, 1) := by decide +kernel
theorem dJ5_inflate_da8c8_33 : decode cJ5_inflate_da8c8 33 = .ok (.putfield 15, 3) := by decide +kernel
theorem dJ5_inflate_da8c8_36 : decode cJ5_inflate_da8c8 36 = .ok (.aload_n 0, 1) := by decide +kernel
theorem dJ5_inflate_da8c8_37 : decode cJ5_inflate_da8c8 37 = .ok (.iconst 1, 1) := by decide +kernel
theorem dJ5_inflate_da8c8_38 : decode cJ5_inflate_da8c8 38 = .ok (.putfield 22, 3) := by decide +kernel
theorem dJ5_inflate_da8c8_41 : decode cJ5_inflate_da8c8 41 = .ok (.return_, 1) := by decide +kernel
theorem dJ5_append_cf1ce_0 : decode cJ5_append_cf1ce 0 = .ok (.aload_n 1, 1) := by decide +kernel
theorem dJ5_append_cf1ce_1 : decode cJ5_append_cf1ce 1 = .ok (.ifnonnull 8, 3) := by decide +kernel
theorem dJ5_append_cf1ce_4 : decode cJ5_append_cf1ce 4 = .ok (.aload_n 0, 1) := by decide +kernel
theorem dJ5_append_cf1ce_5 : decode cJ5_append_cf1ce 5 = .ok (.invokevirtual 204, 3) := by decide +kernel
theorem dJ5_append_cf1ce_8 : decode cJ5_append_cf1ce 8 = .ok (.areturn, 1) := by decide +kernel
theorem dJ5_append_cf1ce_9 : decode cJ5_append_cf1ce 9 = .ok (.aload_n 1, 1) := by decide +kernel
theorem dJ5_append_cf1ce_10 : decode cJ5_append_cf1ce 10 = .ok (.invokevirtual 32, 3) := by decide +kernel
theorem dJ5_append_cf1ce_13 : decode cJ5_append_cf1ce 13 = .ok (.istore_n 2, 1) := by decide +kernel
theorem dJ5_append_cf1ce_14 : decode cJ5_append_cf1ce 14 = .ok (.aload_n 0, 1) := by decide +kernel
theorem dJ5_append_cf1ce_15 : decode cJ5_append_cf1ce 15 = .ok (.aload_n 0, 1) := by decide +kernel
theorem dJ5_append_cf1ce_16 : decode cJ5_append_cf1ce 16 = .ok (.getfield 79, 3) := by decide +kernel
theorem dJ5_append_cf1ce_19 : decode cJ5_append_cf1ce 19 = .ok (.iload_n 2, 1) := by decide +kernel
theorem dJ5_append_cf1ce_20 : decode cJ5_append_cf1ce 20 = .ok (.iadd, 1) := by decide +kernel
theorem dJ5_append_cf1ce_21 : decode cJ5_append_cf1ce 21 = .ok (.invokevirtual 100, 3) := by decide +kernel
theorem dJ5_append_cf1ce_24 : decode cJ5_append_cf1ce 24 = .ok (.aload_n 0, 1) := by decide +kernel
theorem dJ5_append_cf1ce_25 : decode cJ5_append_cf1ce 25 = .ok (.aload_n 0, 1) := by decide +kernel
theorem dJ5_append_cf1ce_26 : decode cJ5_append_cf1ce 26 = .ok (.getfield 79, 3) := by decide +kernel
theorem dJ5_append_cf1ce_29 : decode cJ5_append_cf1ce 29 = .ok (.aload_n 1, 1) := by decide +kernel
theorem dJ5_append_cf1ce_30 : decode cJ5_append_cf1ce 30 = .ok (.invokevirtual 208, 3) := by decide +kernel
theorem dJ5_append_cf1ce_33 : decode cJ5_append_cf1ce 33 = .ok (.aload_n 0, 1) := by decide +kernel
theorem dJ5_append_cf1ce_34 : decode cJ5_append_cf1ce 34 = .ok (.dup, 1) := by decide +kernel
theorem dJ5_append_cf1ce_35 : decode cJ5_append_cf1ce 35 = .ok (.getfield 79, 3) := by decide +kernel
theorem dJ5_append_cf1ce_38 : decode cJ5_append_cf1ce 38 = .ok (.iload_n 2, 1) := by decide +kernel
theorem dJ5_append_cf1ce_39 : decode cJ5_append_cf1ce 39 = .ok (.iadd, 1) := by decide +kernel
theorem dJ5_append_cf1ce_40 : decode cJ5_append_cf1ce 40 = .ok (.putfield 79, 3) := by decide +kernel
theorem dJ5_append_cf1ce_43 : decode cJ5_append_cf1ce 43 = .ok (.aload_n 0, 1) := by decide +kernel
theorem dJ5_append_cf1ce_44 : decode cJ5_append_cf1ce 44 = .ok (.areturn, 1) := by decide +kernel
theorem dJ5_appendNull_278bc_0 : decode cJ5_appendNull_278bc 0 = .ok (.aload_n 0, 1) := by decide +kernel
theorem dJ5_appendNull_278bc_1 : decode cJ5_appendNull_278bc 1 = .ok (.aload_n 0, 1) := by decide +kernel
theorem dJ5_appendNull_278bc_2 : decode cJ5_appendNull_278bc 2 = .ok (.getfield 79, 3) := by decide +kernel
theorem dJ5_appendNull_278bc_5 : decode cJ5_appendNull_278bc 5 = .ok (.iconst 4, 1) := by decide +kernel
theorem dJ5_appendNull_278bc_6 : decode cJ5_appendNull_278bc 6 = .ok (.iadd, 1) := by decide +kernel
theorem dJ5_appendNull_278bc_7 : decode cJ5_appendNull_278bc 7 = .ok (.invokevirtual 100, 3) := by decide +kernel
theorem dJ5_appendNull_278bc_10 : decode cJ5_appendNull_278bc 10 = .ok (.aload_n 0, 1) := by decide +kernel
theorem dJ5_appendNull_278bc_11 : decode cJ5_appendNull_278bc 11 = .ok (.getfield 79, 3) := by decide +kernel
theorem dJ5_appendNull_278bc_14 : decode cJ5_appendNull_278bc 14 = .ok (.istore_n 1, 1) := by decide +kernel
theorem dJ5_appendNull_278bc_15 : decode cJ5_appendNull_278bc 15 = .ok (.aload_n 0, 1) := by decide +kernel
theorem dJ5_appendNull_278bc_16 : decode cJ5_appendNull_278bc 16 = .ok (.getfield 15, 3) := by decide +kernel
theorem dJ5_appendNull_278bc_19 : decode cJ5_appendNull_278bc 19 = .ok (.astore_n 2, 1) := by decide +kernel
theorem dJ5_appendNull_278bc_20 : decode cJ5_appendNull_278bc 20 = .ok (.aload_n 0, 1) := by decide +kernel
theorem dJ5_appendNull_278bc_21 : decode cJ5_appendNull_278bc 21 = .ok (.invokevirtual 83, 3) := by decide +kernel
theorem dJ5_appendNull_278bc_24 : decode cJ5_appendNull_278bc 24 = .ok (.ifCond .eq 38, 3) := by decide +kernel
theorem dJ5_appendNull_278bc_27 : decode cJ5_appendNull_278bc 27 = .ok (.aload_n 2, 1) := by decide +kernel
theorem dJ5_appendNull_278bc_28 : decode cJ5_appendNull_278bc 28 = .ok (.iload_n 1, 1) := by decide +kernel
theorem dJ5_appendNull_278bc_29 : decode cJ5_appendNull_278bc 29 = .ok (.iinc 1 1, 3) := by decide +kernel
theorem dJ5_appendNull_278bc_32 : decode cJ5_appendNull_278bc 32 = .ok (.bipush 110, 2) := by decide +kernel
theorem dJ5_appendNull_278bc_34 : decode cJ5_appendNull_278bc 34 = .ok (.bastore, 1) := by decide +kernel
theorem dJ5_appendNull_278bc_35 : decode cJ5_appendNull_278bc 35 = .ok (.aload_n 2, 1) := by decide +kernel
theorem dJ5_appendNull_278bc_36 : decode cJ5_appendNull_278bc 36 = .ok (.iload_n 1, 1) := by decide +kernel
theorem dJ5_appendNull_278bc_37 : decode cJ5_appendNull_278bc 37 = .ok (.iinc 1 1, 3) := by decide +kernel
theorem dJ5_appendNull_278bc_40 : decode cJ5_appendNull_278bc 40 = .ok (.bipush 117, 2) := by decide +kernel
theorem dJ5_appendNull_278bc_42 : decode cJ5_appendNull_278bc 42 = .ok (.bastore, 1) := by decide +kernel
theorem dJ5_appendNull_278bc_43 : decode cJ5_appendNull_278bc 43 = .ok (.aload_n 2, 1) := by decide +kernel
theorem dJ5_appendNull_278bc_44 : decode cJ5_appendNull_278bc 44 = .ok (.iload_n 1, 1) := by decide +kernel
theorem dJ5_appendNull_278bc_45 : decode cJ5_appendNull_278bc 45 = .ok (.iinc 1 1, 3) := by decide +kernel
theorem dJ5_appendNull_278bc_48 : decode cJ5_appendNull_278bc 48 = .ok (.bipush 108, 2) := by decide +kernel
theorem dJ5_appendNull_278bc_50 : decode cJ5_appendNull_278bc 50 = .ok (.bastore, 1) := by decide +kernel
theorem dJ5_appendNull_278bc_51 : decode cJ5_appendNull_278bc 51 = .ok (.aload_n 2, 1) := by decide +kernel
theorem dJ5_appendNull_278bc_52 : decode cJ5_appendNull_278bc 52 = .ok (.iload_n 1, 1) := by decide +kernel
theorem dJ5_appendNull_278bc_53 : decode cJ5_appendNull_278bc 53 = .ok (.iinc 1 1, 3) := by decide +kernel
theorem dJ5_appendNull_278bc_56 : decode cJ5_appendNull_278bc 56 = .ok (.bipush 108, 2) := by decide +kernel
theorem dJ5_appendNull_278bc_58 : decode cJ5_appendNull_278bc 58 = .ok (.bastore, 1) := by decide +kernel
theorem dJ5_appendNull_278bc_59 : decode cJ5_appendNull_278bc 59 = .ok (.goto 17, 3) := by decide +kernel
theorem dJ5_appendNull_278bc_62 : decode cJ5_appendNull_278bc 62 = .ok (.aload_n 2, 1) := by decide +kernel
theorem dJ5_appendNull_278bc_63 : decode cJ5_appendNull_278bc 63 = .ok (.iload_n 1, 1) := by decide +kernel
theorem dJ5_appendNull_278bc_64 : decode cJ5_appendNull_278bc 64 = .ok (.bipush 110, 2) := by decide +kernel
theorem dJ5_appendNull_278bc_66 : decode cJ5_appendNull_278bc 66 = .ok (.bipush 117, 2) := by decide +kernel
theorem dJ5_appendNull_278bc_68 : decode cJ5_appendNull_278bc 68 = .ok (.bipush 108, 2) := by decide +kernel
theorem dJ5_appendNull_278bc_70 : decode cJ5_appendNull_278bc 70 = .ok (.bipush 108, 2) := by decide +kernel
theorem dJ5_appendNull_278bc_72 : decode cJ5_appendNull_278bc 72 = .ok (.invokestatic 226, 3) := by decide +kernel
theorem dJ5_appendNull_278bc_75 : decode cJ5_appendNull_278bc 75 = .ok (.istore_n 1, 1) := by decide +kernel
theorem dJ5_appendNull_278bc_76 : decode cJ5_appendNull_278bc 76 = .ok (.aload_n 0, 1) := by decide +kernel
theorem dJ5_appendNull_278bc_77 : decode cJ5_appendNull_278bc 77 = .ok (.iload_n 1, 1) := by decide +kernel
theorem dJ5_appendNull_278bc_78 : decode cJ5_appendNull_278bc 78 = .ok (.putfield 79, 3) := by decide +kernel
theorem dJ5_appendNull_278bc_81 : decode cJ5_appendNull_278bc 81 = .ok (.aload_n 0, 1) := by decide +kernel
theorem dJ5_appendNull_278bc_82 : decode cJ5_appendNull_278bc 82 = .ok (.areturn, 1) := by decide +kernel
theorem dJ5_append_3fe6f_0 : decode cJ5_append_3fe6f 0 = .ok (.aload_n 0, 1) := by decide +kernel
theorem dJ5_append_3fe6f_1 : decode cJ5_append_3fe6f 1 = .ok (.aload_n 0, 1) := by decide +kernel
theorem dJ5_append_3fe6f_2 : decode cJ5_append_3fe6f 2 = .ok (.getfield 79, 3) := by decide +kernel
theorem dJ5_append_3fe6f_5 : decode cJ5_append_3fe6f 5 = .ok (.iconst 1, 1) := by decide +kernel
theorem dJ5_append_3fe6f_6 : decode cJ5_append_3fe6f 6 = .ok (.iadd, 1) := by decide +kernel
theorem dJ5_append_3fe6f_7 : decode cJ5_append_3fe6f 7 = .ok (.invokevirtual 100, 3) := by decide +kernel
theorem dJ5_append_3fe6f_10 : decode cJ5_append_3fe6f 10 = .ok (.aload_n 0, 1) := by decide +kernel
theorem dJ5_append_3fe6f_11 : decode cJ5_append_3fe6f 11 = .ok (.invokevirtual 83, 3) := by decide +kernel
theorem dJ5_append_3fe6f_14 : decode cJ5_append_3fe6f 14 = .ok (.ifCond .eq 31, 3) := by decide +kernel
theorem dJ5_append_3fe6f_17 : decode cJ5_append_3fe6f 17 = .ok (.iload_n 1, 1) := by decide +kernel
theorem dJ5_append_3fe6f_18 : decode cJ5_append_3fe6f 18 = .ok (.invokestatic 191, 3) := by decide +kernel
theorem dJ5_append_3fe6f_21 : decode cJ5_append_3fe6f 21 = .ok (.ifCond .eq 24, 3) := by decide +kernel
theorem dJ5_append_3fe6f_24 : decode cJ5_append_3fe6f 24 = .ok (.aload_n 0, 1) := by decide +kernel
theorem dJ5_append_3fe6f_25 : decode cJ5_append_3fe6f 25 = .ok (.getfield 15, 3) := by decide +kernel
theorem dJ5_append_3fe6f_28 : decode cJ5_append_3fe6f 28 = .ok (.aload_n 0, 1) := by decide +kernel
theorem dJ5_append_3fe6f_29 : decode cJ5_append_3fe6f 29 = .ok (.dup, 1) := by decide +kernel
theorem dJ5_append_3fe6f_30 : decode cJ5_append_3fe6f 30 = .ok (.getfield 79, 3) := by decide +kernel
theorem dJ5_append_3fe6f_33 : decode cJ5_append_3fe6f 33 = .ok (.dup_x1, 1) := by decide +kernel
theorem dJ5_append_3fe6f_34 : decode cJ5_append_3fe6f 34 = .ok (.iconst 1, 1) := by decide +kernel
theorem dJ5_append_3fe6f_35 : decode cJ5_append_3fe6f 35 = .ok (.iadd, 1) := by decide +kernel
theorem dJ5_append_3fe6f_36 : decode cJ5_append_3fe6f 36 = .ok (.putfield 79, 3) := by decide +kernel
theorem dJ5_append_3fe6f_39 : decode cJ5_append_3fe6f 39 = .ok (.iload_n 1, 1) := by decide +kernel
theorem dJ5_append_3fe6f_40 : decode cJ5_append_3fe6f 40 = .ok (.i2b, 1) := by decide +kernel
theorem dJ5_append_3fe6f_41 : decode cJ5_append_3fe6f 41 = .ok (.bastore, 1) := by decide +kernel
theorem dJ5_append_3fe6f_42 : decode cJ5_append_3fe6f 42 = .ok (.goto 33, 3) := by decide +kernel
theorem dJ5_append_3fe6f_45 : decode cJ5_append_3fe6f 45 = .ok (.aload_n 0, 1) := by decide +kernel
theorem dJ5_append_3fe6f_46 : decode cJ5_append_3fe6f 46 = .ok (.invokevirtual 83, 3) := by decide +kernel
theorem dJ5_append_3fe6f_49 : decode cJ5_append_3fe6f 49 = .ok (.ifCond .eq 7, 3) := by decide +kernel
theorem dJ5_append_3fe6f_52 : decode cJ5_append_3fe6f 52 = .ok (.aload_n 0, 1) := by decide +kernel
theorem dJ5_append_3fe6f_53 : decode cJ5_append_3fe6f 53 = .ok (.invokevirtual 195, 3) := by decide +kernel
theorem dJ5_append_3fe6f_56 : decode cJ5_append_3fe6f 56 = .ok (.aload_n 0, 1) := by decide +kernel
theorem dJ5_append_3fe6f_57 : decode cJ5_append_3fe6f 57 = .ok (.getfield 15, 3) := by decide +kernel
theorem dJ5_append_3fe6f_60 : decode cJ5_append_3fe6f 60 = .ok (.aload_n 0, 1) := by decide +kernel
theorem dJ5_append_3fe6f_61 : decode cJ5_append_3fe6f 61 = .ok (.dup, 1) := by decide +kernel
theorem dJ5_append_3fe6f_62 : decode cJ5_append_3fe6f 62 = .ok (.getfield 79, 3) := by decide +kernel
theorem dJ5_append_3fe6f_65 : decode cJ5_append_3fe6f 65 = .ok (.dup_x1, 1) := by decide +kernel
theorem dJ5_append_3fe6f_66 : decode cJ5_append_3fe6f 66 = .ok (.iconst 1, 1) := by decide +kernel
theorem dJ5_append_3fe6f_67 : decode cJ5_append_3fe6f 67 = .ok (.iadd, 1) := by decide +kernel
theorem dJ5_append_3fe6f_68 : decode cJ5_append_3fe6f 68 = .ok (.putfield 79, 3) := by decide +kernel
theorem dJ5_append_3fe6f_71 : decode cJ5_append_3fe6f 71 = .ok (.iload_n 1, 1) := by decide +kernel
theorem dJ5_append_3fe6f_72 : decode cJ5_append_3fe6f 72 = .ok (.invokestatic 197, 3) := by decide +kernel
theorem dJ5_append_3fe6f_75 : decode cJ5_append_3fe6f 75 = .ok (.aload_n 0, 1) := by decide +kernel
theorem dJ5_append_3fe6f_76 : decode cJ5_append_3fe6f 76 = .ok (.areturn, 1) := by decide +kernel
theorem dJ5_append_c97b9_0 : decode cJ5_append_c97b9 0 = .ok (.aload_n 0, 1) := by decide +kernel
theorem dJ5_append_c97b9_1 : decode cJ5_append_c97b9 1 = .ok (.getfield 79, 3) := by decide +kernel
theorem dJ5_append_c97b9_4 : decode cJ5_append_c97b9 4 = .ok (.istore_n 2, 1) := by decide +kernel
theorem dJ5_append_c97b9_5 : decode cJ5_append_c97b9 5 = .ok (.iload_n 2, 1) := by decide +kernel
theorem dJ5_append_c97b9_6 : decode cJ5_append_c97b9 6 = .ok (.iload_n 1, 1) := by decide +kernel
theorem dJ5_append_c97b9_7 : decode cJ5_append_c97b9 7 = .ok (.invokestatic 245, 3) := by decide +kernel
theorem dJ5_append_c97b9_10 : decode cJ5_append_c97b9 10 = .ok (.iadd, 1) := by decide +kernel
theorem dJ5_append_c97b9_11 : decode cJ5_append_c97b9 11 = .ok (.istore_n 3, 1) := by decide +kernel
theorem dJ5_append_c97b9_12 : decode cJ5_append_c97b9 12 = .ok (.aload_n 0, 1) := by decide +kernel
theorem dJ5_append_c97b9_13 : decode cJ5_append_c97b9 13 = .ok (.iload_n 3, 1) := by decide +kernel
theorem dJ5_append_c97b9_14 : decode cJ5_append_c97b9 14 = .ok (.invokevirtual 100, 3) := by decide +kernel
theorem dJ5_append_c97b9_17 : decode cJ5_append_c97b9 17 = .ok (.aload_n 0, 1) := by decide +kernel
theorem dJ5_append_c97b9_18 : decode cJ5_append_c97b9 18 = .ok (.invokevirtual 83, 3) := by decide +kernel
theorem dJ5_append_c97b9_21 : decode cJ5_append_c97b9 21 = .ok (.ifCond .eq 16, 3) := by decide +kernel
theorem dJ5_append_c97b9_24 : decode cJ5_append_c97b9 24 = .ok (.iload_n 1, 1) := by decide +kernel
theorem dJ5_append_c97b9_25 : decode cJ5_append_c97b9 25 = .ok (.iload_n 3, 1) := by decide +kernel
theorem dJ5_append_c97b9_26 : decode cJ5_append_c97b9 26 = .ok (.aload_n 0, 1) := by decide +kernel
theorem dJ5_append_c97b9_27 : decode cJ5_append_c97b9 27 = .ok (.getfield 15, 3) := by decide +kernel
theorem dJ5_append_c97b9_30 : decode cJ5_append_c97b9 30 = .ok (.invokestatic 248, 3) := by decide +kernel
theorem dJ5_append_c97b9_33 : decode cJ5_append_c97b9 33 = .ok (.pop, 1) := by decide +kernel
theorem dJ5_append_c97b9_34 : decode cJ5_append_c97b9 34 = .ok (.goto 14, 3) := by decide +kernel
theorem dJ5_append_c97b9_37 : decode cJ5_append_c97b9 37 = .ok (.iload_n 1, 1) := by decide +kernel
theorem dJ5_append_c97b9_38 : decode cJ5_append_c97b9 38 = .ok (.iload_n 2, 1) := by decide +kernel
theorem dJ5_append_c97b9_39 : decode cJ5_append_c97b9 39 = .ok (.iload_n 3, 1) := by decide +kernel
theorem dJ5_append_c97b9_40 : decode cJ5_append_c97b9 40 = .ok (.aload_n 0, 1) := by decide +kernel
theorem dJ5_append_c97b9_41 : decode cJ5_append_c97b9 41 = .ok (.getfield 15, 3) := by decide +kernel
theorem dJ5_append_c97b9_44 : decode cJ5_append_c97b9 44 = .ok (.invokestatic 251, 3) := by decide +kernel
theorem dJ5_append_c97b9_47 : decode cJ5_append_c97b9 47 = .ok (.pop, 1) := by decide +kernel
theorem dJ5_append_c97b9_48 : decode cJ5_append_c97b9 48 = .ok (.aload_n 0, 1) := by decide +kernel
theorem dJ5_append_c97b9_49 : decode cJ5_append_c97b9 49 = .ok (.iload_n 3, 1) := by decide +kernel
theorem dJ5_append_c97b9_50 : decode cJ5_append_c97b9 50 = .ok (.putfield 79, 3) := by decide +kernel
theorem dJ5_append_c97b9_53 : decode cJ5_append_c97b9 53 = .ok (.aload_n 0, 1) := by decide +kernel
theorem dJ5_append_c97b9_54 : decode cJ5_append_c97b9 54 = .ok (.areturn, 1) := by decide +kernel
theorem dJ5_getValue_6d5f1_0 : decode cJ5_getValue_6d5f1 0 = .ok (.aload_n 0, 1) := by decide +kernel
theorem dJ5_getValue_6d5f1_1 : decode cJ5_getValue_6d5f1 1 = .ok (.getfield 15, 3) := by decide +kernel
theorem dJ5_getValue_6d5f1_4 : decode cJ5_getValue_6d5f1 4 = .ok (.areturn, 1) := by decide +kernel
theorem dJ5_isLatin1_aae02_0 : decode cJ5_isLatin1_aae02 0 = .ok (.getstatic 18, 3) := by decide +kernel
theorem dJ5_isLatin1_aae02_3 : decode cJ5_isLatin1_aae02 3 = .ok (.ifCond .eq 14, 3) := by decide +kernel
theorem dJ5_isLatin1_aae02_6 : decode cJ5_isLatin1_aae02 6 = .ok (.aload_n 0, 1) := by decide +kernel
theorem dJ5_isLatin1_aae02_7 : decode cJ5_isLatin1_aae02 7 = .ok (.getfield 22, 3) := by decide +kernel
theorem dJ5_isLatin1_aae02_10 : decode cJ5_isLatin1_aae02 10 = .ok (.ifCond .ne 7, 3) := by decide +kernel
theorem dJ5_isLatin1_aae02_13 : decode cJ5_isLatin1_aae02 13 = .ok (.iconst 1, 1) := by decide +kernel
theorem dJ5_isLatin1_aae02_14 : decode cJ5_isLatin1_aae02 14 = .ok (.goto 4, 3) := by decide +kernel
theorem dJ5_isLatin1_aae02_17 : decode cJ5_isLatin1_aae02 17 = .ok (.iconst 0, 1) := by decide +kernel
theorem dJ5_isLatin1_aae02_18 : decode cJ5_isLatin1_aae02 18 = .ok (.ireturn, 1) := by decide +kernel
theorem dJ5_inflateIfNeededFor_a7421_0 : decode cJ5_inflateIfNeededFor_a7421 0 = .ok (.getstatic 18, 3) := by decide +kernel
theorem dJ5_inflateIfNeededFor_a7421_3 : decode cJ5_inflateIfNeededFor_a7421 3 = .ok (.ifCond .eq 18, 3) := by decide +kernel
theorem dJ5_inflateIfNeededFor_a7421_6 : decode cJ5_inflateIfNeededFor_a7421 6 = .ok (.aload_n 0, 1) := by decide +kernel
theorem dJ5_inflateIfNeededFor_a7421_7 : decode cJ5_inflateIfNeededFor_a7421 7 = .ok (.getfield 22, 3) := by decide +kernel
theorem dJ5_inflateIfNeededFor_a7421_10 : decode cJ5_inflateIfNeededFor_a7421 10 = .ok (.aload_n 1, 1) := by decide +kernel
theorem dJ5_inflateIfNeededFor_a7421_11 : decode cJ5_inflateIfNeededFor_a7421 11 = .ok (.invokevirtual 40, 3) := by decide +kernel
theorem dJ5_inflateIfNeededFor_a7421_14 : decode cJ5_inflateIfNeededFor_a7421 14 = .ok (.if_icmp .eq 7, 3) := by decide +kernel
theorem dJ5_inflateIfNeededFor_a7421_17 : decode cJ5_inflateIfNeededFor_a7421 17 = .ok (.aload_n 0, 1) := by decide +kernel
theorem dJ5_inflateIfNeededFor_a7421_18 : decode cJ5_inflateIfNeededFor_a7421 18 = .ok (.invokevirtual 195, 3) := by decide +kernel
theorem dJ5_inflateIfNeededFor_a7421_21 : decode cJ5_inflateIfNeededFor_a7421 21 = .ok (.return_, 1) := by decide +kernel
theorem dJ5_putStringAt_47b60_0 : decode cJ5_putStringAt_47b60 0 = .ok (.aload_n 0, 1) := by decide +kernel
theorem dJ5_putStringAt_47b60_1 : decode cJ5_putStringAt_47b60 1 = .ok (.aload_n 2, 1) := by decide +kernel
theorem dJ5_putStringAt_47b60_2 : decode cJ5_putStringAt_47b60 2 = .ok (.invokevirtual 397, 3) := by decide +kernel
theorem dJ5_putStringAt_47b60_5 : decode cJ5_putStringAt_47b60 5 = .ok (.aload_n 2, 1) := by decide +kernel
theorem dJ5_putStringAt_47b60_6 : decode cJ5_putStringAt_47b60 6 = .ok (.aload_n 0, 1) := by decide +kernel
theorem dJ5_putStringAt_47b60_7 : decode cJ5_putStringAt_47b60 7 = .ok (.getfield 15, 3) := by decide +kernel
theorem dJ5_putStringAt_47b60_10 : decode cJ5_putStringAt_47b60 10 = .ok (.iload_n 1, 1) := by decide +kernel
theorem dJ5_putStringAt_47b60_11 : decode cJ5_putStringAt_47b60 11 = .ok (.aload_n 0, 1) := by decide +kernel
theorem dJ5_putStringAt_47b60_12 : decode cJ5_putStringAt_47b60 12 = .ok (.getfield 22, 3) := by decide +kernel
theorem dJ5_putStringAt_47b60_15 : decode cJ5_putStringAt_47b60 15 = .ok (.invokevirtual 399, 3) := by decide +kernel
theorem dJ5_putStringAt_47b60_18 : decode cJ5_putStringAt_47b60 18 = .ok (.return_, 1) := by decide +kernel
theorem dJ6_getChars_ba4f3_0 : decode cJ6_getChars_ba4f3 0 = .ok (.iload_n 1, 1) := by decide +kernel
theorem dJ6_getChars_ba4f3_1 : decode cJ6_getChars_ba4f3 1 = .ok (.istore 5, 2) := by decide +kernel
theorem dJ6_getChars_ba4f3_3 : decode cJ6_getChars_ba4f3 3 = .ok (.iload_n 0, 1) := by decide +kernel
theorem dJ6_getChars_ba4f3_4 : decode cJ6_getChars_ba4f3 4 = .ok (.ifCond .ge 7, 3) := by decide +kernel
theorem dJ6_getChars_ba4f3_7 : decode cJ6_getChars_ba4f3 7 = .ok (.iconst 1, 1) := by decide +kernel
theorem dJ6_getChars_ba4f3_8 : decode cJ6_getChars_ba4f3 8 = .ok (.goto 4, 3) := by decide +kernel
theorem dJ6_getChars_ba4f3_11 : decode cJ6_getChars_ba4f3 11 = .ok (.iconst 0, 1) := by decide +kernel
theorem dJ6_getChars_ba4f3_12 : decode cJ6_getChars_ba4f3 12 = .ok (.istore 6, 2) := by decide +kernel
theorem dJ6_getChars_ba4f3_14 : decode cJ6_getChars_ba4f3 14 = .ok (.iload 6, 2) := by decide +kernel
theorem dJ6_getChars_ba4f3_16 : decode cJ6_getChars_ba4f3 16 = .ok (.ifCond .ne 6, 3) := by decide +kernel
theorem dJ6_getChars_ba4f3_19 : decode cJ6_getChars_ba4f3 19 = .ok (.iload_n 0, 1) := by decide +kernel
theorem dJ6_getChars_ba4f3_20 : decode cJ6_getChars_ba4f3 20 = .ok (.ineg, 1) := by decide +kernel
theorem dJ6_getChars_ba4f3_21 : decode cJ6_getChars_ba4f3 21 = .ok (.istore_n 0, 1) := by decide +kernel
theorem dJ6_getChars_ba4f3_22 : decode cJ6_getChars_ba4f3 22 = .ok (.iload_n 0, 1) := by decide +kernel
theorem dJ6_getChars_ba4f3_23 : decode cJ6_getChars_ba4f3 23 = .ok (.bipush (-100), 2) := by decide +kernel
theorem dJ6_getChars_ba4f3_25 : decode cJ6_getChars_ba4f3 25 = .ok (.if_icmp .gt 47, 3) := by decide +kernel
theorem dJ6_getChars_ba4f3_28 : decode cJ6_getChars_ba4f3 28 = .ok (.iload_n 0, 1) := by decide +kernel
theorem dJ6_getChars_ba4f3_29 : decode cJ6_getChars_ba4f3 29 = .ok (.bipush 100, 2) := by decide +kernel
theorem dJ6_getChars_ba4f3_31 : decode cJ6_getChars_ba4f3 31 = .ok (.idiv, 1) := by decide +kernel
theorem dJ6_getChars_ba4f3_32 : decode cJ6_getChars_ba4f3 32 = .ok (.istore_n 3, 1) := by decide +kernel
theorem dJ6_getChars_ba4f3_33 : decode cJ6_getChars_ba4f3 33 = .ok (.iload_n 3, 1) := by decide +kernel
theorem dJ6_getChars_ba4f3_34 : decode cJ6_getChars_ba4f3 34 = .ok (.bipush 100, 2) := by decide +kernel
theorem dJ6_getChars_ba4f3_36 : decode cJ6_getChars_ba4f3 36 = .ok (.imul, 1) := by decide +kernel
theorem dJ6_getChars_ba4f3_37 : decode cJ6_getChars_ba4f3 37 = .ok (.iload_n 0, 1) := by decide +kernel
theorem dJ6_getChars_ba4f3_38 : decode cJ6_getChars_ba4f3 38 = .ok (.isub, 1) := by decide +kernel
theorem dJ6_getChars_ba4f3_39 : decode cJ6_getChars_ba4f3 39 = .ok (.istore 4, 2) := by decide +kernel
theorem dJ6_getChars_ba4f3_41 : decode cJ6_getChars_ba4f3 41 = .ok (.iload_n 3, 1) := by decide +kernel
theorem dJ6_getChars_ba4f3_42 : decode cJ6_getChars_ba4f3 42 = .ok (.istore_n 0, 1) := by decide +kernel
theorem dJ6_getChars_ba4f3_43 : decode cJ6_getChars_ba4f3 43 = .ok (.aload_n 2, 1) := by decide +kernel
theorem dJ6_getChars_ba4f3_44 : decode cJ6_getChars_ba4f3 44 = .ok (.iinc 5 (-1), 3) := by decide +kernel
theorem dJ6_getChars_ba4f3_47 : decode cJ6_getChars_ba4f3 47 = .ok (.iload 5, 2) := by decide +kernel
theorem dJ6_getChars_ba4f3_49 : decode cJ6_getChars_ba4f3 49 = .ok (.getstatic 83, 3) := by decide +kernel
theorem dJ6_getChars_ba4f3_52 : decode cJ6_getChars_ba4f3 52 = .ok (.iload 4, 2) := by decide +kernel
theorem dJ6_getChars_ba4f3_54 : decode cJ6_getChars_ba4f3 54 = .ok (.baload, 1) := by decide +kernel
theorem dJ6_getChars_ba4f3_55 : decode cJ6_getChars_ba4f3 55 = .ok (.bastore, 1) := by decide +kernel
theorem dJ6_getChars_ba4f3_56 : decode cJ6_getChars_ba4f3 56 = .ok (.aload_n 2, 1) := by decide +kernel
theorem dJ6_getChars_ba4f3_57 : decode cJ6_getChars_ba4f3 57 = .ok (.iinc 5 (-1), 3) := by decide +kernel
theorem dJ6_getChars_ba4f3_60 : decode cJ6_getChars_ba4f3 60 = .ok (.iload 5, 2) := by decide +kernel
theorem dJ6_getChars_ba4f3_62 : decode cJ6_getChars_ba4f3 62 = .ok (.getstatic 87, 3) := by decide +kernel
theorem dJ6_getChars_ba4f3_65 : decode cJ6_getChars_ba4f3 65 = .ok (.iload 4, 2) := by decide +kernel
theorem dJ6_getChars_ba4f3_67 : decode cJ6_getChars_ba4f3 67 = .ok (.baload, 1) := by decide +kernel
theorem dJ6_getChars_ba4f3_68 : decode cJ6_getChars_ba4f3 68 = .ok (.bastore, 1) := by decide +kernel
theorem dJ6_getChars_ba4f3_69 : decode cJ6_getChars_ba4f3 69 = .ok (.goto (-47), 3) := by decide +kernel
theorem dJ6_getChars_ba4f3_72 : decode cJ6_getChars_ba4f3 72 = .ok (.aload_n 2, 1) := by decide +kernel
theorem dJ6_getChars_ba4f3_73 : decode cJ6_getChars_ba4f3 73 = .ok (.iinc 5 (-1), 3) := by decide +kernel
theorem dJ6_getChars_ba4f3_76 : decode cJ6_getChars_ba4f3 76 = .ok (.iload 5, 2) := by decide +kernel
theorem dJ6_getChars_ba4f3_78 : decode cJ6_getChars_ba4f3 78 = .ok (.getstatic 83, 3) := by decide +kernel
theorem dJ6_getChars_ba4f3_81 : decode cJ6_getChars_ba4f3 81 = .ok (.iload_n 0, 1) := by decide +kernel
theorem dJ6_getChars_ba4f3_82 : decode cJ6_getChars_ba4f3 82 = .ok (.ineg, 1) := by decide +kernel
theorem dJ6_getChars_ba4f3_83 : decode cJ6_getChars_ba4f3 83 = .ok (.baload, 1) := by decide +kernel
theorem dJ6_getChars_ba4f3_84 : decode cJ6_getChars_ba4f3 84 = .ok (.bastore, 1) := by decide +kernel
theorem dJ6_getChars_ba4f3_85 : decode cJ6_getChars_ba4f3 85 = .ok (.iload_n 0, 1) := by decide +kernel
theorem dJ6_getChars_ba4f3_86 : decode cJ6_getChars_ba4f3 86 = .ok (.bipush (-9), 2) := by decide +kernel
theorem dJ6_getChars_ba4f3_88 : decode cJ6_getChars_ba4f3 88 = .ok (.if_icmp .ge 16, 3) := by decide +kernel
theorem dJ6_getChars_ba4f3_91 : decode cJ6_getChars_ba4f3 91 = .ok (.aload_n 2, 1) := by decide +kernel
theorem dJ6_getChars_ba4f3_92 : decode cJ6_getChars_ba4f3 92 = .ok (.iinc 5 (-1), 3) := by decide +kernel
theorem dJ6_getChars_ba4f3_95 : decode cJ6_getChars_ba4f3 95 = .ok (.iload 5, 2) := by decide +kernel
theorem dJ6_getChars_ba4f3_97 : decode cJ6_getChars_ba4f3 97 = .ok (.getstatic 87, 3) := by decide +kernel
theorem dJ6_getChars_ba4f3_100 : decode cJ6_getChars_ba4f3 100 = .ok (.iload_n 0, 1) := by decide +kernel
theorem dJ6_getChars_ba4f3_101 : decode cJ6_getChars_ba4f3 101 = .ok (.ineg, 1) := by decide +kernel
theorem dJ6_getChars_ba4f3_102 : decode cJ6_getChars_ba4f3 102 = .ok (.baload, 1) := by decide +kernel
theorem dJ6_getChars_ba4f3_103 : decode cJ6_getChars_ba4f3 103 = .ok (.bastore, 1) := by decide +kernel
theorem dJ6_getChars_ba4f3_104 : decode cJ6_getChars_ba4f3 104 = .ok (.iload 6, 2) := by decide +kernel
theorem dJ6_getChars_ba4f3_106 : decode cJ6_getChars_ba4f3 106 = .ok (.ifCond .eq 12, 3) := by decide +kernel
theorem dJ6_getChars_ba4f3_109 : decode cJ6_getChars_ba4f3 109 = .ok (.aload_n 2, 1) := by decide +kernel
theorem dJ6_getChars_ba4f3_110 : decode cJ6_getChars_ba4f3 110 = .ok (.iinc 5 (-1), 3) := by decide +kernel
theorem dJ6_getChars_ba4f3_113 : decode cJ6_getChars_ba4f3 113 = .ok (.iload 5, 2) := by decide +kernel
theorem dJ6_getChars_ba4f3_115 : decode cJ6_getChars_ba4f3 115 = .ok (.bipush 45, 2) := by decide +kernel
theorem dJ6_getChars_ba4f3_117 : decode cJ6_getChars_ba4f3 117 = .ok (.bastore, 1) := by decide +kernel
theorem dJ6_getChars_ba4f3_118 : decode cJ6_getChars_ba4f3 118 = .ok (.iload 5, 2) := by decide +kernel
theorem dJ6_getChars_ba4f3_120 : decode cJ6_getChars_ba4f3 120 = .ok (.ireturn, 1) := by decide +kernel
theorem dJ6_stringSize_0f7a4_0 : decode cJ6_stringSize_0f7a4 0 = .ok (.iconst 1, 1) := by decide +kernel
theorem dJ6_stringSize_0f7a4_1 : decode cJ6_stringSize_0f7a4 1 = .ok (.istore_n 1, 1) := by decide +kernel
theorem dJ6_stringSize_0f7a4_2 : decode cJ6_stringSize_0f7a4 2 = .ok (.iload_n 0, 1) := by decide +kernel
theorem dJ6_stringSize_0f7a4_3 : decode cJ6_stringSize_0f7a4 3 = .ok (.ifCond .lt 8, 3) := by decide +kernel
theorem dJ6_stringSize_0f7a4_6 : decode cJ6_stringSize_0f7a4 6 = .ok (.iconst 0, 1) := by decide +kernel
theorem dJ6_stringSize_0f7a4_7 : decode cJ6_stringSize_0f7a4 7 = .ok (.istore_n 1, 1) := by decide +kernel
theorem dJ6_stringSize_0f7a4_8 : decode cJ6_stringSize_0f7a4 8 = .ok (.iload_n 0, 1) := by decide +kernel
theorem dJ6_stringSize_0f7a4_9 : decode cJ6_stringSize_0f7a4 9 = .ok (.ineg, 1) := by decide +kernel
theorem dJ6_stringSize_0f7a4_10 : decode cJ6_stringSize_0f7a4 10 = .ok (.istore_n 0, 1) := by decide +kernel
theorem dJ6_stringSize_0f7a4_11 : decode cJ6_stringSize_0f7a4 11 = .ok (.bipush (-10), 2) := by decide +kernel
theorem dJ6_stringSize_0f7a4_13 : decode cJ6_stringSize_0f7a4 13 = .ok (.istore_n 2, 1) := by decide +kernel
theorem dJ6_stringSize_0f7a4_14 : decode cJ6_stringSize_0f7a4 14 = .ok (.iconst 1, 1) := by decide +kernel
theorem dJ6_stringSize_0f7a4_15 : decode cJ6_stringSize_0f7a4 15 = .ok (.istore_n 3, 1) := by decide +kernel
theorem dJ6_stringSize_0f7a4_16 : decode cJ6_stringSize_0f7a4 16 = .ok (.iload_n 3, 1) := by decide +kernel
theorem dJ6_stringSize_0f7a4_17 : decode cJ6_stringSize_0f7a4 17 = .ok (.bipush 10, 2) := by decide +kernel
theorem dJ6_stringSize_0f7a4_19 : decode cJ6_stringSize_0f7a4 19 = .ok (.if_icmp .ge 23, 3) := by decide +kernel
theorem dJ6_stringSize_0f7a4_22 : decode cJ6_stringSize_0f7a4 22 = .ok (.iload_n 0, 1) := by decide +kernel
theorem dJ6_stringSize_0f7a4_23 : decode cJ6_stringSize_0f7a4 23 = .ok (.iload_n 2, 1) := by decide +kernel
theorem dJ6_stringSize_0f7a4_24 : decode cJ6_stringSize_0f7a4 24 = .ok (.if_icmp .le 7, 3) := by decide +kernel
theorem dJ6_stringSize_0f7a4_27 : decode cJ6_stringSize_0f7a4 27 = .ok (.iload_n 3, 1) := by decide +kernel
theorem dJ6_stringSize_0f7a4_28 : decode cJ6_stringSize_0f7a4 28 = .ok (.iload_n 1, 1) := by decide +kernel
theorem dJ6_stringSize_0f7a4_29 : decode cJ6_stringSize_0f7a4 29 = .ok (.iadd, 1) := by decide +kernel
theorem dJ6_stringSize_0f7a4_30 : decode cJ6_stringSize_0f7a4 30 = .ok (.ireturn, 1) := by decide +kernel
theorem dJ6_stringSize_0f7a4_31 : decode cJ6_stringSize_0f7a4 31 = .ok (.bipush 10, 2) := by decide +kernel
theorem dJ6_stringSize_0f7a4_33 : decode cJ6_stringSize_0f7a4 33 = .ok (.iload_n 2, 1) := by decide +kernel
theorem dJ6_stringSize_0f7a4_34 : decode cJ6_stringSize_0f7a4 34 = .ok (.imul, 1) := by decide +kernel
theorem dJ6_stringSize_0f7a4_35 : decode cJ6_stringSize_0f7a4 35 = .ok (.istore_n 2, 1) := by decide +kernel
theorem dJ6_stringSize_0f7a4_36 : decode cJ6_stringSize_0f7a4 36 = .ok (.iinc 3 1, 3) := by decide +kernel
theorem dJ6_stringSize_0f7a4_39 : decode cJ6_stringSize_0f7a4 39 = .ok (.goto (-23), 3) := by decide +kernel
theorem dJ6_stringSize_0f7a4_42 : decode cJ6_stringSize_0f7a4 42 = .ok (.bipush 10, 2) := by decide +kernel
theorem dJ6_stringSize_0f7a4_44 : decode cJ6_stringSize_0f7a4 44 = .ok (.iload_n 1, 1) := by decide +kernel
theorem dJ6_stringSize_0f7a4_45 : decode cJ6_stringSize_0f7a4 45 = .ok (.iadd, 1) := by decide +kernel
theorem dJ6_stringSize_0f7a4_46 : decode cJ6_stringSize_0f7a4 46 = .ok (.ireturn, 1) := by decide +kernel
theorem dJ6_numberOfTrailingZeros_0f7a4_0 : decode cJ6_numberOfTrailingZeros_0f7a4 0 = .ok (.iload_n 0, 1) := by decide +kernel
theorem dJ6_numberOfTrailingZeros_0f7a4_1 : decode cJ6_numberOfTrailingZeros_0f7a4 1 = .ok (.iconst (-1), 1) := by decide +kernel
theorem dJ6_numberOfTrailingZeros_0f7a4_2 : decode cJ6_numberOfTrailingZeros_0f7a4 2 = .ok (.ixor, 1) := by decide +kernel
theorem dJ6_numberOfTrailingZeros_0f7a4_3 : decode cJ6_numberOfTrailingZeros_0f7a4 3 = .ok (.iload_n 0, 1) := by decide +kernel
theorem dJ6_numberOfTrailingZeros_0f7a4_4 : decode cJ6_numberOfTrailingZeros_0f7a4 4 = .ok (.iconst 1, 1) := by decide +kernel
theorem dJ6_numberOfTrailingZeros_0f7a4_5 : decode cJ6_numberOfTrailingZeros_0f7a4 5 = .ok (.isub, 1) := by decide +kernel
theorem dJ6_numberOfTrailingZeros_0f7a4_6 : decode cJ6_numberOfTrailingZeros_0f7a4 6 = .ok (.iand, 1) := by decide +kernel
theorem dJ6_numberOfTrailingZeros_0f7a4_7 : decode cJ6_numberOfTrailingZeros_0f7a4 7 = .ok (.istore_n 0, 1) := by decide +kernel
theorem dJ6_numberOfTrailingZeros_0f7a4_8 : decode cJ6_numberOfTrailingZeros_0f7a4 8 = .ok (.iload_n 0, 1) := by decide +kernel
theorem dJ6_numberOfTrailingZeros_0f7a4_9 : decode cJ6_numberOfTrailingZeros_0f7a4 9 = .ok (.ifCond .gt 8, 3) := by decide +kernel
theorem dJ6_numberOfTrailingZeros_0f7a4_12 : decode cJ6_numberOfTrailingZeros_0f7a4 12 = .ok (.iload_n 0, 1) := by decide +kernel
theorem dJ6_numberOfTrailingZeros_0f7a4_13 : decode cJ6_numberOfTrailingZeros_0f7a4 13 = .ok (.bipush 32, 2) := by decide +kernel
theorem dJ6_numberOfTrailingZeros_0f7a4_15 : decode cJ6_numberOfTrailingZeros_0f7a4 15 = .ok (.iand, 1) := by decide +kernel
theorem dJ6_numberOfTrailingZeros_0f7a4_16 : decode cJ6_numberOfTrailingZeros_0f7a4 16 = .ok (.ireturn, 1) := by decide +kernel
theorem dJ6_numberOfTrailingZeros_0f7a4_17 : decode cJ6_numberOfTrailingZeros_0f7a4 17 = .ok (.iconst 1, 1) := by decide +kernel
theorem dJ6_numberOfTrailingZeros_0f7a4_18 : decode cJ6_numberOfTrailingZeros_0f7a4 18 = .ok (.istore_n 1, 1) := by decide +kernel
theorem dJ6_numberOfTrailingZeros_0f7a4_19 : decode cJ6_numberOfTrailingZeros_0f7a4 19 = .ok (.iload_n 0, 1) := by decide +kernel
theorem dJ6_numberOfTrailingZeros_0f7a4_20 : decode cJ6_numberOfTrailingZeros_0f7a4 20 = .ok (.ldc_w 264, 3) := by decide +kernel
theorem dJ6_numberOfTrailingZeros_0f7a4_23 : decode cJ6_numberOfTrailingZeros_0f7a4 23 = .ok (.if_icmp .le 11, 3) := by decide +kernel
theorem dJ6_numberOfTrailingZeros_0f7a4_26 : decode cJ6_numberOfTrailingZeros_0f7a4 26 = .ok (.iinc 1 16, 3) := by decide +kernel
theorem dJ6_numberOfTrailingZeros_0f7a4_29 : decode cJ6_numberOfTrailingZeros_0f7a4 29 = .ok (.iload_n 0, 1) := by decide +kernel
theorem dJ6_numberOfTrailingZeros_0f7a4_30 : decode cJ6_numberOfTrailingZeros_0f7a4 30 = .ok (.bipush 16, 2) := by decide +kernel
theorem dJ6_numberOfTrailingZeros_0f7a4_32 : decode cJ6_numberOfTrailingZeros_0f7a4 32 = .ok (.iushr, 1) := by decide +kernel
theorem dJ6_numberOfTrailingZeros_0f7a4_33 : decode cJ6_numberOfTrailingZeros_0f7a4 33 = .ok (.istore_n 0, 1) := by decide +kernel
theorem dJ6_numberOfTrailingZeros_0f7a4_34 : decode cJ6_numberOfTrailingZeros_0f7a4 34 = .ok (.iload_n 0, 1) := by decide +kernel
theorem dJ6_numberOfTrailingZeros_0f7a4_35 : decode cJ6_numberOfTrailingZeros_0f7a4 35 = .ok (.sipush 256, 3) := by decide +kernel
theorem dJ6_numberOfTrailingZeros_0f7a4_38 : decode cJ6_numberOfTrailingZeros_0f7a4 38 = .ok (.if_icmp .le 11, 3) := by decide +kernel
theorem dJ6_numberOfTrailingZeros_0f7a4_41 : decode cJ6_numberOfTrailingZeros_0f7a4 41 = .ok (.iinc 1 8, 3) := by decide +kernel
theorem dJ6_numberOfTrailingZeros_0f7a4_44 : decode cJ6_numberOfTrailingZeros_0f7a4 44 = .ok (.iload_n 0, 1) := by decide +kernel
theorem dJ6_numberOfTrailingZeros_0f7a4_45 : decode cJ6_numberOfTrailingZeros_0f7a4 45 = .ok (.bipush 8, 2) := by decide +kernel
theorem dJ6_numberOfTrailingZeros_0f7a4_47 : decode cJ6_numberOfTrailingZeros_0f7a4 47 = .ok (.iushr, 1) := by decide +kernel
theorem dJ6_numberOfTrailingZeros_0f7a4_48 : decode cJ6_numberOfTrailingZeros_0f7a4 48 = .ok (.istore_n 0, 1) := by decide +kernel
theorem dJ6_numberOfTrailingZeros_0f7a4_49 : decode cJ6_numberOfTrailingZeros_0f7a4 49 = .ok (.iload_n 0, 1) := by decide +kernel
theorem dJ6_numberOfTrailingZeros_0f7a4_50 : decode cJ6_numberOfTrailingZeros_0f7a4 50 = .ok (.bipush 16, 2) := by decide +kernel
theorem dJ6_numberOfTrailingZeros_0f7a4_52 : decode cJ6_numberOfTrailingZeros_0f7a4 52 = .ok (.if_icmp .le 10, 3) := by decide +kernel
theorem dJ6_numberOfTrailingZeros_0f7a4_55 : decode cJ6_numberOfTrailingZeros_0f7a4 55 = .ok (.iinc 1 4, 3) := by decide +kernel
theorem dJ6_numberOfTrailingZeros_0f7a4_58 : decode cJ6_numberOfTrailingZeros_0f7a4 58 = .ok (.iload_n 0, 1) := by decide +kernel
theorem dJ6_numberOfTrailingZeros_0f7a4_59 : decode cJ6_numberOfTrailingZeros_0f7a4 59 = .ok (.iconst 4, 1) := by decide +kernel
theorem dJ6_numberOfTrailingZeros_0f7a4_60 : decode cJ6_numberOfTrailingZeros_0f7a4 60 = .ok (.iushr, 1) := by decide +kernel
theorem dJ6_numberOfTrailingZeros_0f7a4_61 : decode cJ6_numberOfTrailingZeros_0f7a4 61 = .ok (.istore_n 0, 1) := by decide +kernel
theorem dJ6_numberOfTrailingZeros_0f7a4_62 : decode cJ6_numberOfTrailingZeros_0f7a4 62 = .ok (.iload_n 0, 1) := by decide +kernel
theorem dJ6_numberOfTrailingZeros_0f7a4_63 : decode cJ6_numberOfTrailingZeros_0f7a4 63 = .ok (.iconst 4, 1) := by decide +kernel
theorem dJ6_numberOfTrailingZeros_0f7a4_64 : decode cJ6_numberOfTrailingZeros_0f7a4 64 = .ok (.if_icmp .le 10, 3) := by decide +kernel
theorem dJ6_numberOfTrailingZeros_0f7a4_67 : decode cJ6_numberOfTrailingZeros_0f7a4 67 = .ok (.iinc 1 2, 3) := by decide +kernel
theorem dJ6_numberOfTrailingZeros_0f7a4_70 : decode cJ6_numberOfTrailingZeros_0f7a4 70 = .ok (.iload_n 0, 1) := by decide +kernel
theorem dJ6_numberOfTrailingZeros_0f7a4_71 : decode cJ6_numberOfTrailingZeros_0f7a4 71 = .ok (.iconst 2, 1) := by decide +kernel
theorem dJ6_numberOfTrailingZeros_0f7a4_72 : decode cJ6_numberOfTrailingZeros_0f7a4 72 = .ok (.iushr, 1) := by decide +kernel
theorem dJ6_numberOfTrailingZeros_0f7a4_73 : decode cJ6_numberOfTrailingZeros_0f7a4 73 = .ok (.istore_n 0, 1) := by decide +kernel
theorem dJ6_numberOfTrailingZeros_0f7a4_74 : decode cJ6_numberOfTrailingZeros_0f7a4 74 = .ok (.iload_n 1, 1) := by decide +kernel
theorem dJ6_numberOfTrailingZeros_0f7a4_75 : decode cJ6_numberOfTrailingZeros_0f7a4 75 = .ok (.iload_n 0, 1) := by decide +kernel
theorem dJ6_numberOfTrailingZeros_0f7a4_76 : decode cJ6_numberOfTrailingZeros_0f7a4 76 = .ok (.iconst 1, 1) := by decide +kernel
theorem dJ6_numberOfTrailingZeros_0f7a4_77 : decode cJ6_numberOfTrailingZeros_0f7a4 77 = .ok (.iushr, 1) := by decide +kernel
theorem dJ6_numberOfTrailingZeros_0f7a4_78 : decode cJ6_numberOfTrailingZeros_0f7a4 78 = .ok (.iadd, 1) := by decide +kernel
theorem dJ6_numberOfTrailingZeros_0f7a4_79 : decode cJ6_numberOfTrailingZeros_0f7a4 79 = .ok (.ireturn, 1) := by decide +kernel
theorem dJ6_bitCount_0f7a4_0 : decode cJ6_bitCount_0f7a4 0 = .ok (.iload_n 0, 1) := by decide +kernel
theorem dJ6_bitCount_0f7a4_1 : decode cJ6_bitCount_0f7a4 1 = .ok (.iload_n 0, 1) := by decide +kernel
theorem dJ6_bitCount_0f7a4_2 : decode cJ6_bitCount_0f7a4 2 = .ok (.iconst 1, 1) := by decide +kernel
theorem dJ6_bitCount_0f7a4_3 : decode cJ6_bitCount_0f7a4 3 = .ok (.iushr, 1) := by decide +kernel
theorem dJ6_bitCount_0f7a4_4 : decode cJ6_bitCount_0f7a4 4 = .ok (.ldc_w 265, 3) := by decide +kernel
theorem dJ6_bitCount_0f7a4_7 : decode cJ6_bitCount_0f7a4 7 = .ok (.iand, 1) := by decide +kernel
theorem dJ6_bitCount_0f7a4_8 : decode cJ6_bitCount_0f7a4 8 = .ok (.isub, 1) := by decide +kernel
theorem dJ6_bitCount_0f7a4_9 : decode cJ6_bitCount_0f7a4 9 = .ok (.istore_n 0, 1) := by decide +kernel
theorem dJ6_bitCount_0f7a4_10 : decode cJ6_bitCount_0f7a4 10 = .ok (.iload_n 0, 1) := by decide +kernel
theorem dJ6_bitCount_0f7a4_11 : decode cJ6_bitCount_0f7a4 11 = .ok (.ldc_w 266, 3) := by decide +kernel
theorem dJ6_bitCount_0f7a4_14 : decode cJ6_bitCount_0f7a4 14 = .ok (.iand, 1) := by decide +kernel
theorem dJ6_bitCount_0f7a4_15 : decode cJ6_bitCount_0f7a4 15 = .ok (.iload_n 0, 1) := by decide +kernel
theorem dJ6_bitCount_0f7a4_16 : decode cJ6_bitCount_0f7a4 16 = .ok (.iconst 2, 1) := by decide +kernel
theorem dJ6_bitCount_0f7a4_17 : decode cJ6_bitCount_0f7a4 17 = .ok (.iushr, 1) := by decide +kernel
theorem dJ6_bitCount_0f7a4_18 : decode cJ6_bitCount_0f7a4 18 = .ok (.ldc_w 266, 3) := by decide +kernel
theorem dJ6_bitCount_0f7a4_21 : decode cJ6_bitCount_0f7a4 21 = .ok (.iand, 1) := by decide +kernel
theorem dJ6_bitCount_0f7a4_22 : decode cJ6_bitCount_0f7a4 22 = .ok (.iadd, 1) := by decide +kernel
theorem dJ6_bitCount_0f7a4_23 : decode cJ6_bitCount_0f7a4 23 = .ok (.istore_n 0, 1) := by decide +kernel
theorem dJ6_bitCount_0f7a4_24 : decode cJ6_bitCount_0f7a4 24 = .ok (.iload_n 0, 1) := by decide +kernel
theorem dJ6_bitCount_0f7a4_25 : decode cJ6_bitCount_0f7a4 25 = .ok (.iload_n 0, 1) := by decide +kernel
theorem dJ6_bitCount_0f7a4_26 : decode cJ6_bitCount_0f7a4 26 = .ok (.iconst 4, 1) := by decide +kernel
theorem dJ6_bitCount_0f7a4_27 : decode cJ6_bitCount_0f7a4 27 = .ok (.iushr, 1) := by decide +kernel
theorem dJ6_bitCount_0f7a4_28 : decode cJ6_bitCount_0f7a4 28 = .ok (.iadd, 1) := by decide +kernel
theorem dJ6_bitCount_0f7a4_29 : decode cJ6_bitCount_0f7a4 29 = .ok (.ldc_w 267, 3) := by decide +kernel
theorem dJ6_bitCount_0f7a4_32 : decode cJ6_bitCount_0f7a4 32 = .ok (.iand, 1) := by decide +kernel
theorem dJ6_bitCount_0f7a4_33 : decode cJ6_bitCount_0f7a4 33 = .ok (.istore_n 0, 1) := by decide +kernel
theorem dJ6_bitCount_0f7a4_34 : decode cJ6_bitCount_0f7a4 34 = .ok (.iload_n 0, 1) := by decide +kernel
theorem dJ6_bitCount_0f7a4_35 : decode cJ6_bitCount_0f7a4 35 = .ok (.iload_n 0, 1) := by decide +kernel
theorem dJ6_bitCount_0f7a4_36 : decode cJ6_bitCount_0f7a4 36 = .ok (.bipush 8, 2) := by decide +kernel
theorem dJ6_bitCount_0f7a4_38 : decode cJ6_bitCount_0f7a4 38 = .ok (.iushr, 1) := by decide +kernel
theorem dJ6_bitCount_0f7a4_39 : decode cJ6_bitCount_0f7a4 39 = .ok (.iadd, 1) := by decide +kernel
theorem dJ6_bitCount_0f7a4_40 : decode cJ6_bitCount_0f7a4 40 = .ok (.istore_n 0, 1) := by decide +kernel
theorem dJ6_bitCount_0f7a4_41 : decode cJ6_bitCount_0f7a4 41 = .ok (.iload_n 0, 1) := by decide +kernel
theorem dJ6_bitCount_0f7a4_42 : decode cJ6_bitCount_0f7a4 42 = .ok (.iload_n 0, 1) := by decide +kernel
theorem dJ6_bitCount_0f7a4_43 : decode cJ6_bitCount_0f7a4 43 = .ok (.bipush 16, 2) := by decide +kernel
theorem dJ6_bitCount_0f7a4_45 : decode cJ6_bitCount_0f7a4 45 = .ok (.iushr, 1) := by decide +kernel
theorem dJ6_bitCount_0f7a4_46 : decode cJ6_bitCount_0f7a4 46 = .ok (.iadd, 1) := by decide +kernel
theorem dJ6_bitCount_0f7a4_47 : decode cJ6_bitCount_0f7a4 47 = .ok (.istore_n 0, 1) := by decide +kernel
theorem dJ6_bitCount_0f7a4_48 : decode cJ6_bitCount_0f7a4 48 = .ok (.iload_n 0, 1) := by decide +kernel
theorem dJ6_bitCount_0f7a4_49 : decode cJ6_bitCount_0f7a4 49 = .ok (.bipush 63, 2) := by decide +kernel
theorem dJ6_bitCount_0f7a4_51 : decode cJ6_bitCount_0f7a4 51 = .ok (.iand, 1) := by decide +kernel
theorem dJ6_bitCount_0f7a4_52 : decode cJ6_bitCount_0f7a4 52 = .ok (.ireturn, 1) := by decide +kernel
theorem dJ9_abs_0f7a4_0 : decode cJ9_abs_0f7a4 0 = .ok (.iload_n 0, 1) := by decide +kernel
theorem dJ9_abs_0f7a4_1 : decode cJ9_abs_0f7a4 1 = .ok (.ifCond .ge 8, 3) := by decide +kernel
theorem dJ9_abs_0f7a4_4 : decode cJ9_abs_0f7a4 4 = .ok (.iload_n 0, 1) := by decide +kernel
theorem dJ9_abs_0f7a4_5 : decode cJ9_abs_0f7a4 5 = .ok (.ineg, 1) := by decide +kernel
theorem dJ9_abs_0f7a4_6 : decode cJ9_abs_0f7a4 6 = .ok (.goto 4, 3) := by decide +kernel
theorem dJ9_abs_0f7a4_9 : decode cJ9_abs_0f7a4 9 = .ok (.iload_n 0, 1) := by decide +kernel
theorem dJ9_abs_0f7a4_10 : decode cJ9_abs_0f7a4 10 = .ok (.ireturn, 1) := by decide +kernel
theorem dJ9_max_7cf53_0 : decode cJ9_max_7cf53 0 = .ok (.iload_n 0, 1) := by decide +kernel
theorem dJ9_max_7cf53_1 : decode cJ9_max_7cf53 1 = .ok (.iload_n 1, 1) := by decide +kernel
theorem dJ9_max_7cf53_2 : decode cJ9_max_7cf53 2 = .ok (.if_icmp .lt 7, 3) := by decide +kernel
theorem dJ9_max_7cf53_5 : decode cJ9_max_7cf53 5 = .ok (.iload_n 0, 1) := by decide +kernel
theorem dJ9_max_7cf53_6 : decode cJ9_max_7cf53 6 = .ok (.goto 4, 3) := by decide +kernel
theorem dJ9_max_7cf53_9 : decode cJ9_max_7cf53 9 = .ok (.iload_n 1, 1) := by decide +kernel
theorem dJ9_max_7cf53_10 : decode cJ9_max_7cf53 10 = .ok (.ireturn, 1) := by decide +kernel
theorem dJ9_min_7cf53_0 : decode cJ9_min_7cf53 0 = .ok (.iload_n 0, 1) := by decide +kernel
theorem dJ9_min_7cf53_1 : decode cJ9_min_7cf53 1 = .ok (.iload_n 1, 1) := by decide +kernel
theorem dJ9_min_7cf53_2 : decode cJ9_min_7cf53 2 = .ok (.if_icmp .gt 7, 3) := by decide +kernel
theorem dJ9_min_7cf53_5 : decode cJ9_min_7cf53 5 = .ok (.iload_n 0, 1) := by decide +kernel
theorem dJ9_min_7cf53_6 : decode cJ9_min_7cf53 6 = .ok (.goto 4, 3) := by decide +kernel
theorem dJ9_min_7cf53_9 : decode cJ9_min_7cf53 9 = .ok (.iload_n 1, 1) := by decide +kernel
theorem dJ9_min_7cf53_10 : decode cJ9_min_7cf53 10 = .ok (.ireturn, 1) := by decide +kernel
theorem dJ0_init_81219_0 : decode cJ0_init_81219 0 = .ok (.aload_n 0, 1) := by decide +kernel
theorem dJ0_init_81219_1 : decode cJ0_init_81219 1 = .ok (.aload_n 1, 1) := by decide +kernel
theorem dJ0_init_81219_2 : decode cJ0_init_81219 2 = .ok (.aconst_null, 1) := by decide +kernel
theorem dJ0_init_81219_3 : decode cJ0_init_81219 3 = .ok (.invokespecial 489, 3) := by decide +kernel
theorem dJ0_init_81219_6 : decode cJ0_init_81219 6 = .ok (.return_, 1) := by decide +kernel
theorem dJ0_length_8abf5_0 : decode cJ0_length_8abf5 0 = .ok (.aload_n 0, 1) := by decide +kernel
theorem dJ0_length_8abf5_1 : decode cJ0_length_8abf5 1 = .ok (.getfield 9, 3) := by decide +kernel
theorem dJ0_length_8abf5_4 : decode cJ0_length_8abf5 4 = .ok (.arraylength, 1) := by decide +kernel
theorem dJ0_length_8abf5_5 : decode cJ0_length_8abf5 5 = .ok (.aload_n 0, 1) := by decide +kernel
theorem dJ0_length_8abf5_6 : decode cJ0_length_8abf5 6 = .ok (.invokevirtual 335, 3) := by decide +kernel
theorem dJ0_length_8abf5_9 : decode cJ0_length_8abf5 9 = .ok (.ishr, 1) := by decide +kernel
theorem dJ0_length_8abf5_10 : decode cJ0_length_8abf5 10 = .ok (.ireturn, 1) := by decide +kernel
theorem dJ0_getBytes_840e7_0 : decode cJ0_getBytes_840e7 0 = .ok (.aload_n 0, 1) := by decide +kernel
theorem dJ0_getBytes_840e7_1 : decode cJ0_getBytes_840e7 1 = .ok (.invokevirtual 335, 3) := by decide +kernel
theorem dJ0_getBytes_840e7_4 : decode cJ0_getBytes_840e7 4 = .ok (.iload_n 3, 1) := by decide +kernel
theorem dJ0_getBytes_840e7_5 : decode cJ0_getBytes_840e7 5 = .ok (.if_icmp .ne 23, 3) := by decide +kernel
theorem dJ0_getBytes_840e7_8 : decode cJ0_getBytes_840e7 8 = .ok (.aload_n 0, 1) := by decide +kernel
theorem dJ0_getBytes_840e7_9 : decode cJ0_getBytes_840e7 9 = .ok (.getfield 9, 3) := by decide +kernel
theorem dJ0_getBytes_840e7_12 : decode cJ0_getBytes_840e7 12 = .ok (.iconst 0, 1) := by decide +kernel
theorem dJ0_getBytes_840e7_13 : decode cJ0_getBytes_840e7 13 = .ok (.aload_n 1, 1) := by decide +kernel
theorem dJ0_getBytes_840e7_14 : decode cJ0_getBytes_840e7 14 = .ok (.iload_n 2, 1) := by decide +kernel
theorem dJ0_getBytes_840e7_15 : decode cJ0_getBytes_840e7 15 = .ok (.iload_n 3, 1) := by decide +kernel
theorem dJ0_getBytes_840e7_16 : decode cJ0_getBytes_840e7 16 = .ok (.ishl, 1) := by decide +kernel
theorem dJ0_getBytes_840e7_17 : decode cJ0_getBytes_840e7 17 = .ok (.aload_n 0, 1) := by decide +kernel
theorem dJ0_getBytes_840e7_18 : decode cJ0_getBytes_840e7 18 = .ok (.getfield 9, 3) := by decide +kernel
theorem dJ0_getBytes_840e7_21 : decode cJ0_getBytes_840e7 21 = .ok (.arraylength, 1) := by decide +kernel
theorem dJ0_getBytes_840e7_22 : decode cJ0_getBytes_840e7 22 = .ok (.invokestatic 212, 3) := by decide +kernel
theorem dJ0_getBytes_840e7_25 : decode cJ0_getBytes_840e7 25 = .ok (.goto 18, 3) := by decide +kernel
theorem dJ0_getBytes_840e7_28 : decode cJ0_getBytes_840e7 28 = .ok (.aload_n 0, 1) := by decide +kernel
theorem dJ0_getBytes_840e7_29 : decode cJ0_getBytes_840e7 29 = .ok (.getfield 9, 3) := by decide +kernel
theorem dJ0_getBytes_840e7_32 : decode cJ0_getBytes_840e7 32 = .ok (.iconst 0, 1) := by decide +kernel
theorem dJ0_getBytes_840e7_33 : decode cJ0_getBytes_840e7 33 = .ok (.aload_n 1, 1) := by decide +kernel
theorem dJ0_getBytes_840e7_34 : decode cJ0_getBytes_840e7 34 = .ok (.iload_n 2, 1) := by decide +kernel
theorem dJ0_getBytes_840e7_35 : decode cJ0_getBytes_840e7 35 = .ok (.aload_n 0, 1) := by decide +kernel
theorem dJ0_getBytes_840e7_36 : decode cJ0_getBytes_840e7 36 = .ok (.getfield 9, 3) := by decide +kernel
theorem dJ0_getBytes_840e7_39 : decode cJ0_getBytes_840e7 39 = .ok (.arraylength, 1) := by decide +kernel
theorem dJ0_getBytes_840e7_40 : decode cJ0_getBytes_840e7 40 = .ok (.invokestatic 106, 3) := by decide +kernel
theorem dJ0_getBytes_840e7_43 : decode cJ0_getBytes_840e7 43 = .ok (.return_, 1) := by decide +kernel
theorem dJ0_init_db425_0 : decode cJ0_init_db425 0 = .ok (.aload_n 0, 1) := by decide +kernel
theorem dJ0_init_db425_1 : decode cJ0_init_db425 1 = .ok (.invokespecial 1, 3) := by decide +kernel
theorem dJ0_init_db425_4 : decode cJ0_init_db425 4 = .ok (.aload_n 1, 1) := by decide +kernel
theorem dJ0_init_db425_5 : decode cJ0_init_db425 5 = .ok (.invokevirtual 552, 3) := by decide +kernel
theorem dJ0_init_db425_8 : decode cJ0_init_db425 8 = .ok (.astore_n 3, 1) := by decide +kernel
theorem dJ0_init_db425_9 : decode cJ0_init_db425 9 = .ok (.aload_n 1, 1) := by decide +kernel
theorem dJ0_init_db425_10 : decode cJ0_init_db425 10 = .ok (.invokevirtual 549, 3) := by decide +kernel
theorem dJ0_init_db425_13 : decode cJ0_init_db425 13 = .ok (.istore 4, 2) := by decide +kernel
theorem dJ0_init_db425_15 : decode cJ0_init_db425 15 = .ok (.aload_n 1, 1) := by decide +kernel
theorem dJ0_init_db425_16 : decode cJ0_init_db425 16 = .ok (.invokevirtual 1047, 3) := by decide +kernel
theorem dJ0_init_db425_19 : decode cJ0_init_db425 19 = .ok (.ifCond .eq 22, 3) := by decide +kernel
theorem dJ0_init_db425_22 : decode cJ0_init_db425 22 = .ok (.aload_n 0, 1) := by decide +kernel
theorem dJ0_init_db425_23 : decode cJ0_init_db425 23 = .ok (.iconst 0, 1) := by decide +kernel
theorem dJ0_init_db425_24 : decode cJ0_init_db425 24 = .ok (.putfield 15, 3) := by decide +kernel
theorem dJ0_init_db425_27 : decode cJ0_init_db425 27 = .ok (.aload_n 0, 1) := by decide +kernel
theorem dJ0_init_db425_28 : decode cJ0_init_db425 28 = .ok (.aload_n 3, 1) := by decide +kernel
theorem dJ0_init_db425_29 : decode cJ0_init_db425 29 = .ok (.iconst 0, 1) := by decide +kernel
theorem dJ0_init_db425_30 : decode cJ0_init_db425 30 = .ok (.iload 4, 2) := by decide +kernel
theorem dJ0_init_db425_32 : decode cJ0_init_db425 32 = .ok (.invokestatic 54, 3) := by decide +kernel
theorem dJ0_init_db425_35 : decode cJ0_init_db425 35 = .ok (.putfield 9, 3) := by decide +kernel
theorem dJ0_init_db425_38 : decode cJ0_init_db425 38 = .ok (.goto 59, 3) := by decide +kernel
theorem dJ0_init_db425_41 : decode cJ0_init_db425 41 = .ok (.getstatic 38, 3) := by decide +kernel
theorem dJ0_init_db425_44 : decode cJ0_init_db425 44 = .ok (.ifCond .eq 35, 3) := by decide +kernel
theorem dJ0_init_db425_47 : decode cJ0_init_db425 47 = .ok (.aload_n 1, 1) := by decide +kernel
theorem dJ0_init_db425_48 : decode cJ0_init_db425 48 = .ok (.getfield 1048, 3) := by decide +kernel
theorem dJ0_init_db425_51 : decode cJ0_init_db425 51 = .ok (.ifCond .eq 28, 3) := by decide +kernel
theorem dJ0_init_db425_54 : decode cJ0_init_db425 54 = .ok (.aload_n 0, 1) := by decide +kernel
theorem dJ0_init_db425_55 : decode cJ0_init_db425 55 = .ok (.aload_n 3, 1) := by decide +kernel
theorem dJ0_init_db425_56 : decode cJ0_init_db425 56 = .ok (.iconst 0, 1) := by decide +kernel
theorem dJ0_init_db425_57 : decode cJ0_init_db425 57 = .ok (.iload 4, 2) := by decide +kernel
theorem dJ0_init_db425_59 : decode cJ0_init_db425 59 = .ok (.invokestatic 1051, 3) := by decide +kernel
theorem dJ0_init_db425_62 : decode cJ0_init_db425 62 = .ok (.putfield 9, 3) := by decide +kernel
theorem dJ0_init_db425_65 : decode cJ0_init_db425 65 = .ok (.aload_n 0, 1) := by decide +kernel
theorem dJ0_init_db425_66 : decode cJ0_init_db425 66 = .ok (.aload_n 0, 1) := by decide +kernel
theorem dJ0_init_db425_67 : decode cJ0_init_db425 67 = .ok (.getfield 9, 3) := by decide +kernel
theorem dJ0_init_db425_70 : decode cJ0_init_db425 70 = .ok (.iload 4, 2) := by decide +kernel
theorem dJ0_init_db425_72 : decode cJ0_init_db425 72 = .ok (.invokestatic 47, 3) := by decide +kernel
theorem dJ0_init_db425_75 : decode cJ0_init_db425 75 = .ok (.putfield 15, 3) := by decide +kernel
theorem dJ0_init_db425_78 : decode cJ0_init_db425 78 = .ok (.return_, 1) := by decide +kernel
theorem dJ0_init_db425_79 : decode cJ0_init_db425 79 = .ok (.aload_n 0, 1) := by decide +kernel
theorem dJ0_init_db425_80 : decode cJ0_init_db425 80 = .ok (.iconst 1, 1) := by decide +kernel
theorem dJ0_init_db425_81 : decode cJ0_init_db425 81 = .ok (.putfield 15, 3) := by decide +kernel
theorem dJ0_init_db425_84 : decode cJ0_init_db425 84 = .ok (.aload_n 0, 1) := by decide +kernel
theorem dJ0_init_db425_85 : decode cJ0_init_db425 85 = .ok (.aload_n 3, 1) := by decide +kernel
theorem dJ0_init_db425_86 : decode cJ0_init_db425 86 = .ok (.iconst 0, 1) := by decide +kernel
theorem dJ0_init_db425_87 : decode cJ0_init_db425 87 = .ok (.iload 4, 2) := by decide +kernel
theorem dJ0_init_db425_89 : decode cJ0_init_db425 89 = .ok (.iconst 1, 1) := by decide +kernel
theorem dJ0_init_db425_90 : decode cJ0_init_db425 90 = .ok (.ishl, 1) := by decide +kernel
theorem dJ0_init_db425_91 : decode cJ0_init_db425 91 = .ok (.invokestatic 54, 3) := by decide +kernel
theorem dJ0_init_db425_94 : decode cJ0_init_db425 94 = .ok (.putfield 9, 3) := by decide +kernel
theorem dJ0_init_db425_97 : decode cJ0_init_db425 97 = .ok (.return_, 1) := by decide +kernel
theorem dJ0_coder_7d493_0 : decode cJ0_coder_7d493 0 = .ok (.getstatic 38, 3) := by decide +kernel
theorem dJ0_coder_7d493_3 : decode cJ0_coder_7d493 3 = .ok (.ifCond .eq 10, 3) := by decide +kernel
theorem dJ0_coder_7d493_6 : decode cJ0_coder_7d493 6 = .ok (.aload_n 0, 1) := by decide +kernel
theorem dJ0_coder_7d493_7 : decode cJ0_coder_7d493 7 = .ok (.getfield 15, 3) := by decide +kernel
theorem dJ0_coder_7d493_10 : decode cJ0_coder_7d493 10 = .ok (.goto 4, 3) := by decide +kernel
theorem dJ0_coder_7d493_13 : decode cJ0_coder_7d493 13 = .ok (.iconst 1, 1) := by decide +kernel
theorem dJ0_coder_7d493_14 : decode cJ0_coder_7d493 14 = .ok (.ireturn, 1) := by decide +kernel
theorem dJ0_checkIndex_df160_0 : decode cJ0_checkIndex_df160 0 = .ok (.iload_n 0, 1) := by decide +kernel
theorem dJ0_checkIndex_df160_1 : decode cJ0_checkIndex_df160 1 = .ok (.iload_n 1, 1) := by decide +kernel
theorem dJ0_checkIndex_df160_2 : decode cJ0_checkIndex_df160 2 = .ok (.getstatic 1053, 3) := by decide +kernel
theorem dJ0_checkIndex_df160_5 : decode cJ0_checkIndex_df160 5 = .ok (.invokestatic 1059, 3) := by decide +kernel
theorem dJ0_checkIndex_df160_8 : decode cJ0_checkIndex_df160 8 = .ok (.pop, 1) := by decide +kernel
theorem dJ0_checkIndex_df160_9 : decode cJ0_checkIndex_df160 9 = .ok (.return_, 1) := by decide +kernel
theorem dJ0_checkBoundsOffCount_cabcc_0 : decode cJ0_checkBoundsOffCount_cabcc 0 = .ok (.iload_n 0, 1) := by decide +kernel
theorem dJ0_checkBoundsOffCount_cabcc_1 : decode cJ0_checkBoundsOffCount_cabcc 1 = .ok (.iload_n 1, 1) := by decide +kernel
theorem dJ0_checkBoundsOffCount_cabcc_2 : decode cJ0_checkBoundsOffCount_cabcc 2 = .ok (.iload_n 2, 1) := by decide +kernel
theorem dJ0_checkBoundsOffCount_cabcc_3 : decode cJ0_checkBoundsOffCount_cabcc 3 = .ok (.getstatic 1053, 3) := by decide +kernel
theorem dJ0_checkBoundsOffCount_cabcc_6 : decode cJ0_checkBoundsOffCount_cabcc 6 = .ok (.invokestatic 1065, 3) := by decide +kernel
theorem dJ0_checkBoundsOffCount_cabcc_9 : decode cJ0_checkBoundsOffCount_cabcc 9 = .ok (.ireturn, 1) := by decide +kernel
theorem dJ0_checkBoundsBeginEnd_23922_0 : decode cJ0_checkBoundsBeginEnd_23922 0 = .ok (.iload_n 0, 1) := by decide +kernel
theorem dJ0_checkBoundsBeginEnd_23922_1 : decode cJ0_checkBoundsBeginEnd_23922 1 = .ok (.iload_n 1, 1) := by decide +kernel
theorem dJ0_checkBoundsBeginEnd_23922_2 : decode cJ0_checkBoundsBeginEnd_23922 2 = .ok (.iload_n 2, 1) := by decide +kernel
theorem dJ0_checkBoundsBeginEnd_23922_3 : decode cJ0_checkBoundsBeginEnd_23922 3 = .ok (.getstatic 1053, 3) := by decide +kernel
theorem dJ0_checkBoundsBeginEnd_23922_6 : decode cJ0_checkBoundsBeginEnd_23922 6 = .ok (.invokestatic 1062, 3) := by decide +kernel
theorem dJ0_checkBoundsBeginEnd_23922_9 : decode cJ0_checkBoundsBeginEnd_23922 9 = .ok (.pop, 1) := by decide +kernel
theorem dJ0_checkBoundsBeginEnd_23922_10 : decode cJ0_checkBoundsBeginEnd_23922 10 = .ok (.return_, 1) := by decide +kernel
theorem dJ4_init_da8c8_0 : decode cJ4_init_da8c8 0 = .ok (.aload_n 0, 1) := by decide +kernel
theorem dJ4_init_da8c8_1 : decode cJ4_init_da8c8 1 = .ok (.bipush 16, 2) := by decide +kernel
theorem dJ4_init_da8c8_3 : decode cJ4_init_da8c8 3 = .ok (.invokespecial 1, 3) := by decide +kernel
theorem dJ4_init_da8c8_6 : decode cJ4_init_da8c8 6 = .ok (.return_, 1) := by decide +kernel
theorem dJ4_append_15ec4_0 : decode cJ4_append_15ec4 0 = .ok (.aload_n 0, 1) := by decide +kernel
theorem dJ4_append_15ec4_1 : decode cJ4_append_15ec4 1 = .ok (.aload_n 1, 1) := by decide +kernel
theorem dJ4_append_15ec4_2 : decode cJ4_append_15ec4 2 = .ok (.invokespecial 29, 3) := by decide +kernel
theorem dJ4_append_15ec4_5 : decode cJ4_append_15ec4 5 = .ok (.pop, 1) := by decide +kernel
theorem dJ4_append_15ec4_6 : decode cJ4_append_15ec4 6 = .ok (.aload_n 0, 1) := by decide +kernel
theorem dJ4_append_15ec4_7 : decode cJ4_append_15ec4 7 = .ok (.areturn, 1) := by decide +kernel
theorem dJ4_append_cf468_0 : decode cJ4_append_cf468 0 = .ok (.aload_n 0, 1) := by decide +kernel
theorem dJ4_append_cf468_1 : decode cJ4_append_cf468 1 = .ok (.iload_n 1, 1) := by decide +kernel
theorem dJ4_append_cf468_2 : decode cJ4_append_cf468 2 = .ok (.invokespecial 50, 3) := by decide +kernel
theorem dJ4_append_cf468_5 : decode cJ4_append_cf468 5 = .ok (.pop, 1) := by decide +kernel
theorem dJ4_append_cf468_6 : decode cJ4_append_cf468 6 = .ok (.aload_n 0, 1) := by decide +kernel
theorem dJ4_append_cf468_7 : decode cJ4_append_cf468 7 = .ok (.areturn, 1) := by decide +kernel
theorem dJ4_append_bf812_0 : decode cJ4_append_bf812 0 = .ok (.aload_n 0, 1) := by decide +kernel
theorem dJ4_append_bf812_1 : decode cJ4_append_bf812 1 = .ok (.iload_n 1, 1) := by decide +kernel
theorem dJ4_append_bf812_2 : decode cJ4_append_bf812 2 = .ok (.invokespecial 53, 3) := by decide +kernel
theorem dJ4_append_bf812_5 : decode cJ4_append_bf812 5 = .ok (.pop, 1) := by decide +kernel
theorem dJ4_append_bf812_6 : decode cJ4_append_bf812 6 = .ok (.aload_n 0, 1) := by decide +kernel
theorem dJ4_append_bf812_7 : decode cJ4_append_bf812 7 = .ok (.areturn, 1) := by decide +kernel
theorem dJ4_toString_0e30d_0 : decode cJ4_toString_0e30d 0 = .ok (.new 18, 3) := by decide +kernel
theorem dJ4_toString_0e30d_3 : decode cJ4_toString_0e30d 3 = .ok (.dup, 1) := by decide +kernel
theorem dJ4_toString_0e30d_4 : decode cJ4_toString_0e30d 4 = .ok (.aload_n 0, 1) := by decide +kernel
theorem dJ4_toString_0e30d_5 : decode cJ4_toString_0e30d 5 = .ok (.invokespecial 137, 3) := by decide +kernel
theorem dJ4_toString_0e30d_8 : decode cJ4_toString_0e30d 8 = .ok (.areturn, 1) := by decide +kernel
theorem dJ4_length_8abf5_0 : decode cJ4_length_8abf5 0 = .ok (.aload_n 0, 1) := by decide +kernel
theorem dJ4_length_8abf5_1 : decode cJ4_length_8abf5 1 = .ok (.invokespecial 343, 3) := by decide +kernel
theorem dJ4_length_8abf5_4 : decode cJ4_length_8abf5 4 = .ok (.ireturn, 1) := by decide +kernel
theorem dJ1_canEncode_fc78d_0 : decode cJ1_canEncode_fc78d 0 = .ok (.iload_n 0, 1) := by decide +kernel
theorem dJ1_canEncode_fc78d_1 : decode cJ1_canEncode_fc78d 1 = .ok (.sipush 255, 3) := by decide +kernel
theorem dJ1_canEncode_fc78d_4 : decode cJ1_canEncode_fc78d 4 = .ok (.if_icmp .gt 7, 3) := by decide +kernel
theorem dJ1_canEncode_fc78d_7 : decode cJ1_canEncode_fc78d 7 = .ok (.iconst 1, 1) := by decide +kernel
theorem dJ1_canEncode_fc78d_8 : decode cJ1_canEncode_fc78d 8 = .ok (.goto 4, 3) := by decide +kernel
theorem dJ1_canEncode_fc78d_11 : decode cJ1_canEncode_fc78d 11 = .ok (.iconst 0, 1) := by decide +kernel
theorem dJ1_canEncode_fc78d_12 : decode cJ1_canEncode_fc78d 12 = .ok (.ireturn, 1) := by decide +kernel
theorem dJ1_inflate_0e8fd_0 : decode cJ1_inflate_0e8fd 0 = .ok (.aload_n 0, 1) := by decide +kernel
theorem dJ1_inflate_0e8fd_1 : decode cJ1_inflate_0e8fd 1 = .ok (.iload_n 1, 1) := by decide +kernel
theorem dJ1_inflate_0e8fd_2 : decode cJ1_inflate_0e8fd 2 = .ok (.aload_n 2, 1) := by decide +kernel
theorem dJ1_inflate_0e8fd_3 : decode cJ1_inflate_0e8fd 3 = .ok (.iload_n 3, 1) := by decide +kernel
theorem dJ1_inflate_0e8fd_4 : decode cJ1_inflate_0e8fd 4 = .ok (.iload 4, 2) := by decide +kernel
theorem dJ1_inflate_0e8fd_6 : decode cJ1_inflate_0e8fd 6 = .ok (.invokestatic 240, 3) := by decide +kernel
theorem dJ1_inflate_0e8fd_9 : decode cJ1_inflate_0e8fd 9 = .ok (.return_, 1) := by decide +kernel
theorem dJ2_newBytesFor_77867_0 : decode cJ2_newBytesFor_77867 0 = .ok (.iload_n 0, 1) := by decide +kernel
theorem dJ2_newBytesFor_77867_1 : decode cJ2_newBytesFor_77867 1 = .ok (.invokestatic 11, 3) := by decide +kernel
theorem dJ2_newBytesFor_77867_4 : decode cJ2_newBytesFor_77867 4 = .ok (.newarray .byte, 2) := by decide +kernel
theorem dJ2_newBytesFor_77867_6 : decode cJ2_newBytesFor_77867 6 = .ok (.areturn, 1) := by decide +kernel
theorem dJ2_newBytesLength_0f7a4_0 : decode cJ2_newBytesLength_0f7a4 0 = .ok (.iload_n 0, 1) := by decide +kernel
theorem dJ2_newBytesLength_0f7a4_1 : decode cJ2_newBytesLength_0f7a4 1 = .ok (.ifCond .ge 11, 3) := by decide +kernel
theorem dJ2_newBytesLength_0f7a4_4 : decode cJ2_newBytesLength_0f7a4 4 = .ok (.new 17, 3) := by decide +kernel
theorem dJ2_newBytesLength_0f7a4_7 : decode cJ2_newBytesLength_0f7a4 7 = .ok (.dup, 1) := by decide +kernel
theorem dJ2_newBytesLength_0f7a4_8 : decode cJ2_newBytesLength_0f7a4 8 = .ok (.invokespecial 19, 3) := by decide +kernel
theorem dJ2_newBytesLength_0f7a4_11 : decode cJ2_newBytesLength_0f7a4 11 = .ok (.athrow, 1) := by decide +kernel
theorem dJ2_newBytesLength_0f7a4_12 : decode cJ2_newBytesLength_0f7a4 12 = .ok (.iload_n 0, 1) := by decide +kernel
theorem dJ2_newBytesLength_0f7a4_13 : decode cJ2_newBytesLength_0f7a4 13 = .ok (.ldc 20, 2) := by decide +kernel
theorem dJ2_newBytesLength_0f7a4_15 : decode cJ2_newBytesLength_0f7a4 15 = .ok (.if_icmp .lt 40, 3) := by decide +kernel
theorem dJ2_newBytesLength_0f7a4_18 : decode cJ2_newBytesLength_0f7a4 18 = .ok (.new 21, 3) := by decide +kernel
theorem dJ2_newBytesLength_0f7a4_21 : decode cJ2_newBytesLength_0f7a4 21 = .ok (.dup, 1) := by decide +kernel
theorem dJ2_newBytesLength_0f7a4_22 : decode cJ2_newBytesLength_0f7a4 22 = .ok (.new 23, 3) := by decide +kernel
theorem dJ2_newBytesLength_0f7a4_25 : decode cJ2_newBytesLength_0f7a4 25 = .ok (.dup, 1) := by decide +kernel
theorem dJ2_newBytesLength_0f7a4_26 : decode cJ2_newBytesLength_0f7a4 26 = .ok (.invokespecial 25, 3) := by decide +kernel
theorem dJ2_newBytesLength_0f7a4_29 : decode cJ2_newBytesLength_0f7a4 29 = .ok (.ldc 26, 2) := by decide +kernel
theorem dJ2_newBytesLength_0f7a4_31 : decode cJ2_newBytesLength_0f7a4 31 = .ok (.invokevirtual 28, 3) := by decide +kernel
theorem dJ2_newBytesLength_0f7a4_34 : decode cJ2_newBytesLength_0f7a4 34 = .ok (.iload_n 0, 1) := by decide +kernel
theorem dJ2_newBytesLength_0f7a4_35 : decode cJ2_newBytesLength_0f7a4 35 = .ok (.invokevirtual 32, 3) := by decide +kernel
theorem dJ2_newBytesLength_0f7a4_38 : decode cJ2_newBytesLength_0f7a4 38 = .ok (.ldc 35, 2) := by decide +kernel
theorem dJ2_newBytesLength_0f7a4_40 : decode cJ2_newBytesLength_0f7a4 40 = .ok (.invokevirtual 28, 3) := by decide +kernel
theorem dJ2_newBytesLength_0f7a4_43 : decode cJ2_newBytesLength_0f7a4 43 = .ok (.ldc 20, 2) := by decide +kernel
theorem dJ2_newBytesLength_0f7a4_45 : decode cJ2_newBytesLength_0f7a4 45 = .ok (.invokevirtual 32, 3) := by decide +kernel
theorem dJ2_newBytesLength_0f7a4_48 : decode cJ2_newBytesLength_0f7a4 48 = .ok (.invokevirtual 37, 3) := by decide +kernel
theorem dJ2_newBytesLength_0f7a4_51 : decode cJ2_newBytesLength_0f7a4 51 = .ok (.invokespecial 41, 3) := by decide +kernel
theorem dJ2_newBytesLength_0f7a4_54 : decode cJ2_newBytesLength_0f7a4 54 = .ok (.athrow, 1) := by decide +kernel
theorem dJ2_newBytesLength_0f7a4_55 : decode cJ2_newBytesLength_0f7a4 55 = .ok (.iload_n 0, 1) := by decide +kernel
theorem dJ2_newBytesLength_0f7a4_56 : decode cJ2_newBytesLength_0f7a4 56 = .ok (.iconst 1, 1) := by decide +kernel
theorem dJ2_newBytesLength_0f7a4_57 : decode cJ2_newBytesLength_0f7a4 57 = .ok (.ishl, 1) := by decide +kernel
theorem dJ2_newBytesLength_0f7a4_58 : decode cJ2_newBytesLength_0f7a4 58 = .ok (.ireturn, 1) := by decide +kernel
theorem dJ2_putChar_b72d1_0 : decode cJ2_putChar_b72d1 0 = .ok (.getstatic 44, 3) := by decide +kernel
theorem dJ2_putChar_b72d1_3 : decode cJ2_putChar_b72d1 3 = .ok (.ifCond .ne 25, 3) := by decide +kernel
theorem dJ2_putChar_b72d1_6 : decode cJ2_putChar_b72d1 6 = .ok (.iload_n 1, 1) := by decide +kernel
theorem dJ2_putChar_b72d1_7 : decode cJ2_putChar_b72d1 7 = .ok (.ifCond .lt 11, 3) := by decide +kernel
theorem dJ2_putChar_b72d1_10 : decode cJ2_putChar_b72d1 10 = .ok (.iload_n 1, 1) := by decide +kernel
theorem dJ2_putChar_b72d1_11 : decode cJ2_putChar_b72d1 11 = .ok (.aload_n 0, 1) := by decide +kernel
theorem dJ2_putChar_b72d1_12 : decode cJ2_putChar_b72d1 12 = .ok (.invokestatic 48, 3) := by decide +kernel
theorem dJ2_putChar_b72d1_15 : decode cJ2_putChar_b72d1 15 = .ok (.if_icmp .lt 13, 3) := by decide +kernel
theorem dJ2_putChar_b72d1_18 : decode cJ2_putChar_b72d1 18 = .ok (.new 52, 3) := by decide +kernel
theorem dJ2_putChar_b72d1_21 : decode cJ2_putChar_b72d1 21 = .ok (.dup, 1) := by decide +kernel
theorem dJ2_putChar_b72d1_22 : decode cJ2_putChar_b72d1 22 = .ok (.ldc 54, 2) := by decide +kernel
theorem dJ2_putChar_b72d1_24 : decode cJ2_putChar_b72d1 24 = .ok (.invokespecial 56, 3) := by decide +kernel
theorem dJ2_putChar_b72d1_27 : decode cJ2_putChar_b72d1 27 = .ok (.athrow, 1) := by decide +kernel
theorem dJ2_putChar_b72d1_28 : decode cJ2_putChar_b72d1 28 = .ok (.iload_n 1, 1) := by decide +kernel
theorem dJ2_putChar_b72d1_29 : decode cJ2_putChar_b72d1 29 = .ok (.iconst 1, 1) := by decide +kernel
theorem dJ2_putChar_b72d1_30 : decode cJ2_putChar_b72d1 30 = .ok (.ishl, 1) := by decide +kernel
theorem dJ2_putChar_b72d1_31 : decode cJ2_putChar_b72d1 31 = .ok (.istore_n 1, 1) := by decide +kernel
theorem dJ2_putChar_b72d1_32 : decode cJ2_putChar_b72d1 32 = .ok (.aload_n 0, 1) := by decide +kernel
theorem dJ2_putChar_b72d1_33 : decode cJ2_putChar_b72d1 33 = .ok (.iload_n 1, 1) := by decide +kernel
theorem dJ2_putChar_b72d1_34 : decode cJ2_putChar_b72d1 34 = .ok (.iinc 1 1, 3) := by decide +kernel
theorem dJ2_putChar_b72d1_37 : decode cJ2_putChar_b72d1 37 = .ok (.iload_n 2, 1) := by decide +kernel
theorem dJ2_putChar_b72d1_38 : decode cJ2_putChar_b72d1 38 = .ok (.getstatic 59, 3) := by decide +kernel
theorem dJ2_putChar_b72d1_41 : decode cJ2_putChar_b72d1 41 = .ok (.ishr, 1) := by decide +kernel
theorem dJ2_putChar_b72d1_42 : decode cJ2_putChar_b72d1 42 = .ok (.i2b, 1) := by decide +kernel
theorem dJ2_putChar_b72d1_43 : decode cJ2_putChar_b72d1 43 = .ok (.bastore, 1) := by decide +kernel
theorem dJ2_putChar_b72d1_44 : decode cJ2_putChar_b72d1 44 = .ok (.aload_n 0, 1) := by decide +kernel
theorem dJ2_putChar_b72d1_45 : decode cJ2_putChar_b72d1 45 = .ok (.iload_n 1, 1) := by decide +kernel
theorem dJ2_putChar_b72d1_46 : decode cJ2_putChar_b72d1 46 = .ok (.iload_n 2, 1) := by decide +kernel
theorem dJ2_putChar_b72d1_47 : decode cJ2_putChar_b72d1 47 = .ok (.getstatic 63, 3) := by decide +kernel
theorem dJ2_putChar_b72d1_50 : decode cJ2_putChar_b72d1 50 = .ok (.ishr, 1) := by decide +kernel
theorem dJ2_putChar_b72d1_51 : decode cJ2_putChar_b72d1 51 = .ok (.i2b, 1) := by decide +kernel
theorem dJ2_putChar_b72d1_52 : decode cJ2_putChar_b72d1 52 = .ok (.bastore, 1) := by decide +kernel
theorem dJ2_putChar_b72d1_53 : decode cJ2_putChar_b72d1 53 = .ok (.return_, 1) := by decide +kernel
theorem dJ2_getChar_3b067_0 : decode cJ2_getChar_3b067 0 = .ok (.getstatic 44, 3) := by decide +kernel
theorem dJ2_getChar_3b067_3 : decode cJ2_getChar_3b067 3 = .ok (.ifCond .ne 25, 3) := by decide +kernel
theorem dJ2_getChar_3b067_6 : decode cJ2_getChar_3b067 6 = .ok (.iload_n 1, 1) := by decide +kernel
theorem dJ2_getChar_3b067_7 : decode cJ2_getChar_3b067 7 = .ok (.ifCond .lt 11, 3) := by decide +kernel
theorem dJ2_getChar_3b067_10 : decode cJ2_getChar_3b067 10 = .ok (.iload_n 1, 1) := by decide +kernel
theorem dJ2_getChar_3b067_11 : decode cJ2_getChar_3b067 11 = .ok (.aload_n 0, 1) := by decide +kernel
theorem dJ2_getChar_3b067_12 : decode cJ2_getChar_3b067 12 = .ok (.invokestatic 48, 3) := by decide +kernel
theorem dJ2_getChar_3b067_15 : decode cJ2_getChar_3b067 15 = .ok (.if_icmp .lt 13, 3) := by decide +kernel
theorem dJ2_getChar_3b067_18 : decode cJ2_getChar_3b067 18 = .ok (.new 52, 3) := by decide +kernel
theorem dJ2_getChar_3b067_21 : decode cJ2_getChar_3b067 21 = .ok (.dup, 1) := by decide +kernel
theorem dJ2_getChar_3b067_22 : decode cJ2_getChar_3b067 22 = .ok (.ldc 54, 2) := by decide +kernel
theorem dJ2_getChar_3b067_24 : decode cJ2_getChar_3b067 24 = .ok (.invokespecial 56, 3) := by decide +kernel
theorem dJ2_getChar_3b067_27 : decode cJ2_getChar_3b067 27 = .ok (.athrow, 1) := by decide +kernel
theorem dJ2_getChar_3b067_28 : decode cJ2_getChar_3b067 28 = .ok (.iload_n 1, 1) := by decide +kernel
theorem dJ2_getChar_3b067_29 : decode cJ2_getChar_3b067 29 = .ok (.iconst 1, 1) := by decide +kernel
theorem dJ2_getChar_3b067_30 : decode cJ2_getChar_3b067 30 = .ok (.ishl, 1) := by decide +kernel
theorem dJ2_getChar_3b067_31 : decode cJ2_getChar_3b067 31 = .ok (.istore_n 1, 1) := by decide +kernel
theorem dJ2_getChar_3b067_32 : decode cJ2_getChar_3b067 32 = .ok (.aload_n 0, 1) := by decide +kernel
theorem dJ2_getChar_3b067_33 : decode cJ2_getChar_3b067 33 = .ok (.iload_n 1, 1) := by decide +kernel
theorem dJ2_getChar_3b067_34 : decode cJ2_getChar_3b067 34 = .ok (.iinc 1 1, 3) := by decide +kernel
theorem dJ2_getChar_3b067_37 : decode cJ2_getChar_3b067 37 = .ok (.baload, 1) := by decide +kernel
theorem dJ2_getChar_3b067_38 : decode cJ2_getChar_3b067 38 = .ok (.sipush 255, 3) := by decide +kernel
theorem dJ2_getChar_3b067_41 : decode cJ2_getChar_3b067 41 = .ok (.iand, 1) := by decide +kernel
theorem dJ2_getChar_3b067_42 : decode cJ2_getChar_3b067 42 = .ok (.getstatic 59, 3) := by decide +kernel
theorem dJ2_getChar_3b067_45 : decode cJ2_getChar_3b067 45 = .ok (.ishl, 1) := by decide +kernel
theorem dJ2_getChar_3b067_46 : decode cJ2_getChar_3b067 46 = .ok (.aload_n 0, 1) := by decide +kernel
theorem dJ2_getChar_3b067_47 : decode cJ2_getChar_3b067 47 = .ok (.iload_n 1, 1) := by decide +kernel
theorem dJ2_getChar_3b067_48 : decode cJ2_getChar_3b067 48 = .ok (.baload, 1) := by decide +kernel
theorem dJ2_getChar_3b067_49 : decode cJ2_getChar_3b067 49 = .ok (.sipush 255, 3) := by decide +kernel
theorem dJ2_getChar_3b067_52 : decode cJ2_getChar_3b067 52 = .ok (.iand, 1) := by decide +kernel
theorem dJ2_getChar_3b067_53 : decode cJ2_getChar_3b067 53 = .ok (.getstatic 63, 3) := by decide +kernel
theorem dJ2_getChar_3b067_56 : decode cJ2_getChar_3b067 56 = .ok (.ishl, 1) := by decide +kernel
theorem dJ2_getChar_3b067_57 : decode cJ2_getChar_3b067 57 = .ok (.ior, 1) := by decide +kernel
theorem dJ2_getChar_3b067_58 : decode cJ2_getChar_3b067 58 = .ok (.i2c, 1) := by decide +kernel
theorem dJ2_getChar_3b067_59 : decode cJ2_getChar_3b067 59 = .ok (.ireturn, 1) := by decide +kernel
theorem dJ2_length_9d52b_0 : decode cJ2_length_9d52b 0 = .ok (.aload_n 0, 1) := by decide +kernel
theorem dJ2_length_9d52b_1 : decode cJ2_length_9d52b 1 = .ok (.arraylength, 1) := by decide +kernel
theorem dJ2_length_9d52b_2 : decode cJ2_length_9d52b 2 = .ok (.iconst 1, 1) := by decide +kernel
theorem dJ2_length_9d52b_3 : decode cJ2_length_9d52b 3 = .ok (.ishr, 1) := by decide +kernel
theorem dJ2_length_9d52b_4 : decode cJ2_length_9d52b 4 = .ok (.ireturn, 1) := by decide +kernel
theorem dJ2_coderFromArrayLen_85cad_0 : decode cJ2_coderFromArrayLen_85cad 0 = .ok (.iload_n 1, 1) := by decide +kernel
theorem dJ2_coderFromArrayLen_85cad_1 : decode cJ2_coderFromArrayLen_85cad 1 = .ok (.aload_n 0, 1) := by decide +kernel
theorem dJ2_coderFromArrayLen_85cad_2 : decode cJ2_coderFromArrayLen_85cad 2 = .ok (.arraylength, 1) := by decide +kernel
theorem dJ2_coderFromArrayLen_85cad_3 : decode cJ2_coderFromArrayLen_85cad 3 = .ok (.isub, 1) := by decide +kernel
theorem dJ2_coderFromArrayLen_85cad_4 : decode cJ2_coderFromArrayLen_85cad 4 = .ok (.bipush 31, 2) := by decide +kernel
theorem dJ2_coderFromArrayLen_85cad_6 : decode cJ2_coderFromArrayLen_85cad 6 = .ok (.iushr, 1) := by decide +kernel
theorem dJ2_coderFromArrayLen_85cad_7 : decode cJ2_coderFromArrayLen_85cad 7 = .ok (.i2b, 1) := by decide +kernel
theorem dJ2_coderFromArrayLen_85cad_8 : decode cJ2_coderFromArrayLen_85cad 8 = .ok (.ireturn, 1) := by decide +kernel
theorem dJ2_compress_39247_0 : decode cJ2_compress_39247 0 = .ok (.iload_n 2, 1) := by decide +kernel
theorem dJ2_compress_39247_1 : decode cJ2_compress_39247 1 = .ok (.newarray .byte, 2) := by decide +kernel
theorem dJ2_compress_39247_3 : decode cJ2_compress_39247 3 = .ok (.astore_n 3, 1) := by decide +kernel
theorem dJ2_compress_39247_4 : decode cJ2_compress_39247 4 = .ok (.aload_n 0, 1) := by decide +kernel
theorem dJ2_compress_39247_5 : decode cJ2_compress_39247 5 = .ok (.iload_n 1, 1) := by decide +kernel
theorem dJ2_compress_39247_6 : decode cJ2_compress_39247 6 = .ok (.aload_n 3, 1) := by decide +kernel
theorem dJ2_compress_39247_7 : decode cJ2_compress_39247 7 = .ok (.iconst 0, 1) := by decide +kernel
theorem dJ2_compress_39247_8 : decode cJ2_compress_39247 8 = .ok (.iload_n 2, 1) := by decide +kernel
theorem dJ2_compress_39247_9 : decode cJ2_compress_39247 9 = .ok (.invokestatic 123, 3) := by decide +kernel
theorem dJ2_compress_39247_12 : decode cJ2_compress_39247 12 = .ok (.istore 4, 2) := by decide +kernel
theorem dJ2_compress_39247_14 : decode cJ2_compress_39247 14 = .ok (.iload 4, 2) := by decide +kernel
theorem dJ2_compress_39247_16 : decode cJ2_compress_39247 16 = .ok (.iload_n 2, 1) := by decide +kernel
theorem dJ2_compress_39247_17 : decode cJ2_compress_39247 17 = .ok (.if_icmp .eq 47, 3) := by decide +kernel
theorem dJ2_compress_39247_20 : decode cJ2_compress_39247 20 = .ok (.aload_n 0, 1) := by decide +kernel
theorem dJ2_compress_39247_21 : decode cJ2_compress_39247 21 = .ok (.iload_n 1, 1) := by decide +kernel
theorem dJ2_compress_39247_22 : decode cJ2_compress_39247 22 = .ok (.iconst 1, 1) := by decide +kernel
theorem dJ2_compress_39247_23 : decode cJ2_compress_39247 23 = .ok (.ishl, 1) := by decide +kernel
theorem dJ2_compress_39247_24 : decode cJ2_compress_39247 24 = .ok (.iload_n 1, 1) := by decide +kernel
theorem dJ2_compress_39247_25 : decode cJ2_compress_39247 25 = .ok (.iload_n 2, 1) := by decide +kernel
theorem dJ2_compress_39247_26 : decode cJ2_compress_39247 26 = .ok (.iadd, 1) := by decide +kernel
theorem dJ2_compress_39247_27 : decode cJ2_compress_39247 27 = .ok (.invokestatic 11, 3) := by decide +kernel
theorem dJ2_compress_39247_30 : decode cJ2_compress_39247 30 = .ok (.invokestatic 126, 3) := by decide +kernel
theorem dJ2_compress_39247_33 : decode cJ2_compress_39247 33 = .ok (.astore 5, 2) := by decide +kernel
theorem dJ2_compress_39247_35 : decode cJ2_compress_39247 35 = .ok (.aload 5, 2) := by decide +kernel
theorem dJ2_compress_39247_37 : decode cJ2_compress_39247 37 = .ok (.iload 4, 2) := by decide +kernel
theorem dJ2_compress_39247_39 : decode cJ2_compress_39247 39 = .ok (.invokestatic 71, 3) := by decide +kernel
theorem dJ2_compress_39247_42 : decode cJ2_compress_39247 42 = .ok (.sipush 255, 3) := by decide +kernel
theorem dJ2_compress_39247_45 : decode cJ2_compress_39247 45 = .ok (.if_icmp .gt 16, 3) := by decide +kernel
theorem dJ2_compress_39247_48 : decode cJ2_compress_39247 48 = .ok (.aload 5, 2) := by decide +kernel
theorem dJ2_compress_39247_50 : decode cJ2_compress_39247 50 = .ok (.iconst 0, 1) := by decide +kernel
theorem dJ2_compress_39247_51 : decode cJ2_compress_39247 51 = .ok (.aload_n 3, 1) := by decide +kernel
theorem dJ2_compress_39247_52 : decode cJ2_compress_39247 52 = .ok (.iconst 0, 1) := by decide +kernel
theorem dJ2_compress_39247_53 : decode cJ2_compress_39247 53 = .ok (.iload_n 2, 1) := by decide +kernel
theorem dJ2_compress_39247_54 : decode cJ2_compress_39247 54 = .ok (.invokestatic 123, 3) := by decide +kernel
theorem dJ2_compress_39247_57 : decode cJ2_compress_39247 57 = .ok (.iload_n 2, 1) := by decide +kernel
theorem dJ2_compress_39247_58 : decode cJ2_compress_39247 58 = .ok (.if_icmp .eq 6, 3) := by decide +kernel
theorem dJ2_compress_39247_61 : decode cJ2_compress_39247 61 = .ok (.aload 5, 2) := by decide +kernel
theorem dJ2_compress_39247_63 : decode cJ2_compress_39247 63 = .ok (.areturn, 1) := by decide +kernel
theorem dJ2_compress_39247_64 : decode cJ2_compress_39247 64 = .ok (.aload_n 3, 1) := by decide +kernel
theorem dJ2_compress_39247_65 : decode cJ2_compress_39247 65 = .ok (.areturn, 1) := by decide +kernel
theorem dJ2_compress_5af95_0 : decode cJ2_compress_5af95 0 = .ok (.iload_n 1, 1) := by decide +kernel
theorem dJ2_compress_5af95_1 : decode cJ2_compress_5af95 1 = .ok (.iload 4, 2) := by decide +kernel
theorem dJ2_compress_5af95_3 : decode cJ2_compress_5af95 3 = .ok (.aload_n 0, 1) := by decide +kernel
theorem dJ2_compress_5af95_4 : decode cJ2_compress_5af95 4 = .ok (.invokestatic 173, 3) := by decide +kernel
theorem dJ2_compress_5af95_7 : decode cJ2_compress_5af95 7 = .ok (.iconst 0, 1) := by decide +kernel
theorem dJ2_compress_5af95_8 : decode cJ2_compress_5af95 8 = .ok (.istore 5, 2) := by decide +kernel
theorem dJ2_compress_5af95_10 : decode cJ2_compress_5af95 10 = .ok (.iload 5, 2) := by decide +kernel
theorem dJ2_compress_5af95_12 : decode cJ2_compress_5af95 12 = .ok (.iload 4, 2) := by decide +kernel
theorem dJ2_compress_5af95_14 : decode cJ2_compress_5af95 14 = .ok (.if_icmp .ge 39, 3) := by decide +kernel
theorem dJ2_compress_5af95_17 : decode cJ2_compress_5af95 17 = .ok (.aload_n 0, 1) := by decide +kernel
theorem dJ2_compress_5af95_18 : decode cJ2_compress_5af95 18 = .ok (.iload_n 1, 1) := by decide +kernel
theorem dJ2_compress_5af95_19 : decode cJ2_compress_5af95 19 = .ok (.invokestatic 71, 3) := by decide +kernel
theorem dJ2_compress_5af95_22 : decode cJ2_compress_5af95 22 = .ok (.istore 6, 2) := by decide +kernel
theorem dJ2_compress_5af95_24 : decode cJ2_compress_5af95 24 = .ok (.iload 6, 2) := by decide +kernel
theorem dJ2_compress_5af95_26 : decode cJ2_compress_5af95 26 = .ok (.sipush 255, 3) := by decide +kernel
theorem dJ2_compress_5af95_29 : decode cJ2_compress_5af95 29 = .ok (.if_icmp .le 6, 3) := by decide +kernel
theorem dJ2_compress_5af95_32 : decode cJ2_compress_5af95 32 = .ok (.iload 5, 2) := by decide +kernel
theorem dJ2_compress_5af95_34 : decode cJ2_compress_5af95 34 = .ok (.ireturn, 1) := by decide +kernel
theorem dJ2_compress_5af95_35 : decode cJ2_compress_5af95 35 = .ok (.aload_n 2, 1) := by decide +kernel
theorem dJ2_compress_5af95_36 : decode cJ2_compress_5af95 36 = .ok (.iload_n 3, 1) := by decide +kernel
theorem dJ2_compress_5af95_37 : decode cJ2_compress_5af95 37 = .ok (.iload 6, 2) := by decide +kernel
theorem dJ2_compress_5af95_39 : decode cJ2_compress_5af95 39 = .ok (.i2b, 1) := by decide +kernel
theorem dJ2_compress_5af95_40 : decode cJ2_compress_5af95 40 = .ok (.bastore, 1) := by decide +kernel
theorem dJ2_compress_5af95_41 : decode cJ2_compress_5af95 41 = .ok (.iinc 1 1, 3) := by decide +kernel
theorem dJ2_compress_5af95_44 : decode cJ2_compress_5af95 44 = .ok (.iinc 3 1, 3) := by decide +kernel
theorem dJ2_compress_5af95_47 : decode cJ2_compress_5af95 47 = .ok (.iinc 5 1, 3) := by decide +kernel
theorem dJ2_compress_5af95_50 : decode cJ2_compress_5af95 50 = .ok (.goto (-40), 3) := by decide +kernel
theorem dJ2_compress_5af95_53 : decode cJ2_compress_5af95 53 = .ok (.iload 4, 2) := by decide +kernel
theorem dJ2_compress_5af95_55 : decode cJ2_compress_5af95 55 = .ok (.ireturn, 1) := by decide +kernel
theorem dJ2_putCharSB_b72d1_0 : decode cJ2_putCharSB_b72d1 0 = .ok (.iload_n 1, 1) := by decide +kernel
theorem dJ2_putCharSB_b72d1_1 : decode cJ2_putCharSB_b72d1 1 = .ok (.aload_n 0, 1) := by decide +kernel
theorem dJ2_putCharSB_b72d1_2 : decode cJ2_putCharSB_b72d1 2 = .ok (.invokestatic 67, 3) := by decide +kernel
theorem dJ2_putCharSB_b72d1_5 : decode cJ2_putCharSB_b72d1 5 = .ok (.aload_n 0, 1) := by decide +kernel
theorem dJ2_putCharSB_b72d1_6 : decode cJ2_putCharSB_b72d1 6 = .ok (.iload_n 1, 1) := by decide +kernel
theorem dJ2_putCharSB_b72d1_7 : decode cJ2_putCharSB_b72d1 7 = .ok (.iload_n 2, 1) := by decide +kernel
theorem dJ2_putCharSB_b72d1_8 : decode cJ2_putCharSB_b72d1 8 = .ok (.invokestatic 111, 3) := by decide +kernel
theorem dJ2_putCharSB_b72d1_11 : decode cJ2_putCharSB_b72d1 11 = .ok (.return_, 1) := by decide +kernel
theorem dJ2_getChars_46870_0 : decode cJ2_getChars_46870 0 = .ok (.iload_n 1, 1) := by decide +kernel
theorem dJ2_getChars_46870_1 : decode cJ2_getChars_46870 1 = .ok (.iload_n 2, 1) := by decide +kernel
theorem dJ2_getChars_46870_2 : decode cJ2_getChars_46870 2 = .ok (.aload_n 3, 1) := by decide +kernel
theorem dJ2_getChars_46870_3 : decode cJ2_getChars_46870 3 = .ok (.invokestatic 96, 3) := by decide +kernel
theorem dJ2_getChars_46870_6 : decode cJ2_getChars_46870 6 = .ok (.iload_n 0, 1) := by decide +kernel
theorem dJ2_getChars_46870_7 : decode cJ2_getChars_46870 7 = .ok (.iload_n 2, 1) := by decide +kernel
theorem dJ2_getChars_46870_8 : decode cJ2_getChars_46870 8 = .ok (.aload_n 3, 1) := by decide +kernel
theorem dJ2_getChars_46870_9 : decode cJ2_getChars_46870 9 = .ok (.invokestatic 393, 3) := by decide +kernel
theorem dJ2_getChars_46870_12 : decode cJ2_getChars_46870 12 = .ok (.istore 4, 2) := by decide +kernel
theorem dJ2_getChars_46870_14 : decode cJ2_getChars_46870 14 = .ok (.getstatic 44, 3) := by decide +kernel
theorem dJ2_getChars_46870_17 : decode cJ2_getChars_46870 17 = .ok (.ifCond .ne 17, 3) := by decide +kernel
theorem dJ2_getChars_46870_20 : decode cJ2_getChars_46870 20 = .ok (.iload_n 1, 1) := by decide +kernel
theorem dJ2_getChars_46870_21 : decode cJ2_getChars_46870 21 = .ok (.iload 4, 2) := by decide +kernel
theorem dJ2_getChars_46870_23 : decode cJ2_getChars_46870 23 = .ok (.if_icmp .eq 11, 3) := by decide +kernel
theorem dJ2_getChars_46870_26 : decode cJ2_getChars_46870 26 = .ok (.new 52, 3) := by decide +kernel
theorem dJ2_getChars_46870_29 : decode cJ2_getChars_46870 29 = .ok (.dup, 1) := by decide +kernel
theorem dJ2_getChars_46870_30 : decode cJ2_getChars_46870 30 = .ok (.invokespecial 66, 3) := by decide +kernel
theorem dJ2_getChars_46870_33 : decode cJ2_getChars_46870 33 = .ok (.athrow, 1) := by decide +kernel
theorem dJ2_getChars_46870_34 : decode cJ2_getChars_46870 34 = .ok (.iload 4, 2) := by decide +kernel
theorem dJ2_getChars_46870_36 : decode cJ2_getChars_46870 36 = .ok (.ireturn, 1) := by decide +kernel
theorem dJ2_putCharsAt_cd4e5_0 : decode cJ2_putCharsAt_cd4e5 0 = .ok (.iload_n 1, 1) := by decide +kernel
theorem dJ2_putCharsAt_cd4e5_1 : decode cJ2_putCharsAt_cd4e5 1 = .ok (.iconst 4, 1) := by decide +kernel
theorem dJ2_putCharsAt_cd4e5_2 : decode cJ2_putCharsAt_cd4e5 2 = .ok (.iadd, 1) := by decide +kernel
theorem dJ2_putCharsAt_cd4e5_3 : decode cJ2_putCharsAt_cd4e5 3 = .ok (.istore 6, 2) := by decide +kernel
theorem dJ2_putCharsAt_cd4e5_5 : decode cJ2_putCharsAt_cd4e5 5 = .ok (.iload_n 1, 1) := by decide +kernel
theorem dJ2_putCharsAt_cd4e5_6 : decode cJ2_putCharsAt_cd4e5 6 = .ok (.iload 6, 2) := by decide +kernel
theorem dJ2_putCharsAt_cd4e5_8 : decode cJ2_putCharsAt_cd4e5 8 = .ok (.aload_n 0, 1) := by decide +kernel
theorem dJ2_putCharsAt_cd4e5_9 : decode cJ2_putCharsAt_cd4e5 9 = .ok (.invokestatic 96, 3) := by decide +kernel
theorem dJ2_putCharsAt_cd4e5_12 : decode cJ2_putCharsAt_cd4e5 12 = .ok (.aload_n 0, 1) := by decide +kernel
theorem dJ2_putCharsAt_cd4e5_13 : decode cJ2_putCharsAt_cd4e5 13 = .ok (.iload_n 1, 1) := by decide +kernel
theorem dJ2_putCharsAt_cd4e5_14 : decode cJ2_putCharsAt_cd4e5 14 = .ok (.iinc 1 1, 3) := by decide +kernel
theorem dJ2_putCharsAt_cd4e5_17 : decode cJ2_putCharsAt_cd4e5 17 = .ok (.iload_n 2, 1) := by decide +kernel
theorem dJ2_putCharsAt_cd4e5_18 : decode cJ2_putCharsAt_cd4e5 18 = .ok (.invokestatic 111, 3) := by decide +kernel
theorem dJ2_putCharsAt_cd4e5_21 : decode cJ2_putCharsAt_cd4e5 21 = .ok (.aload_n 0, 1) := by decide +kernel
theorem dJ2_putCharsAt_cd4e5_22 : decode cJ2_putCharsAt_cd4e5 22 = .ok (.iload_n 1, 1) := by decide +kernel
theorem dJ2_putCharsAt_cd4e5_23 : decode cJ2_putCharsAt_cd4e5 23 = .ok (.iinc 1 1, 3) := by decide +kernel
theorem dJ2_putCharsAt_cd4e5_26 : decode cJ2_putCharsAt_cd4e5 26 = .ok (.iload_n 3, 1) := by decide +kernel
theorem dJ2_putCharsAt_cd4e5_27 : decode cJ2_putCharsAt_cd4e5 27 = .ok (.invokestatic 111, 3) := by decide +kernel
end
section
theorem dJ2_putCharsAt_cd4e5_30 : decode cJ2_putCharsAt_cd4e5 30 = .ok (.aload_n 0, 1) := by decide +kernel
theorem dJ2_putCharsAt_cd4e5_31 : decode cJ2_putCharsAt_cd4e5 31 = .ok (.iload_n 1, 1) := by decide +kernel
theorem dJ2_putCharsAt_cd4e5_32 : decode cJ2_putCharsAt_cd4e5 32 = .ok (.iinc 1 1, 3) := by decide +kernel
theorem dJ2_putCharsAt_cd4e5_35 : decode cJ2_putCharsAt_cd4e5 35 = .ok (.iload 4, 2) := by decide +kernel
theorem dJ2_putCharsAt_cd4e5_37 : decode cJ2_putCharsAt_cd4e5 37 = .ok (.invokestatic 111, 3) := by decide +kernel
theorem dJ2_putCharsAt_cd4e5_40 : decode cJ2_putCharsAt_cd4e5 40 = .ok (.aload_n 0, 1) := by decide +kernel
theorem dJ2_putCharsAt_cd4e5_41 : decode cJ2_putCharsAt_cd4e5 41 = .ok (.iload_n 1, 1) := by decide +kernel
theorem dJ2_putCharsAt_cd4e5_42 : decode cJ2_putCharsAt_cd4e5 42 = .ok (.iinc 1 1, 3) := by decide +kernel
theorem dJ2_putCharsAt_cd4e5_45 : decode cJ2_putCharsAt_cd4e5 45 = .ok (.iload 5, 2) := by decide +kernel
theorem dJ2_putCharsAt_cd4e5_47 : decode cJ2_putCharsAt_cd4e5 47 = .ok (.invokestatic 111, 3) := by decide +kernel
theorem dJ2_putCharsAt_cd4e5_50 : decode cJ2_putCharsAt_cd4e5 50 = .ok (.getstatic 44, 3) := by decide +kernel
theorem dJ2_putCharsAt_cd4e5_53 : decode cJ2_putCharsAt_cd4e5 53 = .ok (.ifCond .ne 17, 3) := by decide +kernel
theorem dJ2_putCharsAt_cd4e5_56 : decode cJ2_putCharsAt_cd4e5 56 = .ok (.iload_n 1, 1) := by decide +kernel
theorem dJ2_putCharsAt_cd4e5_57 : decode cJ2_putCharsAt_cd4e5 57 = .ok (.iload 6, 2) := by decide +kernel
theorem dJ2_putCharsAt_cd4e5_59 : decode cJ2_putCharsAt_cd4e5 59 = .ok (.if_icmp .eq 11, 3) := by decide +kernel
theorem dJ2_putCharsAt_cd4e5_62 : decode cJ2_putCharsAt_cd4e5 62 = .ok (.new 52, 3) := by decide +kernel
theorem dJ2_putCharsAt_cd4e5_65 : decode cJ2_putCharsAt_cd4e5 65 = .ok (.dup, 1) := by decide +kernel
theorem dJ2_putCharsAt_cd4e5_66 : decode cJ2_putCharsAt_cd4e5 66 = .ok (.invokespecial 66, 3) := by decide +kernel
theorem dJ2_putCharsAt_cd4e5_69 : decode cJ2_putCharsAt_cd4e5 69 = .ok (.athrow, 1) := by decide +kernel
theorem dJ2_putCharsAt_cd4e5_70 : decode cJ2_putCharsAt_cd4e5 70 = .ok (.iload 6, 2) := by decide +kernel
theorem dJ2_putCharsAt_cd4e5_72 : decode cJ2_putCharsAt_cd4e5 72 = .ok (.ireturn, 1) := by decide +kernel
theorem dJ2_inflate_0e8fd_0 : decode cJ2_inflate_0e8fd 0 = .ok (.iload_n 3, 1) := by decide +kernel
theorem dJ2_inflate_0e8fd_1 : decode cJ2_inflate_0e8fd 1 = .ok (.iload 4, 2) := by decide +kernel
theorem dJ2_inflate_0e8fd_3 : decode cJ2_inflate_0e8fd 3 = .ok (.aload_n 2, 1) := by decide +kernel
theorem dJ2_inflate_0e8fd_4 : decode cJ2_inflate_0e8fd 4 = .ok (.invokestatic 173, 3) := by decide +kernel
theorem dJ2_inflate_0e8fd_7 : decode cJ2_inflate_0e8fd 7 = .ok (.iconst 0, 1) := by decide +kernel
theorem dJ2_inflate_0e8fd_8 : decode cJ2_inflate_0e8fd 8 = .ok (.istore 5, 2) := by decide +kernel
theorem dJ2_inflate_0e8fd_10 : decode cJ2_inflate_0e8fd 10 = .ok (.iload 5, 2) := by decide +kernel
theorem dJ2_inflate_0e8fd_12 : decode cJ2_inflate_0e8fd 12 = .ok (.iload 4, 2) := by decide +kernel
theorem dJ2_inflate_0e8fd_14 : decode cJ2_inflate_0e8fd 14 = .ok (.if_icmp .ge 27, 3) := by decide +kernel
theorem dJ2_inflate_0e8fd_17 : decode cJ2_inflate_0e8fd 17 = .ok (.aload_n 2, 1) := by decide +kernel
theorem dJ2_inflate_0e8fd_18 : decode cJ2_inflate_0e8fd 18 = .ok (.iload_n 3, 1) := by decide +kernel
theorem dJ2_inflate_0e8fd_19 : decode cJ2_inflate_0e8fd 19 = .ok (.iinc 3 1, 3) := by decide +kernel
theorem dJ2_inflate_0e8fd_22 : decode cJ2_inflate_0e8fd 22 = .ok (.aload_n 0, 1) := by decide +kernel
theorem dJ2_inflate_0e8fd_23 : decode cJ2_inflate_0e8fd 23 = .ok (.iload_n 1, 1) := by decide +kernel
theorem dJ2_inflate_0e8fd_24 : decode cJ2_inflate_0e8fd 24 = .ok (.iinc 1 1, 3) := by decide +kernel
theorem dJ2_inflate_0e8fd_27 : decode cJ2_inflate_0e8fd 27 = .ok (.baload, 1) := by decide +kernel
theorem dJ2_inflate_0e8fd_28 : decode cJ2_inflate_0e8fd 28 = .ok (.sipush 255, 3) := by decide +kernel
theorem dJ2_inflate_0e8fd_31 : decode cJ2_inflate_0e8fd 31 = .ok (.iand, 1) := by decide +kernel
theorem dJ2_inflate_0e8fd_32 : decode cJ2_inflate_0e8fd 32 = .ok (.invokestatic 111, 3) := by decide +kernel
theorem dJ2_inflate_0e8fd_35 : decode cJ2_inflate_0e8fd 35 = .ok (.iinc 5 1, 3) := by decide +kernel
theorem dJ2_inflate_0e8fd_38 : decode cJ2_inflate_0e8fd 38 = .ok (.goto (-28), 3) := by decide +kernel
theorem dJ2_inflate_0e8fd_41 : decode cJ2_inflate_0e8fd 41 = .ok (.return_, 1) := by decide +kernel
theorem dJ2_getChars_ba4f3_0 : decode cJ2_getChars_ba4f3 0 = .ok (.iload_n 1, 1) := by decide +kernel
theorem dJ2_getChars_ba4f3_1 : decode cJ2_getChars_ba4f3 1 = .ok (.istore 5, 2) := by decide +kernel
theorem dJ2_getChars_ba4f3_3 : decode cJ2_getChars_ba4f3 3 = .ok (.iload_n 0, 1) := by decide +kernel
theorem dJ2_getChars_ba4f3_4 : decode cJ2_getChars_ba4f3 4 = .ok (.ifCond .ge 7, 3) := by decide +kernel
theorem dJ2_getChars_ba4f3_7 : decode cJ2_getChars_ba4f3 7 = .ok (.iconst 1, 1) := by decide +kernel
theorem dJ2_getChars_ba4f3_8 : decode cJ2_getChars_ba4f3 8 = .ok (.goto 4, 3) := by decide +kernel
theorem dJ2_getChars_ba4f3_11 : decode cJ2_getChars_ba4f3 11 = .ok (.iconst 0, 1) := by decide +kernel
theorem dJ2_getChars_ba4f3_12 : decode cJ2_getChars_ba4f3 12 = .ok (.istore 6, 2) := by decide +kernel
theorem dJ2_getChars_ba4f3_14 : decode cJ2_getChars_ba4f3 14 = .ok (.iload 6, 2) := by decide +kernel
theorem dJ2_getChars_ba4f3_16 : decode cJ2_getChars_ba4f3 16 = .ok (.ifCond .ne 6, 3) := by decide +kernel
theorem dJ2_getChars_ba4f3_19 : decode cJ2_getChars_ba4f3 19 = .ok (.iload_n 0, 1) := by decide +kernel
theorem dJ2_getChars_ba4f3_20 : decode cJ2_getChars_ba4f3 20 = .ok (.ineg, 1) := by decide +kernel
theorem dJ2_getChars_ba4f3_21 : decode cJ2_getChars_ba4f3 21 = .ok (.istore_n 0, 1) := by decide +kernel
theorem dJ2_getChars_ba4f3_22 : decode cJ2_getChars_ba4f3 22 = .ok (.iload_n 0, 1) := by decide +kernel
theorem dJ2_getChars_ba4f3_23 : decode cJ2_getChars_ba4f3 23 = .ok (.bipush (-100), 2) := by decide +kernel
theorem dJ2_getChars_ba4f3_25 : decode cJ2_getChars_ba4f3 25 = .ok (.if_icmp .gt 51, 3) := by decide +kernel
theorem dJ2_getChars_ba4f3_28 : decode cJ2_getChars_ba4f3 28 = .ok (.iload_n 0, 1) := by decide +kernel
theorem dJ2_getChars_ba4f3_29 : decode cJ2_getChars_ba4f3 29 = .ok (.bipush 100, 2) := by decide +kernel
theorem dJ2_getChars_ba4f3_31 : decode cJ2_getChars_ba4f3 31 = .ok (.idiv, 1) := by decide +kernel
theorem dJ2_getChars_ba4f3_32 : decode cJ2_getChars_ba4f3 32 = .ok (.istore_n 3, 1) := by decide +kernel
theorem dJ2_getChars_ba4f3_33 : decode cJ2_getChars_ba4f3 33 = .ok (.iload_n 3, 1) := by decide +kernel
theorem dJ2_getChars_ba4f3_34 : decode cJ2_getChars_ba4f3 34 = .ok (.bipush 100, 2) := by decide +kernel
theorem dJ2_getChars_ba4f3_36 : decode cJ2_getChars_ba4f3 36 = .ok (.imul, 1) := by decide +kernel
theorem dJ2_getChars_ba4f3_37 : decode cJ2_getChars_ba4f3 37 = .ok (.iload_n 0, 1) := by decide +kernel
theorem dJ2_getChars_ba4f3_38 : decode cJ2_getChars_ba4f3 38 = .ok (.isub, 1) := by decide +kernel
theorem dJ2_getChars_ba4f3_39 : decode cJ2_getChars_ba4f3 39 = .ok (.istore 4, 2) := by decide +kernel
theorem dJ2_getChars_ba4f3_41 : decode cJ2_getChars_ba4f3 41 = .ok (.iload_n 3, 1) := by decide +kernel
theorem dJ2_getChars_ba4f3_42 : decode cJ2_getChars_ba4f3 42 = .ok (.istore_n 0, 1) := by decide +kernel
theorem dJ2_getChars_ba4f3_43 : decode cJ2_getChars_ba4f3 43 = .ok (.aload_n 2, 1) := by decide +kernel
theorem dJ2_getChars_ba4f3_44 : decode cJ2_getChars_ba4f3 44 = .ok (.iinc 5 (-1), 3) := by decide +kernel
theorem dJ2_getChars_ba4f3_47 : decode cJ2_getChars_ba4f3 47 = .ok (.iload 5, 2) := by decide +kernel
theorem dJ2_getChars_ba4f3_49 : decode cJ2_getChars_ba4f3 49 = .ok (.getstatic 403, 3) := by decide +kernel
theorem dJ2_getChars_ba4f3_52 : decode cJ2_getChars_ba4f3 52 = .ok (.iload 4, 2) := by decide +kernel
theorem dJ2_getChars_ba4f3_54 : decode cJ2_getChars_ba4f3 54 = .ok (.baload, 1) := by decide +kernel
theorem dJ2_getChars_ba4f3_55 : decode cJ2_getChars_ba4f3 55 = .ok (.invokestatic 111, 3) := by decide +kernel
theorem dJ2_getChars_ba4f3_58 : decode cJ2_getChars_ba4f3 58 = .ok (.aload_n 2, 1) := by decide +kernel
theorem dJ2_getChars_ba4f3_59 : decode cJ2_getChars_ba4f3 59 = .ok (.iinc 5 (-1), 3) := by decide +kernel
theorem dJ2_getChars_ba4f3_62 : decode cJ2_getChars_ba4f3 62 = .ok (.iload 5, 2) := by decide +kernel
theorem dJ2_getChars_ba4f3_64 : decode cJ2_getChars_ba4f3 64 = .ok (.getstatic 407, 3) := by decide +kernel
theorem dJ2_getChars_ba4f3_67 : decode cJ2_getChars_ba4f3 67 = .ok (.iload 4, 2) := by decide +kernel
theorem dJ2_getChars_ba4f3_69 : decode cJ2_getChars_ba4f3 69 = .ok (.baload, 1) := by decide +kernel
theorem dJ2_getChars_ba4f3_70 : decode cJ2_getChars_ba4f3 70 = .ok (.invokestatic 111, 3) := by decide +kernel
theorem dJ2_getChars_ba4f3_73 : decode cJ2_getChars_ba4f3 73 = .ok (.goto (-51), 3) := by decide +kernel
theorem dJ2_getChars_ba4f3_76 : decode cJ2_getChars_ba4f3 76 = .ok (.aload_n 2, 1) := by decide +kernel
theorem dJ2_getChars_ba4f3_77 : decode cJ2_getChars_ba4f3 77 = .ok (.iinc 5 (-1), 3) := by decide +kernel
theorem dJ2_getChars_ba4f3_80 : decode cJ2_getChars_ba4f3 80 = .ok (.iload 5, 2) := by decide +kernel
theorem dJ2_getChars_ba4f3_82 : decode cJ2_getChars_ba4f3 82 = .ok (.getstatic 403, 3) := by decide +kernel
theorem dJ2_getChars_ba4f3_85 : decode cJ2_getChars_ba4f3 85 = .ok (.iload_n 0, 1) := by decide +kernel
theorem dJ2_getChars_ba4f3_86 : decode cJ2_getChars_ba4f3 86 = .ok (.ineg, 1) := by decide +kernel
theorem dJ2_getChars_ba4f3_87 : decode cJ2_getChars_ba4f3 87 = .ok (.baload, 1) := by decide +kernel
theorem dJ2_getChars_ba4f3_88 : decode cJ2_getChars_ba4f3 88 = .ok (.invokestatic 111, 3) := by decide +kernel
theorem dJ2_getChars_ba4f3_91 : decode cJ2_getChars_ba4f3 91 = .ok (.iload_n 0, 1) := by decide +kernel
theorem dJ2_getChars_ba4f3_92 : decode cJ2_getChars_ba4f3 92 = .ok (.bipush (-9), 2) := by decide +kernel
theorem dJ2_getChars_ba4f3_94 : decode cJ2_getChars_ba4f3 94 = .ok (.if_icmp .ge 18, 3) := by decide +kernel
theorem dJ2_getChars_ba4f3_97 : decode cJ2_getChars_ba4f3 97 = .ok (.aload_n 2, 1) := by decide +kernel
theorem dJ2_getChars_ba4f3_98 : decode cJ2_getChars_ba4f3 98 = .ok (.iinc 5 (-1), 3) := by decide +kernel
theorem dJ2_getChars_ba4f3_101 : decode cJ2_getChars_ba4f3 101 = .ok (.iload 5, 2) := by decide +kernel
theorem dJ2_getChars_ba4f3_103 : decode cJ2_getChars_ba4f3 103 = .ok (.getstatic 407, 3) := by decide +kernel
theorem dJ2_getChars_ba4f3_106 : decode cJ2_getChars_ba4f3 106 = .ok (.iload_n 0, 1) := by decide +kernel
theorem dJ2_getChars_ba4f3_107 : decode cJ2_getChars_ba4f3 107 = .ok (.ineg, 1) := by decide +kernel
theorem dJ2_getChars_ba4f3_108 : decode cJ2_getChars_ba4f3 108 = .ok (.baload, 1) := by decide +kernel
theorem dJ2_getChars_ba4f3_109 : decode cJ2_getChars_ba4f3 109 = .ok (.invokestatic 111, 3) := by decide +kernel
theorem dJ2_getChars_ba4f3_112 : decode cJ2_getChars_ba4f3 112 = .ok (.iload 6, 2) := by decide +kernel
theorem dJ2_getChars_ba4f3_114 : decode cJ2_getChars_ba4f3 114 = .ok (.ifCond .eq 14, 3) := by decide +kernel
theorem dJ2_getChars_ba4f3_117 : decode cJ2_getChars_ba4f3 117 = .ok (.aload_n 2, 1) := by decide +kernel
theorem dJ2_getChars_ba4f3_118 : decode cJ2_getChars_ba4f3 118 = .ok (.iinc 5 (-1), 3) := by decide +kernel
theorem dJ2_getChars_ba4f3_121 : decode cJ2_getChars_ba4f3 121 = .ok (.iload 5, 2) := by decide +kernel
theorem dJ2_getChars_ba4f3_123 : decode cJ2_getChars_ba4f3 123 = .ok (.bipush 45, 2) := by decide +kernel
theorem dJ2_getChars_ba4f3_125 : decode cJ2_getChars_ba4f3 125 = .ok (.invokestatic 111, 3) := by decide +kernel
theorem dJ2_getChars_ba4f3_128 : decode cJ2_getChars_ba4f3 128 = .ok (.iload 5, 2) := by decide +kernel
theorem dJ2_getChars_ba4f3_130 : decode cJ2_getChars_ba4f3 130 = .ok (.ireturn, 1) := by decide +kernel
theorem dJ2_checkIndex_2214a_0 : decode cJ2_checkIndex_2214a 0 = .ok (.iload_n 0, 1) := by decide +kernel
theorem dJ2_checkIndex_2214a_1 : decode cJ2_checkIndex_2214a 1 = .ok (.aload_n 1, 1) := by decide +kernel
theorem dJ2_checkIndex_2214a_2 : decode cJ2_checkIndex_2214a 2 = .ok (.invokestatic 48, 3) := by decide +kernel
theorem dJ2_checkIndex_2214a_5 : decode cJ2_checkIndex_2214a 5 = .ok (.invokestatic 414, 3) := by decide +kernel
theorem dJ2_checkIndex_2214a_8 : decode cJ2_checkIndex_2214a 8 = .ok (.return_, 1) := by decide +kernel
theorem dJ2_checkBoundsBeginEnd_d044e_0 : decode cJ2_checkBoundsBeginEnd_d044e 0 = .ok (.iload_n 0, 1) := by decide +kernel
theorem dJ2_checkBoundsBeginEnd_d044e_1 : decode cJ2_checkBoundsBeginEnd_d044e 1 = .ok (.iload_n 1, 1) := by decide +kernel
theorem dJ2_checkBoundsBeginEnd_d044e_2 : decode cJ2_checkBoundsBeginEnd_d044e 2 = .ok (.aload_n 2, 1) := by decide +kernel
theorem dJ2_checkBoundsBeginEnd_d044e_3 : decode cJ2_checkBoundsBeginEnd_d044e 3 = .ok (.invokestatic 48, 3) := by decide +kernel
theorem dJ2_checkBoundsBeginEnd_d044e_6 : decode cJ2_checkBoundsBeginEnd_d044e 6 = .ok (.invokestatic 241, 3) := by decide +kernel
theorem dJ2_checkBoundsBeginEnd_d044e_9 : decode cJ2_checkBoundsBeginEnd_d044e 9 = .ok (.return_, 1) := by decide +kernel
theorem dJ2_checkBoundsOffCount_d044e_0 : decode cJ2_checkBoundsOffCount_d044e 0 = .ok (.iload_n 0, 1) := by decide +kernel
theorem dJ2_checkBoundsOffCount_d044e_1 : decode cJ2_checkBoundsOffCount_d044e 1 = .ok (.iload_n 1, 1) := by decide +kernel
theorem dJ2_checkBoundsOffCount_d044e_2 : decode cJ2_checkBoundsOffCount_d044e 2 = .ok (.aload_n 2, 1) := by decide +kernel
theorem dJ2_checkBoundsOffCount_d044e_3 : decode cJ2_checkBoundsOffCount_d044e 3 = .ok (.invokestatic 48, 3) := by decide +kernel
theorem dJ2_checkBoundsOffCount_d044e_6 : decode cJ2_checkBoundsOffCount_d044e 6 = .ok (.invokestatic 419, 3) := by decide +kernel
theorem dJ2_checkBoundsOffCount_d044e_9 : decode cJ2_checkBoundsOffCount_d044e 9 = .ok (.pop, 1) := by decide +kernel
theorem dJ2_checkBoundsOffCount_d044e_10 : decode cJ2_checkBoundsOffCount_d044e 10 = .ok (.return_, 1) := by decide +kernel
theorem dJxa1e45_init_da8c8_0 : decode cJxa1e45_init_da8c8 0 = .ok (.aload_n 0, 1) := by decide +kernel
theorem dJxa1e45_init_da8c8_1 : decode cJxa1e45_init_da8c8 1 = .ok (.invokespecial 1, 3) := by decide +kernel
theorem dJxa1e45_init_da8c8_4 : decode cJxa1e45_init_da8c8 4 = .ok (.return_, 1) := by decide +kernel
theorem dJxc12de_init_da8c8_0 : decode cJxc12de_init_da8c8 0 = .ok (.aload_n 0, 1) := by decide +kernel
theorem dJxc12de_init_da8c8_1 : decode cJxc12de_init_da8c8 1 = .ok (.invokespecial 1, 3) := by decide +kernel
theorem dJxc12de_init_da8c8_4 : decode cJxc12de_init_da8c8 4 = .ok (.aload_n 0, 1) := by decide +kernel
theorem dJxc12de_init_da8c8_5 : decode cJxc12de_init_da8c8 5 = .ok (.iconst 0, 1) := by decide +kernel
theorem dJxc12de_init_da8c8_6 : decode cJxc12de_init_da8c8 6 = .ok (.putfield 7, 3) := by decide +kernel
theorem dJxc12de_init_da8c8_9 : decode cJxc12de_init_da8c8 9 = .ok (.return_, 1) := by decide +kernel
theorem dJx35411_init_45d68_0 : decode cJx35411_init_45d68 0 = .ok (.aload_n 0, 1) := by decide +kernel
theorem dJx35411_init_45d68_1 : decode cJx35411_init_45d68 1 = .ok (.aload_n 1, 1) := by decide +kernel
theorem dJx35411_init_45d68_2 : decode cJx35411_init_45d68 2 = .ok (.putfield 1, 3) := by decide +kernel
theorem dJx35411_init_45d68_5 : decode cJx35411_init_45d68 5 = .ok (.aload_n 0, 1) := by decide +kernel
theorem dJx35411_init_45d68_6 : decode cJx35411_init_45d68 6 = .ok (.invokespecial 7, 3) := by decide +kernel
theorem dJx35411_init_45d68_9 : decode cJx35411_init_45d68 9 = .ok (.aload_n 0, 1) := by decide +kernel
theorem dJx35411_init_45d68_10 : decode cJx35411_init_45d68 10 = .ok (.iconst (-1), 1) := by decide +kernel
theorem dJx35411_init_45d68_11 : decode cJx35411_init_45d68 11 = .ok (.putfield 13, 3) := by decide +kernel
theorem dJx35411_init_45d68_14 : decode cJx35411_init_45d68 14 = .ok (.aload_n 0, 1) := by decide +kernel
theorem dJx35411_init_45d68_15 : decode cJx35411_init_45d68 15 = .ok (.aload_n 0, 1) := by decide +kernel
theorem dJx35411_init_45d68_16 : decode cJx35411_init_45d68 16 = .ok (.getfield 1, 3) := by decide +kernel
theorem dJx35411_init_45d68_19 : decode cJx35411_init_45d68 19 = .ok (.getfield 17, 3) := by decide +kernel
theorem dJx35411_init_45d68_22 : decode cJx35411_init_45d68 22 = .ok (.putfield 22, 3) := by decide +kernel
theorem dJx35411_init_45d68_25 : decode cJx35411_init_45d68 25 = .ok (.return_, 1) := by decide +kernel
theorem dJx35411_hasNext_aae02_0 : decode cJx35411_hasNext_aae02 0 = .ok (.aload_n 0, 1) := by decide +kernel
theorem dJx35411_hasNext_aae02_1 : decode cJx35411_hasNext_aae02 1 = .ok (.getfield 25, 3) := by decide +kernel
theorem dJx35411_hasNext_aae02_4 : decode cJx35411_hasNext_aae02 4 = .ok (.aload_n 0, 1) := by decide +kernel
theorem dJx35411_hasNext_aae02_5 : decode cJx35411_hasNext_aae02 5 = .ok (.getfield 1, 3) := by decide +kernel
theorem dJx35411_hasNext_aae02_8 : decode cJx35411_hasNext_aae02 8 = .ok (.getfield 28, 3) := by decide +kernel
theorem dJx35411_hasNext_aae02_11 : decode cJx35411_hasNext_aae02 11 = .ok (.if_icmp .eq 7, 3) := by decide +kernel
theorem dJx35411_hasNext_aae02_14 : decode cJx35411_hasNext_aae02 14 = .ok (.iconst 1, 1) := by decide +kernel
theorem dJx35411_hasNext_aae02_15 : decode cJx35411_hasNext_aae02 15 = .ok (.goto 4, 3) := by decide +kernel
theorem dJx35411_hasNext_aae02_18 : decode cJx35411_hasNext_aae02 18 = .ok (.iconst 0, 1) := by decide +kernel
theorem dJx35411_hasNext_aae02_19 : decode cJx35411_hasNext_aae02 19 = .ok (.ireturn, 1) := by decide +kernel
theorem dJx35411_next_0502b_0 : decode cJx35411_next_0502b 0 = .ok (.aload_n 0, 1) := by decide +kernel
theorem dJx35411_next_0502b_1 : decode cJx35411_next_0502b 1 = .ok (.invokevirtual 31, 3) := by decide +kernel
theorem dJx35411_next_0502b_4 : decode cJx35411_next_0502b 4 = .ok (.aload_n 0, 1) := by decide +kernel
theorem dJx35411_next_0502b_5 : decode cJx35411_next_0502b 5 = .ok (.getfield 25, 3) := by decide +kernel
theorem dJx35411_next_0502b_8 : decode cJx35411_next_0502b 8 = .ok (.istore_n 1, 1) := by decide +kernel
theorem dJx35411_next_0502b_9 : decode cJx35411_next_0502b 9 = .ok (.iload_n 1, 1) := by decide +kernel
theorem dJx35411_next_0502b_10 : decode cJx35411_next_0502b 10 = .ok (.aload_n 0, 1) := by decide +kernel
theorem dJx35411_next_0502b_11 : decode cJx35411_next_0502b 11 = .ok (.getfield 1, 3) := by decide +kernel
theorem dJx35411_next_0502b_14 : decode cJx35411_next_0502b 14 = .ok (.getfield 28, 3) := by decide +kernel
theorem dJx35411_next_0502b_17 : decode cJx35411_next_0502b 17 = .ok (.if_icmp .lt 11, 3) := by decide +kernel
theorem dJx35411_next_0502b_20 : decode cJx35411_next_0502b 20 = .ok (.new 34, 3) := by decide +kernel
theorem dJx35411_next_0502b_23 : decode cJx35411_next_0502b 23 = .ok (.dup, 1) := by decide +kernel
theorem dJx35411_next_0502b_24 : decode cJx35411_next_0502b 24 = .ok (.invokespecial 36, 3) := by decide +kernel
theorem dJx35411_next_0502b_27 : decode cJx35411_next_0502b 27 = .ok (.athrow, 1) := by decide +kernel
theorem dJx35411_next_0502b_28 : decode cJx35411_next_0502b 28 = .ok (.aload_n 0, 1) := by decide +kernel
theorem dJx35411_next_0502b_29 : decode cJx35411_next_0502b 29 = .ok (.getfield 1, 3) := by decide +kernel
theorem dJx35411_next_0502b_32 : decode cJx35411_next_0502b 32 = .ok (.getfield 37, 3) := by decide +kernel
theorem dJx35411_next_0502b_35 : decode cJx35411_next_0502b 35 = .ok (.astore_n 2, 1) := by decide +kernel
theorem dJx35411_next_0502b_36 : decode cJx35411_next_0502b 36 = .ok (.iload_n 1, 1) := by decide +kernel
theorem dJx35411_next_0502b_37 : decode cJx35411_next_0502b 37 = .ok (.aload_n 2, 1) := by decide +kernel
theorem dJx35411_next_0502b_38 : decode cJx35411_next_0502b 38 = .ok (.arraylength, 1) := by decide +kernel
theorem dJx35411_next_0502b_39 : decode cJx35411_next_0502b 39 = .ok (.if_icmp .lt 11, 3) := by decide +kernel
theorem dJx35411_next_0502b_42 : decode cJx35411_next_0502b 42 = .ok (.new 41, 3) := by decide +kernel
theorem dJx35411_next_0502b_45 : decode cJx35411_next_0502b 45 = .ok (.dup, 1) := by decide +kernel
theorem dJx35411_next_0502b_46 : decode cJx35411_next_0502b 46 = .ok (.invokespecial 43, 3) := by decide +kernel
theorem dJx35411_next_0502b_49 : decode cJx35411_next_0502b 49 = .ok (.athrow, 1) := by decide +kernel
theorem dJx35411_next_0502b_50 : decode cJx35411_next_0502b 50 = .ok (.aload_n 0, 1) := by decide +kernel
theorem dJx35411_next_0502b_51 : decode cJx35411_next_0502b 51 = .ok (.iload_n 1, 1) := by decide +kernel
theorem dJx35411_next_0502b_52 : decode cJx35411_next_0502b 52 = .ok (.iconst 1, 1) := by decide +kernel
theorem dJx35411_next_0502b_53 : decode cJx35411_next_0502b 53 = .ok (.iadd, 1) := by decide +kernel
theorem dJx35411_next_0502b_54 : decode cJx35411_next_0502b 54 = .ok (.putfield 25, 3) := by decide +kernel
theorem dJx35411_next_0502b_57 : decode cJx35411_next_0502b 57 = .ok (.aload_n 2, 1) := by decide +kernel
theorem dJx35411_next_0502b_58 : decode cJx35411_next_0502b 58 = .ok (.aload_n 0, 1) := by decide +kernel
theorem dJx35411_next_0502b_59 : decode cJx35411_next_0502b 59 = .ok (.iload_n 1, 1) := by decide +kernel
theorem dJx35411_next_0502b_60 : decode cJx35411_next_0502b 60 = .ok (.dup_x1, 1) := by decide +kernel
theorem dJx35411_next_0502b_61 : decode cJx35411_next_0502b 61 = .ok (.putfield 13, 3) := by decide +kernel
theorem dJx35411_next_0502b_64 : decode cJx35411_next_0502b 64 = .ok (.aaload, 1) := by decide +kernel
theorem dJx35411_next_0502b_65 : decode cJx35411_next_0502b 65 = .ok (.areturn, 1) := by decide +kernel
theorem dJx35411_checkForComodification_da8c8_0 : decode cJx35411_checkForComodification_da8c8 0 = .ok (.aload_n 0, 1) := by decide +kernel
theorem dJx35411_checkForComodification_da8c8_1 : decode cJx35411_checkForComodification_da8c8 1 = .ok (.getfield 1, 3) := by decide +kernel
theorem dJx35411_checkForComodification_da8c8_4 : decode cJx35411_checkForComodification_da8c8 4 = .ok (.getfield 17, 3) := by decide +kernel
theorem dJx35411_checkForComodification_da8c8_7 : decode cJx35411_checkForComodification_da8c8 7 = .ok (.aload_n 0, 1) := by decide +kernel
theorem dJx35411_checkForComodification_da8c8_8 : decode cJx35411_checkForComodification_da8c8 8 = .ok (.getfield 22, 3) := by decide +kernel
theorem dJx35411_checkForComodification_da8c8_11 : decode cJx35411_checkForComodification_da8c8 11 = .ok (.if_icmp .eq 11, 3) := by decide +kernel
theorem dJx35411_checkForComodification_da8c8_14 : decode cJx35411_checkForComodification_da8c8 14 = .ok (.new 41, 3) := by decide +kernel
theorem dJx35411_checkForComodification_da8c8_17 : decode cJx35411_checkForComodification_da8c8 17 = .ok (.dup, 1) := by decide +kernel
theorem dJx35411_checkForComodification_da8c8_18 : decode cJx35411_checkForComodification_da8c8 18 = .ok (.invokespecial 43, 3) := by decide +kernel
theorem dJx35411_checkForComodification_da8c8_21 : decode cJx35411_checkForComodification_da8c8 21 = .ok (.athrow, 1) := by decide +kernel
theorem dJx35411_checkForComodification_da8c8_22 : decode cJx35411_checkForComodification_da8c8 22 = .ok (.return_, 1) := by decide +kernel
theorem dJx4a65c_init_da8c8_0 : decode cJx4a65c_init_da8c8 0 = .ok (.aload_n 0, 1) := by decide +kernel
theorem dJx4a65c_init_da8c8_1 : decode cJx4a65c_init_da8c8 1 = .ok (.invokespecial 1, 3) := by decide +kernel
theorem dJx4a65c_init_da8c8_4 : decode cJx4a65c_init_da8c8 4 = .ok (.aload_n 0, 1) := by decide +kernel
theorem dJx4a65c_init_da8c8_5 : decode cJx4a65c_init_da8c8 5 = .ok (.getstatic 39, 3) := by decide +kernel
theorem dJx4a65c_init_da8c8_8 : decode cJx4a65c_init_da8c8 8 = .ok (.putfield 9, 3) := by decide +kernel
theorem dJx4a65c_init_da8c8_11 : decode cJx4a65c_init_da8c8 11 = .ok (.return_, 1) := by decide +kernel
theorem dJx4a65c_grow_92f84_0 : decode cJx4a65c_grow_92f84 0 = .ok (.aload_n 0, 1) := by decide +kernel
theorem dJx4a65c_grow_92f84_1 : decode cJx4a65c_grow_92f84 1 = .ok (.getfield 9, 3) := by decide +kernel
theorem dJx4a65c_grow_92f84_4 : decode cJx4a65c_grow_92f84 4 = .ok (.arraylength, 1) := by decide +kernel
theorem dJx4a65c_grow_92f84_5 : decode cJx4a65c_grow_92f84 5 = .ok (.istore_n 2, 1) := by decide +kernel
theorem dJx4a65c_grow_92f84_6 : decode cJx4a65c_grow_92f84 6 = .ok (.iload_n 2, 1) := by decide +kernel
theorem dJx4a65c_grow_92f84_7 : decode cJx4a65c_grow_92f84 7 = .ok (.ifCond .gt 13, 3) := by decide +kernel
theorem dJx4a65c_grow_92f84_10 : decode cJx4a65c_grow_92f84 10 = .ok (.aload_n 0, 1) := by decide +kernel
theorem dJx4a65c_grow_92f84_11 : decode cJx4a65c_grow_92f84 11 = .ok (.getfield 9, 3) := by decide +kernel
theorem dJx4a65c_grow_92f84_14 : decode cJx4a65c_grow_92f84 14 = .ok (.getstatic 39, 3) := by decide +kernel
theorem dJx4a65c_grow_92f84_17 : decode cJx4a65c_grow_92f84 17 = .ok (.if_acmp .eq 28, 3) := by decide +kernel
theorem dJx4a65c_grow_92f84_20 : decode cJx4a65c_grow_92f84 20 = .ok (.iload_n 2, 1) := by decide +kernel
theorem dJx4a65c_grow_92f84_21 : decode cJx4a65c_grow_92f84 21 = .ok (.iload_n 1, 1) := by decide +kernel
theorem dJx4a65c_grow_92f84_22 : decode cJx4a65c_grow_92f84 22 = .ok (.iload_n 2, 1) := by decide +kernel
theorem dJx4a65c_grow_92f84_23 : decode cJx4a65c_grow_92f84 23 = .ok (.isub, 1) := by decide +kernel
theorem dJx4a65c_grow_92f84_24 : decode cJx4a65c_grow_92f84 24 = .ok (.iload_n 2, 1) := by decide +kernel
theorem dJx4a65c_grow_92f84_25 : decode cJx4a65c_grow_92f84 25 = .ok (.iconst 1, 1) := by decide +kernel
theorem dJx4a65c_grow_92f84_26 : decode cJx4a65c_grow_92f84 26 = .ok (.ishr, 1) := by decide +kernel
theorem dJx4a65c_grow_92f84_27 : decode cJx4a65c_grow_92f84 27 = .ok (.invokestatic 73, 3) := by decide +kernel
theorem dJx4a65c_grow_92f84_30 : decode cJx4a65c_grow_92f84 30 = .ok (.istore_n 3, 1) := by decide +kernel
theorem dJx4a65c_grow_92f84_31 : decode cJx4a65c_grow_92f84 31 = .ok (.aload_n 0, 1) := by decide +kernel
theorem dJx4a65c_grow_92f84_32 : decode cJx4a65c_grow_92f84 32 = .ok (.aload_n 0, 1) := by decide +kernel
theorem dJx4a65c_grow_92f84_33 : decode cJx4a65c_grow_92f84 33 = .ok (.getfield 9, 3) := by decide +kernel
theorem dJx4a65c_grow_92f84_36 : decode cJx4a65c_grow_92f84 36 = .ok (.iload_n 3, 1) := by decide +kernel
theorem dJx4a65c_grow_92f84_37 : decode cJx4a65c_grow_92f84 37 = .ok (.invokestatic 66, 3) := by decide +kernel
theorem dJx4a65c_grow_92f84_40 : decode cJx4a65c_grow_92f84 40 = .ok (.dup_x1, 1) := by decide +kernel
theorem dJx4a65c_grow_92f84_41 : decode cJx4a65c_grow_92f84 41 = .ok (.putfield 9, 3) := by decide +kernel
theorem dJx4a65c_grow_92f84_44 : decode cJx4a65c_grow_92f84 44 = .ok (.areturn, 1) := by decide +kernel
theorem dJx4a65c_grow_92f84_45 : decode cJx4a65c_grow_92f84 45 = .ok (.aload_n 0, 1) := by decide +kernel
theorem dJx4a65c_grow_92f84_46 : decode cJx4a65c_grow_92f84 46 = .ok (.bipush 10, 2) := by decide +kernel
theorem dJx4a65c_grow_92f84_48 : decode cJx4a65c_grow_92f84 48 = .ok (.iload_n 1, 1) := by decide +kernel
theorem dJx4a65c_grow_92f84_49 : decode cJx4a65c_grow_92f84 49 = .ok (.invokestatic 79, 3) := by decide +kernel
theorem dJx4a65c_grow_92f84_52 : decode cJx4a65c_grow_92f84 52 = .ok (.anewarray 7, 3) := by decide +kernel
theorem dJx4a65c_grow_92f84_55 : decode cJx4a65c_grow_92f84 55 = .ok (.dup_x1, 1) := by decide +kernel
theorem dJx4a65c_grow_92f84_56 : decode cJx4a65c_grow_92f84 56 = .ok (.putfield 9, 3) := by decide +kernel
theorem dJx4a65c_grow_92f84_59 : decode cJx4a65c_grow_92f84 59 = .ok (.areturn, 1) := by decide +kernel
theorem dJx4a65c_grow_d5877_0 : decode cJx4a65c_grow_d5877 0 = .ok (.aload_n 0, 1) := by decide +kernel
theorem dJx4a65c_grow_d5877_1 : decode cJx4a65c_grow_d5877 1 = .ok (.aload_n 0, 1) := by decide +kernel
theorem dJx4a65c_grow_d5877_2 : decode cJx4a65c_grow_d5877 2 = .ok (.getfield 48, 3) := by decide +kernel
theorem dJx4a65c_grow_d5877_5 : decode cJx4a65c_grow_d5877 5 = .ok (.iconst 1, 1) := by decide +kernel
theorem dJx4a65c_grow_d5877_6 : decode cJx4a65c_grow_d5877 6 = .ok (.iadd, 1) := by decide +kernel
theorem dJx4a65c_grow_d5877_7 : decode cJx4a65c_grow_d5877 7 = .ok (.invokevirtual 69, 3) := by decide +kernel
theorem dJx4a65c_grow_d5877_10 : decode cJx4a65c_grow_d5877 10 = .ok (.areturn, 1) := by decide +kernel
theorem dJx4a65c_size_8abf5_0 : decode cJx4a65c_size_8abf5 0 = .ok (.aload_n 0, 1) := by decide +kernel
theorem dJx4a65c_size_8abf5_1 : decode cJx4a65c_size_8abf5 1 = .ok (.getfield 48, 3) := by decide +kernel
theorem dJx4a65c_size_8abf5_4 : decode cJx4a65c_size_8abf5 4 = .ok (.ireturn, 1) := by decide +kernel
theorem dJx4a65c_elementData_915e3_0 : decode cJx4a65c_elementData_915e3 0 = .ok (.aload_n 0, 1) := by decide +kernel
theorem dJx4a65c_elementData_915e3_1 : decode cJx4a65c_elementData_915e3 1 = .ok (.getfield 9, 3) := by decide +kernel
theorem dJx4a65c_elementData_915e3_4 : decode cJx4a65c_elementData_915e3 4 = .ok (.iload_n 1, 1) := by decide +kernel
theorem dJx4a65c_elementData_915e3_5 : decode cJx4a65c_elementData_915e3 5 = .ok (.aaload, 1) := by decide +kernel
theorem dJx4a65c_elementData_915e3_6 : decode cJx4a65c_elementData_915e3 6 = .ok (.areturn, 1) := by decide +kernel
theorem dJx4a65c_get_915e3_0 : decode cJx4a65c_get_915e3 0 = .ok (.iload_n 1, 1) := by decide +kernel
theorem dJx4a65c_get_915e3_1 : decode cJx4a65c_get_915e3 1 = .ok (.aload_n 0, 1) := by decide +kernel
theorem dJx4a65c_get_915e3_2 : decode cJx4a65c_get_915e3 2 = .ok (.getfield 48, 3) := by decide +kernel
theorem dJx4a65c_get_915e3_5 : decode cJx4a65c_get_915e3 5 = .ok (.invokestatic 118, 3) := by decide +kernel
theorem dJx4a65c_get_915e3_8 : decode cJx4a65c_get_915e3 8 = .ok (.pop, 1) := by decide +kernel
theorem dJx4a65c_get_915e3_9 : decode cJx4a65c_get_915e3 9 = .ok (.aload_n 0, 1) := by decide +kernel
theorem dJx4a65c_get_915e3_10 : decode cJx4a65c_get_915e3 10 = .ok (.iload_n 1, 1) := by decide +kernel
theorem dJx4a65c_get_915e3_11 : decode cJx4a65c_get_915e3 11 = .ok (.invokevirtual 123, 3) := by decide +kernel
theorem dJx4a65c_get_915e3_14 : decode cJx4a65c_get_915e3 14 = .ok (.areturn, 1) := by decide +kernel
theorem dJx4a65c_add_72be8_0 : decode cJx4a65c_add_72be8 0 = .ok (.iload_n 3, 1) := by decide +kernel
theorem dJx4a65c_add_72be8_1 : decode cJx4a65c_add_72be8 1 = .ok (.aload_n 2, 1) := by decide +kernel
theorem dJx4a65c_add_72be8_2 : decode cJx4a65c_add_72be8 2 = .ok (.arraylength, 1) := by decide +kernel
theorem dJx4a65c_add_72be8_3 : decode cJx4a65c_add_72be8 3 = .ok (.if_icmp .ne 8, 3) := by decide +kernel
theorem dJx4a65c_add_72be8_6 : decode cJx4a65c_add_72be8 6 = .ok (.aload_n 0, 1) := by decide +kernel
theorem dJx4a65c_add_72be8_7 : decode cJx4a65c_add_72be8 7 = .ok (.invokevirtual 129, 3) := by decide +kernel
theorem dJx4a65c_add_72be8_10 : decode cJx4a65c_add_72be8 10 = .ok (.astore_n 2, 1) := by decide +kernel
theorem dJx4a65c_add_72be8_11 : decode cJx4a65c_add_72be8 11 = .ok (.aload_n 2, 1) := by decide +kernel
theorem dJx4a65c_add_72be8_12 : decode cJx4a65c_add_72be8 12 = .ok (.iload_n 3, 1) := by decide +kernel
theorem dJx4a65c_add_72be8_13 : decode cJx4a65c_add_72be8 13 = .ok (.aload_n 1, 1) := by decide +kernel
theorem dJx4a65c_add_72be8_14 : decode cJx4a65c_add_72be8 14 = .ok (.aastore, 1) := by decide +kernel
theorem dJx4a65c_add_72be8_15 : decode cJx4a65c_add_72be8 15 = .ok (.aload_n 0, 1) := by decide +kernel
theorem dJx4a65c_add_72be8_16 : decode cJx4a65c_add_72be8 16 = .ok (.iload_n 3, 1) := by decide +kernel
theorem dJx4a65c_add_72be8_17 : decode cJx4a65c_add_72be8 17 = .ok (.iconst 1, 1) := by decide +kernel
theorem dJx4a65c_add_72be8_18 : decode cJx4a65c_add_72be8 18 = .ok (.iadd, 1) := by decide +kernel
theorem dJx4a65c_add_72be8_19 : decode cJx4a65c_add_72be8 19 = .ok (.putfield 48, 3) := by decide +kernel
theorem dJx4a65c_add_72be8_22 : decode cJx4a65c_add_72be8 22 = .ok (.return_, 1) := by decide +kernel
theorem dJx4a65c_add_9ea2d_0 : decode cJx4a65c_add_9ea2d 0 = .ok (.aload_n 0, 1) := by decide +kernel
theorem dJx4a65c_add_9ea2d_1 : decode cJx4a65c_add_9ea2d 1 = .ok (.dup, 1) := by decide +kernel
theorem dJx4a65c_add_9ea2d_2 : decode cJx4a65c_add_9ea2d 2 = .ok (.getfield 63, 3) := by decide +kernel
theorem dJx4a65c_add_9ea2d_5 : decode cJx4a65c_add_9ea2d 5 = .ok (.iconst 1, 1) := by decide +kernel
theorem dJx4a65c_add_9ea2d_6 : decode cJx4a65c_add_9ea2d 6 = .ok (.iadd, 1) := by decide +kernel
theorem dJx4a65c_add_9ea2d_7 : decode cJx4a65c_add_9ea2d 7 = .ok (.putfield 63, 3) := by decide +kernel
theorem dJx4a65c_add_9ea2d_10 : decode cJx4a65c_add_9ea2d 10 = .ok (.aload_n 0, 1) := by decide +kernel
theorem dJx4a65c_add_9ea2d_11 : decode cJx4a65c_add_9ea2d 11 = .ok (.aload_n 1, 1) := by decide +kernel
theorem dJx4a65c_add_9ea2d_12 : decode cJx4a65c_add_9ea2d 12 = .ok (.aload_n 0, 1) := by decide +kernel
theorem dJx4a65c_add_9ea2d_13 : decode cJx4a65c_add_9ea2d 13 = .ok (.getfield 9, 3) := by decide +kernel
theorem dJx4a65c_add_9ea2d_16 : decode cJx4a65c_add_9ea2d 16 = .ok (.aload_n 0, 1) := by decide +kernel
theorem dJx4a65c_add_9ea2d_17 : decode cJx4a65c_add_9ea2d 17 = .ok (.getfield 48, 3) := by decide +kernel
theorem dJx4a65c_add_9ea2d_20 : decode cJx4a65c_add_9ea2d 20 = .ok (.invokevirtual 131, 3) := by decide +kernel
theorem dJx4a65c_add_9ea2d_23 : decode cJx4a65c_add_9ea2d 23 = .ok (.iconst 1, 1) := by decide +kernel
theorem dJx4a65c_add_9ea2d_24 : decode cJx4a65c_add_9ea2d 24 = .ok (.ireturn, 1) := by decide +kernel
theorem dJx4a65c_iterator_32c93_0 : decode cJx4a65c_iterator_32c93 0 = .ok (.new 267, 3) := by decide +kernel
theorem dJx4a65c_iterator_32c93_3 : decode cJx4a65c_iterator_32c93 3 = .ok (.dup, 1) := by decide +kernel
theorem dJx4a65c_iterator_32c93_4 : decode cJx4a65c_iterator_32c93 4 = .ok (.aload_n 0, 1) := by decide +kernel
theorem dJx4a65c_iterator_32c93_5 : decode cJx4a65c_iterator_32c93 5 = .ok (.invokespecial 269, 3) := by decide +kernel
theorem dJx4a65c_iterator_32c93_8 : decode cJx4a65c_iterator_32c93 8 = .ok (.areturn, 1) := by decide +kernel
theorem dJ7_copyOf_1904c_0 : decode cJ7_copyOf_1904c 0 = .ok (.aload_n 0, 1) := by decide +kernel
theorem dJ7_copyOf_1904c_1 : decode cJ7_copyOf_1904c 1 = .ok (.iload_n 1, 1) := by decide +kernel
theorem dJ7_copyOf_1904c_2 : decode cJ7_copyOf_1904c 2 = .ok (.aload_n 0, 1) := by decide +kernel
theorem dJ7_copyOf_1904c_3 : decode cJ7_copyOf_1904c 3 = .ok (.invokevirtual 86, 3) := by decide +kernel
theorem dJ7_copyOf_1904c_6 : decode cJ7_copyOf_1904c 6 = .ok (.invokestatic 300, 3) := by decide +kernel
theorem dJ7_copyOf_1904c_9 : decode cJ7_copyOf_1904c 9 = .ok (.areturn, 1) := by decide +kernel
theorem dJ7_copyOf_6403c_0 : decode cJ7_copyOf_6403c 0 = .ok (.aload_n 2, 1) := by decide +kernel
theorem dJ7_copyOf_6403c_1 : decode cJ7_copyOf_6403c 1 = .ok (.ldc 110, 2) := by decide +kernel
theorem dJ7_copyOf_6403c_3 : decode cJ7_copyOf_6403c 3 = .ok (.if_acmp .ne 10, 3) := by decide +kernel
theorem dJ7_copyOf_6403c_6 : decode cJ7_copyOf_6403c 6 = .ok (.iload_n 1, 1) := by decide +kernel
theorem dJ7_copyOf_6403c_7 : decode cJ7_copyOf_6403c 7 = .ok (.anewarray 2, 3) := by decide +kernel
theorem dJ7_copyOf_6403c_10 : decode cJ7_copyOf_6403c 10 = .ok (.goto 14, 3) := by decide +kernel
theorem dJ7_copyOf_6403c_13 : decode cJ7_copyOf_6403c 13 = .ok (.aload_n 2, 1) := by decide +kernel
theorem dJ7_copyOf_6403c_14 : decode cJ7_copyOf_6403c 14 = .ok (.invokevirtual 90, 3) := by decide +kernel
theorem dJ7_copyOf_6403c_17 : decode cJ7_copyOf_6403c 17 = .ok (.iload_n 1, 1) := by decide +kernel
theorem dJ7_copyOf_6403c_18 : decode cJ7_copyOf_6403c 18 = .ok (.invokestatic 95, 3) := by decide +kernel
theorem dJ7_copyOf_6403c_21 : decode cJ7_copyOf_6403c 21 = .ok (.checkcast 110, 3) := by decide +kernel
theorem dJ7_copyOf_6403c_24 : decode cJ7_copyOf_6403c 24 = .ok (.astore_n 3, 1) := by decide +kernel
theorem dJ7_copyOf_6403c_25 : decode cJ7_copyOf_6403c 25 = .ok (.aload_n 0, 1) := by decide +kernel
theorem dJ7_copyOf_6403c_26 : decode cJ7_copyOf_6403c 26 = .ok (.iconst 0, 1) := by decide +kernel
theorem dJ7_copyOf_6403c_27 : decode cJ7_copyOf_6403c 27 = .ok (.aload_n 3, 1) := by decide +kernel
theorem dJ7_copyOf_6403c_28 : decode cJ7_copyOf_6403c 28 = .ok (.iconst 0, 1) := by decide +kernel
theorem dJ7_copyOf_6403c_29 : decode cJ7_copyOf_6403c 29 = .ok (.aload_n 0, 1) := by decide +kernel
theorem dJ7_copyOf_6403c_30 : decode cJ7_copyOf_6403c 30 = .ok (.arraylength, 1) := by decide +kernel
theorem dJ7_copyOf_6403c_31 : decode cJ7_copyOf_6403c 31 = .ok (.iload_n 1, 1) := by decide +kernel
theorem dJ7_copyOf_6403c_32 : decode cJ7_copyOf_6403c 32 = .ok (.invokestatic 304, 3) := by decide +kernel
theorem dJ7_copyOf_6403c_35 : decode cJ7_copyOf_6403c 35 = .ok (.invokestatic 150, 3) := by decide +kernel
theorem dJ7_copyOf_6403c_38 : decode cJ7_copyOf_6403c 38 = .ok (.aload_n 3, 1) := by decide +kernel
theorem dJ7_copyOf_6403c_39 : decode cJ7_copyOf_6403c 39 = .ok (.areturn, 1) := by decide +kernel
theorem dJ7_copyOf_9075b_0 : decode cJ7_copyOf_9075b 0 = .ok (.iload_n 1, 1) := by decide +kernel
theorem dJ7_copyOf_9075b_1 : decode cJ7_copyOf_9075b 1 = .ok (.aload_n 0, 1) := by decide +kernel
theorem dJ7_copyOf_9075b_2 : decode cJ7_copyOf_9075b 2 = .ok (.arraylength, 1) := by decide +kernel
theorem dJ7_copyOf_9075b_3 : decode cJ7_copyOf_9075b 3 = .ok (.if_icmp .ne 11, 3) := by decide +kernel
theorem dJ7_copyOf_9075b_6 : decode cJ7_copyOf_9075b 6 = .ok (.aload_n 0, 1) := by decide +kernel
theorem dJ7_copyOf_9075b_7 : decode cJ7_copyOf_9075b 7 = .ok (.invokevirtual 310, 3) := by decide +kernel
theorem dJ7_copyOf_9075b_10 : decode cJ7_copyOf_9075b 10 = .ok (.checkcast 311, 3) := by decide +kernel
theorem dJ7_copyOf_9075b_13 : decode cJ7_copyOf_9075b 13 = .ok (.areturn, 1) := by decide +kernel
theorem dJ7_copyOf_9075b_14 : decode cJ7_copyOf_9075b 14 = .ok (.iload_n 1, 1) := by decide +kernel
theorem dJ7_copyOf_9075b_15 : decode cJ7_copyOf_9075b 15 = .ok (.newarray .byte, 2) := by decide +kernel
theorem dJ7_copyOf_9075b_17 : decode cJ7_copyOf_9075b 17 = .ok (.astore_n 2, 1) := by decide +kernel
theorem dJ7_copyOf_9075b_18 : decode cJ7_copyOf_9075b 18 = .ok (.aload_n 0, 1) := by decide +kernel
theorem dJ7_copyOf_9075b_19 : decode cJ7_copyOf_9075b 19 = .ok (.iconst 0, 1) := by decide +kernel
theorem dJ7_copyOf_9075b_20 : decode cJ7_copyOf_9075b 20 = .ok (.aload_n 2, 1) := by decide +kernel
theorem dJ7_copyOf_9075b_21 : decode cJ7_copyOf_9075b 21 = .ok (.iconst 0, 1) := by decide +kernel
theorem dJ7_copyOf_9075b_22 : decode cJ7_copyOf_9075b 22 = .ok (.aload_n 0, 1) := by decide +kernel
theorem dJ7_copyOf_9075b_23 : decode cJ7_copyOf_9075b 23 = .ok (.arraylength, 1) := by decide +kernel
theorem dJ7_copyOf_9075b_24 : decode cJ7_copyOf_9075b 24 = .ok (.iload_n 1, 1) := by decide +kernel
theorem dJ7_copyOf_9075b_25 : decode cJ7_copyOf_9075b 25 = .ok (.invokestatic 304, 3) := by decide +kernel
theorem dJ7_copyOf_9075b_28 : decode cJ7_copyOf_9075b 28 = .ok (.invokestatic 150, 3) := by decide +kernel
theorem dJ7_copyOf_9075b_31 : decode cJ7_copyOf_9075b 31 = .ok (.aload_n 2, 1) := by decide +kernel
theorem dJ7_copyOf_9075b_32 : decode cJ7_copyOf_9075b 32 = .ok (.areturn, 1) := by decide +kernel
theorem dJ7_checkLength_df160_0 : decode cJ7_checkLength_df160 0 = .ok (.iload_n 1, 1) := by decide +kernel
theorem dJ7_checkLength_df160_1 : decode cJ7_checkLength_df160 1 = .ok (.iload_n 0, 1) := by decide +kernel
theorem dJ7_checkLength_df160_2 : decode cJ7_checkLength_df160 2 = .ok (.if_icmp .ge 35, 3) := by decide +kernel
theorem dJ7_checkLength_df160_5 : decode cJ7_checkLength_df160 5 = .ok (.new 43, 3) := by decide +kernel
theorem dJ7_checkLength_df160_8 : decode cJ7_checkLength_df160 8 = .ok (.dup, 1) := by decide +kernel
theorem dJ7_checkLength_df160_9 : decode cJ7_checkLength_df160 9 = .ok (.new 45, 3) := by decide +kernel
theorem dJ7_checkLength_df160_12 : decode cJ7_checkLength_df160 12 = .ok (.dup, 1) := by decide +kernel
theorem dJ7_checkLength_df160_13 : decode cJ7_checkLength_df160 13 = .ok (.invokespecial 47, 3) := by decide +kernel
theorem dJ7_checkLength_df160_16 : decode cJ7_checkLength_df160 16 = .ok (.iload_n 0, 1) := by decide +kernel
theorem dJ7_checkLength_df160_17 : decode cJ7_checkLength_df160 17 = .ok (.invokevirtual 54, 3) := by decide +kernel
theorem dJ7_checkLength_df160_20 : decode cJ7_checkLength_df160 20 = .ok (.ldc_w 337, 3) := by decide +kernel
theorem dJ7_checkLength_df160_23 : decode cJ7_checkLength_df160 23 = .ok (.invokevirtual 50, 3) := by decide +kernel
theorem dJ7_checkLength_df160_26 : decode cJ7_checkLength_df160 26 = .ok (.iload_n 1, 1) := by decide +kernel
theorem dJ7_checkLength_df160_27 : decode cJ7_checkLength_df160 27 = .ok (.invokevirtual 54, 3) := by decide +kernel
theorem dJ7_checkLength_df160_30 : decode cJ7_checkLength_df160 30 = .ok (.invokevirtual 61, 3) := by decide +kernel
theorem dJ7_checkLength_df160_33 : decode cJ7_checkLength_df160 33 = .ok (.invokespecial 65, 3) := by decide +kernel
theorem dJ7_checkLength_df160_36 : decode cJ7_checkLength_df160 36 = .ok (.athrow, 1) := by decide +kernel
theorem dJ7_checkLength_df160_37 : decode cJ7_checkLength_df160 37 = .ok (.return_, 1) := by decide +kernel
theorem dJ7_copyOfRange_39247_0 : decode cJ7_copyOfRange_39247 0 = .ok (.iload_n 1, 1) := by decide +kernel
theorem dJ7_copyOfRange_39247_1 : decode cJ7_copyOfRange_39247 1 = .ok (.ifCond .ne 9, 3) := by decide +kernel
theorem dJ7_copyOfRange_39247_4 : decode cJ7_copyOfRange_39247 4 = .ok (.iload_n 2, 1) := by decide +kernel
theorem dJ7_copyOfRange_39247_5 : decode cJ7_copyOfRange_39247 5 = .ok (.aload_n 0, 1) := by decide +kernel
theorem dJ7_copyOfRange_39247_6 : decode cJ7_copyOfRange_39247 6 = .ok (.arraylength, 1) := by decide +kernel
theorem dJ7_copyOfRange_39247_7 : decode cJ7_copyOfRange_39247 7 = .ok (.if_icmp .eq 10, 3) := by decide +kernel
theorem dJ7_copyOfRange_39247_10 : decode cJ7_copyOfRange_39247 10 = .ok (.aload_n 0, 1) := by decide +kernel
theorem dJ7_copyOfRange_39247_11 : decode cJ7_copyOfRange_39247 11 = .ok (.iload_n 1, 1) := by decide +kernel
theorem dJ7_copyOfRange_39247_12 : decode cJ7_copyOfRange_39247 12 = .ok (.iload_n 2, 1) := by decide +kernel
theorem dJ7_copyOfRange_39247_13 : decode cJ7_copyOfRange_39247 13 = .ok (.invokestatic 339, 3) := by decide +kernel
theorem dJ7_copyOfRange_39247_16 : decode cJ7_copyOfRange_39247 16 = .ok (.areturn, 1) := by decide +kernel
theorem dJ7_copyOfRange_39247_17 : decode cJ7_copyOfRange_39247 17 = .ok (.aload_n 0, 1) := by decide +kernel
theorem dJ7_copyOfRange_39247_18 : decode cJ7_copyOfRange_39247 18 = .ok (.invokevirtual 310, 3) := by decide +kernel
theorem dJ7_copyOfRange_39247_21 : decode cJ7_copyOfRange_39247 21 = .ok (.checkcast 311, 3) := by decide +kernel
theorem dJ7_copyOfRange_39247_24 : decode cJ7_copyOfRange_39247 24 = .ok (.areturn, 1) := by decide +kernel
theorem dJ7_copyOfRangeByte_39247_0 : decode cJ7_copyOfRangeByte_39247 0 = .ok (.iload_n 1, 1) := by decide +kernel
theorem dJ7_copyOfRangeByte_39247_1 : decode cJ7_copyOfRangeByte_39247 1 = .ok (.iload_n 2, 1) := by decide +kernel
theorem dJ7_copyOfRangeByte_39247_2 : decode cJ7_copyOfRangeByte_39247 2 = .ok (.invokestatic 343, 3) := by decide +kernel
theorem dJ7_copyOfRangeByte_39247_5 : decode cJ7_copyOfRangeByte_39247 5 = .ok (.iload_n 2, 1) := by decide +kernel
theorem dJ7_copyOfRangeByte_39247_6 : decode cJ7_copyOfRangeByte_39247 6 = .ok (.iload_n 1, 1) := by decide +kernel
theorem dJ7_copyOfRangeByte_39247_7 : decode cJ7_copyOfRangeByte_39247 7 = .ok (.isub, 1) := by decide +kernel
theorem dJ7_copyOfRangeByte_39247_8 : decode cJ7_copyOfRangeByte_39247 8 = .ok (.istore_n 3, 1) := by decide +kernel
theorem dJ7_copyOfRangeByte_39247_9 : decode cJ7_copyOfRangeByte_39247 9 = .ok (.iload_n 3, 1) := by decide +kernel
theorem dJ7_copyOfRangeByte_39247_10 : decode cJ7_copyOfRangeByte_39247 10 = .ok (.newarray .byte, 2) := by decide +kernel
theorem dJ7_copyOfRangeByte_39247_12 : decode cJ7_copyOfRangeByte_39247 12 = .ok (.astore 4, 2) := by decide +kernel
theorem dJ7_copyOfRangeByte_39247_14 : decode cJ7_copyOfRangeByte_39247 14 = .ok (.aload_n 0, 1) := by decide +kernel
theorem dJ7_copyOfRangeByte_39247_15 : decode cJ7_copyOfRangeByte_39247 15 = .ok (.iload_n 1, 1) := by decide +kernel
theorem dJ7_copyOfRangeByte_39247_16 : decode cJ7_copyOfRangeByte_39247 16 = .ok (.aload 4, 2) := by decide +kernel
theorem dJ7_copyOfRangeByte_39247_18 : decode cJ7_copyOfRangeByte_39247 18 = .ok (.iconst 0, 1) := by decide +kernel
theorem dJ7_copyOfRangeByte_39247_19 : decode cJ7_copyOfRangeByte_39247 19 = .ok (.aload_n 0, 1) := by decide +kernel
theorem dJ7_copyOfRangeByte_39247_20 : decode cJ7_copyOfRangeByte_39247 20 = .ok (.arraylength, 1) := by decide +kernel
theorem dJ7_copyOfRangeByte_39247_21 : decode cJ7_copyOfRangeByte_39247 21 = .ok (.iload_n 1, 1) := by decide +kernel
theorem dJ7_copyOfRangeByte_39247_22 : decode cJ7_copyOfRangeByte_39247 22 = .ok (.isub, 1) := by decide +kernel
theorem dJ7_copyOfRangeByte_39247_23 : decode cJ7_copyOfRangeByte_39247 23 = .ok (.iload_n 3, 1) := by decide +kernel
theorem dJ7_copyOfRangeByte_39247_24 : decode cJ7_copyOfRangeByte_39247 24 = .ok (.invokestatic 304, 3) := by decide +kernel
theorem dJ7_copyOfRangeByte_39247_27 : decode cJ7_copyOfRangeByte_39247 27 = .ok (.invokestatic 150, 3) := by decide +kernel
theorem dJ7_copyOfRangeByte_39247_30 : decode cJ7_copyOfRangeByte_39247 30 = .ok (.aload 4, 2) := by decide +kernel
theorem dJ7_copyOfRangeByte_39247_32 : decode cJ7_copyOfRangeByte_39247 32 = .ok (.areturn, 1) := by decide +kernel
theorem dJ15_checkIndex_7cf53_0 : decode cJ15_checkIndex_7cf53 0 = .ok (.iload_n 0, 1) := by decide +kernel
theorem dJ15_checkIndex_7cf53_1 : decode cJ15_checkIndex_7cf53 1 = .ok (.iload_n 1, 1) := by decide +kernel
theorem dJ15_checkIndex_7cf53_2 : decode cJ15_checkIndex_7cf53 2 = .ok (.aconst_null, 1) := by decide +kernel
theorem dJ15_checkIndex_7cf53_3 : decode cJ15_checkIndex_7cf53 3 = .ok (.invokestatic 105, 3) := by decide +kernel
theorem dJ15_checkIndex_7cf53_6 : decode cJ15_checkIndex_7cf53 6 = .ok (.ireturn, 1) := by decide +kernel
theorem dJ8_newLength_cabcc_0 : decode cJ8_newLength_cabcc 0 = .ok (.iload_n 0, 1) := by decide +kernel
theorem dJ8_newLength_cabcc_1 : decode cJ8_newLength_cabcc 1 = .ok (.iload_n 1, 1) := by decide +kernel
theorem dJ8_newLength_cabcc_2 : decode cJ8_newLength_cabcc 2 = .ok (.iload_n 2, 1) := by decide +kernel
theorem dJ8_newLength_cabcc_3 : decode cJ8_newLength_cabcc 3 = .ok (.invokestatic 194, 3) := by decide +kernel
theorem dJ8_newLength_cabcc_6 : decode cJ8_newLength_cabcc 6 = .ok (.iadd, 1) := by decide +kernel
theorem dJ8_newLength_cabcc_7 : decode cJ8_newLength_cabcc 7 = .ok (.istore_n 3, 1) := by decide +kernel
theorem dJ8_newLength_cabcc_8 : decode cJ8_newLength_cabcc 8 = .ok (.iconst 0, 1) := by decide +kernel
theorem dJ8_newLength_cabcc_9 : decode cJ8_newLength_cabcc 9 = .ok (.iload_n 3, 1) := by decide +kernel
theorem dJ8_newLength_cabcc_10 : decode cJ8_newLength_cabcc 10 = .ok (.if_icmp .ge 11, 3) := by decide +kernel
theorem dJ8_newLength_cabcc_13 : decode cJ8_newLength_cabcc 13 = .ok (.iload_n 3, 1) := by decide +kernel
theorem dJ8_newLength_cabcc_14 : decode cJ8_newLength_cabcc 14 = .ok (.ldc 200, 2) := by decide +kernel
theorem dJ8_newLength_cabcc_16 : decode cJ8_newLength_cabcc 16 = .ok (.if_icmp .gt 5, 3) := by decide +kernel
theorem dJ8_newLength_cabcc_19 : decode cJ8_newLength_cabcc 19 = .ok (.iload_n 3, 1) := by decide +kernel
theorem dJ8_newLength_cabcc_20 : decode cJ8_newLength_cabcc 20 = .ok (.ireturn, 1) := by decide +kernel
theorem dJ8_newLength_cabcc_21 : decode cJ8_newLength_cabcc 21 = .ok (.iload_n 0, 1) := by decide +kernel
theorem dJ8_newLength_cabcc_22 : decode cJ8_newLength_cabcc 22 = .ok (.iload_n 1, 1) := by decide +kernel
theorem dJ8_newLength_cabcc_23 : decode cJ8_newLength_cabcc 23 = .ok (.invokestatic 201, 3) := by decide +kernel
theorem dJ8_newLength_cabcc_26 : decode cJ8_newLength_cabcc 26 = .ok (.ireturn, 1) := by decide +kernel
theorem dJ8_hugeLength_7cf53_0 : decode cJ8_hugeLength_7cf53 0 = .ok (.iload_n 0, 1) := by decide +kernel
theorem dJ8_hugeLength_7cf53_1 : decode cJ8_hugeLength_7cf53 1 = .ok (.iload_n 1, 1) := by decide +kernel
theorem dJ8_hugeLength_7cf53_2 : decode cJ8_hugeLength_7cf53 2 = .ok (.iadd, 1) := by decide +kernel
theorem dJ8_hugeLength_7cf53_3 : decode cJ8_hugeLength_7cf53 3 = .ok (.istore_n 2, 1) := by decide +kernel
theorem dJ8_hugeLength_7cf53_4 : decode cJ8_hugeLength_7cf53 4 = .ok (.iload_n 2, 1) := by decide +kernel
theorem dJ8_hugeLength_7cf53_5 : decode cJ8_hugeLength_7cf53 5 = .ok (.ifCond .ge 44, 3) := by decide +kernel
theorem dJ8_hugeLength_7cf53_8 : decode cJ8_hugeLength_7cf53 8 = .ok (.new 204, 3) := by decide +kernel
theorem dJ8_hugeLength_7cf53_11 : decode cJ8_hugeLength_7cf53 11 = .ok (.dup, 1) := by decide +kernel
theorem dJ8_hugeLength_7cf53_12 : decode cJ8_hugeLength_7cf53 12 = .ok (.new 89, 3) := by decide +kernel
theorem dJ8_hugeLength_7cf53_15 : decode cJ8_hugeLength_7cf53 15 = .ok (.dup, 1) := by decide +kernel
theorem dJ8_hugeLength_7cf53_16 : decode cJ8_hugeLength_7cf53 16 = .ok (.invokespecial 91, 3) := by decide +kernel
theorem dJ8_hugeLength_7cf53_19 : decode cJ8_hugeLength_7cf53 19 = .ok (.ldc 206, 2) := by decide +kernel
theorem dJ8_hugeLength_7cf53_21 : decode cJ8_hugeLength_7cf53 21 = .ok (.invokevirtual 94, 3) := by decide +kernel
theorem dJ8_hugeLength_7cf53_24 : decode cJ8_hugeLength_7cf53 24 = .ok (.iload_n 0, 1) := by decide +kernel
theorem dJ8_hugeLength_7cf53_25 : decode cJ8_hugeLength_7cf53 25 = .ok (.invokevirtual 98, 3) := by decide +kernel
theorem dJ8_hugeLength_7cf53_28 : decode cJ8_hugeLength_7cf53 28 = .ok (.ldc 208, 2) := by decide +kernel
theorem dJ8_hugeLength_7cf53_30 : decode cJ8_hugeLength_7cf53 30 = .ok (.invokevirtual 94, 3) := by decide +kernel
theorem dJ8_hugeLength_7cf53_33 : decode cJ8_hugeLength_7cf53 33 = .ok (.iload_n 1, 1) := by decide +kernel
theorem dJ8_hugeLength_7cf53_34 : decode cJ8_hugeLength_7cf53 34 = .ok (.invokevirtual 98, 3) := by decide +kernel
theorem dJ8_hugeLength_7cf53_37 : decode cJ8_hugeLength_7cf53 37 = .ok (.ldc 210, 2) := by decide +kernel
theorem dJ8_hugeLength_7cf53_39 : decode cJ8_hugeLength_7cf53 39 = .ok (.invokevirtual 94, 3) := by decide +kernel
theorem dJ8_hugeLength_7cf53_42 : decode cJ8_hugeLength_7cf53 42 = .ok (.invokevirtual 101, 3) := by decide +kernel
theorem dJ8_hugeLength_7cf53_45 : decode cJ8_hugeLength_7cf53 45 = .ok (.invokespecial 212, 3) := by decide +kernel
theorem dJ8_hugeLength_7cf53_48 : decode cJ8_hugeLength_7cf53 48 = .ok (.athrow, 1) := by decide +kernel
theorem dJ8_hugeLength_7cf53_49 : decode cJ8_hugeLength_7cf53 49 = .ok (.iload_n 2, 1) := by decide +kernel
theorem dJ8_hugeLength_7cf53_50 : decode cJ8_hugeLength_7cf53 50 = .ok (.ldc 200, 2) := by decide +kernel
theorem dJ8_hugeLength_7cf53_52 : decode cJ8_hugeLength_7cf53 52 = .ok (.if_icmp .gt 6, 3) := by decide +kernel
theorem dJ8_hugeLength_7cf53_55 : decode cJ8_hugeLength_7cf53 55 = .ok (.ldc 200, 2) := by decide +kernel
theorem dJ8_hugeLength_7cf53_57 : decode cJ8_hugeLength_7cf53 57 = .ok (.ireturn, 1) := by decide +kernel
theorem dJ8_hugeLength_7cf53_58 : decode cJ8_hugeLength_7cf53 58 = .ok (.iload_n 2, 1) := by decide +kernel
theorem dJ8_hugeLength_7cf53_59 : decode cJ8_hugeLength_7cf53 59 = .ok (.ireturn, 1) := by decide +kernel
theorem dJ3_checkIndex_8e157_0 : decode cJ3_checkIndex_8e157 0 = .ok (.iload_n 0, 1) := by decide +kernel
theorem dJ3_checkIndex_8e157_1 : decode cJ3_checkIndex_8e157 1 = .ok (.ifCond .lt 8, 3) := by decide +kernel
theorem dJ3_checkIndex_8e157_4 : decode cJ3_checkIndex_8e157 4 = .ok (.iload_n 0, 1) := by decide +kernel
theorem dJ3_checkIndex_8e157_5 : decode cJ3_checkIndex_8e157 5 = .ok (.iload_n 1, 1) := by decide +kernel
theorem dJ3_checkIndex_8e157_6 : decode cJ3_checkIndex_8e157 6 = .ok (.if_icmp .lt 10, 3) := by decide +kernel
theorem dJ3_checkIndex_8e157_9 : decode cJ3_checkIndex_8e157 9 = .ok (.aload_n 2, 1) := by decide +kernel
theorem dJ3_checkIndex_8e157_10 : decode cJ3_checkIndex_8e157 10 = .ok (.iload_n 0, 1) := by decide +kernel
theorem dJ3_checkIndex_8e157_11 : decode cJ3_checkIndex_8e157 11 = .ok (.iload_n 1, 1) := by decide +kernel
theorem dJ3_checkIndex_8e157_12 : decode cJ3_checkIndex_8e157 12 = .ok (.invokestatic 95, 3) := by decide +kernel
theorem dJ3_checkIndex_8e157_15 : decode cJ3_checkIndex_8e157 15 = .ok (.athrow, 1) := by decide +kernel
theorem dJ3_checkIndex_8e157_16 : decode cJ3_checkIndex_8e157 16 = .ok (.iload_n 0, 1) := by decide +kernel
theorem dJ3_checkIndex_8e157_17 : decode cJ3_checkIndex_8e157 17 = .ok (.ireturn, 1) := by decide +kernel
theorem dJ3_checkFromToIndex_8c36e_0 : decode cJ3_checkFromToIndex_8c36e 0 = .ok (.iload_n 0, 1) := by decide +kernel
theorem dJ3_checkFromToIndex_8c36e_1 : decode cJ3_checkFromToIndex_8c36e 1 = .ok (.ifCond .lt 13, 3) := by decide +kernel
theorem dJ3_checkFromToIndex_8c36e_4 : decode cJ3_checkFromToIndex_8c36e 4 = .ok (.iload_n 0, 1) := by decide +kernel
theorem dJ3_checkFromToIndex_8c36e_5 : decode cJ3_checkFromToIndex_8c36e 5 = .ok (.iload_n 1, 1) := by decide +kernel
theorem dJ3_checkFromToIndex_8c36e_6 : decode cJ3_checkFromToIndex_8c36e 6 = .ok (.if_icmp .gt 8, 3) := by decide +kernel
theorem dJ3_checkFromToIndex_8c36e_9 : decode cJ3_checkFromToIndex_8c36e 9 = .ok (.iload_n 1, 1) := by decide +kernel
theorem dJ3_checkFromToIndex_8c36e_10 : decode cJ3_checkFromToIndex_8c36e 10 = .ok (.iload_n 2, 1) := by decide +kernel
theorem dJ3_checkFromToIndex_8c36e_11 : decode cJ3_checkFromToIndex_8c36e 11 = .ok (.if_icmp .le 11, 3) := by decide +kernel
theorem dJ3_checkFromToIndex_8c36e_14 : decode cJ3_checkFromToIndex_8c36e 14 = .ok (.aload_n 3, 1) := by decide +kernel
theorem dJ3_checkFromToIndex_8c36e_15 : decode cJ3_checkFromToIndex_8c36e 15 = .ok (.iload_n 0, 1) := by decide +kernel
theorem dJ3_checkFromToIndex_8c36e_16 : decode cJ3_checkFromToIndex_8c36e 16 = .ok (.iload_n 1, 1) := by decide +kernel
theorem dJ3_checkFromToIndex_8c36e_17 : decode cJ3_checkFromToIndex_8c36e 17 = .ok (.iload_n 2, 1) := by decide +kernel
theorem dJ3_checkFromToIndex_8c36e_18 : decode cJ3_checkFromToIndex_8c36e 18 = .ok (.invokestatic 99, 3) := by decide +kernel
theorem dJ3_checkFromToIndex_8c36e_21 : decode cJ3_checkFromToIndex_8c36e 21 = .ok (.athrow, 1) := by decide +kernel
theorem dJ3_checkFromToIndex_8c36e_22 : decode cJ3_checkFromToIndex_8c36e 22 = .ok (.iload_n 0, 1) := by decide +kernel
theorem dJ3_checkFromToIndex_8c36e_23 : decode cJ3_checkFromToIndex_8c36e 23 = .ok (.ireturn, 1) := by decide +kernel
theorem dJ3_checkFromIndexSize_8c36e_0 : decode cJ3_checkFromIndexSize_8c36e 0 = .ok (.iload_n 2, 1) := by decide +kernel
theorem dJ3_checkFromIndexSize_8c36e_1 : decode cJ3_checkFromIndexSize_8c36e 1 = .ok (.iload_n 0, 1) := by decide +kernel
theorem dJ3_checkFromIndexSize_8c36e_2 : decode cJ3_checkFromIndexSize_8c36e 2 = .ok (.ior, 1) := by decide +kernel
theorem dJ3_checkFromIndexSize_8c36e_3 : decode cJ3_checkFromIndexSize_8c36e 3 = .ok (.iload_n 1, 1) := by decide +kernel
theorem dJ3_checkFromIndexSize_8c36e_4 : decode cJ3_checkFromIndexSize_8c36e 4 = .ok (.ior, 1) := by decide +kernel
theorem dJ3_checkFromIndexSize_8c36e_5 : decode cJ3_checkFromIndexSize_8c36e 5 = .ok (.ifCond .lt 10, 3) := by decide +kernel
theorem dJ3_checkFromIndexSize_8c36e_8 : decode cJ3_checkFromIndexSize_8c36e 8 = .ok (.iload_n 1, 1) := by decide +kernel
theorem dJ3_checkFromIndexSize_8c36e_9 : decode cJ3_checkFromIndexSize_8c36e 9 = .ok (.iload_n 2, 1) := by decide +kernel
theorem dJ3_checkFromIndexSize_8c36e_10 : decode cJ3_checkFromIndexSize_8c36e 10 = .ok (.iload_n 0, 1) := by decide +kernel
theorem dJ3_checkFromIndexSize_8c36e_11 : decode cJ3_checkFromIndexSize_8c36e 11 = .ok (.isub, 1) := by decide +kernel
theorem dJ3_checkFromIndexSize_8c36e_12 : decode cJ3_checkFromIndexSize_8c36e 12 = .ok (.if_icmp .le 11, 3) := by decide +kernel
theorem dJ3_checkFromIndexSize_8c36e_15 : decode cJ3_checkFromIndexSize_8c36e 15 = .ok (.aload_n 3, 1) := by decide +kernel
theorem dJ3_checkFromIndexSize_8c36e_16 : decode cJ3_checkFromIndexSize_8c36e 16 = .ok (.iload_n 0, 1) := by decide +kernel
theorem dJ3_checkFromIndexSize_8c36e_17 : decode cJ3_checkFromIndexSize_8c36e 17 = .ok (.iload_n 1, 1) := by decide +kernel
theorem dJ3_checkFromIndexSize_8c36e_18 : decode cJ3_checkFromIndexSize_8c36e 18 = .ok (.iload_n 2, 1) := by decide +kernel
theorem dJ3_checkFromIndexSize_8c36e_19 : decode cJ3_checkFromIndexSize_8c36e 19 = .ok (.invokestatic 103, 3) := by decide +kernel
theorem dJ3_checkFromIndexSize_8c36e_22 : decode cJ3_checkFromIndexSize_8c36e 22 = .ok (.athrow, 1) := by decide +kernel
theorem dJ3_checkFromIndexSize_8c36e_23 : decode cJ3_checkFromIndexSize_8c36e 23 = .ok (.iload_n 0, 1) := by decide +kernel
theorem dJ3_checkFromIndexSize_8c36e_24 : decode cJ3_checkFromIndexSize_8c36e 24 = .ok (.ireturn, 1) := by decide +kernel
end
section
/-! ===== the engine: a judgement V over an abstract store, its rows one an instruction, contracts Ct ===== -/
abbrev zG : Type := Launch × Heap × va_G × (Nat → ClassId)
abbrev zS : Type := Nat × (Nat → Option va_E)
abbrev zC : Type := Program × Env × Room × State × MethodId × Array Value × List Frame × Method × Code × (State → Prop)
abbrev zp (κ : zC) : Program := κ.1
abbrev ze (κ : zC) : Env := κ.2.1
abbrev zRm (κ : zC) : Room := κ.2.2.1
abbrev zs (κ : zC) : State := κ.2.2.2.1
abbrev zm (κ : zC) : MethodId := κ.2.2.2.2.1
abbrev za (κ : zC) : Array Value := κ.2.2.2.2.2.1
abbrev zb (κ : zC) : List Frame := κ.2.2.2.2.2.2.1
abbrev zme (κ : zC) : Method := κ.2.2.2.2.2.2.2.1
abbrev zc (κ : zC) : Code := κ.2.2.2.2.2.2.2.2.1
abbrev zQ (κ : zC) : State → Prop := κ.2.2.2.2.2.2.2.2.2
/-- the array classes: int[], boolean[], byte[], Object[], int[][] -/
def zTY (g : zG) : List (ClassId × FieldType) := [(g.2.2.2 0, .int), (g.2.2.2 1, .boolean), (g.2.2.2 2, .byte), (g.2.2.2 3, .object "java/lang/Object"), (g.2.2.2 4, .array .int)]
/-- the heap holds what the store says; what was there at the law's entry is as it was -/
def zR (g : zG) (σ : zS) (H : Heap) : Prop := H.size = σ.1 ∧ g.2.1.size ≤ H.size ∧ (∀ q : Nat, q < g.2.1.size → H[q]? = g.2.1[q]?) ∧ ∀ (a : Nat) (e : va_E), σ.2 a = some e → va_at g.2.2.1 vwCl (a, e) H
def zup (f : Nat → Option va_E) (a : Nat) (e : va_E) : Nat → Option va_E := fun q => if q = a then some e else f q
theorem zup_eq {f : Nat → Option va_E} {a : Nat} {e : va_E} : zup f a e a = some e := if_pos rfl
theorem zup_ne {f : Nat → Option va_E} {a q : Nat} {e : va_E} (h : q ≠ a) : zup f a e q = f q := if_neg h
theorem zR.put {g : zG} {σ : zS} {H H1 : Heap} {a : Nat} {e : va_E} (h : zR g σ H) (ha : g.2.1.size ≤ a) (hz : H1.size = H.size) (ho : ∀ q : Nat, q ≠ a → H1[q]? = H[q]?) (hn : va_at g.2.2.1 vwCl (a, e) H1) : zR g (σ.1, zup σ.2 a e) H1 := by
  obtain ⟨h1, h2, h3, h4⟩ := h
  refine ⟨hz.trans h1, by rw [hz]; exact h2, fun q hq => (ho q (by omega)).trans (h3 q hq), fun b e' hb => ?_⟩
  by_cases hba : b = a
  · subst hba
    rw [show (σ.1, zup σ.2 b e).2 b = some e from zup_eq] at hb
    cases hb
    exact hn
  · exact (h4 b e' (by rw [← hb]; exact (zup_ne hba).symm)).kept (ho b hba)
theorem zR.push {g : zG} {σ : zS} {H H1 : Heap} {e : va_E} (h : zR g σ H) (hz : H1.size = H.size + 1) (ho : ∀ q : Nat, q < H.size → H1[q]? = H[q]?) (hn : va_at g.2.2.1 vwCl (σ.1, e) H1) : zR g (σ.1 + 1, zup σ.2 σ.1 e) H1 := by
  obtain ⟨h1, h2, h3, h4⟩ := h
  refine ⟨by rw [hz, h1], by rw [hz]; omega, fun q hq => (ho q (by omega)).trans (h3 q hq), fun b e' hb => ?_⟩
  by_cases hba : b = σ.1
  · subst hba
    rw [show (σ.1 + 1, zup σ.2 σ.1 e).2 σ.1 = some e from zup_eq] at hb
    cases hb
    exact hn
  · have hb' : σ.2 b = some e' := by rw [← hb]; exact (zup_ne hba).symm
    have hv := h4 b e' hb'
    exact hv.kept (ho b hv.lt)
/-- the words that stand at every state that a warm table has seen -/
def zNst : Cond → Bool
  | .fieldLinkNest _ _ _ _ _ _ => true
  | .methodLinkNest _ _ _ _ => true
  | .castable _ _ => true
  | _ => false
def zTBL : List Cond := lw_tbl.filter goodWord
def zNL : List Cond := lw_tbl.filter zNst
theorem zNst_warm {w : Cond} (hw : zNst w = true) {s U : State} (hW : s.WarmedH U.vm) (h : va_Nw w s) : va_Nw w U := by
  cases w <;> first | exact Bool.noConfusion (show false = true from hw) | exact va_Nw.warmF hW h | exact va_Nw.warmM hW h | exact va_Nw.warmC hW h
def zA (g : zG) : Nat → Prop := fun q => g.2.1.size ≤ q
/-- what of the machine's tables is taken along: classes, arrays, nest words, the two statics that a throw reads -/
def zKK (g : zG) (U : State) : Prop := va_K g.2.2.1 vwCl (zTY g) U ∧ (∀ w ∈ zNL, va_Nw w U) ∧ vx_Zq Bundle.tN "UNASSIGNED_STACK" Bundle.steD (zA g) U g.2.1 ∧ vx_Zq Bundle.tN "SUPPRESSED_SENTINEL" Bundle.listD (zA g) U g.2.1
theorem zKK.warm {g : zG} {s U : State} (hW : s.WarmedH U.vm) (h : zKK g s) : zKK g U := by
  obtain ⟨h1, h2, h3, h4⟩ := h
  exact ⟨h1.moved hW.alike, fun w hw => zNst_warm (List.mem_filter.mp hw).2 hW (h2 w hw), h3.moved hW.alike, h4.moved hW.alike⟩
def zX (g : zG) (κ : zC) (own : String) (cc : ByteArray) (nL : Nat) : Prop := (zp κ).tables.exec = Jvm.exec ∧ (zc κ).code = cc ∧ (zc κ).maxLocals = nL ∧ (zs κ).vm.findClass own = some (zm κ).cls ∧ (∀ w ∈ zTBL, w.before (za κ) (zs κ) = true) ∧ (zme κ).locks = false ∧ zKK g (zs κ)
/-- THE JUDGEMENT: from the frame at pc, with these locals and this stack, over any heap that the store describes -/
def V (g : zG) (κ : zC) (nL k n : Nat) (σ : zS) (pc : Nat) (lv : List (Nat × Value)) (st : List Value) : Prop :=
  ∀ (H : Heap) (locs : List Loc) (ls : Array Slot), zR g σ H → (∀ q ∈ locs, g.2.1.size ≤ q.base) → lv_has ls nL lv → W (zp κ) g.1 (ze κ) (zRm κ) (zs κ) (zm κ) (za κ) (zb κ) (zme κ) (zc κ) H locs k n (zQ κ) (F0 (zm κ) pc ls st)
/-- a contract: called with these arguments in this store -/
def Ct (g : zG) (d : Nat) (y : MethodName) (cc : ByteArray) (nL : Nat) (ret : Option FieldType) (mc ms : Nat) (av : List Value) (σ : zS) (Post : Option Value → zS → Prop) (XP : String → zS → Prop) : Prop :=
  vx_Met g.1 y (.code y cc nL ret :: zTBL) { frames := d, cells := mc, slots := ms, locals := 40 * d } (va_Pc av (fun U => zR g σ U.heap ∧ zKK g U)) (fun _ _ o t => ∃ (v : Option Value) (σ' : zS), o = .returned v ∧ Post v σ' ∧ zR g σ' t.heap) (fun E _ t => ∃ σ' : zS, XP E σ' ∧ zR g σ' t.heap) mc ms (zA g)
/-- what a body knows of its own end -/
def zE (g : zG) (κ : zC) (d : Nat) (ret : Option FieldType) (mc ms : Nat) (Post : Option Value → zS → Prop) (XP : String → zS → Prop) : Prop :=
  (zme κ).sig.returnType = ret ∧ (zQ κ) = vx_MQ (zb κ) (fun _ _ o t => ∃ (v : Option Value) (σ' : zS), o = .returned v ∧ Post v σ' ∧ zR g σ' t.heap) (fun E _ t => ∃ σ' : zS, XP E σ' ∧ zR g σ' t.heap) (za κ) (zs κ) mc ms (zA g) ∧ (∀ x ∈ (zc κ).exceptionTable.toList, False) ∧ (zRm κ) = { frames := d, cells := mc, slots := ms, locals := 40 * d } ∧ (zs κ).heap.size ≥ g.2.1.size ∧ ∀ q : Nat, q < g.2.1.size → (zs κ).heap[q]? = g.2.1[q]?
theorem Ct.of {g : zG} {d : Nat} {y : MethodName} {cc : ByteArray} {nL : Nat} {ret : Option FieldType} {mc ms : Nat} {av : List Value} {σ : zS} {Post : Option Value → zS → Prop} {XP : String → zS → Prop}
    (hy : plainName y.cls = true) (hlen : (lg_sl av).length ≤ nL) {lv : List (Nat × Value)} (hlv : lv_args 0 av = lv)
    (body : ∀ κ : zC, zX g κ y.cls cc nL → zE g κ d ret mc ms Post XP → ((zs κ).methodNamed? y = some (zm κ)) → ((zs κ).vm.method? (zm κ) = some (zme κ)) → V g κ nL 0 0 σ 0 lv []) : Ct g d y cc nL ret mc ms av σ Post XP := by
  refine vx_ofW (cc := cc) (maxL := nL) (ret := ret) (ws' := zTBL) hy rfl ?_
  intro p e s m args below meth c s₁ B hml ht hP
  obtain ⟨rfl, hR, hK⟩ := hP
  have hts := atoms_spec (ws := .code y cc nL ret :: zTBL) B.pre
  have hl := lv_entry av (n := nL) hlen
  rw [hlv] at hl
  have key := body (p, e, _, s, m, av.toArray, below, meth, c, vx_MQ below (fun _ _ o t => ∃ (v : Option Value) (σ' : zS), o = .returned v ∧ Post v σ' ∧ zR g σ' t.heap) (fun E _ t => ∃ σ' : zS, XP E σ' ∧ zR g σ' t.heap) av.toArray s mc ms (zA g))
    ⟨B.exec, B.bytes, hml, findClass_of_methodNamed B.named, fun w hw => hts w (List.mem_cons_of_mem _ hw), B.notSynchronized, hK⟩
    ⟨B.returns, rfl, ht, rfl, hR.2.1, hR.2.2.1⟩ B.named B.method
  have k2 := key s.heap [] _ hR (fun q h => absurd h List.not_mem_nil) hl
  rw [lg_entry_eq]
  exact k2
section ROWS
variable {g : zG} {κ : zC} {own : String} {cc : ByteArray} {nL k n : Nat} {σ : zS} {pc : Nat} {lv : List (Nat × Value)} {rest : List Value}
theorem V.sub {lv' : List (Nat × Value)} (ks : List Nat) (h : lv_pick lv ks = lv') (kk : V g κ nL k n σ pc lv' rest) : V g κ nL k n σ pc lv rest := fun H locs ls hR hL hl => kk H locs ls hR hL (lv_sub hl ks h)
theorem V.st {st : List Value} (h : rest = st) (kk : V g κ nL k n σ pc lv st) : V g κ nL k n σ pc lv rest := h ▸ kk
theorem V.so {σ' : zS} (h : σ = σ') (kk : V g κ nL k n σ' pc lv rest) : V g κ nL k n σ pc lv rest := h ▸ kk
theorem V.widen {k' n' : Nat} (h1 : k ≤ k') (h2 : n ≤ n') (kk : V g κ nL k' n' σ pc lv rest) : V g κ nL k n σ pc lv rest := fun H locs ls hR hL hl => W.widen h1 h2 (kk H locs ls hR hL hl)
theorem V.topi {x : Int32} (kk : ∀ y : Int32, y = x → V g κ nL k n σ pc lv (.int y :: rest)) : V g κ nL k n σ pc lv (.int x :: rest) := kk x rfl
theorem V_iconst (X : zX g κ own cc nL) {j : Int} {v : Int32} (d : decode cc pc = .ok (.iconst j, 1)) (hv : Int32.ofInt j = v) (kk : V g κ nL k n σ (pc + 1) lv (.int v :: rest)) : V g κ nL k n σ pc lv rest := fun H locs ls hR hL hl => lv_iconst X.1 X.2.1 d hv (kk H locs ls hR hL hl)
theorem V_bipush (X : zX g κ own cc nL) {j : Int} {v : Int32} (d : decode cc pc = .ok (.bipush j, 2)) (hv : (Int8.ofInt j).toInt32 = v) (kk : V g κ nL k n σ (pc + 2) lv (.int v :: rest)) : V g κ nL k n σ pc lv rest := fun H locs ls hR hL hl => lv_bipush X.1 X.2.1 d hv (kk H locs ls hR hL hl)
theorem V_sipush (X : zX g κ own cc nL) {j : Int} {v : Int32} (d : decode cc pc = .ok (.sipush j, 3)) (hv : (Int16.ofInt j).toInt32 = v) (kk : V g κ nL k n σ (pc + 3) lv (.int v :: rest)) : V g κ nL k n σ pc lv rest := fun H locs ls hR hL hl => lv_sipush X.1 X.2.1 d hv (kk H locs ls hR hL hl)
theorem V_iload_n (X : zX g κ own cc nL) {q : Fin 4} {x : Int32} (d : decode cc pc = .ok (.iload_n q, 1)) (j : Nat) (hj : lv[j]? = some ((q : Nat), .int x)) (kk : V g κ nL k n σ (pc + 1) lv (.int x :: rest)) : V g κ nL k n σ pc lv rest := fun H locs ls hR hL hl => lv_iload_n X.1 X.2.1 d rfl (lv_at hl j hj) (kk H locs ls hR hL hl)
theorem V_iload (X : zX g κ own cc nL) {i : Nat} {x : Int32} (d : decode cc pc = .ok (.iload i, 2)) (j : Nat) (hj : lv[j]? = some (i, .int x)) (kk : V g κ nL k n σ (pc + 2) lv (.int x :: rest)) : V g κ nL k n σ pc lv rest := fun H locs ls hR hL hl => lv_iload X.1 X.2.1 d (lv_at hl j hj) (kk H locs ls hR hL hl)
theorem V_aload_n (X : zX g κ own cc nL) {q : Fin 4} {x : Nat} (d : decode cc pc = .ok (.aload_n q, 1)) (j : Nat) (hj : lv[j]? = some ((q : Nat), .ref x)) (kk : V g κ nL k n σ (pc + 1) lv (.ref x :: rest)) : V g κ nL k n σ pc lv rest := fun H locs ls hR hL hl => lv_aload_n X.1 X.2.1 d rfl (lv_at hl j hj) (kk H locs ls hR hL hl)
theorem V_aload (X : zX g κ own cc nL) {i : Nat} {x : Nat} (d : decode cc pc = .ok (.aload i, 2)) (j : Nat) (hj : lv[j]? = some (i, .ref x)) (kk : V g κ nL k n σ (pc + 2) lv (.ref x :: rest)) : V g κ nL k n σ pc lv rest := fun H locs ls hR hL hl => lv_aload X.1 X.2.1 d (lv_at hl j hj) (kk H locs ls hR hL hl)
theorem V_lload_n (X : zX g κ own cc nL) {q : Fin 4} {x : Int64} (d : decode cc pc = .ok (.lload_n q, 1)) (j : Nat) (hj : lv[j]? = some ((q : Nat), .long x)) (kk : V g κ nL k n σ (pc + 1) lv (.long x :: rest)) : V g κ nL k n σ pc lv rest := fun H locs ls hR hL hl => lv_lload_n X.1 X.2.1 d rfl (lv_at hl j hj) (kk H locs ls hR hL hl)
theorem V_istore_n (X : zX g κ own cc nL) {q : Fin 4} {x : Int32} (lv' : List (Nat × Value)) (d : decode cc pc = .ok (.istore_n q, 1)) (hn : (q : Nat) < nL) (hv : ((q : Nat), Value.int x) :: lv.filter (fun r => !(r.1 == (q : Nat)) && !(r.1 + 1 == (q : Nat) && r.2.category == 2)) = lv') (kk : V g κ nL k n σ (pc + 1) lv' rest) : V g κ nL k n σ pc lv (.int x :: rest) := fun H locs ls hR hL hl => lv_istore_n X.1 X.2.1 d rfl hl hn hv fun ls' hl' => kk H locs ls' hR hL hl'
theorem V_istore (X : zX g κ own cc nL) {i : Nat} {x : Int32} (lv' : List (Nat × Value)) (d : decode cc pc = .ok (.istore i, 2)) (hn : i < nL) (hv : (i, Value.int x) :: lv.filter (fun r => !(r.1 == i) && !(r.1 + 1 == i && r.2.category == 2)) = lv') (kk : V g κ nL k n σ (pc + 2) lv' rest) : V g κ nL k n σ pc lv (.int x :: rest) := fun H locs ls hR hL hl => lv_istore X.1 X.2.1 d hl hn hv fun ls' hl' => kk H locs ls' hR hL hl'
theorem V_astore_n (X : zX g κ own cc nL) {q : Fin 4} {x : Nat} (lv' : List (Nat × Value)) (d : decode cc pc = .ok (.astore_n q, 1)) (hn : (q : Nat) < nL) (hv : ((q : Nat), Value.ref x) :: lv.filter (fun r => !(r.1 == (q : Nat)) && !(r.1 + 1 == (q : Nat) && r.2.category == 2)) = lv') (kk : V g κ nL k n σ (pc + 1) lv' rest) : V g κ nL k n σ pc lv (.ref x :: rest) := fun H locs ls hR hL hl => lv_astore_n X.1 X.2.1 d rfl hl hn hv fun ls' hl' => kk H locs ls' hR hL hl'
theorem V_astore (X : zX g κ own cc nL) {i : Nat} {x : Nat} (lv' : List (Nat × Value)) (d : decode cc pc = .ok (.astore i, 2)) (hn : i < nL) (hv : (i, Value.ref x) :: lv.filter (fun r => !(r.1 == i) && !(r.1 + 1 == i && r.2.category == 2)) = lv') (kk : V g κ nL k n σ (pc + 2) lv' rest) : V g κ nL k n σ pc lv (.ref x :: rest) := fun H locs ls hR hL hl => lv_astore X.1 X.2.1 d hl hn hv fun ls' hl' => kk H locs ls' hR hL hl'
theorem V_lstore_n (X : zX g κ own cc nL) {q : Fin 4} {x : Int64} (lv' : List (Nat × Value)) (d : decode cc pc = .ok (.lstore_n q, 1)) (hn : (q : Nat) + 1 < nL) (hv : ((q : Nat), Value.long x) :: lv.filter (fun r => !(r.1 == (q : Nat)) && (!(r.1 == (q : Nat) + 1) && !(r.1 + 1 == (q : Nat) && r.2.category == 2))) = lv') (kk : V g κ nL k n σ (pc + 1) lv' rest) : V g κ nL k n σ pc lv (.long x :: rest) := fun H locs ls hR hL hl => lv_lstore_n X.1 X.2.1 d rfl hl hn hv fun ls' hl' => kk H locs ls' hR hL hl'
theorem V_iinc (X : zX g κ own cc nL) {i : Nat} {j : Int} {x : Int32} (v : Int32) (lv' : List (Nat × Value)) (d : decode cc pc = .ok (.iinc i j, 3)) (q : Nat) (hq : lv[q]? = some (i, .int x)) (hv : x + Int32.ofInt j = v) (hn : i < nL) (hl' : (i, Value.int v) :: lv.filter (fun r => !(r.1 == i) && !(r.1 + 1 == i && r.2.category == 2)) = lv') (kk : V g κ nL k n σ (pc + 3) lv' rest) : V g κ nL k n σ pc lv rest := fun H locs ls hR hL hl => lv_iinc X.1 X.2.1 d hl hq hv hn hl' fun ls' hl' => kk H locs ls' hR hL hl'
theorem V_dup (X : zX g κ own cc nL) {va : Value} (d : decode cc pc = .ok (.dup, 1)) (hc : va.category = 1) (kk : V g κ nL k n σ (pc + 1) lv (va :: va :: rest)) : V g κ nL k n σ pc lv (va :: rest) := fun H locs ls hR hL hl => lv_dup X.1 X.2.1 d hc (kk H locs ls hR hL hl)
theorem V_pop (X : zX g κ own cc nL) {va : Value} (d : decode cc pc = .ok (.pop, 1)) (hc : va.category = 1) (kk : V g κ nL k n σ (pc + 1) lv rest) : V g κ nL k n σ pc lv (va :: rest) := fun H locs ls hR hL hl => lv_pop X.1 X.2.1 d hc (kk H locs ls hR hL hl)
theorem V_iadd (X : zX g κ own cc nL) {x y : Int32} (d : decode cc pc = .ok (.iadd, 1)) (kk : V g κ nL k n σ (pc + 1) lv (.int (x + y) :: rest)) : V g κ nL k n σ pc lv (.int y :: .int x :: rest) := fun H locs ls hR hL hl => lv_iadd X.1 X.2.1 d (kk H locs ls hR hL hl)
theorem V_isub (X : zX g κ own cc nL) {x y : Int32} (d : decode cc pc = .ok (.isub, 1)) (kk : V g κ nL k n σ (pc + 1) lv (.int (x - y) :: rest)) : V g κ nL k n σ pc lv (.int y :: .int x :: rest) := fun H locs ls hR hL hl => lv_isub X.1 X.2.1 d (kk H locs ls hR hL hl)
theorem V_imul (X : zX g κ own cc nL) {x y : Int32} (d : decode cc pc = .ok (.imul, 1)) (kk : V g κ nL k n σ (pc + 1) lv (.int (x * y) :: rest)) : V g κ nL k n σ pc lv (.int y :: .int x :: rest) := fun H locs ls hR hL hl => lv_imul X.1 X.2.1 d (kk H locs ls hR hL hl)
theorem V_iand (X : zX g κ own cc nL) {x y : Int32} (d : decode cc pc = .ok (.iand, 1)) (kk : V g κ nL k n σ (pc + 1) lv (.int (x &&& y) :: rest)) : V g κ nL k n σ pc lv (.int y :: .int x :: rest) := fun H locs ls hR hL hl => lv_iand X.1 X.2.1 d (kk H locs ls hR hL hl)
theorem V_ior (X : zX g κ own cc nL) {x y : Int32} (d : decode cc pc = .ok (.ior, 1)) (kk : V g κ nL k n σ (pc + 1) lv (.int (x ||| y) :: rest)) : V g κ nL k n σ pc lv (.int y :: .int x :: rest) := fun H locs ls hR hL hl => lv_ior X.1 X.2.1 d (kk H locs ls hR hL hl)
theorem V_ixor (X : zX g κ own cc nL) {x y : Int32} (d : decode cc pc = .ok (.ixor, 1)) (kk : V g κ nL k n σ (pc + 1) lv (.int (x ^^^ y) :: rest)) : V g κ nL k n σ pc lv (.int y :: .int x :: rest) := fun H locs ls hR hL hl => lv_ixor X.1 X.2.1 d (kk H locs ls hR hL hl)
theorem V_ishl (X : zX g κ own cc nL) {x y : Int32} (d : decode cc pc = .ok (.ishl, 1)) (kk : V g κ nL k n σ (pc + 1) lv (.int (x <<< (y &&& 31)) :: rest)) : V g κ nL k n σ pc lv (.int y :: .int x :: rest) := fun H locs ls hR hL hl => lv_ishl X.1 X.2.1 d (kk H locs ls hR hL hl)
theorem V_ishr (X : zX g κ own cc nL) {x y : Int32} (d : decode cc pc = .ok (.ishr, 1)) (kk : V g κ nL k n σ (pc + 1) lv (.int (x >>> (y &&& 31)) :: rest)) : V g κ nL k n σ pc lv (.int y :: .int x :: rest) := fun H locs ls hR hL hl => lv_ishr X.1 X.2.1 d (kk H locs ls hR hL hl)
theorem V_idiv (X : zX g κ own cc nL) {x y : Int32} (hne : ¬ y = 0) (d : decode cc pc = .ok (.idiv, 1)) (kk : V g κ nL k n σ (pc + 1) lv (.int (x / y) :: rest)) : V g κ nL k n σ pc lv (.int y :: .int x :: rest) := fun H locs ls hR hL hl => lv_idiv X.1 X.2.1 d hne (kk H locs ls hR hL hl)
theorem V_irem (X : zX g κ own cc nL) {x y : Int32} (hne : ¬ y = 0) (d : decode cc pc = .ok (.irem, 1)) (kk : V g κ nL k n σ (pc + 1) lv (.int (x - x / y * y) :: rest)) : V g κ nL k n σ pc lv (.int y :: .int x :: rest) := fun H locs ls hR hL hl => lv_irem X.1 X.2.1 d hne (kk H locs ls hR hL hl)
theorem V_i2l (X : zX g κ own cc nL) {x : Int32} (d : decode cc pc = .ok (.i2l, 1)) (kk : V g κ nL k n σ (pc + 1) lv (.long x.toInt64 :: rest)) : V g κ nL k n σ pc lv (.int x :: rest) := fun H locs ls hR hL hl => lv_i2l X.1 X.2.1 d rfl (kk H locs ls hR hL hl)
theorem V_i2c (X : zX g κ own cc nL) {x : Int32} (d : decode cc pc = .ok (.i2c, 1)) (kk : V g κ nL k n σ (pc + 1) lv (.int (x.toUInt32 % 65536).toInt32 :: rest)) : V g κ nL k n σ pc lv (.int x :: rest) := fun H locs ls hR hL hl => lv_i2c X.1 X.2.1 d rfl (kk H locs ls hR hL hl)
theorem V_lmul (X : zX g κ own cc nL) {x y : Int64} (d : decode cc pc = .ok (.lmul, 1)) (kk : V g κ nL k n σ (pc + 1) lv (.long (x * y) :: rest)) : V g κ nL k n σ pc lv (.long y :: .long x :: rest) := fun H locs ls hR hL hl => lv_lmul X.1 X.2.1 d (kk H locs ls hR hL hl)
theorem V_ladd (X : zX g κ own cc nL) {x y : Int64} (d : decode cc pc = .ok (.ladd, 1)) (kk : V g κ nL k n σ (pc + 1) lv (.long (x + y) :: rest)) : V g κ nL k n σ pc lv (.long y :: .long x :: rest) := fun H locs ls hR hL hl => lv_ladd X.1 X.2.1 d (kk H locs ls hR hL hl)
theorem V_goto (X : zX g κ own cc nL) {off : Int} {tgt : Nat} (d : decode cc pc = .ok (.goto off, 3)) (ht : (pc : Int) + off = (tgt : Int)) (kk : V g κ nL k n σ tgt lv rest) : V g κ nL k n σ pc lv rest := fun H locs ls hR hL hl => lv_goto X.1 X.2.1 d ht (kk H locs ls hR hL hl)
theorem V_ifeq (X : zX g κ own cc nL) {x : Int32} {off : Int} {tgt : Nat} (d : decode cc pc = .ok (.ifCond .eq off, 3)) (ht : (pc : Int) + off = (tgt : Int)) (kt : x = 0 → V g κ nL k n σ tgt lv rest) (kf : ¬ x = 0 → V g κ nL k n σ (pc + 3) lv rest) : V g κ nL k n σ pc lv (.int x :: rest) := fun H locs ls hR hL hl => lv_if_eq X.1 X.2.1 d ht (fun h => kt h H locs ls hR hL hl) (fun h => kf h H locs ls hR hL hl)
theorem V_ifne (X : zX g κ own cc nL) {x : Int32} {off : Int} {tgt : Nat} (d : decode cc pc = .ok (.ifCond .ne off, 3)) (ht : (pc : Int) + off = (tgt : Int)) (kt : ¬ x = 0 → V g κ nL k n σ tgt lv rest) (kf : x = 0 → V g κ nL k n σ (pc + 3) lv rest) : V g κ nL k n σ pc lv (.int x :: rest) := fun H locs ls hR hL hl => lv_if_ne X.1 X.2.1 d ht (fun h => kt h H locs ls hR hL hl) (fun h => kf h H locs ls hR hL hl)
theorem V_iflt (X : zX g κ own cc nL) {x : Int32} {off : Int} {tgt : Nat} (d : decode cc pc = .ok (.ifCond .lt off, 3)) (ht : (pc : Int) + off = (tgt : Int)) (kt : x < 0 → V g κ nL k n σ tgt lv rest) (kf : ¬ x < 0 → V g κ nL k n σ (pc + 3) lv rest) : V g κ nL k n σ pc lv (.int x :: rest) := fun H locs ls hR hL hl => lv_if_lt X.1 X.2.1 d ht (fun h => kt h H locs ls hR hL hl) (fun h => kf h H locs ls hR hL hl)
theorem V_ifge (X : zX g κ own cc nL) {x : Int32} {off : Int} {tgt : Nat} (d : decode cc pc = .ok (.ifCond .ge off, 3)) (ht : (pc : Int) + off = (tgt : Int)) (kt : 0 ≤ x → V g κ nL k n σ tgt lv rest) (kf : ¬ 0 ≤ x → V g κ nL k n σ (pc + 3) lv rest) : V g κ nL k n σ pc lv (.int x :: rest) := fun H locs ls hR hL hl => lv_if_ge X.1 X.2.1 d ht (fun h => kt h H locs ls hR hL hl) (fun h => kf h H locs ls hR hL hl)
theorem V_ifgt (X : zX g κ own cc nL) {x : Int32} {off : Int} {tgt : Nat} (d : decode cc pc = .ok (.ifCond .gt off, 3)) (ht : (pc : Int) + off = (tgt : Int)) (kt : 0 < x → V g κ nL k n σ tgt lv rest) (kf : ¬ 0 < x → V g κ nL k n σ (pc + 3) lv rest) : V g κ nL k n σ pc lv (.int x :: rest) := fun H locs ls hR hL hl => lv_if_gt X.1 X.2.1 d ht (fun h => kt h H locs ls hR hL hl) (fun h => kf h H locs ls hR hL hl)
theorem V_ifle (X : zX g κ own cc nL) {x : Int32} {off : Int} {tgt : Nat} (d : decode cc pc = .ok (.ifCond .le off, 3)) (ht : (pc : Int) + off = (tgt : Int)) (kt : x ≤ 0 → V g κ nL k n σ tgt lv rest) (kf : ¬ x ≤ 0 → V g κ nL k n σ (pc + 3) lv rest) : V g κ nL k n σ pc lv (.int x :: rest) := fun H locs ls hR hL hl => lv_if_le X.1 X.2.1 d ht (fun h => kt h H locs ls hR hL hl) (fun h => kf h H locs ls hR hL hl)
theorem V_icmpeq (X : zX g κ own cc nL) {x y : Int32} {off : Int} {tgt : Nat} (d : decode cc pc = .ok (.if_icmp .eq off, 3)) (ht : (pc : Int) + off = (tgt : Int)) (kt : x = y → V g κ nL k n σ tgt lv rest) (kf : ¬ x = y → V g κ nL k n σ (pc + 3) lv rest) : V g κ nL k n σ pc lv (.int y :: .int x :: rest) := fun H locs ls hR hL hl => lv_icmp_eq X.1 X.2.1 d ht (fun h => kt h H locs ls hR hL hl) (fun h => kf h H locs ls hR hL hl)
theorem V_icmpne (X : zX g κ own cc nL) {x y : Int32} {off : Int} {tgt : Nat} (d : decode cc pc = .ok (.if_icmp .ne off, 3)) (ht : (pc : Int) + off = (tgt : Int)) (kt : ¬ x = y → V g κ nL k n σ tgt lv rest) (kf : x = y → V g κ nL k n σ (pc + 3) lv rest) : V g κ nL k n σ pc lv (.int y :: .int x :: rest) := fun H locs ls hR hL hl => lv_icmp_ne X.1 X.2.1 d ht (fun h => kt h H locs ls hR hL hl) (fun h => kf h H locs ls hR hL hl)
theorem V_icmplt (X : zX g κ own cc nL) {x y : Int32} {off : Int} {tgt : Nat} (d : decode cc pc = .ok (.if_icmp .lt off, 3)) (ht : (pc : Int) + off = (tgt : Int)) (kt : x < y → V g κ nL k n σ tgt lv rest) (kf : ¬ x < y → V g κ nL k n σ (pc + 3) lv rest) : V g κ nL k n σ pc lv (.int y :: .int x :: rest) := fun H locs ls hR hL hl => lv_icmp_lt X.1 X.2.1 d ht (fun h => kt h H locs ls hR hL hl) (fun h => kf h H locs ls hR hL hl)
theorem V_icmpge (X : zX g κ own cc nL) {x y : Int32} {off : Int} {tgt : Nat} (d : decode cc pc = .ok (.if_icmp .ge off, 3)) (ht : (pc : Int) + off = (tgt : Int)) (kt : y ≤ x → V g κ nL k n σ tgt lv rest) (kf : ¬ y ≤ x → V g κ nL k n σ (pc + 3) lv rest) : V g κ nL k n σ pc lv (.int y :: .int x :: rest) := fun H locs ls hR hL hl => lv_icmp_ge X.1 X.2.1 d ht (fun h => kt h H locs ls hR hL hl) (fun h => kf h H locs ls hR hL hl)
theorem V_icmpgt (X : zX g κ own cc nL) {x y : Int32} {off : Int} {tgt : Nat} (d : decode cc pc = .ok (.if_icmp .gt off, 3)) (ht : (pc : Int) + off = (tgt : Int)) (kt : y < x → V g κ nL k n σ tgt lv rest) (kf : ¬ y < x → V g κ nL k n σ (pc + 3) lv rest) : V g κ nL k n σ pc lv (.int y :: .int x :: rest) := fun H locs ls hR hL hl => lv_icmp_gt X.1 X.2.1 d ht (fun h => kt h H locs ls hR hL hl) (fun h => kf h H locs ls hR hL hl)
theorem V_icmple (X : zX g κ own cc nL) {x y : Int32} {off : Int} {tgt : Nat} (d : decode cc pc = .ok (.if_icmp .le off, 3)) (ht : (pc : Int) + off = (tgt : Int)) (kt : x ≤ y → V g κ nL k n σ tgt lv rest) (kf : ¬ x ≤ y → V g κ nL k n σ (pc + 3) lv rest) : V g κ nL k n σ pc lv (.int y :: .int x :: rest) := fun H locs ls hR hL hl => lv_icmp_le X.1 X.2.1 d ht (fun h => kt h H locs ls hR hL hl) (fun h => kf h H locs ls hR hL hl)
end ROWS
end
section
/-! ===== rows of fields, arrays, new, returns ===== -/
/-- the field that entry idx of own's pool names: field k of class ci -/
def zF (own : String) (idx ci k : Nat) (C : String) (T : u_T) (N : Nat) : Prop := vwCl[ci]? = some (C, T, N) ∧ (∀ w ∈ u_ws C T N, w ∈ zTBL) ∧ k < N ∧ (T k).1 = C ∧ (Cond.fieldLink own idx C (T k).2.1 (T k).2.2.1 ∈ zTBL ∨ ∃ host, Cond.fieldLinkNest own idx C (T k).2.1 (T k).2.2.1 host ∈ zNL)
/-- what a store wants of its class: types, names apart -/
def zT (C : String) (T : u_T) (N : Nat) : Prop := (∃ ty : Nat → FieldType, ∀ k, k < N → parseFieldDescriptor (T k).2.2.1 = some (ty k)) ∧ ∀ a, a < N → ∀ b, b < N → a ≠ b → (T a).2.1 ≠ (T b).2.1
section FROWS
variable {g : zG} {κ : zC} {own : String} {cc : ByteArray} {nL k n : Nat} {σ : zS} {pc : Nat} {lv : List (Nat × Value)} {rest : List Value}
theorem V_getf (X : zX g κ own cc nL) {a idx ci j : Nat} {C : String} {T : u_T} {N : Nat} (F : zF own idx ci j C T N) {fs : List Value} {v : Value} (he : σ.2 a = some (.inr (ci, fs))) (hv : fs[j]? = some v) (d : decode cc pc = .ok (.getfield idx, 3)) (kk : V g κ nL k n σ (pc + 3) lv (v :: rest)) : V g κ nL k n σ pc lv (.ref a :: rest) := by
  intro H locs ls hR hL hl
  obtain ⟨hc, hin, hk, hdecl, hlink⟩ := F
  have hP : va_P g.2.2.1 vwCl [(a, .inr (ci, fs))] H := fun i q hq => by
    match i, hq with
    | 0, hq => cases hq; exact hR.2.2.2 a _ he
    | i + 1, hq => simp at hq
  rcases hlink with hlink | ⟨host, hlink⟩
  · exact va_get X.1 X.2.1 X.2.2.2.2.1 hin X.2.2.2.1 X.2.2.2.2.2.2.1 hP 0 rfl hc j hk (X.2.2.2.2.1 _ hlink) (fun x hx => by rw [← hx, hdecl]) hv d (kk H locs ls hR hL hl)
  · exact va_getN X.1 X.2.1 X.2.2.2.2.1 hin X.2.2.2.1 X.2.2.2.2.2.2.1 hP 0 rfl hc j hk (va_Nw.use rfl (X.2.2.2.2.2.2.2.1 _ hlink)) (fun x hx => by rw [← hx, hdecl]) hv d (kk H locs ls hR hL hl)
theorem V_putf (X : zX g κ own cc nL) {a idx ci j : Nat} {C : String} {T : u_T} {N : Nat} (F : zF own idx ci j C T N) (Z : zT C T N) {fs : List Value} {v : Value} {ty : FieldType} (he : σ.2 a = some (.inr (ci, fs))) (ha : g.2.1.size ≤ a) (hl0 : j < fs.length) (hfin : (T j).2.2.2 = false) (hd : parseFieldDescriptor (T j).2.2.1 = some ty) (hn : narrow ty v = v) (hfit : fits ty v = true) (d : decode cc pc = .ok (.putfield idx, 3)) (kk : V g κ nL k n (σ.1, zup σ.2 a (.inr (ci, fs.set j v))) (pc + 3) lv rest) : V g κ nL k n σ pc lv (v :: .ref a :: rest) := by
  intro H locs ls hR hL hl
  obtain ⟨hc, hin, hk, hdecl, hlink⟩ := F
  obtain ⟨⟨ty0, hty⟩, hnm⟩ := Z
  have hts := X.2.2.2.2.1
  have hK := X.2.2.2.2.2.2.1
  have hap := va_apart (own := own) hts hin ty0 hty hnm hK hc
  obtain ⟨r, h1, cell, q1, q2, q3, q4⟩ := hR.2.2.2 a _ he
  have hr : r = (C, T, N) := Option.some.inj (h1.symm.trans hc)
  subst hr
  obtain ⟨hS, hfc, kC, hkC, hkind⟩ := hK.1 ci _ hc
  obtain ⟨cf, kf, fi, f, hi, hsl⟩ := hS j hk
  have hlay := hts _ (hin _ (u_in_lay hk))
  unfold u_lay at hlay
  rw [if_neg (by rw [hfin]; decide)] at hlay
  have hst := (u_facts hfc hkC (u_lays hts hin hk) hi).1
  have h6 := u_store hfc hkC hkind hlay hi hd hn hfit
  have hi' : (zs κ).fieldFound? C (T j).2.1 (T j).2.2.1 = some (cf, kf, fi, f) := by rw [← hi, hdecl]
  have key : ∀ H' : Heap, H'[a]? = some (cell.setSlot f.slot v) → H'.size = H.size → (∀ q, q ≠ a → H'[q]? = H[q]?) → zR g (σ.1, zup σ.2 a (.inr (ci, fs.set j v))) H' := fun H' e1 e2 e3 => by
    rw [hsl] at e1
    exact hR.put ha e2 e3 ⟨_, hc, t_OB.to (V := updV (vp_V fs) j v) ⟨_, e1, q2, q3, t_set q4 hap hk v⟩ (fun i _ => vp_updV_set hl0 v i)⟩
  rcases hlink with hlink | ⟨host, hlink⟩
  · refine W.putK X.1 X.2.1 (f := f) ⟨X.2.2.2.1, hts _ hlink, ⟨_, _, _, hi'⟩, hst⟩ (by rw [q2]; exact h6) q1 q3 (by rw [hsl]; exact k2_hasslot (q4 j hk)) rfl rfl d fun H' e1 e2 e3 => ?_
    exact kk H' _ ls (key H' e1 e2 e3) (fun q hq => by rcases List.mem_append.mp hq with h | h; exact hL q h; cases (List.mem_singleton.mp h); exact ha) hl
  · refine va_WputK X.1 X.2.1 (f := f) X.2.2.2.1 (va_Nw.use rfl (X.2.2.2.2.2.2.2.1 _ hlink)) hi' hst (by rw [q2]; exact h6) q1 q3 (by rw [hsl]; exact k2_hasslot (q4 j hk)) rfl rfl d fun H' e1 e2 e3 => ?_
    exact kk H' _ ls (key H' e1 e2 e3) (fun q hq => by rcases List.mem_append.mp hq with h | h; exact hL q h; cases (List.mem_singleton.mp h); exact ha) hl
theorem V_iald (X : zX g κ own cc nL) {a N : Nat} {f : Nat → Int32} {i : Int32} (he : σ.2 a = some (.inl (g.2.2.2 0, N, .inl f))) (hin : vp_in i N) (d : decode cc pc = .ok (.iaload, 1)) (kk : V g κ nL k n σ (pc + 1) lv (.int (f i.toNatClampNeg) :: rest)) : V g κ nL k n σ pc lv (.int i :: .ref a :: rest) := by
  intro H locs ls hR hL hl
  have hP : va_P g.2.2.1 vwCl [(a, .inl (g.2.2.2 0, N, .inl f))] H := fun i q hq => by
    match i, hq with
    | 0, hq => cases hq; exact hR.2.2.2 a _ he
    | i + 1, hq => simp at hq
  exact va_iald X.1 X.2.1 X.2.2.2.2.2.2.1 hP 0 0 rfl rfl hin d (kk H locs ls hR hL hl)
theorem V_iast (X : zX g κ own cc nL) {a N : Nat} {f : Nat → Int32} {i x : Int32} (he : σ.2 a = some (.inl (g.2.2.2 0, N, .inl f))) (ha : g.2.1.size ≤ a) (hin : vp_in i N) (d : decode cc pc = .ok (.iastore, 1)) (kk : V g κ nL k n (σ.1, zup σ.2 a (.inl (g.2.2.2 0, N, .inl (upd f i.toNatClampNeg x)))) (pc + 1) lv rest) : V g κ nL k n σ pc lv (.int x :: .int i :: .ref a :: rest) := by
  intro H locs ls hR hL hl
  refine W.iast X.1 X.2.1 (hR.2.2.2 a _ he) ((X.2.2.2.2.2.2.1.2 0 _ rfl).1 N (fun j => .int (f j))) (fun q => by cases q) (by show ¬ (i < 0 ∨ (arrV _ _ _).slots.size ≤ _); rw [arrV_size]; exact hin) rfl rfl d fun H1 e z oq => ?_
  refine kk H1 _ ls (hR.put ha z oq ?_) (fun q hq => by rcases List.mem_append.mp hq with h | h; exact hL q h; cases (List.mem_singleton.mp h); exact ha) hl
  show H1[a]? = some (vp_cell _ _)
  rw [e]
  rw [vp_cell_i, vp_cell_i, arrV_store]
  congr 2
  funext q
  by_cases hq : q = i.toNatClampNeg
  · subst hq
    simp [updV, upd]
  · simp [updV, upd, hq]
theorem V_alen (X : zX g κ own cc nL) {a : Nat} {x : vp_A} {v : Int32} (t : Nat) (he : σ.2 a = some (.inl (g.2.2.2 t, x))) (ht : t < 5) (hv : Int32.ofNat x.1 = v) (d : decode cc pc = .ok (.arraylength, 1)) (kk : V g κ nL k n σ (pc + 1) lv (.int v :: rest)) : V g κ nL k n σ pc lv (.ref a :: rest) := by
  intro H locs ls hR hL hl
  have hP : va_P g.2.2.1 vwCl [(a, .inl (g.2.2.2 t, x))] H := fun i q hq => by
    match i, hq with
    | 0, hq => cases hq; exact hR.2.2.2 a _ he
    | i + 1, hq => simp at hq
  have : ∃ ty, (zTY g)[t]? = some (g.2.2.2 t, ty) := by
    match t, ht with
    | 0, _ => exact ⟨_, rfl⟩
    | 1, _ => exact ⟨_, rfl⟩
    | 2, _ => exact ⟨_, rfl⟩
    | 3, _ => exact ⟨_, rfl⟩
    | 4, _ => exact ⟨_, rfl⟩
  obtain ⟨ty, hty⟩ := this
  exact va_alen X.1 X.2.1 X.2.2.2.2.2.2.1 hP 0 t rfl hty hv d (kk H locs ls hR hL hl)
/-- an array of int arrays: a row of it -/
theorem V_aald2 (X : zX g κ own cc nL) {a N : Nat} {f : Nat → Option Nat} {i : Int32} {q : Nat} (he : σ.2 a = some (.inl (g.2.2.2 4, N, .inr (.inr (.inr (.inr f)))))) (hin : vp_in i N) (hq : f i.toNatClampNeg = some q) (d : decode cc pc = .ok (.aaload, 1)) (kk : V g κ nL k n σ (pc + 1) lv (.ref q :: rest)) : V g κ nL k n σ pc lv (.int i :: .ref a :: rest) := by
  intro H locs ls hR hL hl
  have hlt : i.toNatClampNeg < N := Nat.not_le.mp fun q => hin (Or.inr q)
  exact W.aald (v := .ref q) (ty := .array .int) X.1 X.2.1 (hR.2.2.2 a _ he) ((X.2.2.2.2.2.2.1.2 4 _ rfl).1 N (fun j => va_rf (f j))) rfl (fun q => by cases q) (by show ¬ (i < 0 ∨ (arrV _ _ _).slots.size ≤ _); rw [arrV_size]; exact hin) (by show (arrV _ _ _).slots[_]? = _; rw [arrV_read _ _ hlt, hq]; rfl) rfl rfl d (kk H locs ls hR hL hl)
theorem V_iret (X : zX g κ own cc nL) {dd mc ms : Nat} {Post : Option Value → zS → Prop} {XP : String → zS → Prop} (E : zE g κ dd (some .int) mc ms Post XP) {v : Int32} (hk : k ≤ mc) (hn : n ≤ ms) (hp : Post (some (.int v)) σ) (d : decode cc pc = .ok (.ireturn, 1)) : V g κ nL k n σ pc lv [.int v] := by
  intro H locs ls hR hL hl
  rw [E.2.1]
  refine W.widen hk hn (vx_ret ?_)
  exact W.iret X.1 X.2.1 E.1 (fun t ht _ => ⟨_, σ, rfl, hp, by rw [ht]; exact hR⟩) hL d (hlocks := X.2.2.2.2.2.1)
theorem V_zret (X : zX g κ own cc nL) {dd mc ms : Nat} {ty : FieldType} {Post : Option Value → zS → Prop} {XP : String → zS → Prop} (E : zE g κ dd (some ty) mc ms Post XP) {v : Int32} (hnar : narrow ty (.int v) = .int v) (hk : k ≤ mc) (hn : n ≤ ms) (hp : Post (some (.int v)) σ) (d : decode cc pc = .ok (.ireturn, 1)) : V g κ nL k n σ pc lv [.int v] := by
  intro H locs ls hR hL hl
  rw [E.2.1]
  refine W.widen hk hn (vx_ret ?_)
  exact W.zret X.1 X.2.1 E.1 hnar (fun t ht _ => ⟨_, σ, rfl, hp, by rw [ht]; exact hR⟩) hL d (hlocks := X.2.2.2.2.2.1)
theorem V_lret (X : zX g κ own cc nL) {dd mc ms : Nat} {Post : Option Value → zS → Prop} {XP : String → zS → Prop} (E : zE g κ dd (some .long) mc ms Post XP) {v : Int64} (hk : k ≤ mc) (hn : n ≤ ms) (hp : Post (some (.long v)) σ) (d : decode cc pc = .ok (.lreturn, 1)) : V g κ nL k n σ pc lv [.long v] := by
  intro H locs ls hR hL hl
  rw [E.2.1]
  refine W.widen hk hn (vx_ret ?_)
  exact W.lret X.1 X.2.1 E.1 (fun t ht _ => ⟨_, σ, rfl, hp, by rw [ht]; exact hR⟩) hL d (hlocks := X.2.2.2.2.2.1)
theorem V_vret (X : zX g κ own cc nL) {dd mc ms : Nat} {Post : Option Value → zS → Prop} {XP : String → zS → Prop} (E : zE g κ dd none mc ms Post XP) (hk : k ≤ mc) (hn : n ≤ ms) (hp : Post none σ) (d : decode cc pc = .ok (.return_, 1)) : V g κ nL k n σ pc lv [] := by
  intro H locs ls hR hL hl
  rw [E.2.1]
  refine W.widen hk hn (vx_ret ?_)
  exact W.vret X.1 X.2.1 E.1 (fun t ht _ => ⟨_, σ, rfl, hp, by rw [ht]; exact hR⟩) hL d (hlocks := X.2.2.2.2.2.1)
theorem V_aret (X : zX g κ own cc nL) {dd mc ms : Nat} {ty : FieldType} {Post : Option Value → zS → Prop} {XP : String → zS → Prop} (E : zE g κ dd (some ty) mc ms Post XP) {v : Value} (hrt : (∃ n, ty = .object n) ∨ ∃ t, ty = .array t) (hv : v = .null ∨ ∃ a, v = .ref a) (hk : k ≤ mc) (hn : n ≤ ms) (hp : Post (some v) σ) (d : decode cc pc = .ok (.areturn, 1)) : V g κ nL k n σ pc lv [v] := by
  intro H locs ls hR hL hl
  rw [E.2.1]
  refine W.widen hk hn (vx_ret ?_)
  exact W.aret X.1 X.2.1 E.1 hrt hv (fun t ht _ => ⟨_, σ, rfl, hp, by rw [ht]; exact hR⟩) hL d (hlocks := X.2.2.2.2.2.1)
end FROWS
end
section
/-! ===== rows of calls, throws, new ===== -/
theorem zWord {κ : zC} {g : zG} {own : String} {cc : ByteArray} {nL : Nat} (X : zX g κ own cc nL) {w : Cond} (h : w ∈ zTBL) : w.before (za κ) (zs κ) = true := X.2.2.2.2.1 w h
theorem zGoodT : GoodIn zTBL zTBL := fun w h => ⟨h, good_of_word (List.mem_filter.mp h).2⟩
theorem zGood {y : MethodName} {cc : ByteArray} {nL : Nat} {ret : Option FieldType} (h : Cond.code y cc nL ret ∈ zTBL) : GoodIn zTBL (.code y cc nL ret :: zTBL) := fun w hw => by
  rcases List.mem_cons.mp hw with e | hw
  · subst e; exact zGoodT _ h
  · exact zGoodT _ hw
/-- the words of a call -/
def zM0 (y : MethodName) (cc : ByteArray) (nL : Nat) (ret : Option FieldType) (np : Nat) : Prop := Cond.code y cc nL ret ∈ zTBL ∧ Cond.initialized y.cls ∈ zTBL ∧ (y.cls ≠ "java/lang/invoke/MethodHandle" ∧ y.cls ≠ "java/lang/invoke/VarHandle" ∧ (parseMethodDescriptor y.desc).map (fun d => d.parameters.length) = some np)
def zM (own : String) (idx : Nat) (y : MethodName) (cc : ByteArray) (nL : Nat) (ret : Option FieldType) (np : Nat) : Prop := zM0 y cc nL ret np ∧ Cond.methodLink own idx y ∈ zTBL
def zMN (own : String) (idx : Nat) (y : MethodName) (cc : ByteArray) (nL : Nat) (ret : Option FieldType) (np : Nat) : Prop := zM0 y cc nL ret np ∧ ∃ host, Cond.methodLinkNest own idx y host ∈ zNL
/-- the room of a frame -/
def zH (κ : zC) (d mc ms : Nat) : Prop := d ≤ (zRm κ).frames ∧ 40 * d ≤ (zRm κ).locals ∧ mc ≤ (zRm κ).cells ∧ ms ≤ (zRm κ).slots
theorem zE.room {g : zG} {κ : zC} {d : Nat} {ret : Option FieldType} {mc ms : Nat} {Post : Option Value → zS → Prop} {XP : String → zS → Prop} (E : zE g κ d ret mc ms Post XP) : zH κ d mc ms := by
  obtain ⟨-, -, -, h, -⟩ := E
  unfold zH
  rw [h]
  exact ⟨Nat.le_refl _, Nat.le_refl _, Nat.le_refl _, Nat.le_refl _⟩
/-- an exception over the frame at pc -/
def VX (g : zG) (κ : zC) (nL k n : Nat) (σ : zS) (pc : Nat) (lv : List (Nat × Value)) (rest : List Value) (E : String) : Prop :=
  ∀ (H : Heap) (locs : List Loc) (ls : Array Slot) (q : Addr) (ce : Cell), zR g σ H → (∀ q ∈ locs, g.2.1.size ≤ q.base) → lv_has ls nL lv → H[q]? = some ce → ce.vm = .none → (zs κ).vm.findClass E = some ce.cls → vx_W (zp κ) g.1 (ze κ) (zRm κ) (zs κ) (zm κ) (za κ) (zb κ) (zme κ) (zc κ) H locs k n (zQ κ) (F0 (zm κ) pc ls rest) q
section CROWS
variable {g : zG} {κ : zC} {own : String} {cc : ByteArray} {nL k n : Nat} {σ : zS} {pc : Nat} {lv : List (Nat × Value)} {rest st : List Value}
/-- the tail of every call -/
theorem V_run {mc ms : Nat} {Post : Option Value → zS → Prop} {XP : String → zS → Prop}
    (hr : ∀ (H : Heap) (locs : List Loc) (ls : Array Slot), zR g σ H → lv_has ls nL lv → vx_Run (zp κ) g.1 (ze κ) (zRm κ) (zs κ) (zm κ) (za κ) (zb κ) (zme κ) (zc κ) H locs k n mc ms (F0 (zm κ) pc ls st) rest (fun (_ : State) (o : Outcome) (t : State) => ∃ (v : Option Value) (σ' : zS), o = .returned v ∧ Post v σ' ∧ zR g σ' t.heap) (fun E _ t => ∃ σ' : zS, XP E σ' ∧ zR g σ' t.heap) (zA g))
    (kx : ∀ (E : String) (σ' : zS), XP E σ' → VX g κ nL (k + mc) (n + ms) σ' pc lv rest E)
    (kk : ∀ (v : Option Value) (σ' : zS), Post v σ' → V g κ nL (k + mc) (n + ms) σ' (pc + 3) lv (v.toList ++ rest)) : V g κ nL k n σ pc lv st := by
  intro H locs ls hR hL hl T hT S
  rcases hr H locs ls hR hl T hT S with ⟨v, st₀, t, T', L, h0, X', hL', e1, e2, ⟨v', σ', hv, hp, hR'⟩, s1⟩ | ⟨q, st₀, t, T', L, E, ce, h0, X', hL', e1, e2, ⟨σ', hp, hR'⟩, hce, hcv, hcl, s1⟩
  · cases hv
    obtain ⟨t2, a1, b1⟩ := kk v σ' hp T'.heap (locs ++ L) ls (by rw [e1]; exact hR') (fun q hq => by rcases List.mem_append.mp hq with h | h; exact hL q h; exact hL' q h) hl T' rfl X'
    exact ⟨t2, s1 t2 a1, b1⟩
  · obtain ⟨t2, a1, b1⟩ := kx E σ' hp T'.heap (locs ++ L) ls q ce (by rw [e1]; exact hR') (fun q hq => by rcases List.mem_append.mp hq with h | h; exact hL q h; exact hL' q h) hl (by rw [e1]; exact hce) hcv hcl T' rfl X'
    exact ⟨t2, s1.trans a1, b1⟩
theorem zPre (X : zX g κ own cc nL) {av : List Value} {H : Heap} (hR : zR g σ H) : PreS (zs κ) H (va_Pc av (fun U => zR g σ U.heap ∧ zKK g U)) av := by
  refine ⟨fun a U g' mk h => ?_, fun U hU hW => ⟨rfl, by rw [hU]; exact hR, X.2.2.2.2.2.2.warm hW⟩⟩
  obtain ⟨h1, h2, h3⟩ := h
  exact ⟨h1, h2, h3.warm (s := U) (U := U.calling g' mk a) (State.WarmedH.refl U)⟩
theorem zCB (X : zX g κ own cc nL) {dd mc0 ms0 : Nat} (Hh : zH κ dd mc0 ms0) {idx d' nL' np mc ms : Nat} {y : MethodName} {cc' : ByteArray} {ret : Option FieldType} (M : zM own idx y cc' nL' ret np) (hd : d' < dd) (hnl : nL' ≤ 21) :
    CallB (zRm κ) (zs κ) (za κ) own idx y cc' nL' ret (.code y cc' nL' ret :: zTBL) { frames := d', cells := mc, slots := ms, locals := 40 * d' } mc ms np := by
  obtain ⟨⟨h1, h2, h3⟩, h4⟩ := M
  obtain ⟨r1, r2, r3, r4⟩ := Hh
  exact callB_of np X.2.2.2.2.1 (zGood h1) rfl rfl rfl (zWord X h2) (zWord X h4) h3 ⟨by show d' + 1 ≤ _; omega, by show 8 + (nL' + 11) + 40 * d' ≤ _; omega⟩
theorem V_callS (X : zX g κ own cc nL) {dd mc0 ms0 : Nat} (Hh : zH κ dd mc0 ms0) {idx d' nL' np mc ms : Nat} {y : MethodName} {cc' : ByteArray} {ret : Option FieldType} {av : List Value} {Post : Option Value → zS → Prop} {XP : String → zS → Prop} (M : zM own idx y cc' nL' ret np) (hst : Cond.static y ∈ zTBL) (hd : d' < dd) (hnl : nL' ≤ 21) (hC : Ct g d' y cc' nL' ret mc ms av σ Post XP)
    (hav : av.length = np) (hs : st = av.reverse ++ rest) (hw : (rest.map fun v => v.category).sum ≤ 8) (hc : k + mc ≤ mc0 ∧ n + ms ≤ ms0) (d : decode cc pc = .ok (.invokestatic idx, 3))
    (kx : ∀ (E : String) (σ' : zS), XP E σ' → VX g κ nL (k + mc) (n + ms) σ' pc lv rest E)
    (kk : ∀ (v : Option Value) (σ' : zS), Post v σ' → V g κ nL (k + mc) (n + ms) σ' (pc + 3) lv (v.toList ++ rest)) : V g κ nL k n σ pc lv st := by
  refine V_run (rest := rest) (fun H locs ls hR hl => ?_) kx kk
  exact vx_runS (As := av) ⟨X.1, X.2.1, X.2.2.1, X.2.2.2.1, X.2.2.2.2.1⟩ hC ⟨zCB X Hh M hd hnl, zWord X hst⟩ (zPre X hR) rfl hav hl.1 hs (lv_room hw) d ⟨Nat.le_trans hc.1 Hh.2.2.1, Nat.le_trans hc.2 Hh.2.2.2⟩
theorem zRecv (X : zX g κ own cc nL) {b ci : Nat} {fs : List Value} {q : vw_C} {H : Heap} (hR : zR g σ H) (he : σ.2 b = some (.inr (ci, fs))) (hc : vwCl[ci]? = some q) : ∃ cell : Cell, H[b]? = some cell ∧ cell.vm.isStatics = false ∧ (zs κ).vm.findClass q.1 = some cell.cls := by
  obtain ⟨q', h1, cell, g1, g2, g3, -⟩ := hR.2.2.2 b _ he
  exact ⟨cell, g1, by rw [g3]; rfl, by rw [g2]; exact (X.2.2.2.2.2.2.1.1 ci q hc).2.1⟩
theorem V_callV (X : zX g κ own cc nL) {dd mc0 ms0 : Nat} (Hh : zH κ dd mc0 ms0) {idx d' nL' np mc ms b ci : Nat} {y : MethodName} {cc' : ByteArray} {ret : Option FieldType} {av : List Value} {Post : Option Value → zS → Prop} {XP : String → zS → Prop} (M : zM own idx y cc' nL' ret np) (hin : Cond.instanceMethod y ∈ zTBL) {C : String} {T : u_T} {N : Nat} {fs : List Value} (hcl : vwCl[ci]? = some (C, T, N)) (hse : Cond.selects C y y ∈ zTBL) (he : σ.2 b = some (.inr (ci, fs))) (hd : d' < dd) (hnl : nL' ≤ 21) (hC : Ct g d' y cc' nL' ret mc ms (.ref b :: av) σ Post XP)
    (hav : av.length = np) (hs : st = av.reverse ++ .ref b :: rest) (hw : (rest.map fun v => v.category).sum ≤ 8) (hc : k + mc ≤ mc0 ∧ n + ms ≤ ms0) (d : decode cc pc = .ok (.invokevirtual idx, 3))
    (kx : ∀ (E : String) (σ' : zS), XP E σ' → VX g κ nL (k + mc) (n + ms) σ' pc lv rest E)
    (kk : ∀ (v : Option Value) (σ' : zS), Post v σ' → V g κ nL (k + mc) (n + ms) σ' (pc + 3) lv (v.toList ++ rest)) : V g κ nL k n σ pc lv st := by
  refine V_run (rest := rest) (fun H locs ls hR hl => ?_) kx kk
  exact vx_runV (As := av) (C := C) ⟨X.1, X.2.1, X.2.2.1, X.2.2.2.1, X.2.2.2.2.1⟩ hC ⟨zCB X Hh M hd hnl, zWord X hin, zWord X hse⟩ ⟨(zPre X hR (av := .ref b :: av)).1, zRecv X hR he hcl, (zPre X hR).2⟩ rfl hav hl.1 hs (lv_room hw) d ⟨Nat.le_trans hc.1 Hh.2.2.1, Nat.le_trans hc.2 Hh.2.2.2⟩
theorem V_callI (X : zX g κ own cc nL) {dd mc0 ms0 : Nat} (Hh : zH κ dd mc0 ms0) {idx d' nL' np mc ms b : Nat} {y : MethodName} {cc' : ByteArray} {av : List Value} {Post : Option Value → zS → Prop} {XP : String → zS → Prop} (M : zM own idx y cc' nL' none np) (hin : Cond.instanceMethod y ∈ zTBL) (hy : y.name = "<init>") (hd : d' < dd) (hnl : nL' ≤ 21) (hC : Ct g d' y cc' nL' none mc ms (.ref b :: av) σ Post XP)
    (hav : av.length = np) (hs : st = av.reverse ++ .ref b :: rest) (hw : (rest.map fun v => v.category).sum ≤ 8) (hc : k + mc ≤ mc0 ∧ n + ms ≤ ms0) (d : decode cc pc = .ok (.invokespecial idx, 3))
    (kx : ∀ (E : String) (σ' : zS), XP E σ' → VX g κ nL (k + mc) (n + ms) σ' pc lv rest E)
    (kk : ∀ (v : Option Value) (σ' : zS), Post v σ' → V g κ nL (k + mc) (n + ms) σ' (pc + 3) lv (v.toList ++ rest)) : V g κ nL k n σ pc lv st := by
  refine V_run (rest := rest) (fun H locs ls hR hl => ?_) kx kk
  exact vx_runI (As := av) ⟨X.1, X.2.1, X.2.2.1, X.2.2.2.1, X.2.2.2.2.1⟩ hC ⟨zCB X Hh M hd hnl, hy, zWord X hin⟩ (zPre X hR) rfl hav hl.1 hs (lv_room hw) d ⟨Nat.le_trans hc.1 Hh.2.2.1, Nat.le_trans hc.2 Hh.2.2.2⟩
theorem zCN (X : zX g κ own cc nL) {dd mc0 ms0 : Nat} (Hh : zH κ dd mc0 ms0) {idx d' nL' np mc ms : Nat} {y : MethodName} {cc' : ByteArray} {ret : Option FieldType} (M : zMN own idx y cc' nL' ret np) (hd : d' < dd) (hnl : nL' ≤ 21) :
    ∃ host, va_CN (zRm κ) (zs κ) (za κ) own idx y host cc' nL' ret (.code y cc' nL' ret :: zTBL) { frames := d', cells := mc, slots := ms, locals := 40 * d' } mc ms np := by
  obtain ⟨⟨h1, h2, h3⟩, host, h4⟩ := M
  obtain ⟨r1, r2, r3, r4⟩ := Hh
  exact ⟨host, va_cnB np X.2.2.2.2.1 (zGood h1) rfl rfl rfl (X.2.2.2.2.2.2.2.1 _ h4) (zWord X h2) h3 ⟨by show d' + 1 ≤ _; omega, by show 8 + (nL' + 11) + 40 * d' ≤ _; omega⟩⟩
theorem V_callSN (X : zX g κ own cc nL) {dd mc0 ms0 : Nat} (Hh : zH κ dd mc0 ms0) {idx d' nL' np mc ms : Nat} {y : MethodName} {cc' : ByteArray} {ret : Option FieldType} {av : List Value} {Post : Option Value → zS → Prop} {XP : String → zS → Prop} (M : zMN own idx y cc' nL' ret np) (hst : Cond.static y ∈ zTBL) (hd : d' < dd) (hnl : nL' ≤ 21) (hC : Ct g d' y cc' nL' ret mc ms av σ Post XP)
    (hav : av.length = np) (hs : st = av.reverse ++ rest) (hw : (rest.map fun v => v.category).sum ≤ 8) (hc : k + mc ≤ mc0 ∧ n + ms ≤ ms0) (d : decode cc pc = .ok (.invokestatic idx, 3))
    (kx : ∀ (E : String) (σ' : zS), XP E σ' → VX g κ nL (k + mc) (n + ms) σ' pc lv rest E)
    (kk : ∀ (v : Option Value) (σ' : zS), Post v σ' → V g κ nL (k + mc) (n + ms) σ' (pc + 3) lv (v.toList ++ rest)) : V g κ nL k n σ pc lv st := by
  refine V_run (rest := rest) (fun H locs ls hR hl => ?_) kx kk
  obtain ⟨host, hCN⟩ := zCN (mc := mc) (ms := ms) X Hh M hd hnl
  exact vx_runSN (As := av) (Ts := zTBL) (host := host) ⟨X.1, X.2.1, X.2.2.1, X.2.2.2.1, X.2.2.2.2.1⟩ hC ⟨hCN, zWord X hst, trivial⟩ (zPre X hR) rfl hav hl.1 hs (lv_room hw) d ⟨Nat.le_trans hc.1 Hh.2.2.1, Nat.le_trans hc.2 Hh.2.2.2⟩
theorem V_callIN (X : zX g κ own cc nL) {dd mc0 ms0 : Nat} (Hh : zH κ dd mc0 ms0) {idx d' nL' np mc ms b : Nat} {y : MethodName} {cc' : ByteArray} {av : List Value} {Post : Option Value → zS → Prop} {XP : String → zS → Prop} (M : zMN own idx y cc' nL' none np) (hin : Cond.instanceMethod y ∈ zTBL) (hy : y.name = "<init>") (hd : d' < dd) (hnl : nL' ≤ 21) (hC : Ct g d' y cc' nL' none mc ms (.ref b :: av) σ Post XP)
    (hav : av.length = np) (hs : st = av.reverse ++ .ref b :: rest) (hw : (rest.map fun v => v.category).sum ≤ 8) (hc : k + mc ≤ mc0 ∧ n + ms ≤ ms0) (d : decode cc pc = .ok (.invokespecial idx, 3))
    (kx : ∀ (E : String) (σ' : zS), XP E σ' → VX g κ nL (k + mc) (n + ms) σ' pc lv rest E)
    (kk : ∀ (v : Option Value) (σ' : zS), Post v σ' → V g κ nL (k + mc) (n + ms) σ' (pc + 3) lv (v.toList ++ rest)) : V g κ nL k n σ pc lv st := by
  refine V_run (rest := rest) (fun H locs ls hR hl => ?_) kx kk
  obtain ⟨host, hCN⟩ := zCN (mc := mc) (ms := ms) X Hh M hd hnl
  exact vx_runIN (As := av) (Ts := zTBL) (host := host) ⟨X.1, X.2.1, X.2.2.1, X.2.2.2.1, X.2.2.2.2.1⟩ hC ⟨hCN, hy, zWord X hin⟩ (zPre X hR) rfl hav hl.1 hs (lv_room hw) d ⟨Nat.le_trans hc.1 Hh.2.2.1, Nat.le_trans hc.2 Hh.2.2.2⟩
/-- an exception that this method doesn't catch -/
theorem VX_out {dd mc ms : Nat} {ret : Option FieldType} {Post : Option Value → zS → Prop} {XP : String → zS → Prop} (X : zX g κ own cc nL) (E : zE g κ dd ret mc ms Post XP) {Ex : String} (hk : k ≤ mc) (hn : n ≤ ms) (hp : XP Ex σ) : VX g κ nL k n σ pc lv rest Ex := by
  intro H locs ls q ce hR hL hl h1 h2 h3
  rw [E.2.1]
  exact vx_out (fun x hx => (E.2.2.1 x hx).elim) X.2.2.2.2.2.1 h1 h2 h3 (fun t ht _ => ⟨σ, hp, by rw [ht]; exact hR⟩) hL hk hn
theorem V_throwS (X : zX g κ own cc nL) {dd mc ms : Nat} {ret : Option FieldType} {Post : Option Value → zS → Prop} {XP : String → zS → Prop} (E : zE g κ dd ret mc ms Post XP) (hl0 : g.1.stackTraces = false) {cls text : String} {names : List String} {ik is ic : Nat} (hcls : Bundle.fit cls = true) (hnames : ∀ q ∈ names, Bundle.fit q = true)
    (hwd : ∀ w ∈ Cond.classLink own ik cls :: Cond.initialized cls :: vx_atS own ic cls names, w ∈ zTBL ∨ w ∈ zNL) (hot : ∀ w ∈ Cond.classLink own ik cls :: Cond.initialized cls :: vx_atS own ic cls names, vx_ot w = true)
    (hstr : ∃ sa, vk_R own is text sa (zs κ)) (d0 : decode cc pc = .ok (.new ik, 3)) (d3 : decode cc (pc + 3) = .ok (.dup, 1)) (d4 : decode cc (pc + 4) = .ok (.ldc is, 2)) (d6 : decode cc (pc + 6) = .ok (.invokespecial ic, 3)) (d9 : decode cc (pc + 9) = .ok (.athrow, 1))
    (hd : names.length + 3 < dd) (hw : (rest.map fun v => v.category).sum ≤ 8) (hnl : names.length ≤ 6) (hk : k + 1 ≤ mc) (hn : n + 6 ≤ ms) (hp : ∀ z : Nat, σ.1 ≤ z → XP cls (z, σ.2)) : V g κ nL k n σ pc lv rest := by
  intro H locs ls hR hL hl
  obtain ⟨r1, r2, r3, r4⟩ := E.room
  have hts : ∀ w ∈ Cond.classLink own ik cls :: Cond.initialized cls :: vx_atS own ic cls names, w.before (za κ) (zs κ) = true := fun w hw => by
    rcases hwd w hw with h | h
    · exact zWord X h
    · have hz := (List.mem_filter.mp h).2
      exact va_Nw.use (by cases w <;> first | exact Bool.noConfusion (show false = true from hz) | rfl) (X.2.2.2.2.2.2.2.1 w h)
  obtain ⟨sa, hstr⟩ := hstr
  have hbase := E.2.2.2.2
  have hU := X.2.2.2.2.2.2.2.2.1
  have hN := X.2.2.2.2.2.2.2.2.2
  rw [E.2.1]
  intro T hT S
  have hz : (zs κ).heap.size ≤ H.size := by
    obtain ⟨-, h2, -⟩ := S.same
    rw [← hT]; exact h2
  refine vx_throwS (A := zA g) X.1 X.2.1 hl0 X.2.2.2.1 hcls hnames (hts _ List.mem_cons_self) (hts _ (List.mem_cons_of_mem _ List.mem_cons_self)) hstr (fun w hw => hts w (List.mem_cons_of_mem _ (List.mem_cons_of_mem _ hw))) hot
    (hU.kept fun a h1 h2 => hbase.2 a h1) (hN.kept fun a h1 h2 => hbase.2 a h1)
    ⟨hz, fun q hq hA => ?_, fun q hq => hL q hq⟩ (hl.1.trans X.2.2.1.symm) d0 d3 d4 d6 d9 (fun x hx => (E.2.2.1 x hx).elim) (by omega) (by omega) (by omega) (by omega) X.2.2.2.2.2.1 ?_ hL hk hn T hT S
  · have hq2 : q < g.2.1.size := Nat.not_le.mp hA
    rw [hR.2.2.1 q hq2, hbase.2 q hq2]
  · intro t _ hsz hsame
    obtain ⟨h1, h2, h3, h4⟩ := hR
    refine ⟨(t.heap.size, σ.2), hp _ (by rw [← h1]; exact hsz), rfl, Nat.le_trans h2 hsz, fun q hq => (hsame q (by omega)).trans (h3 q hq), fun a e ha => ?_⟩
    have hv := h4 a e ha
    exact hv.kept (hsame a hv.lt)
end CROWS
end
section
/-! words, by their places in the tables -/
theorem tin1 {j : Nat} {w : Cond} (h : tables_1_1[j]? = some w) : w ∈ lw_tbl := List.mem_append_right _ (show w ∈ tables_1 from List.mem_append_left _ (List.mem_of_getElem? h))
theorem tb1 {j : Nat} {w : Cond} (h : tables_1_1[j]? = some w) (hg : goodWord w = true) : w ∈ zTBL := List.mem_filter.mpr ⟨tin1 h, hg⟩
theorem nb1 {j : Nat} {w : Cond} (h : tables_1_1[j]? = some w) (hg : zNst w = true) : w ∈ zNL := List.mem_filter.mpr ⟨tin1 h, hg⟩
theorem tin2 {j : Nat} {w : Cond} (h : tables_1_2[j]? = some w) : w ∈ lw_tbl := List.mem_append_right _ (show w ∈ tables_1 from List.mem_append_right _ (List.mem_append_left _ (List.mem_of_getElem? h)))
theorem tb2 {j : Nat} {w : Cond} (h : tables_1_2[j]? = some w) (hg : goodWord w = true) : w ∈ zTBL := List.mem_filter.mpr ⟨tin2 h, hg⟩
theorem nb2 {j : Nat} {w : Cond} (h : tables_1_2[j]? = some w) (hg : zNst w = true) : w ∈ zNL := List.mem_filter.mpr ⟨tin2 h, hg⟩
theorem tin3 {j : Nat} {w : Cond} (h : tables_1_3[j]? = some w) : w ∈ lw_tbl := List.mem_append_right _ (show w ∈ tables_1 from List.mem_append_right _ (List.mem_append_right _ (List.mem_append_left _ (List.mem_of_getElem? h))))
theorem tb3 {j : Nat} {w : Cond} (h : tables_1_3[j]? = some w) (hg : goodWord w = true) : w ∈ zTBL := List.mem_filter.mpr ⟨tin3 h, hg⟩
theorem nb3 {j : Nat} {w : Cond} (h : tables_1_3[j]? = some w) (hg : zNst w = true) : w ∈ zNL := List.mem_filter.mpr ⟨tin3 h, hg⟩
theorem tin4 {j : Nat} {w : Cond} (h : tables_1_4[j]? = some w) : w ∈ lw_tbl := List.mem_append_right _ (show w ∈ tables_1 from List.mem_append_right _ (List.mem_append_right _ (List.mem_append_right _ (List.mem_append_left _ (List.mem_of_getElem? h)))))
theorem tb4 {j : Nat} {w : Cond} (h : tables_1_4[j]? = some w) (hg : goodWord w = true) : w ∈ zTBL := List.mem_filter.mpr ⟨tin4 h, hg⟩
theorem nb4 {j : Nat} {w : Cond} (h : tables_1_4[j]? = some w) (hg : zNst w = true) : w ∈ zNL := List.mem_filter.mpr ⟨tin4 h, hg⟩
theorem tin5 {j : Nat} {w : Cond} (h : tables_1_5[j]? = some w) : w ∈ lw_tbl := List.mem_append_right _ (show w ∈ tables_1 from List.mem_append_right _ (List.mem_append_right _ (List.mem_append_right _ (List.mem_append_right _ (List.mem_append_left _ (List.mem_of_getElem? h))))))
theorem tb5 {j : Nat} {w : Cond} (h : tables_1_5[j]? = some w) (hg : goodWord w = true) : w ∈ zTBL := List.mem_filter.mpr ⟨tin5 h, hg⟩
theorem nb5 {j : Nat} {w : Cond} (h : tables_1_5[j]? = some w) (hg : zNst w = true) : w ∈ zNL := List.mem_filter.mpr ⟨tin5 h, hg⟩
theorem tin6 {j : Nat} {w : Cond} (h : tables_1_6[j]? = some w) : w ∈ lw_tbl := List.mem_append_right _ (show w ∈ tables_1 from List.mem_append_right _ (List.mem_append_right _ (List.mem_append_right _ (List.mem_append_right _ (List.mem_append_right _ (List.mem_append_left _ (List.mem_of_getElem? h)))))))
theorem tb6 {j : Nat} {w : Cond} (h : tables_1_6[j]? = some w) (hg : goodWord w = true) : w ∈ zTBL := List.mem_filter.mpr ⟨tin6 h, hg⟩
theorem nb6 {j : Nat} {w : Cond} (h : tables_1_6[j]? = some w) (hg : zNst w = true) : w ∈ zNL := List.mem_filter.mpr ⟨tin6 h, hg⟩
theorem tin7 {j : Nat} {w : Cond} (h : tables_1_7[j]? = some w) : w ∈ lw_tbl := List.mem_append_right _ (show w ∈ tables_1 from List.mem_append_right _ (List.mem_append_right _ (List.mem_append_right _ (List.mem_append_right _ (List.mem_append_right _ (List.mem_append_right _ (List.mem_of_getElem? h)))))))
theorem tb7 {j : Nat} {w : Cond} (h : tables_1_7[j]? = some w) (hg : goodWord w = true) : w ∈ zTBL := List.mem_filter.mpr ⟨tin7 h, hg⟩
theorem nb7 {j : Nat} {w : Cond} (h : tables_1_7[j]? = some w) (hg : zNst w = true) : w ∈ zNL := List.mem_filter.mpr ⟨tin7 h, hg⟩
theorem tbp {j : Nat} {w : Cond} (h : (k2_sels lw_privs)[j]? = some w) (hg : goodWord w = true) : w ∈ zTBL := List.mem_filter.mpr ⟨List.mem_append_left _ (List.mem_of_getElem? h), hg⟩
theorem zi_X0 : ∀ w ∈ u_ws RX0 TX0 9, w ∈ zTBL := by
  intro w hw
  obtain ⟨i, hi, rfl⟩ := List.mem_map.mp hw
  have hi : i < 9 := List.mem_range.mp hi
  match i, hi with
  | 0, _ => exact tb1 (j := 133) (by decide +kernel) rfl
  | 1, _ => exact tb1 (j := 135) (by decide +kernel) rfl
  | 2, _ => exact tb1 (j := 137) (by decide +kernel) rfl
  | 3, _ => exact tb1 (j := 139) (by decide +kernel) rfl
  | 4, _ => exact tb1 (j := 141) (by decide +kernel) rfl
  | 5, _ => exact tb1 (j := 143) (by decide +kernel) rfl
  | 6, _ => exact tb1 (j := 145) (by decide +kernel) rfl
  | 7, _ => exact tb1 (j := 147) (by decide +kernel) rfl
  | 8, _ => exact tb1 (j := 149) (by decide +kernel) rfl
  | i + 9, hi => exact absurd hi (by omega)
theorem zt_X0 : zT RX0 TX0 9 := ⟨⟨tyX0, tyX0_ok⟩, nmX0⟩
theorem zi_X1 : ∀ w ∈ u_ws RX1 TX1 6, w ∈ zTBL := by
  intro w hw
  obtain ⟨i, hi, rfl⟩ := List.mem_map.mp hw
  have hi : i < 6 := List.mem_range.mp hi
  match i, hi with
  | 0, _ => exact tb1 (j := 102) (by decide +kernel) rfl
  | 1, _ => exact tb1 (j := 104) (by decide +kernel) rfl
  | 2, _ => exact tb1 (j := 106) (by decide +kernel) rfl
  | 3, _ => exact tb1 (j := 108) (by decide +kernel) rfl
  | 4, _ => exact tb1 (j := 110) (by decide +kernel) rfl
  | 5, _ => exact tb1 (j := 112) (by decide +kernel) rfl
  | i + 6, hi => exact absurd hi (by omega)
theorem zt_X1 : zT RX1 TX1 6 := ⟨⟨tyX1, tyX1_ok⟩, nmX1⟩
theorem zi_X2 : ∀ w ∈ u_ws RX2 TX2 7, w ∈ zTBL := by
  intro w hw
  obtain ⟨i, hi, rfl⟩ := List.mem_map.mp hw
  have hi : i < 7 := List.mem_range.mp hi
  match i, hi with
  | 0, _ => exact tb1 (j := 68) (by decide +kernel) rfl
  | 1, _ => exact tb1 (j := 70) (by decide +kernel) rfl
  | 2, _ => exact tb1 (j := 72) (by decide +kernel) rfl
  | 3, _ => exact tb1 (j := 74) (by decide +kernel) rfl
  | 4, _ => exact tb1 (j := 76) (by decide +kernel) rfl
  | 5, _ => exact tb1 (j := 78) (by decide +kernel) rfl
  | 6, _ => exact tb1 (j := 80) (by decide +kernel) rfl
  | i + 7, hi => exact absurd hi (by omega)
theorem zt_X2 : zT RX2 TX2 7 := ⟨⟨tyX2, tyX2_ok⟩, nmX2⟩
theorem zi_X3 : ∀ w ∈ u_ws RX3 TX3 6, w ∈ zTBL := by
  intro w hw
  obtain ⟨i, hi, rfl⟩ := List.mem_map.mp hw
  have hi : i < 6 := List.mem_range.mp hi
  match i, hi with
  | 0, _ => exact tb1 (j := 204) (by decide +kernel) rfl
  | 1, _ => exact tb1 (j := 206) (by decide +kernel) rfl
  | 2, _ => exact tb1 (j := 208) (by decide +kernel) rfl
  | 3, _ => exact tb1 (j := 210) (by decide +kernel) rfl
  | 4, _ => exact tb1 (j := 212) (by decide +kernel) rfl
  | 5, _ => exact tb1 (j := 214) (by decide +kernel) rfl
  | i + 6, hi => exact absurd hi (by omega)
theorem zt_X3 : zT RX3 TX3 6 := ⟨⟨tyX3, tyX3_ok⟩, nmX3⟩
theorem zi_X4 : ∀ w ∈ u_ws RX4 TX4 7, w ∈ zTBL := by
  intro w hw
  obtain ⟨i, hi, rfl⟩ := List.mem_map.mp hw
  have hi : i < 7 := List.mem_range.mp hi
  match i, hi with
  | 0, _ => exact tb1 (j := 170) (by decide +kernel) rfl
  | 1, _ => exact tb1 (j := 172) (by decide +kernel) rfl
  | 2, _ => exact tb1 (j := 174) (by decide +kernel) rfl
  | 3, _ => exact tb1 (j := 176) (by decide +kernel) rfl
  | 4, _ => exact tb1 (j := 178) (by decide +kernel) rfl
  | 5, _ => exact tb1 (j := 180) (by decide +kernel) rfl
  | 6, _ => exact tb1 (j := 182) (by decide +kernel) rfl
  | i + 7, hi => exact absurd hi (by omega)
theorem zt_X4 : zT RX4 TX4 7 := ⟨⟨tyX4, tyX4_ok⟩, nmX4⟩
theorem zi_X5 : ∀ w ∈ u_ws RX5 TX5 9, w ∈ zTBL := by
  intro w hw
  obtain ⟨i, hi, rfl⟩ := List.mem_map.mp hw
  have hi : i < 9 := List.mem_range.mp hi
  match i, hi with
  | 0, _ => exact tb1 (j := 226) (by decide +kernel) rfl
  | 1, _ => exact tb1 (j := 228) (by decide +kernel) rfl
  | 2, _ => exact tb1 (j := 230) (by decide +kernel) rfl
  | 3, _ => exact tb1 (j := 232) (by decide +kernel) rfl
  | 4, _ => exact tb1 (j := 234) (by decide +kernel) rfl
  | 5, _ => exact tb1 (j := 236) (by decide +kernel) rfl
  | 6, _ => exact tb1 (j := 238) (by decide +kernel) rfl
  | 7, _ => exact tb2 (j := 0) (by decide +kernel) rfl
  | 8, _ => exact tb2 (j := 2) (by decide +kernel) rfl
  | i + 9, hi => exact absurd hi (by omega)
theorem zt_X5 : zT RX5 TX5 9 := ⟨⟨tyX5, tyX5_ok⟩, nmX5⟩
theorem zi_X6 : ∀ w ∈ u_ws RX6 TX6 1, w ∈ zTBL := by
  intro w hw
  obtain ⟨i, hi, rfl⟩ := List.mem_map.mp hw
  have hi : i < 1 := List.mem_range.mp hi
  match i, hi with
  | 0, _ => exact tb4 (j := 120) (by decide +kernel) rfl
  | i + 1, hi => exact absurd hi (by omega)
theorem zt_X6 : zT RX6 TX6 1 := ⟨⟨tyX6, tyX6_ok⟩, nmX6⟩
theorem zi_X7 : ∀ w ∈ u_ws RX7 TX7 4, w ∈ zTBL := by
  intro w hw
  obtain ⟨i, hi, rfl⟩ := List.mem_map.mp hw
  have hi : i < 4 := List.mem_range.mp hi
  match i, hi with
  | 0, _ => exact tb6 (j := 133) (by decide +kernel) rfl
  | 1, _ => exact tb6 (j := 135) (by decide +kernel) rfl
  | 2, _ => exact tb6 (j := 137) (by decide +kernel) rfl
  | 3, _ => exact tb6 (j := 139) (by decide +kernel) rfl
  | i + 4, hi => exact absurd hi (by omega)
theorem zt_X7 : zT RX7 TX7 4 := ⟨⟨tyX7, tyX7_ok⟩, nmX7⟩
theorem zi_X8 : ∀ w ∈ u_ws RX8 TX8 3, w ∈ zTBL := by
  intro w hw
  obtain ⟨i, hi, rfl⟩ := List.mem_map.mp hw
  have hi : i < 3 := List.mem_range.mp hi
  match i, hi with
  | 0, _ => exact tb5 (j := 179) (by decide +kernel) rfl
  | 1, _ => exact tb5 (j := 181) (by decide +kernel) rfl
  | 2, _ => exact tb5 (j := 183) (by decide +kernel) rfl
  | i + 3, hi => exact absurd hi (by omega)
theorem zt_X8 : zT RX8 TX8 3 := ⟨⟨tyX8, tyX8_ok⟩, nmX8⟩
theorem zi_X9 : ∀ w ∈ u_ws RX9 TX9 5, w ∈ zTBL := by
  intro w hw
  obtain ⟨i, hi, rfl⟩ := List.mem_map.mp hw
  have hi : i < 5 := List.mem_range.mp hi
  match i, hi with
  | 0, _ => exact tb6 (j := 13) (by decide +kernel) rfl
  | 1, _ => exact tb6 (j := 15) (by decide +kernel) rfl
  | 2, _ => exact tb6 (j := 17) (by decide +kernel) rfl
  | 3, _ => exact tb6 (j := 19) (by decide +kernel) rfl
  | 4, _ => exact tb6 (j := 21) (by decide +kernel) rfl
  | i + 5, hi => exact absurd hi (by omega)
theorem zt_X9 : zT RX9 TX9 5 := ⟨⟨tyX9, tyX9_ok⟩, nmX9⟩
theorem zi_X10 : ∀ w ∈ u_ws RX10 TX10 2, w ∈ zTBL := by
  intro w hw
  obtain ⟨i, hi, rfl⟩ := List.mem_map.mp hw
  have hi : i < 2 := List.mem_range.mp hi
  match i, hi with
  | 0, _ => exact tb6 (j := 36) (by decide +kernel) rfl
  | 1, _ => exact tb6 (j := 38) (by decide +kernel) rfl
  | i + 2, hi => exact absurd hi (by omega)
theorem zt_X10 : zT RX10 TX10 2 := ⟨⟨tyX10, tyX10_ok⟩, nmX10⟩
theorem zi_X11 : ∀ w ∈ u_ws RX11 TX11 3, w ∈ zTBL := by
  intro w hw
  obtain ⟨i, hi, rfl⟩ := List.mem_map.mp hw
  have hi : i < 3 := List.mem_range.mp hi
  match i, hi with
  | 0, _ => exact tb6 (j := 167) (by decide +kernel) rfl
  | 1, _ => exact tb6 (j := 169) (by decide +kernel) rfl
  | 2, _ => exact tb6 (j := 171) (by decide +kernel) rfl
  | i + 3, hi => exact absurd hi (by omega)
theorem zt_X11 : zT RX11 TX11 3 := ⟨⟨tyX11, tyX11_ok⟩, nmX11⟩
theorem zi_X12 : ∀ w ∈ u_ws RX12 TX12 20, w ∈ zTBL := by
  intro w hw
  obtain ⟨i, hi, rfl⟩ := List.mem_map.mp hw
  have hi : i < 20 := List.mem_range.mp hi
  match i, hi with
  | 0, _ => exact tb5 (j := 114) (by decide +kernel) rfl
  | 1, _ => exact tb5 (j := 116) (by decide +kernel) rfl
  | 2, _ => exact tb5 (j := 118) (by decide +kernel) rfl
  | 3, _ => exact tb5 (j := 120) (by decide +kernel) rfl
  | 4, _ => exact tb5 (j := 122) (by decide +kernel) rfl
  | 5, _ => exact tb5 (j := 124) (by decide +kernel) rfl
  | 6, _ => exact tb5 (j := 126) (by decide +kernel) rfl
  | 7, _ => exact tb5 (j := 128) (by decide +kernel) rfl
  | 8, _ => exact tb5 (j := 130) (by decide +kernel) rfl
  | 9, _ => exact tb5 (j := 132) (by decide +kernel) rfl
  | 10, _ => exact tb5 (j := 134) (by decide +kernel) rfl
  | 11, _ => exact tb5 (j := 136) (by decide +kernel) rfl
  | 12, _ => exact tb5 (j := 138) (by decide +kernel) rfl
  | 13, _ => exact tb5 (j := 140) (by decide +kernel) rfl
  | 14, _ => exact tb5 (j := 142) (by decide +kernel) rfl
  | 15, _ => exact tb5 (j := 144) (by decide +kernel) rfl
  | 16, _ => exact tb5 (j := 146) (by decide +kernel) rfl
  | 17, _ => exact tb5 (j := 148) (by decide +kernel) rfl
  | 18, _ => exact tb5 (j := 150) (by decide +kernel) rfl
  | 19, _ => exact tb5 (j := 152) (by decide +kernel) rfl
  | i + 20, hi => exact absurd hi (by omega)
theorem zt_X12 : zT RX12 TX12 20 := ⟨⟨tyX12, tyX12_ok⟩, nmX12⟩
theorem mc_X5_init : zM0 yX5_init cX5_init 1 (none) 0 := ⟨tb1 (j := 41) (by decide +kernel) rfl, tb1 (j := 1) (by decide +kernel) rfl, by decide +kernel⟩
theorem in_X5_init : Cond.instanceMethod yX5_init ∈ zTBL := tb1 (j := 40) (by decide +kernel) rfl
theorem mc_X2_init : zM0 yX2_init cX2_init 1 (none) 0 := ⟨tb1 (j := 49) (by decide +kernel) rfl, tb1 (j := 2) (by decide +kernel) rfl, by decide +kernel⟩
theorem in_X2_init : Cond.instanceMethod yX2_init ∈ zTBL := tb1 (j := 48) (by decide +kernel) rfl
theorem ml_X5_9 : zMN RX5 9 yX2_init cX2_init 1 (none) 0 := ⟨mc_X2_init, "Doublecoat", nb1 (j := 47) (by decide +kernel) rfl⟩
theorem fl_X5_10 : zF RX5 10 9 0 RX5 TX5 9 := ⟨rfl, zi_X5, by decide, rfl, Or.inl (tb1 (j := 217) (by decide +kernel) rfl)⟩
theorem mc_X1_init : zM0 yX1_init cX1_init 1 (none) 0 := ⟨tb1 (j := 88) (by decide +kernel) rfl, tb1 (j := 3) (by decide +kernel) rfl, by decide +kernel⟩
theorem in_X1_init : Cond.instanceMethod yX1_init ∈ zTBL := tb1 (j := 87) (by decide +kernel) rfl
theorem ml_X5_18 : zMN RX5 18 yX1_init cX1_init 1 (none) 0 := ⟨mc_X1_init, "Doublecoat", nb1 (j := 86) (by decide +kernel) rfl⟩
theorem fl_X5_19 : zF RX5 19 9 1 RX5 TX5 9 := ⟨rfl, zi_X5, by decide, rfl, Or.inl (tb1 (j := 218) (by decide +kernel) rfl)⟩
theorem mc_X0_init : zM0 yX0_init cX0_init 1 (none) 0 := ⟨tb1 (j := 119) (by decide +kernel) rfl, tb1 (j := 4) (by decide +kernel) rfl, by decide +kernel⟩
theorem in_X0_init : Cond.instanceMethod yX0_init ∈ zTBL := tb1 (j := 118) (by decide +kernel) rfl
theorem ml_X5_25 : zMN RX5 25 yX0_init cX0_init 1 (none) 0 := ⟨mc_X0_init, "Doublecoat", nb1 (j := 117) (by decide +kernel) rfl⟩
theorem fl_X5_26 : zF RX5 26 9 2 RX5 TX5 9 := ⟨rfl, zi_X5, by decide, rfl, Or.inl (tb1 (j := 219) (by decide +kernel) rfl)⟩
theorem mc_X4_init : zM0 yX4_init cX4_init 1 (none) 0 := ⟨tb1 (j := 156) (by decide +kernel) rfl, tb1 (j := 5) (by decide +kernel) rfl, by decide +kernel⟩
theorem in_X4_init : Cond.instanceMethod yX4_init ∈ zTBL := tb1 (j := 155) (by decide +kernel) rfl
theorem ml_X5_32 : zMN RX5 32 yX4_init cX4_init 1 (none) 0 := ⟨mc_X4_init, "Doublecoat", nb1 (j := 154) (by decide +kernel) rfl⟩
theorem fl_X5_33 : zF RX5 33 9 3 RX5 TX5 9 := ⟨rfl, zi_X5, by decide, rfl, Or.inl (tb1 (j := 220) (by decide +kernel) rfl)⟩
theorem mc_X3_init : zM0 yX3_init cX3_init 1 (none) 0 := ⟨tb1 (j := 189) (by decide +kernel) rfl, tb1 (j := 6) (by decide +kernel) rfl, by decide +kernel⟩
theorem in_X3_init : Cond.instanceMethod yX3_init ∈ zTBL := tb1 (j := 188) (by decide +kernel) rfl
theorem ml_X5_39 : zMN RX5 39 yX3_init cX3_init 1 (none) 0 := ⟨mc_X3_init, "Doublecoat", nb1 (j := 187) (by decide +kernel) rfl⟩
theorem fl_X5_40 : zF RX5 40 9 4 RX5 TX5 9 := ⟨rfl, zi_X5, by decide, rfl, Or.inl (tb1 (j := 221) (by decide +kernel) rfl)⟩
theorem mc_X5_part : zM0 yX5_part cX5_part 4 (some FieldType.int) 3 := ⟨tb4 (j := 131) (by decide +kernel) rfl, tb1 (j := 1) (by decide +kernel) rfl, by decide +kernel⟩
theorem in_X5_part : Cond.instanceMethod yX5_part ∈ zTBL := tb4 (j := 129) (by decide +kernel) rfl
theorem se_X5_part : Cond.selects RX5 yX5_part yX5_part ∈ zTBL := tb4 (j := 130) (by decide +kernel) rfl
theorem mc_X5_needWithin : zM0 yX5_needWithin cX5_needWithin 3 (none) 3 := ⟨tb3 (j := 229) (by decide +kernel) rfl, tb1 (j := 1) (by decide +kernel) rfl, by decide +kernel⟩
theorem st_X5_needWithin : Cond.static yX5_needWithin ∈ zTBL := tb3 (j := 228) (by decide +kernel) rfl
theorem ml_X5_44 : zM RX5 44 yX5_needWithin cX5_needWithin 3 (none) 3 := ⟨mc_X5_needWithin, tb3 (j := 227) (by decide +kernel) rfl⟩
theorem fl_X5_48 : zF RX5 48 6 5 RX2 TX2 7 := ⟨rfl, zi_X2, by decide, rfl, Or.inl (tb1 (j := 63) (by decide +kernel) rfl)⟩
theorem mc_X5_needRoom : zM0 yX5_needRoom cX5_needRoom 2 (none) 2 := ⟨tb4 (j := 134) (by decide +kernel) rfl, tb1 (j := 1) (by decide +kernel) rfl, by decide +kernel⟩
theorem st_X5_needRoom : Cond.static yX5_needRoom ∈ zTBL := tb4 (j := 133) (by decide +kernel) rfl
theorem ml_X5_52 : zM RX5 52 yX5_needRoom cX5_needRoom 2 (none) 2 := ⟨mc_X5_needRoom, tb4 (j := 132) (by decide +kernel) rfl⟩
theorem mc_X0_forget : zM0 yX0_forget cX0_forget 1 (none) 0 := ⟨tb4 (j := 154) (by decide +kernel) rfl, tb1 (j := 4) (by decide +kernel) rfl, by decide +kernel⟩
theorem in_X0_forget : Cond.instanceMethod yX0_forget ∈ zTBL := tb4 (j := 152) (by decide +kernel) rfl
theorem se_X0_forget : Cond.selects RX0 yX0_forget yX0_forget ∈ zTBL := tb4 (j := 153) (by decide +kernel) rfl
theorem ml_X5_56 : zM RX5 56 yX0_forget cX0_forget 1 (none) 0 := ⟨mc_X0_forget, tb4 (j := 151) (by decide +kernel) rfl⟩
theorem mc_X2_addPart : zM0 yX2_addPart cX2_addPart 4 (some FieldType.int) 3 := ⟨tb4 (j := 158) (by decide +kernel) rfl, tb1 (j := 2) (by decide +kernel) rfl, by decide +kernel⟩
theorem in_X2_addPart : Cond.instanceMethod yX2_addPart ∈ zTBL := tb4 (j := 156) (by decide +kernel) rfl
theorem se_X2_addPart : Cond.selects RX2 yX2_addPart yX2_addPart ∈ zTBL := tb4 (j := 157) (by decide +kernel) rfl
theorem ml_X5_59 : zM RX5 59 yX2_addPart cX2_addPart 4 (some FieldType.int) 3 := ⟨mc_X2_addPart, tb4 (j := 155) (by decide +kernel) rfl⟩
theorem mc_X5_player : zM0 yX5_player cX5_player 4 (some FieldType.int) 3 := ⟨tb4 (j := 165) (by decide +kernel) rfl, tb1 (j := 1) (by decide +kernel) rfl, by decide +kernel⟩
theorem in_X5_player : Cond.instanceMethod yX5_player ∈ zTBL := tb4 (j := 163) (by decide +kernel) rfl
theorem se_X5_player : Cond.selects RX5 yX5_player yX5_player ∈ zTBL := tb4 (j := 164) (by decide +kernel) rfl
theorem mc_X5_needSet : zM0 yX5_needSet cX5_needSet 2 (none) 2 := ⟨tb4 (j := 168) (by decide +kernel) rfl, tb1 (j := 1) (by decide +kernel) rfl, by decide +kernel⟩
theorem st_X5_needSet : Cond.static yX5_needSet ∈ zTBL := tb4 (j := 167) (by decide +kernel) rfl
theorem ml_X5_63 : zM RX5 63 yX5_needSet cX5_needSet 2 (none) 2 := ⟨mc_X5_needSet, tb4 (j := 166) (by decide +kernel) rfl⟩
theorem fl_X5_66 : zF RX5 66 5 4 RX1 TX1 6 := ⟨rfl, zi_X1, by decide, rfl, Or.inl (tb1 (j := 99) (by decide +kernel) rfl)⟩
theorem mc_X1_addPlayer : zM0 yX1_addPlayer cX1_addPlayer 4 (some FieldType.int) 3 := ⟨tb4 (j := 173) (by decide +kernel) rfl, tb1 (j := 3) (by decide +kernel) rfl, by decide +kernel⟩
theorem in_X1_addPlayer : Cond.instanceMethod yX1_addPlayer ∈ zTBL := tb4 (j := 171) (by decide +kernel) rfl
theorem se_X1_addPlayer : Cond.selects RX1 yX1_addPlayer yX1_addPlayer ∈ zTBL := tb4 (j := 172) (by decide +kernel) rfl
theorem ml_X5_69 : zM RX5 69 yX1_addPlayer cX1_addPlayer 4 (some FieldType.int) 3 := ⟨mc_X1_addPlayer, tb4 (j := 170) (by decide +kernel) rfl⟩
theorem mc_X5_scene : zM0 yX5_scene cX5_scene 3 (some FieldType.int) 2 := ⟨tb4 (j := 180) (by decide +kernel) rfl, tb1 (j := 1) (by decide +kernel) rfl, by decide +kernel⟩
theorem in_X5_scene : Cond.instanceMethod yX5_scene ∈ zTBL := tb4 (j := 178) (by decide +kernel) rfl
theorem se_X5_scene : Cond.selects RX5 yX5_scene yX5_scene ∈ zTBL := tb4 (j := 179) (by decide +kernel) rfl
theorem fl_X5_72 : zF RX5 72 6 6 RX2 TX2 7 := ⟨rfl, zi_X2, by decide, rfl, Or.inl (tb1 (j := 66) (by decide +kernel) rfl)⟩
theorem mc_X2_addScene : zM0 yX2_addScene cX2_addScene 3 (some FieldType.int) 2 := ⟨tb4 (j := 184) (by decide +kernel) rfl, tb1 (j := 2) (by decide +kernel) rfl, by decide +kernel⟩
theorem in_X2_addScene : Cond.instanceMethod yX2_addScene ∈ zTBL := tb4 (j := 182) (by decide +kernel) rfl
theorem se_X2_addScene : Cond.selects RX2 yX2_addScene yX2_addScene ∈ zTBL := tb4 (j := 183) (by decide +kernel) rfl
theorem ml_X5_75 : zM RX5 75 yX2_addScene cX2_addScene 3 (some FieldType.int) 2 := ⟨mc_X2_addScene, tb4 (j := 181) (by decide +kernel) rfl⟩
theorem mc_X5_pause : zM0 yX5_pause cX5_pause 4 (some FieldType.int) 2 := ⟨tb4 (j := 192) (by decide +kernel) rfl, tb1 (j := 1) (by decide +kernel) rfl, by decide +kernel⟩
theorem in_X5_pause : Cond.instanceMethod yX5_pause ∈ zTBL := tb4 (j := 190) (by decide +kernel) rfl
theorem se_X5_pause : Cond.selects RX5 yX5_pause yX5_pause ∈ zTBL := tb4 (j := 191) (by decide +kernel) rfl
theorem mc_X5_needIndex : zM0 yX5_needIndex cX5_needIndex 2 (none) 2 := ⟨tb4 (j := 4) (by decide +kernel) rfl, tb1 (j := 1) (by decide +kernel) rfl, by decide +kernel⟩
theorem st_X5_needIndex : Cond.static yX5_needIndex ∈ zTBL := tb4 (j := 3) (by decide +kernel) rfl
theorem ml_X5_79 : zM RX5 79 yX5_needIndex cX5_needIndex 2 (none) 2 := ⟨mc_X5_needIndex, tb4 (j := 2) (by decide +kernel) rfl⟩
theorem fl_X5_82 : zF RX5 82 6 4 RX2 TX2 7 := ⟨rfl, zi_X2, by decide, rfl, Or.inl (tb1 (j := 61) (by decide +kernel) rfl)⟩
theorem mc_X5_sick : zM0 yX5_sick cX5_sick 3 (some FieldType.int) 2 := ⟨tb4 (j := 199) (by decide +kernel) rfl, tb1 (j := 1) (by decide +kernel) rfl, by decide +kernel⟩
theorem in_X5_sick : Cond.instanceMethod yX5_sick ∈ zTBL := tb4 (j := 197) (by decide +kernel) rfl
theorem se_X5_sick : Cond.selects RX5 yX5_sick yX5_sick ∈ zTBL := tb4 (j := 198) (by decide +kernel) rfl
theorem fl_X5_86 : zF RX5 86 5 5 RX1 TX1 6 := ⟨rfl, zi_X1, by decide, rfl, Or.inl (tb1 (j := 101) (by decide +kernel) rfl)⟩
theorem mc_X1_countWell : zM0 yX1_countWell cX1_countWell 1 (some FieldType.int) 0 := ⟨tb3 (j := 236) (by decide +kernel) rfl, tb1 (j := 3) (by decide +kernel) rfl, by decide +kernel⟩
theorem in_X1_countWell : Cond.instanceMethod yX1_countWell ∈ zTBL := tb3 (j := 234) (by decide +kernel) rfl
theorem se_X1_countWell : Cond.selects RX1 yX1_countWell yX1_countWell ∈ zTBL := tb3 (j := 235) (by decide +kernel) rfl
theorem ml_X5_89 : zM RX5 89 yX1_countWell cX1_countWell 1 (some FieldType.int) 0 := ⟨mc_X1_countWell, tb3 (j := 233) (by decide +kernel) rfl⟩
theorem mc_X5_coat : zM0 yX5_coat cX5_coat 4 (some FieldType.int) 3 := ⟨tb4 (j := 206) (by decide +kernel) rfl, tb1 (j := 1) (by decide +kernel) rfl, by decide +kernel⟩
theorem in_X5_coat : Cond.instanceMethod yX5_coat ∈ zTBL := tb4 (j := 204) (by decide +kernel) rfl
theorem se_X5_coat : Cond.selects RX5 yX5_coat yX5_coat ∈ zTBL := tb4 (j := 205) (by decide +kernel) rfl
theorem fl_X5_93 : zF RX5 93 8 3 RX4 TX4 7 := ⟨rfl, zi_X4, by decide, rfl, Or.inl (tb1 (j := 165) (by decide +kernel) rfl)⟩
theorem mc_X4_addCoat : zM0 yX4_addCoat cX4_addCoat 4 (some FieldType.int) 3 := ⟨tb4 (j := 210) (by decide +kernel) rfl, tb1 (j := 5) (by decide +kernel) rfl, by decide +kernel⟩
theorem in_X4_addCoat : Cond.instanceMethod yX4_addCoat ∈ zTBL := tb4 (j := 208) (by decide +kernel) rfl
theorem se_X4_addCoat : Cond.selects RX4 yX4_addCoat yX4_addCoat ∈ zTBL := tb4 (j := 209) (by decide +kernel) rfl
theorem ml_X5_96 : zM RX5 96 yX4_addCoat cX4_addCoat 4 (some FieldType.int) 3 := ⟨mc_X4_addCoat, tb4 (j := 207) (by decide +kernel) rfl⟩
theorem mc_X5_pawn : zM0 yX5_pawn cX5_pawn 3 (some FieldType.int) 2 := ⟨tb4 (j := 217) (by decide +kernel) rfl, tb1 (j := 1) (by decide +kernel) rfl, by decide +kernel⟩
theorem in_X5_pawn : Cond.instanceMethod yX5_pawn ∈ zTBL := tb4 (j := 215) (by decide +kernel) rfl
theorem se_X5_pawn : Cond.selects RX5 yX5_pawn yX5_pawn ∈ zTBL := tb4 (j := 216) (by decide +kernel) rfl
theorem fl_X5_99 : zF RX5 99 8 4 RX4 TX4 7 := ⟨rfl, zi_X4, by decide, rfl, Or.inl (tb1 (j := 167) (by decide +kernel) rfl)⟩
theorem mc_X5_has : zM0 yX5_has cX5_has 2 (some FieldType.boolean) 2 := ⟨tb2 (j := 35) (by decide +kernel) rfl, tb1 (j := 1) (by decide +kernel) rfl, by decide +kernel⟩
theorem st_X5_has : Cond.static yX5_has ∈ zTBL := tb2 (j := 34) (by decide +kernel) rfl
theorem ml_X5_102 : zM RX5 102 yX5_has cX5_has 2 (some FieldType.boolean) 2 := ⟨mc_X5_has, tb3 (j := 186) (by decide +kernel) rfl⟩
theorem fl_X5_113 : zF RX5 113 9 5 RX5 TX5 9 := ⟨rfl, zi_X5, by decide, rfl, Or.inl (tb1 (j := 222) (by decide +kernel) rfl)⟩
theorem fl_X5_116 : zF RX5 116 8 2 RX4 TX4 7 := ⟨rfl, zi_X4, by decide, rfl, Or.inl (tb1 (j := 163) (by decide +kernel) rfl)⟩
theorem fl_X5_119 : zF RX5 119 5 3 RX1 TX1 6 := ⟨rfl, zi_X1, by decide, rfl, Or.inl (tb1 (j := 97) (by decide +kernel) rfl)⟩
theorem mc_X5_redeem : zM0 yX5_redeem cX5_redeem 4 (some FieldType.int) 2 := ⟨tb4 (j := 225) (by decide +kernel) rfl, tb1 (j := 1) (by decide +kernel) rfl, by decide +kernel⟩
theorem in_X5_redeem : Cond.instanceMethod yX5_redeem ∈ zTBL := tb4 (j := 223) (by decide +kernel) rfl
theorem se_X5_redeem : Cond.selects RX5 yX5_redeem yX5_redeem ∈ zTBL := tb4 (j := 224) (by decide +kernel) rfl
theorem fl_X5_124 : zF RX5 124 9 6 RX5 TX5 9 := ⟨rfl, zi_X5, by decide, rfl, Or.inl (tb1 (j := 223) (by decide +kernel) rfl)⟩
theorem mc_X5_town : zM0 yX5_town cX5_town 4 (some FieldType.int) 3 := ⟨tb4 (j := 233) (by decide +kernel) rfl, tb1 (j := 1) (by decide +kernel) rfl, by decide +kernel⟩
theorem in_X5_town : Cond.instanceMethod yX5_town ∈ zTBL := tb4 (j := 231) (by decide +kernel) rfl
theorem se_X5_town : Cond.selects RX5 yX5_town yX5_town ∈ zTBL := tb4 (j := 232) (by decide +kernel) rfl
theorem fl_X5_127 : zF RX5 127 7 4 RX3 TX3 6 := ⟨rfl, zi_X3, by decide, rfl, Or.inl (tb1 (j := 202) (by decide +kernel) rfl)⟩
theorem mc_X3_addTown : zM0 yX3_addTown cX3_addTown 6 (some FieldType.int) 3 := ⟨tb4 (j := 237) (by decide +kernel) rfl, tb1 (j := 6) (by decide +kernel) rfl, by decide +kernel⟩
theorem in_X3_addTown : Cond.instanceMethod yX3_addTown ∈ zTBL := tb4 (j := 235) (by decide +kernel) rfl
theorem se_X3_addTown : Cond.selects RX3 yX3_addTown yX3_addTown ∈ zTBL := tb4 (j := 236) (by decide +kernel) rfl
theorem ml_X5_130 : zM RX5 130 yX3_addTown cX3_addTown 6 (some FieldType.int) 3 := ⟨mc_X3_addTown, tb4 (j := 234) (by decide +kernel) rfl⟩
theorem mc_X5_night : zM0 yX5_night cX5_night 5 (some FieldType.int) 1 := ⟨tb5 (j := 14) (by decide +kernel) rfl, tb1 (j := 1) (by decide +kernel) rfl, by decide +kernel⟩
theorem in_X5_night : Cond.instanceMethod yX5_night ∈ zTBL := tb5 (j := 12) (by decide +kernel) rfl
theorem se_X5_night : Cond.selects RX5 yX5_night yX5_night ∈ zTBL := tb5 (j := 13) (by decide +kernel) rfl
theorem mc_X0_recall : zM0 yX0_recall cX0_recall 4 (none) 2 := ⟨tb2 (j := 16) (by decide +kernel) rfl, tb1 (j := 4) (by decide +kernel) rfl, by decide +kernel⟩
theorem in_X0_recall : Cond.instanceMethod yX0_recall ∈ zTBL := tb2 (j := 14) (by decide +kernel) rfl
theorem se_X0_recall : Cond.selects RX0 yX0_recall yX0_recall ∈ zTBL := tb2 (j := 15) (by decide +kernel) rfl
theorem ml_X5_133 : zM RX5 133 yX0_recall cX0_recall 4 (none) 2 := ⟨mc_X0_recall, tb2 (j := 13) (by decide +kernel) rfl⟩
theorem mc_X0_actors : zM0 yX0_actors cX0_actors 3 (some FieldType.int) 0 := ⟨tb4 (j := 42) (by decide +kernel) rfl, tb1 (j := 4) (by decide +kernel) rfl, by decide +kernel⟩
theorem in_X0_actors : Cond.instanceMethod yX0_actors ∈ zTBL := tb4 (j := 40) (by decide +kernel) rfl
theorem se_X0_actors : Cond.selects RX0 yX0_actors yX0_actors ∈ zTBL := tb4 (j := 41) (by decide +kernel) rfl
theorem ml_X5_137 : zM RX5 137 yX0_actors cX0_actors 3 (some FieldType.int) 0 := ⟨mc_X0_actors, tb4 (j := 39) (by decide +kernel) rfl⟩
theorem fl_X5_142 : zF RX5 142 7 2 RX3 TX3 6 := ⟨rfl, zi_X3, by decide, rfl, Or.inl (tb1 (j := 198) (by decide +kernel) rfl)⟩
theorem mc_X1_portion : zM0 yX1_portion cX1_portion 10 (some FieldType.int) 3 := ⟨tb4 (j := 46) (by decide +kernel) rfl, tb1 (j := 3) (by decide +kernel) rfl, by decide +kernel⟩
theorem in_X1_portion : Cond.instanceMethod yX1_portion ∈ zTBL := tb4 (j := 44) (by decide +kernel) rfl
theorem se_X1_portion : Cond.selects RX1 yX1_portion yX1_portion ∈ zTBL := tb4 (j := 45) (by decide +kernel) rfl
theorem ml_X5_145 : zM RX5 145 yX1_portion cX1_portion 10 (some FieldType.int) 3 := ⟨mc_X1_portion, tb4 (j := 43) (by decide +kernel) rfl⟩
theorem fl_X5_148 : zF RX5 148 9 7 RX5 TX5 9 := ⟨rfl, zi_X5, by decide, rfl, Or.inl (tb1 (j := 224) (by decide +kernel) rfl)⟩
theorem mc_X5_knock : zM0 yX5_knock cX5_knock 1 (some FieldType.int) 0 := ⟨tb2 (j := 8) (by decide +kernel) rfl, tb1 (j := 1) (by decide +kernel) rfl, by decide +kernel⟩
theorem in_X5_knock : Cond.instanceMethod yX5_knock ∈ zTBL := tb2 (j := 6) (by decide +kernel) rfl
theorem se_X5_knock : Cond.selects RX5 yX5_knock yX5_knock ∈ zTBL := tb2 (j := 7) (by decide +kernel) rfl
theorem fl_X5_151 : zF RX5 151 9 8 RX5 TX5 9 := ⟨rfl, zi_X5, by decide, rfl, Or.inl (tb1 (j := 225) (by decide +kernel) rfl)⟩
theorem mc_X5_ofPart : zM0 yX5_ofPart cX5_ofPart 3 (some FieldType.int) 2 := ⟨tb4 (j := 1) (by decide +kernel) rfl, tb1 (j := 1) (by decide +kernel) rfl, by decide +kernel⟩
theorem in_X5_ofPart : Cond.instanceMethod yX5_ofPart ∈ zTBL := tb3 (j := 239) (by decide +kernel) rfl
theorem se_X5_ofPart : Cond.selects RX5 yX5_ofPart yX5_ofPart ∈ zTBL := tb4 (j := 0) (by decide +kernel) rfl
theorem fl_X5_154 : zF RX5 154 6 0 RX2 TX2 7 := ⟨rfl, zi_X2, by decide, rfl, Or.inl (tb1 (j := 53) (by decide +kernel) rfl)⟩
theorem fl_X5_157 : zF RX5 157 6 1 RX2 TX2 7 := ⟨rfl, zi_X2, by decide, rfl, Or.inl (tb1 (j := 55) (by decide +kernel) rfl)⟩
theorem fl_X5_160 : zF RX5 160 6 2 RX2 TX2 7 := ⟨rfl, zi_X2, by decide, rfl, Or.inl (tb1 (j := 57) (by decide +kernel) rfl)⟩
theorem mc_X2_scenesWith : zM0 yX2_scenesWith cX2_scenesWith 4 (some FieldType.int) 1 := ⟨tb4 (j := 24) (by decide +kernel) rfl, tb1 (j := 2) (by decide +kernel) rfl, by decide +kernel⟩
theorem in_X2_scenesWith : Cond.instanceMethod yX2_scenesWith ∈ zTBL := tb4 (j := 22) (by decide +kernel) rfl
theorem se_X2_scenesWith : Cond.selects RX2 yX2_scenesWith yX2_scenesWith ∈ zTBL := tb4 (j := 23) (by decide +kernel) rfl
theorem ml_X5_163 : zM RX5 163 yX2_scenesWith cX2_scenesWith 4 (some FieldType.int) 1 := ⟨mc_X2_scenesWith, tb4 (j := 21) (by decide +kernel) rfl⟩
theorem mc_X0_clashesOf : zM0 yX0_clashesOf cX0_clashesOf 3 (some FieldType.int) 2 := ⟨tb3 (j := 216) (by decide +kernel) rfl, tb1 (j := 4) (by decide +kernel) rfl, by decide +kernel⟩
theorem in_X0_clashesOf : Cond.instanceMethod yX0_clashesOf ∈ zTBL := tb3 (j := 214) (by decide +kernel) rfl
theorem se_X0_clashesOf : Cond.selects RX0 yX0_clashesOf yX0_clashesOf ∈ zTBL := tb3 (j := 215) (by decide +kernel) rfl
theorem ml_X5_167 : zM RX5 167 yX0_clashesOf cX0_clashesOf 3 (some FieldType.int) 2 := ⟨mc_X0_clashesOf, tb3 (j := 213) (by decide +kernel) rfl⟩
theorem mc_X1_ableOfAny : zM0 yX1_ableOfAny cX1_ableOfAny 4 (some FieldType.int) 1 := ⟨tb2 (j := 47) (by decide +kernel) rfl, tb1 (j := 3) (by decide +kernel) rfl, by decide +kernel⟩
theorem in_X1_ableOfAny : Cond.instanceMethod yX1_ableOfAny ∈ zTBL := tb2 (j := 45) (by decide +kernel) rfl
theorem se_X1_ableOfAny : Cond.selects RX1 yX1_ableOfAny yX1_ableOfAny ∈ zTBL := tb2 (j := 46) (by decide +kernel) rfl
theorem ml_X5_171 : zM RX5 171 yX1_ableOfAny cX1_ableOfAny 4 (some FieldType.int) 1 := ⟨mc_X1_ableOfAny, tb3 (j := 187) (by decide +kernel) rfl⟩
theorem mc_X0_playerOf : zM0 yX0_playerOf cX0_playerOf 3 (some FieldType.int) 1 := ⟨tb2 (j := 122) (by decide +kernel) rfl, tb1 (j := 4) (by decide +kernel) rfl, by decide +kernel⟩
theorem in_X0_playerOf : Cond.instanceMethod yX0_playerOf ∈ zTBL := tb2 (j := 120) (by decide +kernel) rfl
theorem se_X0_playerOf : Cond.selects RX0 yX0_playerOf yX0_playerOf ∈ zTBL := tb2 (j := 121) (by decide +kernel) rfl
theorem ml_X5_174 : zM RX5 174 yX0_playerOf cX0_playerOf 3 (some FieldType.int) 1 := ⟨mc_X0_playerOf, tb2 (j := 119) (by decide +kernel) rfl⟩
theorem mc_X5_ofPlayer : zM0 yX5_ofPlayer cX5_ofPlayer 3 (some FieldType.int) 2 := ⟨tb4 (j := 28) (by decide +kernel) rfl, tb1 (j := 1) (by decide +kernel) rfl, by decide +kernel⟩
theorem in_X5_ofPlayer : Cond.instanceMethod yX5_ofPlayer ∈ zTBL := tb4 (j := 26) (by decide +kernel) rfl
theorem se_X5_ofPlayer : Cond.selects RX5 yX5_ofPlayer yX5_ofPlayer ∈ zTBL := tb4 (j := 27) (by decide +kernel) rfl
theorem fl_X5_177 : zF RX5 177 5 0 RX1 TX1 6 := ⟨rfl, zi_X1, by decide, rfl, Or.inl (tb1 (j := 91) (by decide +kernel) rfl)⟩
theorem fl_X5_180 : zF RX5 180 5 1 RX1 TX1 6 := ⟨rfl, zi_X1, by decide, rfl, Or.inl (tb1 (j := 93) (by decide +kernel) rfl)⟩
theorem fl_X5_183 : zF RX5 183 5 2 RX1 TX1 6 := ⟨rfl, zi_X1, by decide, rfl, Or.inl (tb1 (j := 95) (by decide +kernel) rfl)⟩
theorem fl_X5_186 : zF RX5 186 4 0 RX0 TX0 9 := ⟨rfl, zi_X0, by decide, rfl, Or.inl (tb1 (j := 122) (by decide +kernel) rfl)⟩
theorem mc_X5_ofScene : zM0 yX5_ofScene cX5_ofScene 4 (some FieldType.int) 2 := ⟨tb4 (j := 54) (by decide +kernel) rfl, tb1 (j := 1) (by decide +kernel) rfl, by decide +kernel⟩
theorem in_X5_ofScene : Cond.instanceMethod yX5_ofScene ∈ zTBL := tb4 (j := 52) (by decide +kernel) rfl
theorem se_X5_ofScene : Cond.selects RX5 yX5_ofScene yX5_ofScene ∈ zTBL := tb4 (j := 53) (by decide +kernel) rfl
theorem fl_X5_189 : zF RX5 189 6 3 RX2 TX2 7 := ⟨rfl, zi_X2, by decide, rfl, Or.inl (tb1 (j := 59) (by decide +kernel) rfl)⟩
theorem mc_X5_filled : zM0 yX5_filled cX5_filled 5 (some FieldType.int) 1 := ⟨tb3 (j := 185) (by decide +kernel) rfl, tb1 (j := 1) (by decide +kernel) rfl, by decide +kernel⟩
theorem in_X5_filled : Cond.instanceMethod yX5_filled ∈ zTBL := tb3 (j := 184) (by decide +kernel) rfl
theorem se_X5_filled : Cond.selects RX5 yX5_filled yX5_filled ∈ zTBL := tbp (j := 9) (by decide +kernel) rfl
theorem ml_X5_192 : zM RX5 192 yX5_filled cX5_filled 5 (some FieldType.int) 1 := ⟨mc_X5_filled, tb3 (j := 182) (by decide +kernel) rfl⟩
theorem mc_X5_lack : zM0 yX5_lack cX5_lack 6 (some FieldType.int) 1 := ⟨tb3 (j := 196) (by decide +kernel) rfl, tb1 (j := 1) (by decide +kernel) rfl, by decide +kernel⟩
theorem in_X5_lack : Cond.instanceMethod yX5_lack ∈ zTBL := tb3 (j := 195) (by decide +kernel) rfl
theorem se_X5_lack : Cond.selects RX5 yX5_lack yX5_lack ∈ zTBL := tbp (j := 10) (by decide +kernel) rfl
theorem ml_X5_195 : zM RX5 195 yX5_lack cX5_lack 6 (some FieldType.int) 1 := ⟨mc_X5_lack, tb3 (j := 193) (by decide +kernel) rfl⟩
theorem mc_X5_excess : zM0 yX5_excess cX5_excess 4 (some FieldType.int) 1 := ⟨tb3 (j := 200) (by decide +kernel) rfl, tb1 (j := 1) (by decide +kernel) rfl, by decide +kernel⟩
theorem in_X5_excess : Cond.instanceMethod yX5_excess ∈ zTBL := tb3 (j := 199) (by decide +kernel) rfl
theorem se_X5_excess : Cond.selects RX5 yX5_excess yX5_excess ∈ zTBL := tbp (j := 11) (by decide +kernel) rfl
theorem ml_X5_198 : zM RX5 198 yX5_excess cX5_excess 4 (some FieldType.int) 1 := ⟨mc_X5_excess, tb3 (j := 197) (by decide +kernel) rfl⟩
theorem mc_X5_leastWaste : zM0 yX5_leastWaste cX5_leastWaste 4 (some FieldType.int) 1 := ⟨tb4 (j := 58) (by decide +kernel) rfl, tb1 (j := 1) (by decide +kernel) rfl, by decide +kernel⟩
theorem in_X5_leastWaste : Cond.instanceMethod yX5_leastWaste ∈ zTBL := tb4 (j := 57) (by decide +kernel) rfl
theorem se_X5_leastWaste : Cond.selects RX5 yX5_leastWaste yX5_leastWaste ∈ zTBL := tbp (j := 14) (by decide +kernel) rfl
theorem ml_X5_201 : zM RX5 201 yX5_leastWaste cX5_leastWaste 4 (some FieldType.int) 1 := ⟨mc_X5_leastWaste, tb4 (j := 55) (by decide +kernel) rfl⟩
theorem mc_X5_ofCoat : zM0 yX5_ofCoat cX5_ofCoat 3 (some FieldType.int) 2 := ⟨tb4 (j := 87) (by decide +kernel) rfl, tb1 (j := 1) (by decide +kernel) rfl, by decide +kernel⟩
theorem in_X5_ofCoat : Cond.instanceMethod yX5_ofCoat ∈ zTBL := tb4 (j := 85) (by decide +kernel) rfl
theorem se_X5_ofCoat : Cond.selects RX5 yX5_ofCoat yX5_ofCoat ∈ zTBL := tb4 (j := 86) (by decide +kernel) rfl
theorem fl_X5_204 : zF RX5 204 8 0 RX4 TX4 7 := ⟨rfl, zi_X4, by decide, rfl, Or.inl (tb1 (j := 159) (by decide +kernel) rfl)⟩
theorem fl_X5_205 : zF RX5 205 8 1 RX4 TX4 7 := ⟨rfl, zi_X4, by decide, rfl, Or.inl (tb1 (j := 161) (by decide +kernel) rfl)⟩
theorem mc_X5_ofTown : zM0 yX5_ofTown cX5_ofTown 3 (some FieldType.int) 2 := ⟨tb4 (j := 91) (by decide +kernel) rfl, tb1 (j := 1) (by decide +kernel) rfl, by decide +kernel⟩
theorem in_X5_ofTown : Cond.instanceMethod yX5_ofTown ∈ zTBL := tb4 (j := 89) (by decide +kernel) rfl
theorem se_X5_ofTown : Cond.selects RX5 yX5_ofTown yX5_ofTown ∈ zTBL := tb4 (j := 90) (by decide +kernel) rfl
theorem fl_X5_206 : zF RX5 206 7 0 RX3 TX3 6 := ⟨rfl, zi_X3, by decide, rfl, Or.inl (tb1 (j := 194) (by decide +kernel) rfl)⟩
theorem fl_X5_209 : zF RX5 209 7 1 RX3 TX3 6 := ⟨rfl, zi_X3, by decide, rfl, Or.inl (tb1 (j := 196) (by decide +kernel) rfl)⟩
theorem mc_X3_milesHome : zM0 yX3_milesHome cX3_milesHome 2 (some FieldType.int) 1 := ⟨tb4 (j := 95) (by decide +kernel) rfl, tb1 (j := 6) (by decide +kernel) rfl, by decide +kernel⟩
theorem in_X3_milesHome : Cond.instanceMethod yX3_milesHome ∈ zTBL := tb4 (j := 93) (by decide +kernel) rfl
theorem se_X3_milesHome : Cond.selects RX3 yX3_milesHome yX3_milesHome ∈ zTBL := tb4 (j := 94) (by decide +kernel) rfl
theorem ml_X5_212 : zM RX5 212 yX3_milesHome cX3_milesHome 2 (some FieldType.int) 1 := ⟨mc_X3_milesHome, tb4 (j := 92) (by decide +kernel) rfl⟩
theorem mc_X5_house : zM0 yX5_house cX5_house 2 (some FieldType.int) 1 := ⟨tb3 (j := 226) (by decide +kernel) rfl, tb1 (j := 1) (by decide +kernel) rfl, by decide +kernel⟩
theorem in_X5_house : Cond.instanceMethod yX5_house ∈ zTBL := tb3 (j := 224) (by decide +kernel) rfl
theorem se_X5_house : Cond.selects RX5 yX5_house yX5_house ∈ zTBL := tb3 (j := 225) (by decide +kernel) rfl
theorem mc_J6_bitCount_0f7a4 : zM0 yJ6_bitCount_0f7a4 cJ6_bitCount_0f7a4 1 (some FieldType.int) 1 := ⟨tb2 (j := 60) (by decide +kernel) rfl, tb1 (j := 28) (by decide +kernel) rfl, by decide +kernel⟩
theorem st_J6_bitCount_0f7a4 : Cond.static yJ6_bitCount_0f7a4 ∈ zTBL := tb2 (j := 59) (by decide +kernel) rfl
theorem ml_X5_215 : zM RX5 215 yJ6_bitCount_0f7a4 cJ6_bitCount_0f7a4 1 (some FieldType.int) 1 := ⟨mc_J6_bitCount_0f7a4, tb3 (j := 191) (by decide +kernel) rfl⟩
theorem fl_X5_220 : zF RX5 220 4 1 RX0 TX0 9 := ⟨rfl, zi_X0, by decide, rfl, Or.inl (tb1 (j := 124) (by decide +kernel) rfl)⟩
theorem fl_X5_223 : zF RX5 223 4 2 RX0 TX0 9 := ⟨rfl, zi_X0, by decide, rfl, Or.inl (tb1 (j := 126) (by decide +kernel) rfl)⟩
theorem mc_X1_allPurses : zM0 yX1_allPurses cX1_allPurses 3 (some FieldType.int) 0 := ⟨tb3 (j := 204) (by decide +kernel) rfl, tb1 (j := 3) (by decide +kernel) rfl, by decide +kernel⟩
theorem in_X1_allPurses : Cond.instanceMethod yX1_allPurses ∈ zTBL := tb3 (j := 202) (by decide +kernel) rfl
theorem se_X1_allPurses : Cond.selects RX1 yX1_allPurses yX1_allPurses ∈ zTBL := tb3 (j := 203) (by decide +kernel) rfl
theorem ml_X5_226 : zM RX5 226 yX1_allPurses cX1_allPurses 3 (some FieldType.int) 0 := ⟨mc_X1_allPurses, tb3 (j := 201) (by decide +kernel) rfl⟩
theorem mc_X5_cast : zM0 yX5_cast cX5_cast 4 (some (FieldType.object "java/lang/String")) 0 := ⟨tb2 (j := 12) (by decide +kernel) rfl, tb1 (j := 1) (by decide +kernel) rfl, by decide +kernel⟩
theorem in_X5_cast : Cond.instanceMethod yX5_cast ∈ zTBL := tb2 (j := 10) (by decide +kernel) rfl
theorem se_X5_cast : Cond.selects RX5 yX5_cast yX5_cast ∈ zTBL := tb2 (j := 11) (by decide +kernel) rfl
theorem mc_J4_init_da8c8 : zM0 yJ4_init_da8c8 cJ4_init_da8c8 1 (none) 0 := ⟨tb2 (j := 91) (by decide +kernel) rfl, tb1 (j := 33) (by decide +kernel) rfl, by decide +kernel⟩
theorem in_J4_init_da8c8 : Cond.instanceMethod yJ4_init_da8c8 ∈ zTBL := tb2 (j := 90) (by decide +kernel) rfl
theorem ml_X5_233 : zM RX5 233 yJ4_init_da8c8 cJ4_init_da8c8 1 (none) 0 := ⟨mc_J4_init_da8c8, tb2 (j := 89) (by decide +kernel) rfl⟩
theorem mc_J4_append_cf468 : zM0 yJ4_append_cf468 cJ4_append_cf468 2 (some (FieldType.object "java/lang/StringBuilder")) 1 := ⟨tb2 (j := 126) (by decide +kernel) rfl, tb1 (j := 33) (by decide +kernel) rfl, by decide +kernel⟩
theorem in_J4_append_cf468 : Cond.instanceMethod yJ4_append_cf468 ∈ zTBL := tb2 (j := 124) (by decide +kernel) rfl
theorem se_J4_append_cf468 : Cond.selects RJ4 yJ4_append_cf468 yJ4_append_cf468 ∈ zTBL := tb2 (j := 125) (by decide +kernel) rfl
theorem ml_X5_234 : zM RX5 234 yJ4_append_cf468 cJ4_append_cf468 2 (some (FieldType.object "java/lang/StringBuilder")) 1 := ⟨mc_J4_append_cf468, tb2 (j := 123) (by decide +kernel) rfl⟩
theorem mc_J4_toString_0e30d : zM0 yJ4_toString_0e30d cJ4_toString_0e30d 1 (some (FieldType.object "java/lang/String")) 0 := ⟨tb2 (j := 219) (by decide +kernel) rfl, tb1 (j := 33) (by decide +kernel) rfl, by decide +kernel⟩
theorem in_J4_toString_0e30d : Cond.instanceMethod yJ4_toString_0e30d ∈ zTBL := tb2 (j := 217) (by decide +kernel) rfl
theorem se_J4_toString_0e30d : Cond.selects RJ4 yJ4_toString_0e30d yJ4_toString_0e30d ∈ zTBL := tb2 (j := 218) (by decide +kernel) rfl
theorem ml_X5_238 : zM RX5 238 yJ4_toString_0e30d cJ4_toString_0e30d 1 (some (FieldType.object "java/lang/String")) 0 := ⟨mc_J4_toString_0e30d, tb2 (j := 216) (by decide +kernel) rfl⟩
theorem mc_X5_tour : zM0 yX5_tour cX5_tour 4 (some FieldType.int) 2 := ⟨tb4 (j := 99) (by decide +kernel) rfl, tb1 (j := 1) (by decide +kernel) rfl, by decide +kernel⟩
theorem in_X5_tour : Cond.instanceMethod yX5_tour ∈ zTBL := tb4 (j := 97) (by decide +kernel) rfl
theorem se_X5_tour : Cond.selects RX5 yX5_tour yX5_tour ∈ zTBL := tb4 (j := 98) (by decide +kernel) rfl
theorem mc_X3_bestTour : zM0 yX3_bestTour cX3_bestTour 5 (some FieldType.int) 1 := ⟨tb4 (j := 103) (by decide +kernel) rfl, tb1 (j := 6) (by decide +kernel) rfl, by decide +kernel⟩
theorem in_X3_bestTour : Cond.instanceMethod yX3_bestTour ∈ zTBL := tb4 (j := 101) (by decide +kernel) rfl
theorem se_X3_bestTour : Cond.selects RX3 yX3_bestTour yX3_bestTour ∈ zTBL := tb4 (j := 102) (by decide +kernel) rfl
theorem ml_X5_242 : zM RX5 242 yX3_bestTour cX3_bestTour 5 (some FieldType.int) 1 := ⟨mc_X3_bestTour, tb4 (j := 100) (by decide +kernel) rfl⟩
theorem mc_X3_takingsOf : zM0 yX3_takingsOf cX3_takingsOf 4 (some FieldType.int) 1 := ⟨tb4 (j := 107) (by decide +kernel) rfl, tb1 (j := 6) (by decide +kernel) rfl, by decide +kernel⟩
theorem in_X3_takingsOf : Cond.instanceMethod yX3_takingsOf ∈ zTBL := tb4 (j := 105) (by decide +kernel) rfl
theorem se_X3_takingsOf : Cond.selects RX3 yX3_takingsOf yX3_takingsOf ∈ zTBL := tb4 (j := 106) (by decide +kernel) rfl
theorem ml_X5_245 : zM RX5 245 yX3_takingsOf cX3_takingsOf 4 (some FieldType.int) 1 := ⟨mc_X3_takingsOf, tb4 (j := 109) (by decide +kernel) rfl⟩
theorem fl_X5_248 : zF RX5 248 7 3 RX3 TX3 6 := ⟨rfl, zi_X3, by decide, rfl, Or.inl (tb1 (j := 200) (by decide +kernel) rfl)⟩
theorem mc_X5_would : zM0 yX5_would cX5_would 2 (some FieldType.int) 1 := ⟨tb5 (j := 50) (by decide +kernel) rfl, tb1 (j := 1) (by decide +kernel) rfl, by decide +kernel⟩
theorem in_X5_would : Cond.instanceMethod yX5_would ∈ zTBL := tb5 (j := 48) (by decide +kernel) rfl
theorem se_X5_would : Cond.selects RX5 yX5_would yX5_would ∈ zTBL := tb5 (j := 49) (by decide +kernel) rfl
theorem mc_X2_allScenes : zM0 yX2_allScenes cX2_allScenes 1 (some FieldType.int) 0 := ⟨tb2 (j := 20) (by decide +kernel) rfl, tb1 (j := 2) (by decide +kernel) rfl, by decide +kernel⟩
theorem in_X2_allScenes : Cond.instanceMethod yX2_allScenes ∈ zTBL := tb2 (j := 18) (by decide +kernel) rfl
theorem se_X2_allScenes : Cond.selects RX2 yX2_allScenes yX2_allScenes ∈ zTBL := tb2 (j := 19) (by decide +kernel) rfl
theorem ml_X5_251 : zM RX5 251 yX2_allScenes cX2_allScenes 1 (some FieldType.int) 0 := ⟨mc_X2_allScenes, tb4 (j := 33) (by decide +kernel) rfl⟩
theorem mc_X0_fewest : zM0 yX0_fewest cX0_fewest 5 (some FieldType.int) 3 := ⟨tb2 (j := 24) (by decide +kernel) rfl, tb1 (j := 4) (by decide +kernel) rfl, by decide +kernel⟩
theorem in_X0_fewest : Cond.instanceMethod yX0_fewest ∈ zTBL := tb2 (j := 22) (by decide +kernel) rfl
theorem se_X0_fewest : Cond.selects RX0 yX0_fewest yX0_fewest ∈ zTBL := tb2 (j := 23) (by decide +kernel) rfl
theorem ml_X5_254 : zM RX5 254 yX0_fewest cX0_fewest 5 (some FieldType.int) 3 := ⟨mc_X0_fewest, tb4 (j := 34) (by decide +kernel) rfl⟩
theorem mc_X5_without : zM0 yX5_without cX5_without 4 (some FieldType.int) 1 := ⟨tb4 (j := 32) (by decide +kernel) rfl, tb1 (j := 1) (by decide +kernel) rfl, by decide +kernel⟩
theorem in_X5_without : Cond.instanceMethod yX5_without ∈ zTBL := tb4 (j := 30) (by decide +kernel) rfl
theorem se_X5_without : Cond.selects RX5 yX5_without yX5_without ∈ zTBL := tb4 (j := 31) (by decide +kernel) rfl
theorem mc_X5_shareOf : zM0 yX5_shareOf cX5_shareOf 3 (some FieldType.int) 2 := ⟨tb4 (j := 38) (by decide +kernel) rfl, tb1 (j := 1) (by decide +kernel) rfl, by decide +kernel⟩
theorem in_X5_shareOf : Cond.instanceMethod yX5_shareOf ∈ zTBL := tb4 (j := 36) (by decide +kernel) rfl
theorem se_X5_shareOf : Cond.selects RX5 yX5_shareOf yX5_shareOf ∈ zTBL := tb4 (j := 37) (by decide +kernel) rfl
theorem mc_X5_isSound : zM0 yX5_isSound cX5_isSound 3 (some FieldType.boolean) 0 := ⟨tb3 (j := 181) (by decide +kernel) rfl, tb1 (j := 1) (by decide +kernel) rfl, by decide +kernel⟩
theorem in_X5_isSound : Cond.instanceMethod yX5_isSound ∈ zTBL := tb3 (j := 179) (by decide +kernel) rfl
theorem se_X5_isSound : Cond.selects RX5 yX5_isSound yX5_isSound ∈ zTBL := tb3 (j := 180) (by decide +kernel) rfl
theorem mc_X1_hasDebt : zM0 yX1_hasDebt cX1_hasDebt 2 (some FieldType.boolean) 0 := ⟨tb3 (j := 208) (by decide +kernel) rfl, tb1 (j := 3) (by decide +kernel) rfl, by decide +kernel⟩
theorem in_X1_hasDebt : Cond.instanceMethod yX1_hasDebt ∈ zTBL := tb3 (j := 206) (by decide +kernel) rfl
theorem se_X1_hasDebt : Cond.selects RX1 yX1_hasDebt yX1_hasDebt ∈ zTBL := tb3 (j := 207) (by decide +kernel) rfl
theorem ml_X5_258 : zM RX5 258 yX1_hasDebt cX1_hasDebt 2 (some FieldType.boolean) 0 := ⟨mc_X1_hasDebt, tb3 (j := 205) (by decide +kernel) rfl⟩
theorem mc_X5_bestCastClashes : zM0 yX5_bestCastClashes cX5_bestCastClashes 3 (some FieldType.boolean) 0 := ⟨tb3 (j := 212) (by decide +kernel) rfl, tb1 (j := 1) (by decide +kernel) rfl, by decide +kernel⟩
theorem in_X5_bestCastClashes : Cond.instanceMethod yX5_bestCastClashes ∈ zTBL := tb3 (j := 211) (by decide +kernel) rfl
theorem se_X5_bestCastClashes : Cond.selects RX5 yX5_bestCastClashes yX5_bestCastClashes ∈ zTBL := tbp (j := 12) (by decide +kernel) rfl
theorem ml_X5_262 : zM RX5 262 yX5_bestCastClashes cX5_bestCastClashes 3 (some FieldType.boolean) 0 := ⟨mc_X5_bestCastClashes, tb3 (j := 209) (by decide +kernel) rfl⟩
theorem mc_X5_digest : zM0 yX5_digest cX5_digest 5 (some FieldType.long) 0 := ⟨tb3 (j := 220) (by decide +kernel) rfl, tb1 (j := 1) (by decide +kernel) rfl, by decide +kernel⟩
theorem in_X5_digest : Cond.instanceMethod yX5_digest ∈ zTBL := tb3 (j := 218) (by decide +kernel) rfl
theorem se_X5_digest : Cond.selects RX5 yX5_digest yX5_digest ∈ zTBL := tb3 (j := 219) (by decide +kernel) rfl
theorem ml_X5_269 : zM RX5 269 yX5_house cX5_house 2 (some FieldType.int) 1 := ⟨mc_X5_house, tb3 (j := 223) (by decide +kernel) rfl⟩
theorem ml_X5_272 : zM RX5 272 yX5_ofPart cX5_ofPart 3 (some FieldType.int) 2 := ⟨mc_X5_ofPart, tb3 (j := 238) (by decide +kernel) rfl⟩
theorem ml_X5_275 : zM RX5 275 yX5_ofPlayer cX5_ofPlayer 3 (some FieldType.int) 2 := ⟨mc_X5_ofPlayer, tb4 (j := 25) (by decide +kernel) rfl⟩
theorem ml_X5_278 : zM RX5 278 yX5_without cX5_without 4 (some FieldType.int) 1 := ⟨mc_X5_without, tb4 (j := 29) (by decide +kernel) rfl⟩
theorem ml_X5_281 : zM RX5 281 yX5_shareOf cX5_shareOf 3 (some FieldType.int) 2 := ⟨mc_X5_shareOf, tb4 (j := 35) (by decide +kernel) rfl⟩
theorem ml_X5_284 : zM RX5 284 yX5_ofScene cX5_ofScene 4 (some FieldType.int) 2 := ⟨mc_X5_ofScene, tb4 (j := 51) (by decide +kernel) rfl⟩
theorem ml_X5_287 : zM RX5 287 yX5_ofCoat cX5_ofCoat 3 (some FieldType.int) 2 := ⟨mc_X5_ofCoat, tb4 (j := 84) (by decide +kernel) rfl⟩
theorem ml_X5_290 : zM RX5 290 yX5_ofTown cX5_ofTown 3 (some FieldType.int) 2 := ⟨mc_X5_ofTown, tb4 (j := 88) (by decide +kernel) rfl⟩
theorem ml_X5_293 : zM RX5 293 yX5_tour cX5_tour 4 (some FieldType.int) 2 := ⟨mc_X5_tour, tb4 (j := 96) (by decide +kernel) rfl⟩
theorem ml_X5_296 : zM RX5 296 yX5_cast cX5_cast 4 (some (FieldType.object "java/lang/String")) 0 := ⟨mc_X5_cast, tb4 (j := 110) (by decide +kernel) rfl⟩
theorem mc_J0_length_8abf5 : zM0 yJ0_length_8abf5 cJ0_length_8abf5 1 (some FieldType.int) 0 := ⟨tb3 (j := 107) (by decide +kernel) rfl, tb1 (j := 34) (by decide +kernel) rfl, by decide +kernel⟩
theorem in_J0_length_8abf5 : Cond.instanceMethod yJ0_length_8abf5 ∈ zTBL := tb3 (j := 105) (by decide +kernel) rfl
theorem se_J0_length_8abf5 : Cond.selects RJ0 yJ0_length_8abf5 yJ0_length_8abf5 ∈ zTBL := tb3 (j := 106) (by decide +kernel) rfl
theorem ml_X5_299 : zM RX5 299 yJ0_length_8abf5 cJ0_length_8abf5 1 (some FieldType.int) 0 := ⟨mc_J0_length_8abf5, tb4 (j := 111) (by decide +kernel) rfl⟩
theorem ml_X5_304 : zM RX5 304 yX5_isSound cX5_isSound 3 (some FieldType.boolean) 0 := ⟨mc_X5_isSound, tb4 (j := 112) (by decide +kernel) rfl⟩
theorem mc_X5_withOneMore : zM0 yX5_withOneMore cX5_withOneMore 5 (some FieldType.int) 2 := ⟨tb3 (j := 190) (by decide +kernel) rfl, tb1 (j := 1) (by decide +kernel) rfl, by decide +kernel⟩
theorem st_X5_withOneMore : Cond.static yX5_withOneMore ∈ zTBL := tb3 (j := 189) (by decide +kernel) rfl
theorem ml_X5_321 : zM RX5 321 yX5_withOneMore cX5_withOneMore 5 (some FieldType.int) 2 := ⟨mc_X5_withOneMore, tb3 (j := 188) (by decide +kernel) rfl⟩
theorem mc_J9_max_7cf53 : zM0 yJ9_max_7cf53 cJ9_max_7cf53 2 (some FieldType.int) 2 := ⟨tb2 (j := 143) (by decide +kernel) rfl, tb1 (j := 19) (by decide +kernel) rfl, by decide +kernel⟩
theorem st_J9_max_7cf53 : Cond.static yJ9_max_7cf53 ∈ zTBL := tb2 (j := 142) (by decide +kernel) rfl
theorem ml_X5_324 : zM RX5 324 yJ9_max_7cf53 cJ9_max_7cf53 2 (some FieldType.int) 2 := ⟨mc_J9_max_7cf53, tb3 (j := 192) (by decide +kernel) rfl⟩
theorem mc_X4_startDressing : zM0 yX4_startDressing cX4_startDressing 2 (none) 0 := ⟨tb4 (j := 62) (by decide +kernel) rfl, tb1 (j := 5) (by decide +kernel) rfl, by decide +kernel⟩
theorem in_X4_startDressing : Cond.instanceMethod yX4_startDressing ∈ zTBL := tb4 (j := 60) (by decide +kernel) rfl
theorem se_X4_startDressing : Cond.selects RX4 yX4_startDressing yX4_startDressing ∈ zTBL := tb4 (j := 61) (by decide +kernel) rfl
theorem ml_X5_329 : zM RX5 329 yX4_startDressing cX4_startDressing 2 (none) 0 := ⟨mc_X4_startDressing, tb4 (j := 59) (by decide +kernel) rfl⟩
theorem mc_X4_dressOneMore : zM0 yX4_dressOneMore cX4_dressOneMore 6 (none) 2 := ⟨tb4 (j := 66) (by decide +kernel) rfl, tb1 (j := 5) (by decide +kernel) rfl, by decide +kernel⟩
theorem in_X4_dressOneMore : Cond.instanceMethod yX4_dressOneMore ∈ zTBL := tb4 (j := 64) (by decide +kernel) rfl
theorem se_X4_dressOneMore : Cond.selects RX4 yX4_dressOneMore yX4_dressOneMore ∈ zTBL := tb4 (j := 65) (by decide +kernel) rfl
theorem ml_X5_332 : zM RX5 332 yX4_dressOneMore cX4_dressOneMore 6 (none) 2 := ⟨mc_X4_dressOneMore, tb4 (j := 63) (by decide +kernel) rfl⟩
theorem mc_X4_leastWaste : zM0 yX4_leastWaste cX4_leastWaste 3 (some FieldType.int) 0 := ⟨tb4 (j := 83) (by decide +kernel) rfl, tb1 (j := 5) (by decide +kernel) rfl, by decide +kernel⟩
theorem in_X4_leastWaste : Cond.instanceMethod yX4_leastWaste ∈ zTBL := tb4 (j := 81) (by decide +kernel) rfl
theorem se_X4_leastWaste : Cond.selects RX4 yX4_leastWaste yX4_leastWaste ∈ zTBL := tb4 (j := 82) (by decide +kernel) rfl
theorem ml_X5_335 : zM RX5 335 yX4_leastWaste cX4_leastWaste 3 (some FieldType.int) 0 := ⟨mc_X4_leastWaste, tb4 (j := 80) (by decide +kernel) rfl⟩
theorem mc_X12_init : zM0 yX12_init cX12_init 1 (none) 0 := ⟨tb5 (j := 63) (by decide +kernel) rfl, tb1 (j := 7) (by decide +kernel) rfl, by decide +kernel⟩
theorem in_X12_init : Cond.instanceMethod yX12_init ∈ zTBL := tb5 (j := 62) (by decide +kernel) rfl
theorem mc_Jx4a65c_init_da8c8 : zM0 yJx4a65c_init_da8c8 cJx4a65c_init_da8c8 1 (none) 0 := ⟨tb5 (j := 69) (by decide +kernel) rfl, tb1 (j := 10) (by decide +kernel) rfl, by decide +kernel⟩
theorem in_Jx4a65c_init_da8c8 : Cond.instanceMethod yJx4a65c_init_da8c8 ∈ zTBL := tb5 (j := 68) (by decide +kernel) rfl
theorem ml_X12_9 : zM RX12 9 yJx4a65c_init_da8c8 cJx4a65c_init_da8c8 1 (none) 0 := ⟨mc_Jx4a65c_init_da8c8, tb5 (j := 67) (by decide +kernel) rfl⟩
theorem fl_X12_10 : zF RX12 10 16 1 RX12 TX12 20 := ⟨rfl, zi_X12, by decide, rfl, Or.inl (tb5 (j := 95) (by decide +kernel) rfl)⟩
theorem fl_X12_16 : zF RX12 16 16 2 RX12 TX12 20 := ⟨rfl, zi_X12, by decide, rfl, Or.inl (tb5 (j := 96) (by decide +kernel) rfl)⟩
theorem fl_X12_19 : zF RX12 19 16 3 RX12 TX12 20 := ⟨rfl, zi_X12, by decide, rfl, Or.inl (tb5 (j := 97) (by decide +kernel) rfl)⟩
theorem fl_X12_22 : zF RX12 22 16 4 RX12 TX12 20 := ⟨rfl, zi_X12, by decide, rfl, Or.inl (tb5 (j := 98) (by decide +kernel) rfl)⟩
theorem fl_X12_25 : zF RX12 25 16 5 RX12 TX12 20 := ⟨rfl, zi_X12, by decide, rfl, Or.inl (tb5 (j := 99) (by decide +kernel) rfl)⟩
theorem fl_X12_28 : zF RX12 28 16 10 RX12 TX12 20 := ⟨rfl, zi_X12, by decide, rfl, Or.inl (tb5 (j := 104) (by decide +kernel) rfl)⟩
theorem fl_X12_32 : zF RX12 32 16 13 RX12 TX12 20 := ⟨rfl, zi_X12, by decide, rfl, Or.inl (tb5 (j := 107) (by decide +kernel) rfl)⟩
theorem fl_X12_35 : zF RX12 35 16 14 RX12 TX12 20 := ⟨rfl, zi_X12, by decide, rfl, Or.inl (tb5 (j := 108) (by decide +kernel) rfl)⟩
theorem mc_X12_refuse : zM0 yX12_refuse cX12_refuse 2 (some FieldType.int) 1 := ⟨tb5 (j := 165) (by decide +kernel) rfl, tb1 (j := 7) (by decide +kernel) rfl, by decide +kernel⟩
theorem in_X12_refuse : Cond.instanceMethod yX12_refuse ∈ zTBL := tb5 (j := 164) (by decide +kernel) rfl
theorem se_X12_refuse : Cond.selects RX12 yX12_refuse yX12_refuse ∈ zTBL := tbp (j := 19) (by decide +kernel) rfl
theorem fl_X12_38 : zF RX12 38 16 0 RX12 TX12 20 := ⟨rfl, zi_X12, by decide, rfl, Or.inl (tb5 (j := 94) (by decide +kernel) rfl)⟩
theorem mc_X12_is : zM0 yX12_is cX12_is 3 (some FieldType.boolean) 3 := ⟨tb5 (j := 161) (by decide +kernel) rfl, tb1 (j := 7) (by decide +kernel) rfl, by decide +kernel⟩
theorem st_X12_is : Cond.static yX12_is ∈ zTBL := tb5 (j := 160) (by decide +kernel) rfl
theorem mc_X12_isIn : zM0 yX12_isIn cX12_isIn 2 (some FieldType.boolean) 2 := ⟨tb6 (j := 200) (by decide +kernel) rfl, tb1 (j := 7) (by decide +kernel) rfl, by decide +kernel⟩
theorem st_X12_isIn : Cond.static yX12_isIn ∈ zTBL := tb6 (j := 199) (by decide +kernel) rfl
theorem mc_X12_isPart : zM0 yX12_isPart cX12_isPart 2 (some FieldType.boolean) 1 := ⟨tb6 (j := 237) (by decide +kernel) rfl, tb1 (j := 7) (by decide +kernel) rfl, by decide +kernel⟩
theorem in_X12_isPart : Cond.instanceMethod yX12_isPart ∈ zTBL := tb6 (j := 236) (by decide +kernel) rfl
theorem se_X12_isPart : Cond.selects RX12 yX12_isPart yX12_isPart ∈ zTBL := tbp (j := 38) (by decide +kernel) rfl
theorem mc_Jx4a65c_size_8abf5 : zM0 yJx4a65c_size_8abf5 cJx4a65c_size_8abf5 1 (some FieldType.int) 0 := ⟨tb5 (j := 169) (by decide +kernel) rfl, tb1 (j := 10) (by decide +kernel) rfl, by decide +kernel⟩
theorem in_Jx4a65c_size_8abf5 : Cond.instanceMethod yJx4a65c_size_8abf5 ∈ zTBL := tb5 (j := 167) (by decide +kernel) rfl
theorem se_Jx4a65c_size_8abf5 : Cond.selects RJx4a65c yJx4a65c_size_8abf5 yJx4a65c_size_8abf5 ∈ zTBL := tb5 (j := 168) (by decide +kernel) rfl
theorem ml_X12_42 : zM RX12 42 yJx4a65c_size_8abf5 cJx4a65c_size_8abf5 1 (some FieldType.int) 0 := ⟨mc_Jx4a65c_size_8abf5, tb5 (j := 166) (by decide +kernel) rfl⟩
theorem ml_X12_46 : zM RX12 46 yX12_is cX12_is 3 (some FieldType.boolean) 3 := ⟨mc_X12_is, tb5 (j := 159) (by decide +kernel) rfl⟩
theorem mc_X12_isPlayer : zM0 yX12_isPlayer cX12_isPlayer 2 (some FieldType.boolean) 1 := ⟨tb6 (j := 68) (by decide +kernel) rfl, tb1 (j := 7) (by decide +kernel) rfl, by decide +kernel⟩
theorem in_X12_isPlayer : Cond.instanceMethod yX12_isPlayer ∈ zTBL := tb6 (j := 67) (by decide +kernel) rfl
theorem se_X12_isPlayer : Cond.selects RX12 yX12_isPlayer yX12_isPlayer ∈ zTBL := tbp (j := 24) (by decide +kernel) rfl
theorem mc_X12_isScene : zM0 yX12_isScene cX12_isScene 2 (some FieldType.boolean) 1 := ⟨tb6 (j := 48) (by decide +kernel) rfl, tb1 (j := 7) (by decide +kernel) rfl, by decide +kernel⟩
theorem in_X12_isScene : Cond.instanceMethod yX12_isScene ∈ zTBL := tb6 (j := 47) (by decide +kernel) rfl
theorem se_X12_isScene : Cond.selects RX12 yX12_isScene yX12_isScene ∈ zTBL := tbp (j := 23) (by decide +kernel) rfl
theorem mc_X12_isCoat : zM0 yX12_isCoat cX12_isCoat 2 (some FieldType.boolean) 1 := ⟨tb6 (j := 149) (by decide +kernel) rfl, tb1 (j := 7) (by decide +kernel) rfl, by decide +kernel⟩
theorem in_X12_isCoat : Cond.instanceMethod yX12_isCoat ∈ zTBL := tb6 (j := 148) (by decide +kernel) rfl
theorem se_X12_isCoat : Cond.selects RX12 yX12_isCoat yX12_isCoat ∈ zTBL := tbp (j := 26) (by decide +kernel) rfl
theorem mc_X12_isTown : zM0 yX12_isTown cX12_isTown 2 (some FieldType.boolean) 1 := ⟨tb6 (j := 181) (by decide +kernel) rfl, tb1 (j := 7) (by decide +kernel) rfl, by decide +kernel⟩
theorem in_X12_isTown : Cond.instanceMethod yX12_isTown ∈ zTBL := tb6 (j := 180) (by decide +kernel) rfl
theorem se_X12_isTown : Cond.selects RX12 yX12_isTown yX12_isTown ∈ zTBL := tbp (j := 27) (by decide +kernel) rfl
theorem mc_X12_all : zM0 yX12_all cX12_all 1 (some FieldType.int) 0 := ⟨tb6 (j := 189) (by decide +kernel) rfl, tb1 (j := 7) (by decide +kernel) rfl, by decide +kernel⟩
theorem in_X12_all : Cond.instanceMethod yX12_all ∈ zTBL := tb6 (j := 188) (by decide +kernel) rfl
theorem se_X12_all : Cond.selects RX12 yX12_all yX12_all ∈ zTBL := tbp (j := 29) (by decide +kernel) rfl
theorem mc_X12_part : zM0 yX12_part cX12_part 5 (some FieldType.int) 3 := ⟨tb5 (j := 158) (by decide +kernel) rfl, tb1 (j := 7) (by decide +kernel) rfl, by decide +kernel⟩
theorem in_X12_part : Cond.instanceMethod yX12_part ∈ zTBL := tb5 (j := 156) (by decide +kernel) rfl
theorem se_X12_part : Cond.selects RX12 yX12_part yX12_part ∈ zTBL := tb5 (j := 157) (by decide +kernel) rfl
theorem ml_X12_50 : zM RX12 50 yX12_refuse cX12_refuse 2 (some FieldType.int) 1 := ⟨mc_X12_refuse, tb5 (j := 162) (by decide +kernel) rfl⟩
theorem mc_X8_init : zM0 yX8_init cX8_init 1 (none) 0 := ⟨tb5 (j := 174) (by decide +kernel) rfl, tb1 (j := 17) (by decide +kernel) rfl, by decide +kernel⟩
theorem in_X8_init : Cond.instanceMethod yX8_init ∈ zTBL := tb5 (j := 173) (by decide +kernel) rfl
theorem ml_X12_56 : zMN RX12 56 yX8_init cX8_init 1 (none) 0 := ⟨mc_X8_init, "DoublecoatModel", nb5 (j := 172) (by decide +kernel) rfl⟩
theorem fl_X12_57 : zF RX12 57 12 0 RX8 TX8 3 := ⟨rfl, zi_X8, by decide, rfl, Or.inr ⟨"DoublecoatModel", nb5 (j := 176) (by decide +kernel) rfl⟩⟩
theorem fl_X12_60 : zF RX12 60 12 1 RX8 TX8 3 := ⟨rfl, zi_X8, by decide, rfl, Or.inr ⟨"DoublecoatModel", nb5 (j := 177) (by decide +kernel) rfl⟩⟩
theorem fl_X12_63 : zF RX12 63 12 2 RX8 TX8 3 := ⟨rfl, zi_X8, by decide, rfl, Or.inr ⟨"DoublecoatModel", nb5 (j := 178) (by decide +kernel) rfl⟩⟩
theorem mc_Jx4a65c_add_9ea2d : zM0 yJx4a65c_add_9ea2d cJx4a65c_add_9ea2d 2 (some FieldType.boolean) 1 := ⟨tb5 (j := 189) (by decide +kernel) rfl, tb1 (j := 10) (by decide +kernel) rfl, by decide +kernel⟩
theorem in_Jx4a65c_add_9ea2d : Cond.instanceMethod yJx4a65c_add_9ea2d ∈ zTBL := tb5 (j := 187) (by decide +kernel) rfl
theorem se_Jx4a65c_add_9ea2d : Cond.selects RJx4a65c yJx4a65c_add_9ea2d yJx4a65c_add_9ea2d ∈ zTBL := tb5 (j := 188) (by decide +kernel) rfl
theorem ml_X12_66 : zM RX12 66 yJx4a65c_add_9ea2d cJx4a65c_add_9ea2d 2 (some FieldType.boolean) 1 := ⟨mc_Jx4a65c_add_9ea2d, tb5 (j := 186) (by decide +kernel) rfl⟩
theorem fl_X12_70 : zF RX12 70 16 11 RX12 TX12 20 := ⟨rfl, zi_X12, by decide, rfl, Or.inl (tb5 (j := 105) (by decide +kernel) rfl)⟩
theorem mc_X12_player : zM0 yX12_player cX12_player 5 (some FieldType.int) 3 := ⟨tb6 (j := 1) (by decide +kernel) rfl, tb1 (j := 7) (by decide +kernel) rfl, by decide +kernel⟩
theorem in_X12_player : Cond.instanceMethod yX12_player ∈ zTBL := tb5 (j := 239) (by decide +kernel) rfl
theorem se_X12_player : Cond.selects RX12 yX12_player yX12_player ∈ zTBL := tb6 (j := 0) (by decide +kernel) rfl
theorem mc_X9_init : zM0 yX9_init cX9_init 1 (none) 0 := ⟨tb6 (j := 6) (by decide +kernel) rfl, tb1 (j := 22) (by decide +kernel) rfl, by decide +kernel⟩
theorem in_X9_init : Cond.instanceMethod yX9_init ∈ zTBL := tb6 (j := 5) (by decide +kernel) rfl
theorem ml_X12_76 : zMN RX12 76 yX9_init cX9_init 1 (none) 0 := ⟨mc_X9_init, "DoublecoatModel", nb6 (j := 4) (by decide +kernel) rfl⟩
theorem fl_X12_77 : zF RX12 77 13 0 RX9 TX9 5 := ⟨rfl, zi_X9, by decide, rfl, Or.inr ⟨"DoublecoatModel", nb6 (j := 8) (by decide +kernel) rfl⟩⟩
theorem fl_X12_80 : zF RX12 80 13 1 RX9 TX9 5 := ⟨rfl, zi_X9, by decide, rfl, Or.inr ⟨"DoublecoatModel", nb6 (j := 9) (by decide +kernel) rfl⟩⟩
theorem fl_X12_82 : zF RX12 82 13 2 RX9 TX9 5 := ⟨rfl, zi_X9, by decide, rfl, Or.inr ⟨"DoublecoatModel", nb6 (j := 10) (by decide +kernel) rfl⟩⟩
theorem mc_X12_scene : zM0 yX12_scene cX12_scene 4 (some FieldType.int) 2 := ⟨tb6 (j := 27) (by decide +kernel) rfl, tb1 (j := 7) (by decide +kernel) rfl, by decide +kernel⟩
theorem in_X12_scene : Cond.instanceMethod yX12_scene ∈ zTBL := tb6 (j := 25) (by decide +kernel) rfl
theorem se_X12_scene : Cond.selects RX12 yX12_scene yX12_scene ∈ zTBL := tb6 (j := 26) (by decide +kernel) rfl
theorem mc_X10_init : zM0 yX10_init cX10_init 1 (none) 0 := ⟨tb6 (j := 32) (by decide +kernel) rfl, tb1 (j := 23) (by decide +kernel) rfl, by decide +kernel⟩
theorem in_X10_init : Cond.instanceMethod yX10_init ∈ zTBL := tb6 (j := 31) (by decide +kernel) rfl
theorem ml_X12_87 : zMN RX12 87 yX10_init cX10_init 1 (none) 0 := ⟨mc_X10_init, "DoublecoatModel", nb6 (j := 30) (by decide +kernel) rfl⟩
theorem fl_X12_88 : zF RX12 88 14 0 RX10 TX10 2 := ⟨rfl, zi_X10, by decide, rfl, Or.inr ⟨"DoublecoatModel", nb6 (j := 34) (by decide +kernel) rfl⟩⟩
theorem fl_X12_90 : zF RX12 90 14 1 RX10 TX10 2 := ⟨rfl, zi_X10, by decide, rfl, Or.inr ⟨"DoublecoatModel", nb6 (j := 35) (by decide +kernel) rfl⟩⟩
theorem mc_X12_pause : zM0 yX12_pause cX12_pause 4 (some FieldType.int) 2 := ⟨tb6 (j := 44) (by decide +kernel) rfl, tb1 (j := 7) (by decide +kernel) rfl, by decide +kernel⟩
theorem in_X12_pause : Cond.instanceMethod yX12_pause ∈ zTBL := tb6 (j := 42) (by decide +kernel) rfl
theorem se_X12_pause : Cond.selects RX12 yX12_pause yX12_pause ∈ zTBL := tb6 (j := 43) (by decide +kernel) rfl
theorem ml_X12_93 : zM RX12 93 yX12_isScene cX12_isScene 2 (some FieldType.boolean) 1 := ⟨mc_X12_isScene, tb6 (j := 45) (by decide +kernel) rfl⟩
theorem mc_Jx4a65c_get_915e3 : zM0 yJx4a65c_get_915e3 cJx4a65c_get_915e3 2 (some (FieldType.object "java/lang/Object")) 1 := ⟨tb6 (j := 52) (by decide +kernel) rfl, tb1 (j := 10) (by decide +kernel) rfl, by decide +kernel⟩
theorem in_Jx4a65c_get_915e3 : Cond.instanceMethod yJx4a65c_get_915e3 ∈ zTBL := tb6 (j := 50) (by decide +kernel) rfl
theorem se_Jx4a65c_get_915e3 : Cond.selects RJx4a65c yJx4a65c_get_915e3 yJx4a65c_get_915e3 ∈ zTBL := tb6 (j := 51) (by decide +kernel) rfl
theorem ml_X12_97 : zM RX12 97 yJx4a65c_get_915e3 cJx4a65c_get_915e3 2 (some (FieldType.object "java/lang/Object")) 1 := ⟨mc_Jx4a65c_get_915e3, tb6 (j := 49) (by decide +kernel) rfl⟩
theorem mc_X12_well : zM0 yX12_well cX12_well 4 (some FieldType.int) 0 := ⟨tb6 (j := 72) (by decide +kernel) rfl, tb1 (j := 7) (by decide +kernel) rfl, by decide +kernel⟩
theorem in_X12_well : Cond.instanceMethod yX12_well ∈ zTBL := tb6 (j := 71) (by decide +kernel) rfl
theorem se_X12_well : Cond.selects RX12 yX12_well yX12_well ∈ zTBL := tbp (j := 25) (by decide +kernel) rfl
theorem mc_Jx4a65c_iterator_32c93 : zM0 yJx4a65c_iterator_32c93 cJx4a65c_iterator_32c93 1 (some (FieldType.object "java/util/Iterator")) 0 := ⟨tb6 (j := 76) (by decide +kernel) rfl, tb1 (j := 10) (by decide +kernel) rfl, by decide +kernel⟩
theorem in_Jx4a65c_iterator_32c93 : Cond.instanceMethod yJx4a65c_iterator_32c93 ∈ zTBL := tb6 (j := 74) (by decide +kernel) rfl
theorem se_Jx4a65c_iterator_32c93 : Cond.selects RJx4a65c yJx4a65c_iterator_32c93 yJx4a65c_iterator_32c93 ∈ zTBL := tb6 (j := 75) (by decide +kernel) rfl
theorem ml_X12_101 : zM RX12 101 yJx4a65c_iterator_32c93 cJx4a65c_iterator_32c93 1 (some (FieldType.object "java/util/Iterator")) 0 := ⟨mc_Jx4a65c_iterator_32c93, tb6 (j := 73) (by decide +kernel) rfl⟩
theorem fl_X12_115 : zF RX12 115 13 3 RX9 TX9 5 := ⟨rfl, zi_X9, by decide, rfl, Or.inr ⟨"DoublecoatModel", nb6 (j := 11) (by decide +kernel) rfl⟩⟩
theorem mc_X12_sick : zM0 yX12_sick cX12_sick 3 (some FieldType.int) 2 := ⟨tb6 (j := 64) (by decide +kernel) rfl, tb1 (j := 7) (by decide +kernel) rfl, by decide +kernel⟩
theorem in_X12_sick : Cond.instanceMethod yX12_sick ∈ zTBL := tb6 (j := 62) (by decide +kernel) rfl
theorem se_X12_sick : Cond.selects RX12 yX12_sick yX12_sick ∈ zTBL := tb6 (j := 63) (by decide +kernel) rfl
theorem ml_X12_118 : zM RX12 118 yX12_isPlayer cX12_isPlayer 2 (some FieldType.boolean) 1 := ⟨mc_X12_isPlayer, tb6 (j := 65) (by decide +kernel) rfl⟩
theorem ml_X12_121 : zM RX12 121 yX12_well cX12_well 4 (some FieldType.int) 0 := ⟨mc_X12_well, tb6 (j := 69) (by decide +kernel) rfl⟩
theorem mc_X12_coat : zM0 yX12_coat cX12_coat 5 (some FieldType.int) 3 := ⟨tb6 (j := 122) (by decide +kernel) rfl, tb1 (j := 7) (by decide +kernel) rfl, by decide +kernel⟩
theorem in_X12_coat : Cond.instanceMethod yX12_coat ∈ zTBL := tb6 (j := 120) (by decide +kernel) rfl
theorem se_X12_coat : Cond.selects RX12 yX12_coat yX12_coat ∈ zTBL := tb6 (j := 121) (by decide +kernel) rfl
theorem mc_X7_init : zM0 yX7_init cX7_init 1 (none) 0 := ⟨tb6 (j := 127) (by decide +kernel) rfl, tb1 (j := 30) (by decide +kernel) rfl, by decide +kernel⟩
theorem in_X7_init : Cond.instanceMethod yX7_init ∈ zTBL := tb6 (j := 126) (by decide +kernel) rfl
theorem ml_X12_126 : zMN RX12 126 yX7_init cX7_init 1 (none) 0 := ⟨mc_X7_init, "DoublecoatModel", nb6 (j := 125) (by decide +kernel) rfl⟩
theorem fl_X12_127 : zF RX12 127 11 0 RX7 TX7 4 := ⟨rfl, zi_X7, by decide, rfl, Or.inr ⟨"DoublecoatModel", nb6 (j := 129) (by decide +kernel) rfl⟩⟩
theorem fl_X12_128 : zF RX12 128 11 1 RX7 TX7 4 := ⟨rfl, zi_X7, by decide, rfl, Or.inr ⟨"DoublecoatModel", nb6 (j := 130) (by decide +kernel) rfl⟩⟩
theorem fl_X12_129 : zF RX12 129 11 2 RX7 TX7 4 := ⟨rfl, zi_X7, by decide, rfl, Or.inr ⟨"DoublecoatModel", nb6 (j := 131) (by decide +kernel) rfl⟩⟩
theorem mc_X12_pawn : zM0 yX12_pawn cX12_pawn 4 (some FieldType.int) 2 := ⟨tb6 (j := 145) (by decide +kernel) rfl, tb1 (j := 7) (by decide +kernel) rfl, by decide +kernel⟩
theorem in_X12_pawn : Cond.instanceMethod yX12_pawn ∈ zTBL := tb6 (j := 143) (by decide +kernel) rfl
theorem se_X12_pawn : Cond.selects RX12 yX12_pawn yX12_pawn ∈ zTBL := tb6 (j := 144) (by decide +kernel) rfl
theorem ml_X12_132 : zM RX12 132 yX12_isCoat cX12_isCoat 2 (some FieldType.boolean) 1 := ⟨mc_X12_isCoat, tb6 (j := 146) (by decide +kernel) rfl⟩
theorem fl_X12_135 : zF RX12 135 11 3 RX7 TX7 4 := ⟨rfl, zi_X7, by decide, rfl, Or.inr ⟨"DoublecoatModel", nb6 (j := 132) (by decide +kernel) rfl⟩⟩
theorem fl_X12_138 : zF RX12 138 16 6 RX12 TX12 20 := ⟨rfl, zi_X12, by decide, rfl, Or.inl (tb5 (j := 100) (by decide +kernel) rfl)⟩
theorem fl_X12_141 : zF RX12 141 13 4 RX9 TX9 5 := ⟨rfl, zi_X9, by decide, rfl, Or.inr ⟨"DoublecoatModel", nb6 (j := 12) (by decide +kernel) rfl⟩⟩
theorem mc_X12_redeem : zM0 yX12_redeem cX12_redeem 5 (some FieldType.int) 2 := ⟨tb6 (j := 153) (by decide +kernel) rfl, tb1 (j := 7) (by decide +kernel) rfl, by decide +kernel⟩
theorem in_X12_redeem : Cond.instanceMethod yX12_redeem ∈ zTBL := tb6 (j := 151) (by decide +kernel) rfl
theorem se_X12_redeem : Cond.selects RX12 yX12_redeem yX12_redeem ∈ zTBL := tb6 (j := 152) (by decide +kernel) rfl
theorem fl_X12_144 : zF RX12 144 16 7 RX12 TX12 20 := ⟨rfl, zi_X12, by decide, rfl, Or.inl (tb5 (j := 101) (by decide +kernel) rfl)⟩
theorem mc_X12_town : zM0 yX12_town cX12_town 5 (some FieldType.int) 3 := ⟨tb6 (j := 157) (by decide +kernel) rfl, tb1 (j := 7) (by decide +kernel) rfl, by decide +kernel⟩
theorem in_X12_town : Cond.instanceMethod yX12_town ∈ zTBL := tb6 (j := 155) (by decide +kernel) rfl
theorem se_X12_town : Cond.selects RX12 yX12_town yX12_town ∈ zTBL := tb6 (j := 156) (by decide +kernel) rfl
theorem mc_X11_init : zM0 yX11_init cX11_init 1 (none) 0 := ⟨tb6 (j := 162) (by decide +kernel) rfl, tb1 (j := 31) (by decide +kernel) rfl, by decide +kernel⟩
theorem in_X11_init : Cond.instanceMethod yX11_init ∈ zTBL := tb6 (j := 161) (by decide +kernel) rfl
theorem ml_X12_149 : zMN RX12 149 yX11_init cX11_init 1 (none) 0 := ⟨mc_X11_init, "DoublecoatModel", nb6 (j := 160) (by decide +kernel) rfl⟩
theorem fl_X12_150 : zF RX12 150 15 0 RX11 TX11 3 := ⟨rfl, zi_X11, by decide, rfl, Or.inr ⟨"DoublecoatModel", nb6 (j := 164) (by decide +kernel) rfl⟩⟩
theorem fl_X12_153 : zF RX12 153 15 1 RX11 TX11 3 := ⟨rfl, zi_X11, by decide, rfl, Or.inr ⟨"DoublecoatModel", nb6 (j := 165) (by decide +kernel) rfl⟩⟩
theorem fl_X12_156 : zF RX12 156 15 2 RX11 TX11 3 := ⟨rfl, zi_X11, by decide, rfl, Or.inr ⟨"DoublecoatModel", nb6 (j := 166) (by decide +kernel) rfl⟩⟩
theorem mc_X12_plays : zM0 yX12_plays cX12_plays 3 (some FieldType.boolean) 2 := ⟨tb6 (j := 212) (by decide +kernel) rfl, tb1 (j := 7) (by decide +kernel) rfl, by decide +kernel⟩
theorem in_X12_plays : Cond.instanceMethod yX12_plays ∈ zTBL := tb6 (j := 211) (by decide +kernel) rfl
theorem se_X12_plays : Cond.selects RX12 yX12_plays yX12_plays ∈ zTBL := tbp (j := 34) (by decide +kernel) rfl
theorem ml_X12_159 : zM RX12 159 yX12_isIn cX12_isIn 2 (some FieldType.boolean) 2 := ⟨mc_X12_isIn, tb6 (j := 198) (by decide +kernel) rfl⟩
theorem mc_X12_players : zM0 yX12_players cX12_players 4 (some FieldType.int) 1 := ⟨tb7 (j := 9) (by decide +kernel) rfl, tb1 (j := 7) (by decide +kernel) rfl, by decide +kernel⟩
theorem in_X12_players : Cond.instanceMethod yX12_players ∈ zTBL := tb7 (j := 8) (by decide +kernel) rfl
theorem se_X12_players : Cond.selects RX12 yX12_players yX12_players ∈ zTBL := tbp (j := 41) (by decide +kernel) rfl
theorem ml_X12_163 : zM RX12 163 yX12_plays cX12_plays 3 (some FieldType.boolean) 2 := ⟨mc_X12_plays, tb6 (j := 209) (by decide +kernel) rfl⟩
theorem mc_X12_clash : zM0 yX12_clash cX12_clash 8 (none) 1 := ⟨tb6 (j := 197) (by decide +kernel) rfl, tb1 (j := 7) (by decide +kernel) rfl, by decide +kernel⟩
theorem in_X12_clash : Cond.instanceMethod yX12_clash ∈ zTBL := tb6 (j := 196) (by decide +kernel) rfl
theorem se_X12_clash : Cond.selects RX12 yX12_clash yX12_clash ∈ zTBL := tbp (j := 31) (by decide +kernel) rfl
theorem mc_X12_partsOf : zM0 yX12_partsOf cX12_partsOf 4 (some FieldType.int) 1 := ⟨tb6 (j := 204) (by decide +kernel) rfl, tb1 (j := 7) (by decide +kernel) rfl, by decide +kernel⟩
theorem in_X12_partsOf : Cond.instanceMethod yX12_partsOf ∈ zTBL := tb6 (j := 203) (by decide +kernel) rfl
theorem se_X12_partsOf : Cond.selects RX12 yX12_partsOf yX12_partsOf ∈ zTBL := tbp (j := 32) (by decide +kernel) rfl
theorem mc_X12_fills : zM0 yX12_fills cX12_fills 8 (some FieldType.boolean) 4 := ⟨tb6 (j := 208) (by decide +kernel) rfl, tb1 (j := 7) (by decide +kernel) rfl, by decide +kernel⟩
theorem in_X12_fills : Cond.instanceMethod yX12_fills ∈ zTBL := tb6 (j := 207) (by decide +kernel) rfl
theorem se_X12_fills : Cond.selects RX12 yX12_fills yX12_fills ∈ zTBL := tbp (j := 33) (by decide +kernel) rfl
theorem ml_X12_166 : zM RX12 166 yX12_fills cX12_fills 8 (some FieldType.boolean) 4 := ⟨mc_X12_fills, tb6 (j := 205) (by decide +kernel) rfl⟩
theorem ml_X12_170 : zM RX12 170 yJ6_bitCount_0f7a4 cJ6_bitCount_0f7a4 1 (some FieldType.int) 1 := ⟨mc_J6_bitCount_0f7a4, tb6 (j := 213) (by decide +kernel) rfl⟩
theorem mc_X12_needs : zM0 yX12_needs cX12_needs 4 (some FieldType.int) 1 := ⟨tb6 (j := 193) (by decide +kernel) rfl, tb1 (j := 7) (by decide +kernel) rfl, by decide +kernel⟩
theorem in_X12_needs : Cond.instanceMethod yX12_needs ∈ zTBL := tb6 (j := 192) (by decide +kernel) rfl
theorem se_X12_needs : Cond.selects RX12 yX12_needs yX12_needs ∈ zTBL := tbp (j := 30) (by decide +kernel) rfl
theorem ml_X12_175 : zM RX12 175 yX12_clash cX12_clash 8 (none) 1 := ⟨mc_X12_clash, tb6 (j := 194) (by decide +kernel) rfl⟩
theorem ml_X12_179 : zM RX12 179 yX12_partsOf cX12_partsOf 4 (some FieldType.int) 1 := ⟨mc_X12_partsOf, tb6 (j := 201) (by decide +kernel) rfl⟩
theorem mc_X12_isCast : zM0 yX12_isCast cX12_isCast 2 (some FieldType.boolean) 0 := ⟨tb6 (j := 185) (by decide +kernel) rfl, tb1 (j := 7) (by decide +kernel) rfl, by decide +kernel⟩
theorem in_X12_isCast : Cond.instanceMethod yX12_isCast ∈ zTBL := tb6 (j := 184) (by decide +kernel) rfl
theorem se_X12_isCast : Cond.selects RX12 yX12_isCast yX12_isCast ∈ zTBL := tbp (j := 28) (by decide +kernel) rfl
theorem ml_X12_182 : zM RX12 182 yX12_all cX12_all 1 (some FieldType.int) 0 := ⟨mc_X12_all, tb6 (j := 186) (by decide +kernel) rfl⟩
theorem ml_X12_185 : zM RX12 185 yX12_needs cX12_needs 4 (some FieldType.int) 1 := ⟨mc_X12_needs, tb6 (j := 190) (by decide +kernel) rfl⟩
theorem fl_X12_188 : zF RX12 188 16 12 RX12 TX12 20 := ⟨rfl, zi_X12, by decide, rfl, Or.inl (tb5 (j := 106) (by decide +kernel) rfl)⟩
theorem mc_X12_cutScenes : zM0 yX12_cutScenes cX12_cutScenes 3 (some FieldType.int) 0 := ⟨tb7 (j := 94) (by decide +kernel) rfl, tb1 (j := 7) (by decide +kernel) rfl, by decide +kernel⟩
theorem in_X12_cutScenes : Cond.instanceMethod yX12_cutScenes ∈ zTBL := tb7 (j := 93) (by decide +kernel) rfl
theorem se_X12_cutScenes : Cond.selects RX12 yX12_cutScenes yX12_cutScenes ∈ zTBL := tbp (j := 55) (by decide +kernel) rfl
theorem mc_X12_finds : zM0 yX12_finds cX12_finds 6 (some FieldType.boolean) 4 := ⟨tb7 (j := 33) (by decide +kernel) rfl, tb1 (j := 7) (by decide +kernel) rfl, by decide +kernel⟩
theorem in_X12_finds : Cond.instanceMethod yX12_finds ∈ zTBL := tb7 (j := 32) (by decide +kernel) rfl
theorem se_X12_finds : Cond.selects RX12 yX12_finds yX12_finds ∈ zTBL := tbp (j := 45) (by decide +kernel) rfl
theorem ml_X12_191 : zM RX12 191 yX12_finds cX12_finds 6 (some FieldType.boolean) 4 := ⟨mc_X12_finds, tb7 (j := 30) (by decide +kernel) rfl⟩
theorem mc_X12_filled : zM0 yX12_filled cX12_filled 5 (some FieldType.int) 1 := ⟨tb7 (j := 29) (by decide +kernel) rfl, tb1 (j := 7) (by decide +kernel) rfl, by decide +kernel⟩
theorem in_X12_filled : Cond.instanceMethod yX12_filled ∈ zTBL := tb7 (j := 28) (by decide +kernel) rfl
theorem se_X12_filled : Cond.selects RX12 yX12_filled yX12_filled ∈ zTBL := tbp (j := 44) (by decide +kernel) rfl
theorem mc_X12_excess : zM0 yX12_excess cX12_excess 4 (some FieldType.int) 1 := ⟨tb7 (j := 41) (by decide +kernel) rfl, tb1 (j := 7) (by decide +kernel) rfl, by decide +kernel⟩
theorem in_X12_excess : Cond.instanceMethod yX12_excess ∈ zTBL := tb7 (j := 40) (by decide +kernel) rfl
theorem se_X12_excess : Cond.selects RX12 yX12_excess yX12_excess ∈ zTBL := tbp (j := 47) (by decide +kernel) rfl
theorem ml_X12_195 : zM RX12 195 yX12_players cX12_players 4 (some FieldType.int) 1 := ⟨mc_X12_players, tb7 (j := 6) (by decide +kernel) rfl⟩
theorem mc_X12_lack : zM0 yX12_lack cX12_lack 4 (some FieldType.int) 1 := ⟨tb7 (j := 37) (by decide +kernel) rfl, tb1 (j := 7) (by decide +kernel) rfl, by decide +kernel⟩
theorem in_X12_lack : Cond.instanceMethod yX12_lack ∈ zTBL := tb7 (j := 36) (by decide +kernel) rfl
theorem se_X12_lack : Cond.selects RX12 yX12_lack yX12_lack ∈ zTBL := tbp (j := 46) (by decide +kernel) rfl
theorem ml_X12_197 : zM RX12 197 yX12_excess cX12_excess 4 (some FieldType.int) 1 := ⟨mc_X12_excess, tb7 (j := 38) (by decide +kernel) rfl⟩
theorem mc_X12_waste : zM0 yX12_waste cX12_waste 5 (some FieldType.int) 2 := ⟨tb7 (j := 57) (by decide +kernel) rfl, tb1 (j := 7) (by decide +kernel) rfl, by decide +kernel⟩
theorem in_X12_waste : Cond.instanceMethod yX12_waste ∈ zTBL := tb7 (j := 56) (by decide +kernel) rfl
theorem se_X12_waste : Cond.selects RX12 yX12_waste yX12_waste ∈ zTBL := tbp (j := 50) (by decide +kernel) rfl
theorem mc_J9_abs_0f7a4 : zM0 yJ9_abs_0f7a4 cJ9_abs_0f7a4 1 (some FieldType.int) 1 := ⟨tb4 (j := 74) (by decide +kernel) rfl, tb1 (j := 19) (by decide +kernel) rfl, by decide +kernel⟩
theorem st_J9_abs_0f7a4 : Cond.static yJ9_abs_0f7a4 ∈ zTBL := tb4 (j := 73) (by decide +kernel) rfl
theorem ml_X12_200 : zM RX12 200 yJ9_abs_0f7a4 cJ9_abs_0f7a4 1 (some FieldType.int) 1 := ⟨mc_J9_abs_0f7a4, tb7 (j := 58) (by decide +kernel) rfl⟩
theorem mc_X12_dress : zM0 yX12_dress cX12_dress 7 (none) 3 := ⟨tb7 (j := 49) (by decide +kernel) rfl, tb1 (j := 7) (by decide +kernel) rfl, by decide +kernel⟩
theorem in_X12_dress : Cond.instanceMethod yX12_dress ∈ zTBL := tb7 (j := 48) (by decide +kernel) rfl
theorem se_X12_dress : Cond.selects RX12 yX12_dress yX12_dress ∈ zTBL := tbp (j := 49) (by decide +kernel) rfl
theorem fl_X12_205 : zF RX12 205 16 15 RX12 TX12 20 := ⟨rfl, zi_X12, by decide, rfl, Or.inl (tb5 (j := 109) (by decide +kernel) rfl)⟩
theorem mc_J6_numberOfTrailingZeros_0f7a4 : zM0 yJ6_numberOfTrailingZeros_0f7a4 cJ6_numberOfTrailingZeros_0f7a4 2 (some FieldType.int) 1 := ⟨tb7 (j := 52) (by decide +kernel) rfl, tb1 (j := 28) (by decide +kernel) rfl, by decide +kernel⟩
theorem st_J6_numberOfTrailingZeros_0f7a4 : Cond.static yJ6_numberOfTrailingZeros_0f7a4 ∈ zTBL := tb7 (j := 51) (by decide +kernel) rfl
theorem ml_X12_208 : zM RX12 208 yJ6_numberOfTrailingZeros_0f7a4 cJ6_numberOfTrailingZeros_0f7a4 2 (some FieldType.int) 1 := ⟨mc_J6_numberOfTrailingZeros_0f7a4, tb7 (j := 50) (by decide +kernel) rfl⟩
theorem ml_X12_211 : zM RX12 211 yX12_waste cX12_waste 5 (some FieldType.int) 2 := ⟨mc_X12_waste, tb7 (j := 54) (by decide +kernel) rfl⟩
theorem ml_X12_215 : zM RX12 215 yX12_dress cX12_dress 7 (none) 3 := ⟨mc_X12_dress, tb7 (j := 46) (by decide +kernel) rfl⟩
theorem mc_X12_dressed : zM0 yX12_dressed cX12_dressed 2 (some FieldType.int) 1 := ⟨tb7 (j := 45) (by decide +kernel) rfl, tb1 (j := 7) (by decide +kernel) rfl, by decide +kernel⟩
theorem in_X12_dressed : Cond.instanceMethod yX12_dressed ∈ zTBL := tb7 (j := 44) (by decide +kernel) rfl
theorem se_X12_dressed : Cond.selects RX12 yX12_dressed yX12_dressed ∈ zTBL := tbp (j := 48) (by decide +kernel) rfl
theorem ml_X12_219 : zM RX12 219 yX12_isCast cX12_isCast 2 (some FieldType.boolean) 0 := ⟨mc_X12_isCast, tb6 (j := 182) (by decide +kernel) rfl⟩
theorem mc_X12_partsWith : zM0 yX12_partsWith cX12_partsWith 4 (some FieldType.int) 1 := ⟨tb6 (j := 225) (by decide +kernel) rfl, tb1 (j := 7) (by decide +kernel) rfl, by decide +kernel⟩
theorem in_X12_partsWith : Cond.instanceMethod yX12_partsWith ∈ zTBL := tb6 (j := 224) (by decide +kernel) rfl
theorem se_X12_partsWith : Cond.selects RX12 yX12_partsWith yX12_partsWith ∈ zTBL := tbp (j := 37) (by decide +kernel) rfl
theorem mc_X12_shares : zM0 yX12_shares cX12_shares 3 (some FieldType.int) 0 := ⟨tb6 (j := 221) (by decide +kernel) rfl, tb1 (j := 7) (by decide +kernel) rfl, by decide +kernel⟩
theorem in_X12_shares : Cond.instanceMethod yX12_shares ∈ zTBL := tb6 (j := 220) (by decide +kernel) rfl
theorem se_X12_shares : Cond.selects RX12 yX12_shares yX12_shares ∈ zTBL := tbp (j := 36) (by decide +kernel) rfl
theorem ml_X12_222 : zM RX12 222 yX12_partsWith cX12_partsWith 4 (some FieldType.int) 1 := ⟨mc_X12_partsWith, tb6 (j := 222) (by decide +kernel) rfl⟩
theorem mc_X12_shareNow : zM0 yX12_shareNow cX12_shareNow 9 (some FieldType.int) 2 := ⟨tb6 (j := 217) (by decide +kernel) rfl, tb1 (j := 7) (by decide +kernel) rfl, by decide +kernel⟩
theorem in_X12_shareNow : Cond.instanceMethod yX12_shareNow ∈ zTBL := tb6 (j := 216) (by decide +kernel) rfl
theorem se_X12_shareNow : Cond.selects RX12 yX12_shareNow yX12_shareNow ∈ zTBL := tbp (j := 35) (by decide +kernel) rfl
theorem ml_X12_225 : zM RX12 225 yX12_shares cX12_shares 3 (some FieldType.int) 0 := ⟨mc_X12_shares, tb6 (j := 218) (by decide +kernel) rfl⟩
theorem mc_X12_night : zM0 yX12_night cX12_night 5 (some FieldType.int) 1 := ⟨tb6 (j := 177) (by decide +kernel) rfl, tb1 (j := 7) (by decide +kernel) rfl, by decide +kernel⟩
theorem in_X12_night : Cond.instanceMethod yX12_night ∈ zTBL := tb6 (j := 175) (by decide +kernel) rfl
theorem se_X12_night : Cond.selects RX12 yX12_night yX12_night ∈ zTBL := tb6 (j := 176) (by decide +kernel) rfl
theorem ml_X12_228 : zM RX12 228 yX12_isTown cX12_isTown 2 (some FieldType.boolean) 1 := ⟨mc_X12_isTown, tb6 (j := 178) (by decide +kernel) rfl⟩
theorem ml_X12_231 : zM RX12 231 yX12_shareNow cX12_shareNow 9 (some FieldType.int) 2 := ⟨mc_X12_shareNow, tb6 (j := 214) (by decide +kernel) rfl⟩
theorem fl_X12_235 : zF RX12 235 16 8 RX12 TX12 20 := ⟨rfl, zi_X12, by decide, rfl, Or.inl (tb5 (j := 102) (by decide +kernel) rfl)⟩
theorem mc_X12_knock : zM0 yX12_knock cX12_knock 1 (some FieldType.int) 0 := ⟨tb6 (j := 229) (by decide +kernel) rfl, tb1 (j := 7) (by decide +kernel) rfl, by decide +kernel⟩
theorem in_X12_knock : Cond.instanceMethod yX12_knock ∈ zTBL := tb6 (j := 227) (by decide +kernel) rfl
theorem se_X12_knock : Cond.selects RX12 yX12_knock yX12_knock ∈ zTBL := tb6 (j := 228) (by decide +kernel) rfl
theorem fl_X12_238 : zF RX12 238 16 9 RX12 TX12 20 := ⟨rfl, zi_X12, by decide, rfl, Or.inl (tb5 (j := 103) (by decide +kernel) rfl)⟩
theorem mc_X12_miles : zM0 yX12_miles cX12_miles 4 (some FieldType.int) 4 := ⟨tb7 (j := 78) (by decide +kernel) rfl, tb1 (j := 7) (by decide +kernel) rfl, by decide +kernel⟩
theorem st_X12_miles : Cond.static yX12_miles ∈ zTBL := tb7 (j := 77) (by decide +kernel) rfl
theorem mc_X12_go : zM0 yX12_go cX12_go 10 (none) 6 := ⟨tb7 (j := 123) (by decide +kernel) rfl, tb1 (j := 7) (by decide +kernel) rfl, by decide +kernel⟩
theorem in_X12_go : Cond.instanceMethod yX12_go ∈ zTBL := tb7 (j := 122) (by decide +kernel) rfl
theorem se_X12_go : Cond.selects RX12 yX12_go yX12_go ∈ zTBL := tbp (j := 59) (by decide +kernel) rfl
theorem ml_X12_241 : zM RX12 241 yX12_miles cX12_miles 4 (some FieldType.int) 4 := ⟨mc_X12_miles, tb7 (j := 76) (by decide +kernel) rfl⟩
theorem fl_X12_245 : zF RX12 245 16 16 RX12 TX12 20 := ⟨rfl, zi_X12, by decide, rfl, Or.inl (tb5 (j := 110) (by decide +kernel) rfl)⟩
theorem fl_X12_248 : zF RX12 248 16 17 RX12 TX12 20 := ⟨rfl, zi_X12, by decide, rfl, Or.inl (tb5 (j := 111) (by decide +kernel) rfl)⟩
theorem fl_X12_251 : zF RX12 251 16 18 RX12 TX12 20 := ⟨rfl, zi_X12, by decide, rfl, Or.inl (tb5 (j := 112) (by decide +kernel) rfl)⟩
theorem ml_X12_254 : zM RX12 254 yX12_go cX12_go 10 (none) 6 := ⟨mc_X12_go, tb7 (j := 120) (by decide +kernel) rfl⟩
theorem mc_X12_tourNow : zM0 yX12_tourNow cX12_tourNow 3 (some FieldType.int) 2 := ⟨tb7 (j := 119) (by decide +kernel) rfl, tb1 (j := 7) (by decide +kernel) rfl, by decide +kernel⟩
theorem in_X12_tourNow : Cond.instanceMethod yX12_tourNow ∈ zTBL := tb7 (j := 118) (by decide +kernel) rfl
theorem se_X12_tourNow : Cond.selects RX12 yX12_tourNow yX12_tourNow ∈ zTBL := tbp (j := 58) (by decide +kernel) rfl
theorem mc_X12_scenesWith : zM0 yX12_scenesWith cX12_scenesWith 4 (some FieldType.int) 1 := ⟨tb7 (j := 5) (by decide +kernel) rfl, tb1 (j := 7) (by decide +kernel) rfl, by decide +kernel⟩
theorem in_X12_scenesWith : Cond.instanceMethod yX12_scenesWith ∈ zTBL := tb7 (j := 4) (by decide +kernel) rfl
theorem se_X12_scenesWith : Cond.selects RX12 yX12_scenesWith yX12_scenesWith ∈ zTBL := tbp (j := 40) (by decide +kernel) rfl
theorem mc_X12_ofPartNow : zM0 yX12_ofPartNow cX12_ofPartNow 4 (some FieldType.int) 2 := ⟨tb7 (j := 1) (by decide +kernel) rfl, tb1 (j := 7) (by decide +kernel) rfl, by decide +kernel⟩
theorem in_X12_ofPartNow : Cond.instanceMethod yX12_ofPartNow ∈ zTBL := tb7 (j := 0) (by decide +kernel) rfl
theorem se_X12_ofPartNow : Cond.selects RX12 yX12_ofPartNow yX12_ofPartNow ∈ zTBL := tbp (j := 39) (by decide +kernel) rfl
theorem ml_X12_258 : zM RX12 258 yX12_scenesWith cX12_scenesWith 4 (some FieldType.int) 1 := ⟨mc_X12_scenesWith, tb7 (j := 2) (by decide +kernel) rfl⟩
theorem mc_X12_ofPart : zM0 yX12_ofPart cX12_ofPart 3 (some FieldType.int) 2 := ⟨tb6 (j := 233) (by decide +kernel) rfl, tb1 (j := 7) (by decide +kernel) rfl, by decide +kernel⟩
theorem in_X12_ofPart : Cond.instanceMethod yX12_ofPart ∈ zTBL := tb6 (j := 231) (by decide +kernel) rfl
theorem se_X12_ofPart : Cond.selects RX12 yX12_ofPart yX12_ofPart ∈ zTBL := tb6 (j := 232) (by decide +kernel) rfl
theorem ml_X12_261 : zM RX12 261 yX12_isPart cX12_isPart 2 (some FieldType.boolean) 1 := ⟨mc_X12_isPart, tb6 (j := 234) (by decide +kernel) rfl⟩
theorem ml_X12_264 : zM RX12 264 yX12_ofPartNow cX12_ofPartNow 4 (some FieldType.int) 2 := ⟨mc_X12_ofPartNow, tb6 (j := 238) (by decide +kernel) rfl⟩
theorem mc_X12_ofPlayerNow : zM0 yX12_ofPlayerNow cX12_ofPlayerNow 4 (some FieldType.int) 2 := ⟨tb7 (j := 17) (by decide +kernel) rfl, tb1 (j := 7) (by decide +kernel) rfl, by decide +kernel⟩
theorem in_X12_ofPlayerNow : Cond.instanceMethod yX12_ofPlayerNow ∈ zTBL := tb7 (j := 16) (by decide +kernel) rfl
theorem se_X12_ofPlayerNow : Cond.selects RX12 yX12_ofPlayerNow yX12_ofPlayerNow ∈ zTBL := tbp (j := 42) (by decide +kernel) rfl
theorem mc_X12_ofPlayer : zM0 yX12_ofPlayer cX12_ofPlayer 3 (some FieldType.int) 2 := ⟨tb7 (j := 13) (by decide +kernel) rfl, tb1 (j := 7) (by decide +kernel) rfl, by decide +kernel⟩
theorem in_X12_ofPlayer : Cond.instanceMethod yX12_ofPlayer ∈ zTBL := tb7 (j := 11) (by decide +kernel) rfl
theorem se_X12_ofPlayer : Cond.selects RX12 yX12_ofPlayer yX12_ofPlayer ∈ zTBL := tb7 (j := 12) (by decide +kernel) rfl
theorem ml_X12_267 : zM RX12 267 yX12_ofPlayerNow cX12_ofPlayerNow 4 (some FieldType.int) 2 := ⟨mc_X12_ofPlayerNow, tb7 (j := 14) (by decide +kernel) rfl⟩
theorem mc_X12_ofSceneNow : zM0 yX12_ofSceneNow cX12_ofSceneNow 4 (some FieldType.int) 2 := ⟨tb7 (j := 25) (by decide +kernel) rfl, tb1 (j := 7) (by decide +kernel) rfl, by decide +kernel⟩
theorem in_X12_ofSceneNow : Cond.instanceMethod yX12_ofSceneNow ∈ zTBL := tb7 (j := 24) (by decide +kernel) rfl
theorem se_X12_ofSceneNow : Cond.selects RX12 yX12_ofSceneNow yX12_ofSceneNow ∈ zTBL := tbp (j := 43) (by decide +kernel) rfl
theorem ml_X12_270 : zM RX12 270 yX12_filled cX12_filled 5 (some FieldType.int) 1 := ⟨mc_X12_filled, tb7 (j := 26) (by decide +kernel) rfl⟩
theorem ml_X12_273 : zM RX12 273 yX12_lack cX12_lack 4 (some FieldType.int) 1 := ⟨mc_X12_lack, tb7 (j := 34) (by decide +kernel) rfl⟩
theorem ml_X12_276 : zM RX12 276 yX12_dressed cX12_dressed 2 (some FieldType.int) 1 := ⟨mc_X12_dressed, tb7 (j := 42) (by decide +kernel) rfl⟩
theorem mc_X12_ofScene : zM0 yX12_ofScene cX12_ofScene 3 (some FieldType.int) 2 := ⟨tb7 (j := 21) (by decide +kernel) rfl, tb1 (j := 7) (by decide +kernel) rfl, by decide +kernel⟩
theorem in_X12_ofScene : Cond.instanceMethod yX12_ofScene ∈ zTBL := tb7 (j := 19) (by decide +kernel) rfl
theorem se_X12_ofScene : Cond.selects RX12 yX12_ofScene yX12_ofScene ∈ zTBL := tb7 (j := 20) (by decide +kernel) rfl
theorem ml_X12_279 : zM RX12 279 yX12_ofSceneNow cX12_ofSceneNow 4 (some FieldType.int) 2 := ⟨mc_X12_ofSceneNow, tb7 (j := 22) (by decide +kernel) rfl⟩
theorem mc_X12_ofCoatNow : zM0 yX12_ofCoatNow cX12_ofCoatNow 4 (some FieldType.int) 2 := ⟨tb7 (j := 67) (by decide +kernel) rfl, tb1 (j := 7) (by decide +kernel) rfl, by decide +kernel⟩
theorem in_X12_ofCoatNow : Cond.instanceMethod yX12_ofCoatNow ∈ zTBL := tb7 (j := 66) (by decide +kernel) rfl
theorem se_X12_ofCoatNow : Cond.selects RX12 yX12_ofCoatNow yX12_ofCoatNow ∈ zTBL := tbp (j := 51) (by decide +kernel) rfl
theorem mc_X12_ofCoat : zM0 yX12_ofCoat cX12_ofCoat 3 (some FieldType.int) 2 := ⟨tb7 (j := 63) (by decide +kernel) rfl, tb1 (j := 7) (by decide +kernel) rfl, by decide +kernel⟩
theorem in_X12_ofCoat : Cond.instanceMethod yX12_ofCoat ∈ zTBL := tb7 (j := 61) (by decide +kernel) rfl
theorem se_X12_ofCoat : Cond.selects RX12 yX12_ofCoat yX12_ofCoat ∈ zTBL := tb7 (j := 62) (by decide +kernel) rfl
theorem ml_X12_282 : zM RX12 282 yX12_ofCoatNow cX12_ofCoatNow 4 (some FieldType.int) 2 := ⟨mc_X12_ofCoatNow, tb7 (j := 64) (by decide +kernel) rfl⟩
theorem mc_X12_ofTownNow : zM0 yX12_ofTownNow cX12_ofTownNow 4 (some FieldType.int) 2 := ⟨tb7 (j := 75) (by decide +kernel) rfl, tb1 (j := 7) (by decide +kernel) rfl, by decide +kernel⟩
theorem in_X12_ofTownNow : Cond.instanceMethod yX12_ofTownNow ∈ zTBL := tb7 (j := 74) (by decide +kernel) rfl
theorem se_X12_ofTownNow : Cond.selects RX12 yX12_ofTownNow yX12_ofTownNow ∈ zTBL := tbp (j := 52) (by decide +kernel) rfl
theorem mc_X12_ofTown : zM0 yX12_ofTown cX12_ofTown 3 (some FieldType.int) 2 := ⟨tb7 (j := 71) (by decide +kernel) rfl, tb1 (j := 7) (by decide +kernel) rfl, by decide +kernel⟩
theorem in_X12_ofTown : Cond.instanceMethod yX12_ofTown ∈ zTBL := tb7 (j := 69) (by decide +kernel) rfl
theorem se_X12_ofTown : Cond.selects RX12 yX12_ofTown yX12_ofTown ∈ zTBL := tb7 (j := 70) (by decide +kernel) rfl
theorem ml_X12_285 : zM RX12 285 yX12_ofTownNow cX12_ofTownNow 4 (some FieldType.int) 2 := ⟨mc_X12_ofTownNow, tb7 (j := 72) (by decide +kernel) rfl⟩
theorem mc_X12_purses : zM0 yX12_purses cX12_purses 4 (some FieldType.int) 0 := ⟨tb7 (j := 98) (by decide +kernel) rfl, tb1 (j := 7) (by decide +kernel) rfl, by decide +kernel⟩
theorem in_X12_purses : Cond.instanceMethod yX12_purses ∈ zTBL := tb7 (j := 97) (by decide +kernel) rfl
theorem se_X12_purses : Cond.selects RX12 yX12_purses yX12_purses ∈ zTBL := tbp (j := 56) (by decide +kernel) rfl
theorem mc_X12_pawned : zM0 yX12_pawned cX12_pawned 4 (some FieldType.int) 0 := ⟨tb7 (j := 90) (by decide +kernel) rfl, tb1 (j := 7) (by decide +kernel) rfl, by decide +kernel⟩
theorem in_X12_pawned : Cond.instanceMethod yX12_pawned ∈ zTBL := tb7 (j := 89) (by decide +kernel) rfl
theorem se_X12_pawned : Cond.selects RX12 yX12_pawned yX12_pawned ∈ zTBL := tbp (j := 54) (by decide +kernel) rfl
theorem mc_X12_houseNow : zM0 yX12_houseNow cX12_houseNow 2 (some FieldType.int) 1 := ⟨tb7 (j := 86) (by decide +kernel) rfl, tb1 (j := 7) (by decide +kernel) rfl, by decide +kernel⟩
theorem in_X12_houseNow : Cond.instanceMethod yX12_houseNow ∈ zTBL := tb7 (j := 85) (by decide +kernel) rfl
theorem se_X12_houseNow : Cond.selects RX12 yX12_houseNow yX12_houseNow ∈ zTBL := tbp (j := 53) (by decide +kernel) rfl
theorem ml_X12_288 : zM RX12 288 yX12_pawned cX12_pawned 4 (some FieldType.int) 0 := ⟨mc_X12_pawned, tb7 (j := 87) (by decide +kernel) rfl⟩
theorem ml_X12_291 : zM RX12 291 yX12_cutScenes cX12_cutScenes 3 (some FieldType.int) 0 := ⟨mc_X12_cutScenes, tb7 (j := 91) (by decide +kernel) rfl⟩
theorem ml_X12_294 : zM RX12 294 yX12_purses cX12_purses 4 (some FieldType.int) 0 := ⟨mc_X12_purses, tb7 (j := 95) (by decide +kernel) rfl⟩
theorem mc_X12_house : zM0 yX12_house cX12_house 2 (some FieldType.int) 1 := ⟨tb7 (j := 82) (by decide +kernel) rfl, tb1 (j := 7) (by decide +kernel) rfl, by decide +kernel⟩
theorem in_X12_house : Cond.instanceMethod yX12_house ∈ zTBL := tb7 (j := 80) (by decide +kernel) rfl
theorem se_X12_house : Cond.selects RX12 yX12_house yX12_house ∈ zTBL := tb7 (j := 81) (by decide +kernel) rfl
theorem ml_X12_297 : zM RX12 297 yX12_houseNow cX12_houseNow 2 (some FieldType.int) 1 := ⟨mc_X12_houseNow, tb7 (j := 83) (by decide +kernel) rfl⟩
theorem mc_X12_castNow : zM0 yX12_castNow cX12_castNow 3 (some (FieldType.object "java/lang/String")) 0 := ⟨tb7 (j := 106) (by decide +kernel) rfl, tb1 (j := 7) (by decide +kernel) rfl, by decide +kernel⟩
theorem in_X12_castNow : Cond.instanceMethod yX12_castNow ∈ zTBL := tb7 (j := 105) (by decide +kernel) rfl
theorem se_X12_castNow : Cond.selects RX12 yX12_castNow yX12_castNow ∈ zTBL := tbp (j := 57) (by decide +kernel) rfl
theorem ml_X12_304 : zM RX12 304 yJ4_init_da8c8 cJ4_init_da8c8 1 (none) 0 := ⟨mc_J4_init_da8c8, tb7 (j := 109) (by decide +kernel) rfl⟩
theorem ml_X12_305 : zM RX12 305 yJ4_append_cf468 cJ4_append_cf468 2 (some (FieldType.object "java/lang/StringBuilder")) 1 := ⟨mc_J4_append_cf468, tb7 (j := 110) (by decide +kernel) rfl⟩
theorem ml_X12_309 : zM RX12 309 yJ4_toString_0e30d cJ4_toString_0e30d 1 (some (FieldType.object "java/lang/String")) 0 := ⟨mc_J4_toString_0e30d, tb7 (j := 111) (by decide +kernel) rfl⟩
theorem mc_X12_cast : zM0 yX12_cast cX12_cast 1 (some (FieldType.object "java/lang/String")) 0 := ⟨tb7 (j := 102) (by decide +kernel) rfl, tb1 (j := 7) (by decide +kernel) rfl, by decide +kernel⟩
theorem in_X12_cast : Cond.instanceMethod yX12_cast ∈ zTBL := tb7 (j := 100) (by decide +kernel) rfl
theorem se_X12_cast : Cond.selects RX12 yX12_cast yX12_cast ∈ zTBL := tb7 (j := 101) (by decide +kernel) rfl
theorem ml_X12_313 : zM RX12 313 yX12_castNow cX12_castNow 3 (some (FieldType.object "java/lang/String")) 0 := ⟨mc_X12_castNow, tb7 (j := 103) (by decide +kernel) rfl⟩
theorem mc_X12_tour : zM0 yX12_tour cX12_tour 3 (some FieldType.int) 2 := ⟨tb7 (j := 115) (by decide +kernel) rfl, tb1 (j := 7) (by decide +kernel) rfl, by decide +kernel⟩
theorem in_X12_tour : Cond.instanceMethod yX12_tour ∈ zTBL := tb7 (j := 113) (by decide +kernel) rfl
theorem se_X12_tour : Cond.selects RX12 yX12_tour yX12_tour ∈ zTBL := tb7 (j := 114) (by decide +kernel) rfl
theorem ml_X12_316 : zM RX12 316 yX12_tourNow cX12_tourNow 3 (some FieldType.int) 2 := ⟨mc_X12_tourNow, tb7 (j := 116) (by decide +kernel) rfl⟩
theorem mc_X12_would : zM0 yX12_would cX12_would 2 (some FieldType.int) 1 := ⟨tb7 (j := 127) (by decide +kernel) rfl, tb1 (j := 7) (by decide +kernel) rfl, by decide +kernel⟩
theorem in_X12_would : Cond.instanceMethod yX12_would ∈ zTBL := tb7 (j := 125) (by decide +kernel) rfl
theorem se_X12_would : Cond.selects RX12 yX12_would yX12_would ∈ zTBL := tb7 (j := 126) (by decide +kernel) rfl
theorem mc_X12_withoutNow : zM0 yX12_withoutNow cX12_withoutNow 4 (some FieldType.int) 1 := ⟨tb7 (j := 135) (by decide +kernel) rfl, tb1 (j := 7) (by decide +kernel) rfl, by decide +kernel⟩
theorem in_X12_withoutNow : Cond.instanceMethod yX12_withoutNow ∈ zTBL := tb7 (j := 134) (by decide +kernel) rfl
theorem se_X12_withoutNow : Cond.selects RX12 yX12_withoutNow yX12_withoutNow ∈ zTBL := tbp (j := 60) (by decide +kernel) rfl
theorem mc_X12_without : zM0 yX12_without cX12_without 2 (some FieldType.int) 1 := ⟨tb7 (j := 131) (by decide +kernel) rfl, tb1 (j := 7) (by decide +kernel) rfl, by decide +kernel⟩
theorem in_X12_without : Cond.instanceMethod yX12_without ∈ zTBL := tb7 (j := 129) (by decide +kernel) rfl
theorem se_X12_without : Cond.selects RX12 yX12_without yX12_without ∈ zTBL := tb7 (j := 130) (by decide +kernel) rfl
theorem ml_X12_319 : zM RX12 319 yX12_withoutNow cX12_withoutNow 4 (some FieldType.int) 1 := ⟨mc_X12_withoutNow, tb7 (j := 132) (by decide +kernel) rfl⟩
theorem mc_X12_shareOf : zM0 yX12_shareOf cX12_shareOf 3 (some FieldType.int) 2 := ⟨tb7 (j := 139) (by decide +kernel) rfl, tb1 (j := 7) (by decide +kernel) rfl, by decide +kernel⟩
theorem in_X12_shareOf : Cond.instanceMethod yX12_shareOf ∈ zTBL := tb7 (j := 137) (by decide +kernel) rfl
theorem se_X12_shareOf : Cond.selects RX12 yX12_shareOf yX12_shareOf ∈ zTBL := tb7 (j := 138) (by decide +kernel) rfl
theorem mc_X12_isSoundNow : zM0 yX12_isSoundNow cX12_isSoundNow 4 (some FieldType.boolean) 0 := ⟨tb7 (j := 147) (by decide +kernel) rfl, tb1 (j := 7) (by decide +kernel) rfl, by decide +kernel⟩
theorem in_X12_isSoundNow : Cond.instanceMethod yX12_isSoundNow ∈ zTBL := tb7 (j := 146) (by decide +kernel) rfl
theorem se_X12_isSoundNow : Cond.selects RX12 yX12_isSoundNow yX12_isSoundNow ∈ zTBL := tbp (j := 61) (by decide +kernel) rfl
theorem mc_X12_isSound : zM0 yX12_isSound cX12_isSound 1 (some FieldType.boolean) 0 := ⟨tb7 (j := 143) (by decide +kernel) rfl, tb1 (j := 7) (by decide +kernel) rfl, by decide +kernel⟩
theorem in_X12_isSound : Cond.instanceMethod yX12_isSound ∈ zTBL := tb7 (j := 141) (by decide +kernel) rfl
theorem se_X12_isSound : Cond.selects RX12 yX12_isSound yX12_isSound ∈ zTBL := tb7 (j := 142) (by decide +kernel) rfl
theorem ml_X12_322 : zM RX12 322 yX12_isSoundNow cX12_isSoundNow 4 (some FieldType.boolean) 0 := ⟨mc_X12_isSoundNow, tb7 (j := 144) (by decide +kernel) rfl⟩
theorem mc_X12_add : zM0 yX12_add cX12_add 3 (none) 1 := ⟨tb7 (j := 156) (by decide +kernel) rfl, tb1 (j := 7) (by decide +kernel) rfl, by decide +kernel⟩
theorem in_X12_add : Cond.instanceMethod yX12_add ∈ zTBL := tb7 (j := 155) (by decide +kernel) rfl
theorem se_X12_add : Cond.selects RX12 yX12_add yX12_add ∈ zTBL := tbp (j := 62) (by decide +kernel) rfl
theorem fl_X12_325 : zF RX12 325 16 19 RX12 TX12 20 := ⟨rfl, zi_X12, by decide, rfl, Or.inl (tb5 (j := 113) (by decide +kernel) rfl)⟩
theorem mc_X12_digest : zM0 yX12_digest cX12_digest 3 (some FieldType.long) 0 := ⟨tb7 (j := 151) (by decide +kernel) rfl, tb1 (j := 7) (by decide +kernel) rfl, by decide +kernel⟩
theorem in_X12_digest : Cond.instanceMethod yX12_digest ∈ zTBL := tb7 (j := 149) (by decide +kernel) rfl
theorem se_X12_digest : Cond.selects RX12 yX12_digest yX12_digest ∈ zTBL := tb7 (j := 150) (by decide +kernel) rfl
theorem ml_X12_333 : zM RX12 333 yX12_add cX12_add 3 (none) 1 := ⟨mc_X12_add, tb7 (j := 153) (by decide +kernel) rfl⟩
theorem ml_X12_336 : zM RX12 336 yJ0_length_8abf5 cJ0_length_8abf5 1 (some FieldType.int) 0 := ⟨mc_J0_length_8abf5, tb7 (j := 158) (by decide +kernel) rfl⟩
theorem fl_X0_9 : zF RX0 9 4 0 RX0 TX0 9 := ⟨rfl, zi_X0, by decide, rfl, Or.inl (tb1 (j := 121) (by decide +kernel) rfl)⟩
theorem fl_X0_15 : zF RX0 15 4 4 RX0 TX0 9 := ⟨rfl, zi_X0, by decide, rfl, Or.inl (tb1 (j := 128) (by decide +kernel) rfl)⟩
theorem fl_X0_18 : zF RX0 18 4 5 RX0 TX0 9 := ⟨rfl, zi_X0, by decide, rfl, Or.inl (tb1 (j := 129) (by decide +kernel) rfl)⟩
theorem fl_X0_21 : zF RX0 21 4 6 RX0 TX0 9 := ⟨rfl, zi_X0, by decide, rfl, Or.inl (tb1 (j := 130) (by decide +kernel) rfl)⟩
theorem fl_X0_24 : zF RX0 24 4 7 RX0 TX0 9 := ⟨rfl, zi_X0, by decide, rfl, Or.inl (tb1 (j := 131) (by decide +kernel) rfl)⟩
theorem fl_X0_27 : zF RX0 27 4 3 RX0 TX0 9 := ⟨rfl, zi_X0, by decide, rfl, Or.inl (tb1 (j := 127) (by decide +kernel) rfl)⟩
theorem ml_X0_31 : zM RX0 31 yX2_allScenes cX2_allScenes 1 (some FieldType.int) 0 := ⟨mc_X2_allScenes, tb2 (j := 17) (by decide +kernel) rfl⟩
theorem ml_X0_37 : zM RX0 37 yX0_fewest cX0_fewest 5 (some FieldType.int) 3 := ⟨mc_X0_fewest, tb2 (j := 21) (by decide +kernel) rfl⟩
theorem fl_X0_41 : zF RX0 41 4 1 RX0 TX0 9 := ⟨rfl, zi_X0, by decide, rfl, Or.inl (tb1 (j := 123) (by decide +kernel) rfl)⟩
theorem mc_X0_keepFirst : zM0 yX0_keepFirst cX0_keepFirst 2 (none) 1 := ⟨tb2 (j := 74) (by decide +kernel) rfl, tb1 (j := 4) (by decide +kernel) rfl, by decide +kernel⟩
theorem in_X0_keepFirst : Cond.instanceMethod yX0_keepFirst ∈ zTBL := tb2 (j := 73) (by decide +kernel) rfl
theorem se_X0_keepFirst : Cond.selects RX0 yX0_keepFirst yX0_keepFirst ∈ zTBL := tbp (j := 5) (by decide +kernel) rfl
theorem ml_X0_45 : zM RX0 45 yX0_keepFirst cX0_keepFirst 2 (none) 1 := ⟨mc_X0_keepFirst, tb2 (j := 71) (by decide +kernel) rfl⟩
theorem mc_X0_fewestCut : zM0 yX0_fewestCut cX0_fewestCut 5 (some FieldType.int) 2 := ⟨tb2 (j := 85) (by decide +kernel) rfl, tb1 (j := 4) (by decide +kernel) rfl, by decide +kernel⟩
theorem in_X0_fewestCut : Cond.instanceMethod yX0_fewestCut ∈ zTBL := tb2 (j := 84) (by decide +kernel) rfl
theorem se_X0_fewestCut : Cond.selects RX0 yX0_fewestCut yX0_fewestCut ∈ zTBL := tbp (j := 7) (by decide +kernel) rfl
theorem ml_X0_49 : zM RX0 49 yX0_fewestCut cX0_fewestCut 5 (some FieldType.int) 2 := ⟨mc_X0_fewestCut, tb2 (j := 82) (by decide +kernel) rfl⟩
theorem fl_X0_53 : zF RX0 53 4 2 RX0 TX0 9 := ⟨rfl, zi_X0, by decide, rfl, Or.inl (tb1 (j := 125) (by decide +kernel) rfl)⟩
theorem mc_X2_partsOf : zM0 yX2_partsOf cX2_partsOf 4 (some FieldType.int) 1 := ⟨tb2 (j := 52) (by decide +kernel) rfl, tb1 (j := 2) (by decide +kernel) rfl, by decide +kernel⟩
theorem in_X2_partsOf : Cond.instanceMethod yX2_partsOf ∈ zTBL := tb2 (j := 50) (by decide +kernel) rfl
theorem se_X2_partsOf : Cond.selects RX2 yX2_partsOf yX2_partsOf ∈ zTBL := tb2 (j := 51) (by decide +kernel) rfl
theorem ml_X0_56 : zM RX0 56 yX2_partsOf cX2_partsOf 4 (some FieldType.int) 1 := ⟨mc_X2_partsOf, tb2 (j := 49) (by decide +kernel) rfl⟩
theorem mc_X0_orderByNumber : zM0 yX0_orderByNumber cX0_orderByNumber 3 (none) 1 := ⟨tb2 (j := 78) (by decide +kernel) rfl, tb1 (j := 4) (by decide +kernel) rfl, by decide +kernel⟩
theorem in_X0_orderByNumber : Cond.instanceMethod yX0_orderByNumber ∈ zTBL := tb2 (j := 77) (by decide +kernel) rfl
theorem se_X0_orderByNumber : Cond.selects RX0 yX0_orderByNumber yX0_orderByNumber ∈ zTBL := tbp (j := 6) (by decide +kernel) rfl
theorem ml_X0_60 : zM RX0 60 yX0_orderByNumber cX0_orderByNumber 3 (none) 1 := ⟨mc_X0_orderByNumber, tb2 (j := 75) (by decide +kernel) rfl⟩
theorem mc_X0_canPlace : zM0 yX0_canPlace cX0_canPlace 3 (some FieldType.boolean) 1 := ⟨tb2 (j := 67) (by decide +kernel) rfl, tb1 (j := 4) (by decide +kernel) rfl, by decide +kernel⟩
theorem in_X0_canPlace : Cond.instanceMethod yX0_canPlace ∈ zTBL := tb2 (j := 66) (by decide +kernel) rfl
theorem se_X0_canPlace : Cond.selects RX0 yX0_canPlace yX0_canPlace ∈ zTBL := tbp (j := 4) (by decide +kernel) rfl
theorem ml_X0_64 : zM RX0 64 yX0_canPlace cX0_canPlace 3 (some FieldType.boolean) 1 := ⟨mc_X0_canPlace, tb2 (j := 64) (by decide +kernel) rfl⟩
theorem fl_X0_74 : zF RX0 74 6 6 RX2 TX2 7 := ⟨rfl, zi_X2, by decide, rfl, Or.inl (tb1 (j := 67) (by decide +kernel) rfl)⟩
theorem ml_X0_77 : zM RX0 77 yJ6_bitCount_0f7a4 cJ6_bitCount_0f7a4 1 (some FieldType.int) 1 := ⟨mc_J6_bitCount_0f7a4, tb2 (j := 58) (by decide +kernel) rfl⟩
theorem mc_X0_prepare : zM0 yX0_prepare cX0_prepare 5 (none) 3 := ⟨tb2 (j := 28) (by decide +kernel) rfl, tb1 (j := 4) (by decide +kernel) rfl, by decide +kernel⟩
theorem in_X0_prepare : Cond.instanceMethod yX0_prepare ∈ zTBL := tb2 (j := 27) (by decide +kernel) rfl
theorem se_X0_prepare : Cond.selects RX0 yX0_prepare yX0_prepare ∈ zTBL := tbp (j := 0) (by decide +kernel) rfl
theorem ml_X0_82 : zM RX0 82 yX0_prepare cX0_prepare 5 (none) 3 := ⟨mc_X0_prepare, tb2 (j := 25) (by decide +kernel) rfl⟩
theorem ml_X0_86 : zMN RX0 86 yX5_has cX5_has 2 (some FieldType.boolean) 2 := ⟨mc_X5_has, "Doublecoat", nb2 (j := 57) (by decide +kernel) rfl⟩
theorem mc_X2_fillClashes : zM0 yX2_fillClashes cX2_fillClashes 5 (none) 2 := ⟨tb2 (j := 32) (by decide +kernel) rfl, tb1 (j := 2) (by decide +kernel) rfl, by decide +kernel⟩
theorem in_X2_fillClashes : Cond.instanceMethod yX2_fillClashes ∈ zTBL := tb2 (j := 30) (by decide +kernel) rfl
theorem se_X2_fillClashes : Cond.selects RX2 yX2_fillClashes yX2_fillClashes ∈ zTBL := tb2 (j := 31) (by decide +kernel) rfl
theorem ml_X0_90 : zM RX0 90 yX2_fillClashes cX2_fillClashes 5 (none) 2 := ⟨mc_X2_fillClashes, tb2 (j := 29) (by decide +kernel) rfl⟩
theorem fl_X0_94 : zF RX0 94 6 5 RX2 TX2 7 := ⟨rfl, zi_X2, by decide, rfl, Or.inl (tb1 (j := 64) (by decide +kernel) rfl)⟩
theorem fl_X0_97 : zF RX0 97 6 0 RX2 TX2 7 := ⟨rfl, zi_X2, by decide, rfl, Or.inl (tb1 (j := 52) (by decide +kernel) rfl)⟩
theorem ml_X0_100 : zM RX0 100 yX1_ableOfAny cX1_ableOfAny 4 (some FieldType.int) 1 := ⟨mc_X1_ableOfAny, tb2 (j := 44) (by decide +kernel) rfl⟩
theorem mc_X0_orderByChoice : zM0 yX0_orderByChoice cX0_orderByChoice 4 (none) 1 := ⟨tb2 (j := 56) (by decide +kernel) rfl, tb1 (j := 4) (by decide +kernel) rfl, by decide +kernel⟩
theorem in_X0_orderByChoice : Cond.instanceMethod yX0_orderByChoice ∈ zTBL := tb2 (j := 55) (by decide +kernel) rfl
theorem se_X0_orderByChoice : Cond.selects RX0 yX0_orderByChoice yX0_orderByChoice ∈ zTBL := tbp (j := 3) (by decide +kernel) rfl
theorem ml_X0_105 : zM RX0 105 yX0_orderByChoice cX0_orderByChoice 4 (none) 1 := ⟨mc_X0_orderByChoice, tb2 (j := 53) (by decide +kernel) rfl⟩
theorem fl_X0_108 : zF RX0 108 4 8 RX0 TX0 9 := ⟨rfl, zi_X0, by decide, rfl, Or.inl (tb1 (j := 132) (by decide +kernel) rfl)⟩
theorem mc_X0_canPlaceFrom : zM0 yX0_canPlaceFrom cX0_canPlaceFrom 6 (some FieldType.boolean) 3 := ⟨tb2 (j := 70) (by decide +kernel) rfl, tb1 (j := 4) (by decide +kernel) rfl, by decide +kernel⟩
theorem st_X0_canPlaceFrom : Cond.static yX0_canPlaceFrom ∈ zTBL := tb2 (j := 69) (by decide +kernel) rfl
theorem ml_X0_111 : zM RX0 111 yX0_canPlaceFrom cX0_canPlaceFrom 6 (some FieldType.boolean) 3 := ⟨mc_X0_canPlaceFrom, tb2 (j := 68) (by decide +kernel) rfl⟩
theorem fl_X1_9 : zF RX1 9 5 0 RX1 TX1 6 := ⟨rfl, zi_X1, by decide, rfl, Or.inl (tb1 (j := 90) (by decide +kernel) rfl)⟩
theorem fl_X1_15 : zF RX1 15 5 1 RX1 TX1 6 := ⟨rfl, zi_X1, by decide, rfl, Or.inl (tb1 (j := 92) (by decide +kernel) rfl)⟩
theorem fl_X1_18 : zF RX1 18 5 2 RX1 TX1 6 := ⟨rfl, zi_X1, by decide, rfl, Or.inl (tb1 (j := 94) (by decide +kernel) rfl)⟩
theorem fl_X1_21 : zF RX1 21 5 3 RX1 TX1 6 := ⟨rfl, zi_X1, by decide, rfl, Or.inl (tb1 (j := 96) (by decide +kernel) rfl)⟩
theorem fl_X1_24 : zF RX1 24 5 4 RX1 TX1 6 := ⟨rfl, zi_X1, by decide, rfl, Or.inl (tb1 (j := 98) (by decide +kernel) rfl)⟩
theorem fl_X1_28 : zF RX1 28 5 5 RX1 TX1 6 := ⟨rfl, zi_X1, by decide, rfl, Or.inl (tb1 (j := 100) (by decide +kernel) rfl)⟩
theorem ml_X1_31 : zM RX1 31 yJ6_bitCount_0f7a4 cJ6_bitCount_0f7a4 1 (some FieldType.int) 1 := ⟨mc_J6_bitCount_0f7a4, tb3 (j := 237) (by decide +kernel) rfl⟩
theorem ml_X1_37 : zMN RX1 37 yX5_has cX5_has 2 (some FieldType.boolean) 2 := ⟨mc_X5_has, "Doublecoat", nb2 (j := 48) (by decide +kernel) rfl⟩
theorem mc_X1_sharesOf : zM0 yX1_sharesOf cX1_sharesOf 4 (some FieldType.int) 1 := ⟨tb4 (j := 50) (by decide +kernel) rfl, tb1 (j := 3) (by decide +kernel) rfl, by decide +kernel⟩
theorem in_X1_sharesOf : Cond.instanceMethod yX1_sharesOf ∈ zTBL := tb4 (j := 49) (by decide +kernel) rfl
theorem se_X1_sharesOf : Cond.selects RX1 yX1_sharesOf yX1_sharesOf ∈ zTBL := tbp (j := 13) (by decide +kernel) rfl
theorem ml_X1_41 : zM RX1 41 yX1_sharesOf cX1_sharesOf 4 (some FieldType.int) 1 := ⟨mc_X1_sharesOf, tb4 (j := 47) (by decide +kernel) rfl⟩
theorem fl_X2_9 : zF RX2 9 6 0 RX2 TX2 7 := ⟨rfl, zi_X2, by decide, rfl, Or.inl (tb1 (j := 51) (by decide +kernel) rfl)⟩
theorem fl_X2_15 : zF RX2 15 6 1 RX2 TX2 7 := ⟨rfl, zi_X2, by decide, rfl, Or.inl (tb1 (j := 54) (by decide +kernel) rfl)⟩
theorem fl_X2_18 : zF RX2 18 6 2 RX2 TX2 7 := ⟨rfl, zi_X2, by decide, rfl, Or.inl (tb1 (j := 56) (by decide +kernel) rfl)⟩
theorem fl_X2_21 : zF RX2 21 6 3 RX2 TX2 7 := ⟨rfl, zi_X2, by decide, rfl, Or.inl (tb1 (j := 58) (by decide +kernel) rfl)⟩
theorem fl_X2_24 : zF RX2 24 6 4 RX2 TX2 7 := ⟨rfl, zi_X2, by decide, rfl, Or.inl (tb1 (j := 60) (by decide +kernel) rfl)⟩
theorem fl_X2_27 : zF RX2 27 6 5 RX2 TX2 7 := ⟨rfl, zi_X2, by decide, rfl, Or.inl (tb1 (j := 62) (by decide +kernel) rfl)⟩
theorem fl_X2_31 : zF RX2 31 6 6 RX2 TX2 7 := ⟨rfl, zi_X2, by decide, rfl, Or.inl (tb1 (j := 65) (by decide +kernel) rfl)⟩
theorem ml_X2_34 : zMN RX2 34 yX5_has cX5_has 2 (some FieldType.boolean) 2 := ⟨mc_X5_has, "Doublecoat", nb2 (j := 33) (by decide +kernel) rfl⟩
theorem mc_X2_clashTogether : zM0 yX2_clashTogether cX2_clashTogether 4 (none) 2 := ⟨tb2 (j := 39) (by decide +kernel) rfl, tb1 (j := 2) (by decide +kernel) rfl, by decide +kernel⟩
theorem in_X2_clashTogether : Cond.instanceMethod yX2_clashTogether ∈ zTBL := tb2 (j := 38) (by decide +kernel) rfl
theorem se_X2_clashTogether : Cond.selects RX2 yX2_clashTogether yX2_clashTogether ∈ zTBL := tbp (j := 1) (by decide +kernel) rfl
theorem ml_X2_38 : zM RX2 38 yX2_clashTogether cX2_clashTogether 4 (none) 2 := ⟨mc_X2_clashTogether, tb2 (j := 36) (by decide +kernel) rfl⟩
theorem mc_X2_clashInTurn : zM0 yX2_clashInTurn cX2_clashInTurn 6 (none) 3 := ⟨tb2 (j := 43) (by decide +kernel) rfl, tb1 (j := 2) (by decide +kernel) rfl, by decide +kernel⟩
theorem in_X2_clashInTurn : Cond.instanceMethod yX2_clashInTurn ∈ zTBL := tb2 (j := 42) (by decide +kernel) rfl
theorem se_X2_clashInTurn : Cond.selects RX2 yX2_clashInTurn yX2_clashInTurn ∈ zTBL := tbp (j := 2) (by decide +kernel) rfl
theorem ml_X2_42 : zM RX2 42 yX2_clashInTurn cX2_clashInTurn 6 (none) 3 := ⟨mc_X2_clashInTurn, tb2 (j := 40) (by decide +kernel) rfl⟩
theorem fl_X3_9 : zF RX3 9 7 0 RX3 TX3 6 := ⟨rfl, zi_X3, by decide, rfl, Or.inl (tb1 (j := 193) (by decide +kernel) rfl)⟩
theorem fl_X3_15 : zF RX3 15 7 1 RX3 TX3 6 := ⟨rfl, zi_X3, by decide, rfl, Or.inl (tb1 (j := 195) (by decide +kernel) rfl)⟩
theorem fl_X3_18 : zF RX3 18 7 2 RX3 TX3 6 := ⟨rfl, zi_X3, by decide, rfl, Or.inl (tb1 (j := 197) (by decide +kernel) rfl)⟩
theorem fl_X3_21 : zF RX3 21 7 3 RX3 TX3 6 := ⟨rfl, zi_X3, by decide, rfl, Or.inl (tb1 (j := 199) (by decide +kernel) rfl)⟩
theorem fl_X3_26 : zF RX3 26 7 5 RX3 TX3 6 := ⟨rfl, zi_X3, by decide, rfl, Or.inl (tb1 (j := 203) (by decide +kernel) rfl)⟩
theorem fl_X3_29 : zF RX3 29 7 4 RX3 TX3 6 := ⟨rfl, zi_X3, by decide, rfl, Or.inl (tb1 (j := 201) (by decide +kernel) rfl)⟩
theorem mc_X3_measure : zM0 yX3_measure cX3_measure 4 (none) 1 := ⟨tb5 (j := 1) (by decide +kernel) rfl, tb1 (j := 6) (by decide +kernel) rfl, by decide +kernel⟩
theorem in_X3_measure : Cond.instanceMethod yX3_measure ∈ zTBL := tb5 (j := 0) (by decide +kernel) rfl
theorem se_X3_measure : Cond.selects RX3 yX3_measure yX3_measure ∈ zTBL := tbp (j := 17) (by decide +kernel) rfl
theorem ml_X3_33 : zM RX3 33 yX3_measure cX3_measure 4 (none) 1 := ⟨mc_X3_measure, tb4 (j := 238) (by decide +kernel) rfl⟩
theorem ml_X3_37 : zMN RX3 37 yX5_has cX5_has 2 (some FieldType.boolean) 2 := ⟨mc_X5_has, "Doublecoat", nb4 (j := 108) (by decide +kernel) rfl⟩
theorem mc_X3_milesOut : zM0 yX3_milesOut cX3_milesOut 6 (some FieldType.int) 2 := ⟨tb5 (j := 5) (by decide +kernel) rfl, tb1 (j := 6) (by decide +kernel) rfl, by decide +kernel⟩
theorem in_X3_milesOut : Cond.instanceMethod yX3_milesOut ∈ zTBL := tb5 (j := 4) (by decide +kernel) rfl
theorem se_X3_milesOut : Cond.selects RX3 yX3_milesOut yX3_milesOut ∈ zTBL := tbp (j := 18) (by decide +kernel) rfl
theorem ml_X3_41 : zM RX3 41 yX3_milesOut cX3_milesOut 6 (some FieldType.int) 2 := ⟨mc_X3_milesOut, tb5 (j := 2) (by decide +kernel) rfl⟩
theorem ml_X3_45 : zM RX3 45 yX3_milesHome cX3_milesHome 2 (some FieldType.int) 1 := ⟨mc_X3_milesHome, tb5 (j := 6) (by decide +kernel) rfl⟩
theorem ml_X3_49 : zM RX3 49 yJ9_abs_0f7a4 cJ9_abs_0f7a4 1 (some FieldType.int) 1 := ⟨mc_J9_abs_0f7a4, tb5 (j := 7) (by decide +kernel) rfl⟩
theorem ml_X3_54 : zM RX3 54 yX3_takingsOf cX3_takingsOf 4 (some FieldType.int) 1 := ⟨mc_X3_takingsOf, tb4 (j := 104) (by decide +kernel) rfl⟩
theorem fl_X4_9 : zF RX4 9 8 0 RX4 TX4 7 := ⟨rfl, zi_X4, by decide, rfl, Or.inl (tb1 (j := 158) (by decide +kernel) rfl)⟩
theorem fl_X4_15 : zF RX4 15 8 1 RX4 TX4 7 := ⟨rfl, zi_X4, by decide, rfl, Or.inl (tb1 (j := 160) (by decide +kernel) rfl)⟩
theorem fl_X4_18 : zF RX4 18 8 2 RX4 TX4 7 := ⟨rfl, zi_X4, by decide, rfl, Or.inl (tb1 (j := 162) (by decide +kernel) rfl)⟩
theorem fl_X4_21 : zF RX4 21 8 5 RX4 TX4 7 := ⟨rfl, zi_X4, by decide, rfl, Or.inl (tb1 (j := 168) (by decide +kernel) rfl)⟩
theorem fl_X4_24 : zF RX4 24 8 3 RX4 TX4 7 := ⟨rfl, zi_X4, by decide, rfl, Or.inl (tb1 (j := 164) (by decide +kernel) rfl)⟩
theorem fl_X4_28 : zF RX4 28 8 6 RX4 TX4 7 := ⟨rfl, zi_X4, by decide, rfl, Or.inl (tb1 (j := 169) (by decide +kernel) rfl)⟩
theorem ml_X4_31 : zM RX4 31 yJ6_bitCount_0f7a4 cJ6_bitCount_0f7a4 1 (some FieldType.int) 1 := ⟨mc_J6_bitCount_0f7a4, tb4 (j := 67) (by decide +kernel) rfl⟩
theorem mc_X4_wasteOf : zM0 yX4_wasteOf cX4_wasteOf 5 (some FieldType.int) 3 := ⟨tb4 (j := 71) (by decide +kernel) rfl, tb1 (j := 5) (by decide +kernel) rfl, by decide +kernel⟩
theorem in_X4_wasteOf : Cond.instanceMethod yX4_wasteOf ∈ zTBL := tb4 (j := 70) (by decide +kernel) rfl
theorem se_X4_wasteOf : Cond.selects RX4 yX4_wasteOf yX4_wasteOf ∈ zTBL := tbp (j := 15) (by decide +kernel) rfl
theorem ml_X4_37 : zM RX4 37 yX4_wasteOf cX4_wasteOf 5 (some FieldType.int) 3 := ⟨mc_X4_wasteOf, tb4 (j := 68) (by decide +kernel) rfl⟩
theorem ml_X4_41 : zMN RX4 41 yX5_has cX5_has 2 (some FieldType.boolean) 2 := ⟨mc_X5_has, "Doublecoat", nb4 (j := 75) (by decide +kernel) rfl⟩
theorem mc_X4_keepLess : zM0 yX4_keepLess cX4_keepLess 3 (none) 2 := ⟨tb4 (j := 79) (by decide +kernel) rfl, tb1 (j := 5) (by decide +kernel) rfl, by decide +kernel⟩
theorem in_X4_keepLess : Cond.instanceMethod yX4_keepLess ∈ zTBL := tb4 (j := 78) (by decide +kernel) rfl
theorem se_X4_keepLess : Cond.selects RX4 yX4_keepLess yX4_keepLess ∈ zTBL := tbp (j := 16) (by decide +kernel) rfl
theorem ml_X4_45 : zM RX4 45 yX4_keepLess cX4_keepLess 3 (none) 2 := ⟨mc_X4_keepLess, tb4 (j := 76) (by decide +kernel) rfl⟩
theorem ml_X4_49 : zM RX4 49 yJ9_abs_0f7a4 cJ9_abs_0f7a4 1 (some FieldType.int) 1 := ⟨mc_J9_abs_0f7a4, tb4 (j := 72) (by decide +kernel) rfl⟩
theorem fl_X4_54 : zF RX4 54 8 4 RX4 TX4 7 := ⟨rfl, zi_X4, by decide, rfl, Or.inl (tb1 (j := 166) (by decide +kernel) rfl)⟩
theorem ml_L_7 : zM RL 7 yX5_part cX5_part 4 (some FieldType.int) 3 := ⟨mc_X5_part, tb4 (j := 128) (by decide +kernel) rfl⟩
theorem fl_L_13 : zF RL 13 10 0 RX6 TX6 1 := ⟨rfl, zi_X6, by decide, rfl, Or.inr ⟨"DoublecoatLaw", nb4 (j := 119) (by decide +kernel) rfl⟩⟩
theorem ml_L_23 : zM RL 23 yX5_player cX5_player 4 (some FieldType.int) 3 := ⟨mc_X5_player, tb4 (j := 162) (by decide +kernel) rfl⟩
theorem ml_L_26 : zM RL 26 yX5_scene cX5_scene 3 (some FieldType.int) 2 := ⟨mc_X5_scene, tb4 (j := 177) (by decide +kernel) rfl⟩
theorem ml_L_30 : zM RL 30 yX5_pause cX5_pause 4 (some FieldType.int) 2 := ⟨mc_X5_pause, tb4 (j := 189) (by decide +kernel) rfl⟩
theorem ml_L_35 : zM RL 35 yX5_sick cX5_sick 3 (some FieldType.int) 2 := ⟨mc_X5_sick, tb4 (j := 196) (by decide +kernel) rfl⟩
theorem ml_L_39 : zM RL 39 yX5_coat cX5_coat 4 (some FieldType.int) 3 := ⟨mc_X5_coat, tb4 (j := 203) (by decide +kernel) rfl⟩
theorem ml_L_42 : zM RL 42 yX5_pawn cX5_pawn 3 (some FieldType.int) 2 := ⟨mc_X5_pawn, tb4 (j := 214) (by decide +kernel) rfl⟩
theorem ml_L_45 : zM RL 45 yX5_redeem cX5_redeem 4 (some FieldType.int) 2 := ⟨mc_X5_redeem, tb4 (j := 222) (by decide +kernel) rfl⟩
theorem ml_L_48 : zM RL 48 yX5_town cX5_town 4 (some FieldType.int) 3 := ⟨mc_X5_town, tb4 (j := 230) (by decide +kernel) rfl⟩
theorem ml_L_51 : zM RL 51 yX5_night cX5_night 5 (some FieldType.int) 1 := ⟨mc_X5_night, tb5 (j := 11) (by decide +kernel) rfl⟩
theorem ml_L_55 : zM RL 55 yX5_ofPart cX5_ofPart 3 (some FieldType.int) 2 := ⟨mc_X5_ofPart, tb5 (j := 19) (by decide +kernel) rfl⟩
theorem ml_L_58 : zM RL 58 yX5_ofPlayer cX5_ofPlayer 3 (some FieldType.int) 2 := ⟨mc_X5_ofPlayer, tb5 (j := 23) (by decide +kernel) rfl⟩
theorem ml_L_61 : zM RL 61 yX5_ofScene cX5_ofScene 4 (some FieldType.int) 2 := ⟨mc_X5_ofScene, tb5 (j := 27) (by decide +kernel) rfl⟩
theorem ml_L_64 : zM RL 64 yX5_ofCoat cX5_ofCoat 3 (some FieldType.int) 2 := ⟨mc_X5_ofCoat, tb5 (j := 31) (by decide +kernel) rfl⟩
theorem ml_L_67 : zM RL 67 yX5_ofTown cX5_ofTown 3 (some FieldType.int) 2 := ⟨mc_X5_ofTown, tb5 (j := 35) (by decide +kernel) rfl⟩
theorem ml_L_70 : zM RL 70 yX5_house cX5_house 2 (some FieldType.int) 1 := ⟨mc_X5_house, tb5 (j := 39) (by decide +kernel) rfl⟩
theorem ml_L_73 : zM RL 73 yX5_tour cX5_tour 4 (some FieldType.int) 2 := ⟨mc_X5_tour, tb5 (j := 43) (by decide +kernel) rfl⟩
theorem ml_L_76 : zM RL 76 yX5_would cX5_would 2 (some FieldType.int) 1 := ⟨mc_X5_would, tb5 (j := 47) (by decide +kernel) rfl⟩
theorem ml_L_79 : zM RL 79 yX5_without cX5_without 4 (some FieldType.int) 1 := ⟨mc_X5_without, tb5 (j := 54) (by decide +kernel) rfl⟩
theorem ml_L_82 : zM RL 82 yX5_shareOf cX5_shareOf 3 (some FieldType.int) 2 := ⟨mc_X5_shareOf, tb5 (j := 58) (by decide +kernel) rfl⟩
theorem ml_L_85 : zM RL 85 yX5_init cX5_init 1 (none) 0 := ⟨mc_X5_init, tb1 (j := 39) (by decide +kernel) rfl⟩
theorem ml_L_88 : zM RL 88 yX12_init cX12_init 1 (none) 0 := ⟨mc_X12_init, tb5 (j := 61) (by decide +kernel) rfl⟩
theorem mc_X6_init : zM0 yX6_init cX6_init 1 (none) 0 := ⟨tb4 (j := 117) (by decide +kernel) rfl, tb1 (j := 11) (by decide +kernel) rfl, by decide +kernel⟩
theorem in_X6_init : Cond.instanceMethod yX6_init ∈ zTBL := tb4 (j := 116) (by decide +kernel) rfl
theorem ml_L_89 : zMN RL 89 yX6_init cX6_init 1 (none) 0 := ⟨mc_X6_init, "DoublecoatLaw", nb4 (j := 115) (by decide +kernel) rfl⟩
theorem ml_L_95 : zM RL 95 yX12_part cX12_part 5 (some FieldType.int) 3 := ⟨mc_X12_part, tb5 (j := 155) (by decide +kernel) rfl⟩
theorem ml_L_98 : zM RL 98 yX12_player cX12_player 5 (some FieldType.int) 3 := ⟨mc_X12_player, tb5 (j := 238) (by decide +kernel) rfl⟩
theorem ml_L_102 : zM RL 102 yX12_scene cX12_scene 4 (some FieldType.int) 2 := ⟨mc_X12_scene, tb6 (j := 24) (by decide +kernel) rfl⟩
theorem ml_L_105 : zM RL 105 yX12_pause cX12_pause 4 (some FieldType.int) 2 := ⟨mc_X12_pause, tb6 (j := 41) (by decide +kernel) rfl⟩
theorem ml_L_109 : zM RL 109 yX12_sick cX12_sick 3 (some FieldType.int) 2 := ⟨mc_X12_sick, tb6 (j := 61) (by decide +kernel) rfl⟩
theorem ml_L_112 : zM RL 112 yX12_coat cX12_coat 5 (some FieldType.int) 3 := ⟨mc_X12_coat, tb6 (j := 119) (by decide +kernel) rfl⟩
theorem ml_L_115 : zM RL 115 yX12_pawn cX12_pawn 4 (some FieldType.int) 2 := ⟨mc_X12_pawn, tb6 (j := 142) (by decide +kernel) rfl⟩
theorem ml_L_118 : zM RL 118 yX12_redeem cX12_redeem 5 (some FieldType.int) 2 := ⟨mc_X12_redeem, tb6 (j := 150) (by decide +kernel) rfl⟩
theorem ml_L_121 : zM RL 121 yX12_town cX12_town 5 (some FieldType.int) 3 := ⟨mc_X12_town, tb6 (j := 154) (by decide +kernel) rfl⟩
theorem ml_L_125 : zM RL 125 yX12_night cX12_night 5 (some FieldType.int) 1 := ⟨mc_X12_night, tb6 (j := 174) (by decide +kernel) rfl⟩
theorem ml_L_126 : zM RL 126 yX5_knock cX5_knock 1 (some FieldType.int) 0 := ⟨mc_X5_knock, tb2 (j := 5) (by decide +kernel) rfl⟩
theorem ml_L_130 : zM RL 130 yX12_knock cX12_knock 1 (some FieldType.int) 0 := ⟨mc_X12_knock, tb6 (j := 226) (by decide +kernel) rfl⟩
theorem ml_L_133 : zM RL 133 yX12_ofPart cX12_ofPart 3 (some FieldType.int) 2 := ⟨mc_X12_ofPart, tb6 (j := 230) (by decide +kernel) rfl⟩
theorem ml_L_136 : zM RL 136 yX12_ofPlayer cX12_ofPlayer 3 (some FieldType.int) 2 := ⟨mc_X12_ofPlayer, tb7 (j := 10) (by decide +kernel) rfl⟩
theorem ml_L_139 : zM RL 139 yX12_ofScene cX12_ofScene 3 (some FieldType.int) 2 := ⟨mc_X12_ofScene, tb7 (j := 18) (by decide +kernel) rfl⟩
theorem ml_L_142 : zM RL 142 yX12_ofCoat cX12_ofCoat 3 (some FieldType.int) 2 := ⟨mc_X12_ofCoat, tb7 (j := 60) (by decide +kernel) rfl⟩
theorem ml_L_145 : zM RL 145 yX12_ofTown cX12_ofTown 3 (some FieldType.int) 2 := ⟨mc_X12_ofTown, tb7 (j := 68) (by decide +kernel) rfl⟩
theorem ml_L_148 : zM RL 148 yX12_house cX12_house 2 (some FieldType.int) 1 := ⟨mc_X12_house, tb7 (j := 79) (by decide +kernel) rfl⟩
theorem ml_L_149 : zM RL 149 yX5_cast cX5_cast 4 (some (FieldType.object "java/lang/String")) 0 := ⟨mc_X5_cast, tb2 (j := 9) (by decide +kernel) rfl⟩
theorem ml_L_153 : zM RL 153 yX12_cast cX12_cast 1 (some (FieldType.object "java/lang/String")) 0 := ⟨mc_X12_cast, tb7 (j := 99) (by decide +kernel) rfl⟩
theorem ml_L_156 : zM RL 156 yX12_tour cX12_tour 3 (some FieldType.int) 2 := ⟨mc_X12_tour, tb7 (j := 112) (by decide +kernel) rfl⟩
theorem ml_L_159 : zM RL 159 yX12_would cX12_would 2 (some FieldType.int) 1 := ⟨mc_X12_would, tb7 (j := 124) (by decide +kernel) rfl⟩
theorem ml_L_162 : zM RL 162 yX12_without cX12_without 2 (some FieldType.int) 1 := ⟨mc_X12_without, tb7 (j := 128) (by decide +kernel) rfl⟩
theorem ml_L_165 : zM RL 165 yX12_shareOf cX12_shareOf 3 (some FieldType.int) 2 := ⟨mc_X12_shareOf, tb7 (j := 136) (by decide +kernel) rfl⟩
theorem ml_L_166 : zM RL 166 yX5_isSound cX5_isSound 3 (some FieldType.boolean) 0 := ⟨mc_X5_isSound, tb3 (j := 178) (by decide +kernel) rfl⟩
theorem ml_L_170 : zM RL 170 yX12_isSound cX12_isSound 1 (some FieldType.boolean) 0 := ⟨mc_X12_isSound, tb7 (j := 140) (by decide +kernel) rfl⟩
theorem ml_L_171 : zM RL 171 yX5_digest cX5_digest 5 (some FieldType.long) 0 := ⟨mc_X5_digest, tb3 (j := 217) (by decide +kernel) rfl⟩
theorem ml_L_175 : zM RL 175 yX12_digest cX12_digest 3 (some FieldType.long) 0 := ⟨mc_X12_digest, tb7 (j := 148) (by decide +kernel) rfl⟩
end
section
theorem cn_J6_265 : Cond.constant RJ6 265 (1431655765 : Int32) ∈ zTBL := tb2 (j := 61) (by decide +kernel) rfl
theorem cn_J6_266 : Cond.constant RJ6 266 (858993459 : Int32) ∈ zTBL := tb2 (j := 62) (by decide +kernel) rfl
theorem cn_J6_267 : Cond.constant RJ6 267 (252645135 : Int32) ∈ zTBL := tb2 (j := 63) (by decide +kernel) rfl
theorem cn_J2_20 : Cond.constant RJ2 20 (1073741823 : Int32) ∈ zTBL := tb2 (j := 104) (by decide +kernel) rfl
theorem cn_J8_200 : Cond.constant RJ8 200 (2147483639 : Int32) ∈ zTBL := tb2 (j := 144) (by decide +kernel) rfl
theorem cn_J5_39 : Cond.constant RJ5 39 (2147483647 : Int32) ∈ zTBL := tb2 (j := 148) (by decide +kernel) rfl
theorem cn_X5_265 : Cond.constantLong RX5 265 (8117 : Int64) ∈ zTBL := tb3 (j := 221) (by decide +kernel) rfl
theorem cn_X5_267 : Cond.constantLong RX5 267 (31 : Int64) ∈ zTBL := tb3 (j := 222) (by decide +kernel) rfl
theorem cn_J6_264 : Cond.constant RJ6 264 (65536 : Int32) ∈ zTBL := tb7 (j := 53) (by decide +kernel) rfl
theorem cn_X12_331 : Cond.constantLong RX12 331 (8117 : Int64) ∈ zTBL := tb7 (j := 152) (by decide +kernel) rfl
theorem cn_X12_329 : Cond.constantLong RX12 329 (31 : Int64) ∈ zTBL := tb7 (j := 157) (by decide +kernel) rfl
end
section
/-! ===== the class's world: 61 cells from X0 on; their int slots are F k j ===== -/
def fset (F : Nat → Nat → Int32) (k j : Nat) (x : Int32) : Nat → Nat → Int32 := fun k' j' => if k' = k then (if j' = j then x else F k' j') else F k' j'
theorem fset_eq {F : Nat → Nat → Int32} {k j : Nat} {x : Int32} : fset F k j x k j = x := by simp [fset]
theorem fset_ne {F : Nat → Nat → Int32} {k j k' j' : Nat} {x : Int32} (h : k' ≠ k ∨ j' ≠ j) : fset F k j x k' j' = F k' j' := by
  rcases h with h | h
  · simp [fset, h]
  · by_cases hk : k' = k <;> simp [fset, hk, h]
theorem fset_row {F : Nat → Nat → Int32} {k j : Nat} {x : Int32} : fset F k j x k = upd (F k) j x := by
  funext i
  by_cases h : i = j <;> simp [fset, upd, h]
theorem fset_other {F : Nat → Nat → Int32} {k j k' : Nat} {x : Int32} (h : k' ≠ k) : fset F k j x k' = F k' := by
  funext i
  simp [fset, h]
/-- how long the array at place k is -/
def cLen (k : Nat) : Nat := match k with
  | 2 => 7 | 3 => 7 | 4 => 7 | 5 => 6 | 6 => 6 | 8 => 5 | 9 => 5 | 10 => 5 | 11 => 5 | 13 => 5 | 14 => 7 | 15 => 7 | 16 => 7 | 17 => 5 | 19 => 6 | 20 => 6 | 21 => 6 | 22 => 64 | 24 => 5 | 25 => 5 | 26 => 5 | 27 => 32 | _ => 5
/-- the cell at place k, its ints read from f -/
def cCell (g : zG) (X0 k : Nat) (f : Nat → Int32) : va_E := match k with
  | 0 => .inr (9, [.ref (X0 + 1), .ref (X0 + 7), .ref (X0 + 12), .ref (X0 + 18), .ref (X0 + 23), .int (f 5), .int (f 6), .int (f 7), .int (f 8)])
  | 1 => .inr (6, [.ref (X0 + 2), .ref (X0 + 3), .ref (X0 + 4), .ref (X0 + 5), .ref (X0 + 6), .int (f 5), .int (f 6)])
  | 7 => .inr (5, [.ref (X0 + 8), .ref (X0 + 9), .ref (X0 + 10), .ref (X0 + 11), .int (f 4), .int (f 5)])
  | 12 => .inr (4, [.ref (X0 + 13), .int (f 1), .int (f 2), .int (f 3), .ref (X0 + 14), .ref (X0 + 15), .ref (X0 + 16), .ref (X0 + 17), .int (f 8)])
  | 18 => .inr (8, [.ref (X0 + 19), .ref (X0 + 20), .ref (X0 + 21), .int (f 3), .int (f 4), .ref (X0 + 22), .int (f 6)])
  | 23 => .inr (7, [.ref (X0 + 24), .ref (X0 + 25), .ref (X0 + 26), .ref (X0 + 27), .int (f 4), .ref (X0 + 28)])
  | 28 => .inl (g.2.2.2 4, 32, .inr (.inr (.inr (.inr (fun i => if i < 32 then some (X0 + (29 + i)) else none)))))
  | k => .inl (g.2.2.2 0, cLen k, .inl f)
theorem cCell_row (g : zG) (X0 : Nat) {k : Nat} (h : 29 ≤ k) (f : Nat → Int32) : cCell g X0 k f = .inl (g.2.2.2 0, 5, .inl f) := by
  obtain ⟨j, rfl⟩ := Nat.exists_eq_add_of_le h
  have : 29 + j = j + 29 := Nat.add_comm _ _
  rw [this]
  rfl
/-- the class's cells over whatever else there is -/
def cW (g : zG) (X0 : Nat) (F : Nat → Nat → Int32) (σ0 : Nat → Option va_E) : Nat → Option va_E := fun a => if X0 ≤ a ∧ a < X0 + 61 then some (cCell g X0 (a - X0) (F (a - X0))) else σ0 a
theorem cW_at {g : zG} {X0 : Nat} {F : Nat → Nat → Int32} {σ0 : Nat → Option va_E} {k : Nat} (hk : k < 61) : cW g X0 F σ0 (X0 + k) = some (cCell g X0 k (F k)) := by
  unfold cW
  rw [if_pos ⟨by omega, by omega⟩, Nat.add_sub_cancel_left]
theorem cW_out {g : zG} {X0 : Nat} {F : Nat → Nat → Int32} {σ0 : Nat → Option va_E} {a : Nat} (h : a < X0 ∨ X0 + 61 ≤ a) : cW g X0 F σ0 a = σ0 a := by
  unfold cW
  rw [if_neg (by omega)]
theorem cW_set {g : zG} {X0 : Nat} {F : Nat → Nat → Int32} {σ0 : Nat → Option va_E} {k j : Nat} {x : Int32} (hk : k < 61) {e : va_E} (he : cCell g X0 k (upd (F k) j x) = e) : zup (cW g X0 F σ0) (X0 + k) e = cW g X0 (fset F k j x) σ0 := by
  funext a
  by_cases ha : a = X0 + k
  · subst ha
    rw [zup_eq, cW_at hk, fset_row, he]
  · rw [zup_ne ha]
    by_cases h : X0 ≤ a ∧ a < X0 + 61
    · obtain ⟨q, rfl⟩ := Nat.exists_eq_add_of_le h.1
      have hq : q < 61 := by omega
      rw [cW_at hq, cW_at hq, fset_other (by omega)]
    · rw [cW_out (by omega), cW_out (by omega)]
theorem cW_zup {g : zG} {X0 : Nat} {F : Nat → Nat → Int32} {σ0 : Nat → Option va_E} {a : Nat} {e : va_E} (h : a < X0 ∨ X0 + 61 ≤ a) : zup (cW g X0 F σ0) a e = cW g X0 F (zup σ0 a e) := by
  funext b
  by_cases hb : b = a
  · subst hb
    rw [zup_eq, cW_out h, zup_eq]
  · rw [zup_ne hb]
    by_cases h' : X0 ≤ b ∧ b < X0 + 61
    · obtain ⟨q, rfl⟩ := Nat.exists_eq_add_of_le h'.1
      rw [cW_at (by omega), cW_at (by omega)]
    · rw [cW_out (by omega), cW_out (by omega), zup_ne hb]
section CROW
variable {g : zG} {κ : zC} {own : String} {cc : ByteArray} {nL k n t X0 : Nat} {F : Nat → Nat → Int32} {σ0 : Nat → Option va_E} {pc : Nat} {lv : List (Nat × Value)} {rest : List Value}
/-- a field of place q -/
theorem C_getf (X : zX g κ own cc nL) {idx ci j : Nat} {C : String} {T : u_T} {N : Nat} (Z : zF own idx ci j C T N) (q : Nat) (hq : q < 61) {fs : List Value} {v : Value} (he : cCell g X0 q (F q) = .inr (ci, fs)) (hv : fs[j]? = some v) (d : decode cc pc = .ok (.getfield idx, 3)) (kk : V g κ nL k n (t, cW g X0 F σ0) (pc + 3) lv (v :: rest)) : V g κ nL k n (t, cW g X0 F σ0) pc lv (.ref (X0 + q) :: rest) :=
  V_getf X Z (show (t, cW g X0 F σ0).2 (X0 + q) = _ from (cW_at hq).trans (congrArg some he)) hv d kk
theorem C_getfN (X : zX g κ own cc nL) {idx ci j : Nat} {C : String} {T : u_T} {N : Nat} (Z : zF own idx ci j C T N) (q : Nat) (hq : q < 61) {fs : List Value} {y z : Int32} (he : cCell g X0 q (F q) = .inr (ci, fs)) (hv : fs[j]? = some (.int y)) (hz : y = z) (d : decode cc pc = .ok (.getfield idx, 3)) (kk : V g κ nL k n (t, cW g X0 F σ0) (pc + 3) lv (.int z :: rest)) : V g κ nL k n (t, cW g X0 F σ0) pc lv (.ref (X0 + q) :: rest) := by
  subst hz
  exact C_getf X Z q hq he hv d kk
theorem C_putf (X : zX g κ own cc nL) {idx ci j : Nat} {C : String} {T : u_T} {N : Nat} (Z : zF own idx ci j C T N) (Y : zT C T N) (q : Nat) (hq : q < 61) (hX : g.2.1.size ≤ X0) {fs : List Value} {x : Int32} {ty : FieldType} (he : cCell g X0 q (F q) = .inr (ci, fs)) (hl : j < fs.length) (hfin : (T j).2.2.2 = false) (hd : parseFieldDescriptor (T j).2.2.1 = some ty) (hn : narrow ty (.int x) = .int x) (hfit : fits ty (.int x) = true) (hs : cCell g X0 q (upd (F q) j x) = .inr (ci, fs.set j (.int x))) (d : decode cc pc = .ok (.putfield idx, 3)) (kk : ∀ F' : Nat → Nat → Int32, F' = fset F q j x → V g κ nL k n (t, cW g X0 F' σ0) (pc + 3) lv rest) : V g κ nL k n (t, cW g X0 F σ0) pc lv (.int x :: .ref (X0 + q) :: rest) := by
  refine V_putf X Z Y (show (t, cW g X0 F σ0).2 (X0 + q) = _ from (cW_at hq).trans (congrArg some he)) (by omega) hl hfin hd hn hfit d ?_
  show V g κ nL k n (t, zup (cW g X0 F σ0) (X0 + q) (.inr (ci, fs.set j (.int x)))) (pc + 3) lv rest
  rw [cW_set hq hs]
  exact kk _ rfl
/-- an int array at place q, read at i = j -/
theorem C_iald (X : zX g κ own cc nL) (q : Nat) (hq : q < 61) {N : Nat} {i : Int32} (j : Nat) (hi : i = nI j) (hj : j < N) (hN : N < 2 ^ 31) (he : cCell g X0 q (F q) = .inl (g.2.2.2 0, N, .inl (F q))) (d : decode cc pc = .ok (.iaload, 1)) (kk : V g κ nL k n (t, cW g X0 F σ0) (pc + 1) lv (.int (F q j) :: rest)) : V g κ nL k n (t, cW g X0 F σ0) pc lv (.int i :: .ref (X0 + q) :: rest) := by
  subst hi
  refine V_iald X (show (t, cW g X0 F σ0).2 (X0 + q) = _ from (cW_at hq).trans (congrArg some he)) (vp_in_nI hj hN) d ?_
  rw [nI_clamp (by omega)]
  exact kk
theorem C_iast (X : zX g κ own cc nL) (q : Nat) (hq : q < 61) (hX : g.2.1.size ≤ X0) {N : Nat} {i x : Int32} (j : Nat) (hi : i = nI j) (hj : j < N) (hN : N < 2 ^ 31) (he : ∀ f : Nat → Int32, cCell g X0 q f = .inl (g.2.2.2 0, N, .inl f)) (d : decode cc pc = .ok (.iastore, 1)) (kk : ∀ F' : Nat → Nat → Int32, F' = fset F q j x → V g κ nL k n (t, cW g X0 F' σ0) (pc + 1) lv rest) : V g κ nL k n (t, cW g X0 F σ0) pc lv (.int x :: .int i :: .ref (X0 + q) :: rest) := by
  subst hi
  refine V_iast X (show (t, cW g X0 F σ0).2 (X0 + q) = _ from (cW_at hq).trans (congrArg some (he (F q)))) (by omega) (vp_in_nI hj hN) d ?_
  rw [nI_clamp (by omega)]
  show V g κ nL k n (t, zup (cW g X0 F σ0) (X0 + q) (.inl (g.2.2.2 0, N, .inl (upd (F q) j x)))) (pc + 1) lv rest
  rw [cW_set hq (he _)]
  exact kk _ rfl
theorem C_alen (X : zX g κ own cc nL) (q : Nat) (hq : q < 61) {N : Nat} {v : Int32} (he : cCell g X0 q (F q) = .inl (g.2.2.2 0, N, .inl (F q))) (hv : Int32.ofNat N = v) (d : decode cc pc = .ok (.arraylength, 1)) (kk : V g κ nL k n (t, cW g X0 F σ0) (pc + 1) lv (.int v :: rest)) : V g κ nL k n (t, cW g X0 F σ0) pc lv (.ref (X0 + q) :: rest) :=
  V_alen X 0 (show (t, cW g X0 F σ0).2 (X0 + q) = _ from (cW_at hq).trans (congrArg some he)) (by decide) hv d kk
/-- a row of the miles -/
theorem C_row (X : zX g κ own cc nL) {i : Int32} (j : Nat) (hi : i = nI j) (hj : j < 32) (d : decode cc pc = .ok (.aaload, 1)) (kk : V g κ nL k n (t, cW g X0 F σ0) (pc + 1) lv (.ref (X0 + (29 + j)) :: rest)) : V g κ nL k n (t, cW g X0 F σ0) pc lv (.int i :: .ref (X0 + 28) :: rest) := by
  subst hi
  refine V_aald2 X (show (t, cW g X0 F σ0).2 (X0 + 28) = _ from cW_at (k := 28) (by decide)) (vp_in_nI hj (by decide)) ?_ d kk
  rw [nI_clamp (by omega)]
  exact if_pos hj
/-- a call's receiver -/
theorem C_recv {q ci : Nat} (hq : q < 61) {fs : List Value} (he : cCell g X0 q (F q) = .inr (ci, fs)) : (t, cW g X0 F σ0).2 (X0 + q) = some (.inr (ci, fs)) := (cW_at hq).trans (congrArg some he)
end CROW
end
section
/-! ===== rows over whole numbers written nI ===== -/
theorem zinc (a : Nat) : nI a + Int32.ofInt 1 = nI (a + 1) := nI_1 a
theorem nI_bv (a : Nat) : (nI a).toBitVec = BitVec.ofNat 32 a := rfl
theorem nI_orN (a b : Nat) : nI a ||| nI b = nI (a ||| b) := by
  apply Int32.toBitVec_inj.mp
  simp only [Int32.toBitVec_or, nI_bv]
  apply BitVec.eq_of_toNat_eq
  simp [Nat.or_mod_two_pow]
theorem nI_andN (a b : Nat) : nI a &&& nI b = nI (a &&& b) := by
  apply Int32.toBitVec_inj.mp
  simp only [Int32.toBitVec_and, nI_bv]
  apply BitVec.eq_of_toNat_eq
  simp [Nat.and_mod_two_pow]
theorem nI_andX {a : Nat} (ha : a < 2 ^ 31) (x : Int32) : ∃ j, j ≤ a ∧ nI a &&& x = nI j := by
  refine ⟨a &&& x.toBitVec.toNat, Nat.and_le_left, ?_⟩
  apply Int32.toBitVec_inj.mp
  simp only [Int32.toBitVec_and, nI_bv]
  apply BitVec.eq_of_toNat_eq
  simp [Nat.and_mod_two_pow]
theorem nI_shl1 : ∀ k, k < 31 → (nI 1) <<< (nI k &&& 31) = nI (2 ^ k) := by decide +kernel
section NROWS
variable {g : zG} {κ : zC} {own : String} {cc : ByteArray} {nL k n : Nat} {σ : zS} {pc : Nat} {lv : List (Nat × Value)} {rest : List Value} {a b : Nat} {off : Int} {tgt : Nat}
theorem V_icmpeqN (X : zX g κ own cc nL) (ha : a < 2 ^ 31) (hb : b < 2 ^ 31) (d : decode cc pc = .ok (.if_icmp .eq off, 3)) (ht : (pc : Int) + off = (tgt : Int)) (kt : a = b → V g κ nL k n σ tgt lv rest) (kf : a ≠ b → V g κ nL k n σ (pc + 3) lv rest) : V g κ nL k n σ pc lv (.int (nI b) :: .int (nI a) :: rest) := V_icmpeq X d ht (fun h => kt ((nI_eq ha hb).mp h)) (fun h => kf (fun e => h (by rw [e])))
theorem V_icmpneN (X : zX g κ own cc nL) (ha : a < 2 ^ 31) (hb : b < 2 ^ 31) (d : decode cc pc = .ok (.if_icmp .ne off, 3)) (ht : (pc : Int) + off = (tgt : Int)) (kt : a ≠ b → V g κ nL k n σ tgt lv rest) (kf : a = b → V g κ nL k n σ (pc + 3) lv rest) : V g κ nL k n σ pc lv (.int (nI b) :: .int (nI a) :: rest) := V_icmpne X d ht (fun h => kt (fun e => h (by rw [e]))) (fun h => kf ((nI_eq ha hb).mp h))
theorem V_icmpltN (X : zX g κ own cc nL) (ha : a < 2 ^ 31) (hb : b < 2 ^ 31) (d : decode cc pc = .ok (.if_icmp .lt off, 3)) (ht : (pc : Int) + off = (tgt : Int)) (kt : a < b → V g κ nL k n σ tgt lv rest) (kf : b ≤ a → V g κ nL k n σ (pc + 3) lv rest) : V g κ nL k n σ pc lv (.int (nI b) :: .int (nI a) :: rest) := V_icmplt X d ht (fun h => kt ((nI_ltI ha hb).mp h)) (fun h => kf (Nat.not_lt.mp fun q => h ((nI_ltI ha hb).mpr q)))
theorem V_icmpgeN (X : zX g κ own cc nL) (ha : a < 2 ^ 31) (hb : b < 2 ^ 31) (d : decode cc pc = .ok (.if_icmp .ge off, 3)) (ht : (pc : Int) + off = (tgt : Int)) (kt : b ≤ a → V g κ nL k n σ tgt lv rest) (kf : a < b → V g κ nL k n σ (pc + 3) lv rest) : V g κ nL k n σ pc lv (.int (nI b) :: .int (nI a) :: rest) := V_icmpge X d ht (fun h => kt ((nI_leI hb ha).mp h)) (fun h => kf (Nat.not_le.mp fun q => h ((nI_leI hb ha).mpr q)))
theorem V_icmpgtN (X : zX g κ own cc nL) (ha : a < 2 ^ 31) (hb : b < 2 ^ 31) (d : decode cc pc = .ok (.if_icmp .gt off, 3)) (ht : (pc : Int) + off = (tgt : Int)) (kt : b < a → V g κ nL k n σ tgt lv rest) (kf : a ≤ b → V g κ nL k n σ (pc + 3) lv rest) : V g κ nL k n σ pc lv (.int (nI b) :: .int (nI a) :: rest) := V_icmpgt X d ht (fun h => kt ((nI_ltI hb ha).mp h)) (fun h => kf (Nat.not_lt.mp fun q => h ((nI_ltI hb ha).mpr q)))
theorem V_icmpleN (X : zX g κ own cc nL) (ha : a < 2 ^ 31) (hb : b < 2 ^ 31) (d : decode cc pc = .ok (.if_icmp .le off, 3)) (ht : (pc : Int) + off = (tgt : Int)) (kt : a ≤ b → V g κ nL k n σ tgt lv rest) (kf : b < a → V g κ nL k n σ (pc + 3) lv rest) : V g κ nL k n σ pc lv (.int (nI b) :: .int (nI a) :: rest) := V_icmple X d ht (fun h => kt ((nI_leI ha hb).mp h)) (fun h => kf (Nat.not_le.mp fun q => h ((nI_leI ha hb).mpr q)))
theorem V_ifeqN (X : zX g κ own cc nL) (ha : a < 2 ^ 31) (d : decode cc pc = .ok (.ifCond .eq off, 3)) (ht : (pc : Int) + off = (tgt : Int)) (kt : a = 0 → V g κ nL k n σ tgt lv rest) (kf : a ≠ 0 → V g κ nL k n σ (pc + 3) lv rest) : V g κ nL k n σ pc lv (.int (nI a) :: rest) := V_ifeq X d ht (fun h => kt ((nI_eq ha (by decide)).mp (h.trans nI_0.symm))) (fun h => kf (fun e => h (by rw [e]; exact nI_0)))
theorem V_ifneN (X : zX g κ own cc nL) (ha : a < 2 ^ 31) (d : decode cc pc = .ok (.ifCond .ne off, 3)) (ht : (pc : Int) + off = (tgt : Int)) (kt : a ≠ 0 → V g κ nL k n σ tgt lv rest) (kf : a = 0 → V g κ nL k n σ (pc + 3) lv rest) : V g κ nL k n σ pc lv (.int (nI a) :: rest) := V_ifne X d ht (fun h => kt (fun e => h (by rw [e]; exact nI_0))) (fun h => kf ((nI_eq ha (by decide)).mp (h.trans nI_0.symm)))
theorem V_iaddN (X : zX g κ own cc nL) (d : decode cc pc = .ok (.iadd, 1)) (kk : V g κ nL k n σ (pc + 1) lv (.int (nI (a + b)) :: rest)) : V g κ nL k n σ pc lv (.int (nI b) :: .int (nI a) :: rest) := V_iadd X d (by rw [nI_add]; exact kk)
theorem V_isubN (X : zX g κ own cc nL) (h : b ≤ a) (d : decode cc pc = .ok (.isub, 1)) (kk : V g κ nL k n σ (pc + 1) lv (.int (nI (a - b)) :: rest)) : V g κ nL k n σ pc lv (.int (nI b) :: .int (nI a) :: rest) := V_isub X d (by rw [pk_sub h]; exact kk)
theorem V_iorN (X : zX g κ own cc nL) (d : decode cc pc = .ok (.ior, 1)) (kk : V g κ nL k n σ (pc + 1) lv (.int (nI (a ||| b)) :: rest)) : V g κ nL k n σ pc lv (.int (nI b) :: .int (nI a) :: rest) := V_ior X d (by rw [nI_orN]; exact kk)
theorem V_iandL (X : zX g κ own cc nL) {y : Int32} (ha : a < 2 ^ 31) (d : decode cc pc = .ok (.iand, 1)) (kk : ∀ j : Nat, j ≤ a → nI a &&& y = nI j → V g κ nL k n σ (pc + 1) lv (.int (nI j) :: rest)) : V g κ nL k n σ pc lv (.int y :: .int (nI a) :: rest) := by
  obtain ⟨j, h1, h2⟩ := nI_andX ha y
  exact V_iand X d (by rw [h2]; exact kk j h1 h2)
theorem V_ishl1 (X : zX g κ own cc nL) (h : a < 31) (d : decode cc pc = .ok (.ishl, 1)) (kk : V g κ nL k n σ (pc + 1) lv (.int (nI (2 ^ a)) :: rest)) : V g κ nL k n σ pc lv (.int (nI a) :: .int (nI 1) :: rest) := V_ishl X d (by rw [nI_shl1 a h]; exact kk)
end NROWS
end
section
section OROWS
variable {g : zG} {κ : zC} {own : String} {cc : ByteArray} {nL k n : Nat} {σ : zS} {pc : Nat} {lv : List (Nat × Value)} {rest : List Value}
theorem V.topl {x : Int64} (kk : ∀ y : Int64, y = x → V g κ nL k n σ pc lv (.long y :: rest)) : V g κ nL k n σ pc lv (.long x :: rest) := kk x rfl
theorem V_dup2 (X : zX g κ own cc nL) {va vb : Value} (d : decode cc pc = .ok (.dup2, 1)) (ha : va.category = 1) (hb : vb.category = 1) (kk : V g κ nL k n σ (pc + 1) lv (va :: vb :: va :: vb :: rest)) : V g κ nL k n σ pc lv (va :: vb :: rest) := fun H locs ls hR hL hl => lv_dup2_11 X.1 X.2.1 d ha hb (kk H locs ls hR hL hl)
theorem V_ldc2 (X : zX g κ own cc nL) {idx : Nat} {v : Int64} (hw : Cond.constantLong own idx v ∈ zTBL) (d : decode cc pc = .ok (.ldc2_w idx, 3)) (kk : V g κ nL k n σ (pc + 3) lv (.long v :: rest)) : V g κ nL k n σ pc lv rest := fun H locs ls hR hL hl => lv_ldc2 X.1 X.2.1 X.2.2.2.1 (X.2.2.2.2.1 _ hw) d (kk H locs ls hR hL hl)
theorem V_tableIn (X : zX g κ own cc nL) {dflt lo hi : Int} {offs : Array Int} {len : Nat} {x : Int32} {off : Int} {tgt : Nat} (d : decode cc pc = .ok (.tableswitch dflt lo hi offs, len)) (h1 : ¬ x.toInt < lo) (h2 : ¬ hi < x.toInt) (ho : offs[(x.toInt - lo).toNat]? = some off) (ht : (pc : Int) + off = (tgt : Int)) (kk : V g κ nL k n σ tgt lv rest) : V g κ nL k n σ pc lv (.int x :: rest) := fun H locs ls hR hL hl => lv_tableIn X.1 X.2.1 d h1 h2 ho ht (kk H locs ls hR hL hl)
theorem V_tableOut (X : zX g κ own cc nL) {dflt lo hi : Int} {offs : Array Int} {len : Nat} {x : Int32} {tgt : Nat} (d : decode cc pc = .ok (.tableswitch dflt lo hi offs, len)) (h : x.toInt < lo ∨ hi < x.toInt) (ht : (pc : Int) + dflt = (tgt : Int)) (kk : V g κ nL k n σ tgt lv rest) : V g κ nL k n σ pc lv (.int x :: rest) := fun H locs ls hR hL hl => lv_tableOut X.1 X.2.1 d h ht (kk H locs ls hR hL hl)
theorem V_iushr (X : zX g κ own cc nL) {x y : Int32} (d : decode cc pc = .ok (.iushr, 1)) (kk : V g κ nL k n σ (pc + 1) lv (.int (x.toUInt32 >>> (y.toUInt32 &&& Int32.toUInt32 31)).toInt32 :: rest)) : V g κ nL k n σ pc lv (.int y :: .int x :: rest) := fun H locs ls hR hL hl => lv_iushr X.1 X.2.1 d rfl (kk H locs ls hR hL hl)
theorem V_ldc (X : zX g κ own cc nL) {idx : Nat} {v : Int32} (hw : Cond.constant own idx v ∈ zTBL) (d : decode cc pc = .ok (.ldc idx, 2)) (kk : V g κ nL k n σ (pc + 2) lv (.int v :: rest)) : V g κ nL k n σ pc lv rest := fun H locs ls hR hL hl => lv_ldc X.1 X.2.1 X.2.2.2.1 (X.2.2.2.2.1 _ hw) d (kk H locs ls hR hL hl)
theorem V_ldcw (X : zX g κ own cc nL) {idx : Nat} {v : Int32} (hw : Cond.constant own idx v ∈ zTBL) (d : decode cc pc = .ok (.ldc_w idx, 3)) (kk : V g κ nL k n σ (pc + 3) lv (.int v :: rest)) : V g κ nL k n σ pc lv rest := fun H locs ls hR hL hl => lv_ldcw X.1 X.2.1 X.2.2.2.1 (X.2.2.2.2.1 _ hw) d (kk H locs ls hR hL hl)
end OROWS
end
section
/-! ===== what holds of the class's world between calls; scratch ===== -/
def scr (k j : Nat) : Bool := decide ((12 ≤ k ∧ k ≤ 17) ∨ k = 22 ∨ (k = 18 ∧ j = 6) ∨ k = 27 ∨ 29 ≤ k)
theorem zscr {k j : Nat} (h : (12 ≤ k ∧ k ≤ 17) ∨ k = 22 ∨ (k = 18 ∧ j = 6) ∨ k = 27 ∨ 29 ≤ k) : scr k j = true := decide_eq_true h
/-- F is F0 but for scratch -/
def cJ (F0 F : Nat → Nat → Int32) : Prop := ∀ k j : Nat, scr k j = false → F k j = F0 k j
theorem cJ.rfl' {F : Nat → Nat → Int32} : cJ F F := fun _ _ _ => rfl
theorem cJ.trans {F G H : Nat → Nat → Int32} (h1 : cJ F G) (h2 : cJ G H) : cJ F H := fun k j h => (h2 k j h).trans (h1 k j h)
theorem cJ.set {F0 F F' : Nat → Nat → Int32} {k j : Nat} {x : Int32} (h : cJ F0 F) (hF : F' = fset F k j x) (hs : scr k j = true) : cJ F0 F' := fun a b hab => by
  rw [hF, fset_ne ?_, h a b hab]
  by_cases h1 : a = k
  · by_cases h2 : b = j
    · subst h1; subst h2; rw [hs] at hab; cases hab
    · exact Or.inr h2
  · exact Or.inl h1
def cI (nP nS nA nC nT : Nat) (F : Nat → Nat → Int32) : Prop := nP ≤ 7 ∧ nS ≤ 6 ∧ nA ≤ 5 ∧ nC ≤ 6 ∧ nT ≤ 5 ∧ F 1 5 = nI nP ∧ F 1 6 = nI nS ∧ F 7 4 = nI nA ∧ F 18 3 = nI nC ∧ F 23 4 = nI nT ∧ ∀ s, s < nS → ∃ m, m < 128 ∧ F 5 s = nI m
section CI
variable {nP nS nA nC nT : Nat} {F0 F : Nat → Nat → Int32}
theorem cI.mv (h : cI nP nS nA nC nT F0) (hJ : cJ F0 F) : cI nP nS nA nC nT F := by
  obtain ⟨a, b, c, d, e, f1, f2, f3, f4, f5, f6⟩ := h
  refine ⟨a, b, c, d, e, (hJ 1 5 rfl).trans f1, (hJ 1 6 rfl).trans f2, (hJ 7 4 rfl).trans f3, (hJ 18 3 rfl).trans f4, (hJ 23 4 rfl).trans f5, fun s hs => ?_⟩
  obtain ⟨m, h1, h2⟩ := f6 s hs
  exact ⟨m, h1, (hJ 5 s (by simp [scr])).trans h2⟩
theorem cI.bnd (h : cI nP nS nA nC nT F) : nP ≤ 7 ∧ nS ≤ 6 ∧ nA ≤ 5 ∧ nC ≤ 6 ∧ nT ≤ 5 := ⟨h.1, h.2.1, h.2.2.1, h.2.2.2.1, h.2.2.2.2.1⟩
theorem cI.f1_5 (h : cI nP nS nA nC nT F) : F 1 5 = nI nP := h.2.2.2.2.2.1
theorem cI.f1_6 (h : cI nP nS nA nC nT F) : F 1 6 = nI nS := h.2.2.2.2.2.2.1
theorem cI.f7_4 (h : cI nP nS nA nC nT F) : F 7 4 = nI nA := h.2.2.2.2.2.2.2.1
theorem cI.f18_3 (h : cI nP nS nA nC nT F) : F 18 3 = nI nC := h.2.2.2.2.2.2.2.2.1
theorem cI.f23_4 (h : cI nP nS nA nC nT F) : F 23 4 = nI nT := h.2.2.2.2.2.2.2.2.2.1
theorem cI.sp (h : cI nP nS nA nC nT F) : ∀ s, s < nS → ∃ m, m < 128 ∧ F 5 s = nI m := h.2.2.2.2.2.2.2.2.2.2
def crit (k j : Nat) : Bool := decide (k = 5 ∨ (k = 1 ∧ (j = 5 ∨ j = 6)) ∨ (k = 7 ∧ j = 4) ∨ (k = 18 ∧ j = 3) ∨ (k = 23 ∧ j = 4))
theorem cI.st {F' : Nat → Nat → Int32} {k j : Nat} {x : Int32} (h : cI nP nS nA nC nT F) (hF : F' = fset F k j x) (hc : crit k j = false) : cI nP nS nA nC nT F' := by
  obtain ⟨a, b, c, d, e, f1, f2, f3, f4, f5, f6⟩ := h
  have hk := of_decide_eq_false hc
  have o : ∀ k' j' : Nat, (k' ≠ k ∨ j' ≠ j) → F' k' j' = F k' j' := fun k' j' h => by rw [hF, fset_ne h]
  refine ⟨a, b, c, d, e, (o 1 5 (by omega)).trans f1, (o 1 6 (by omega)).trans f2, (o 7 4 (by omega)).trans f3, (o 18 3 (by omega)).trans f4, (o 23 4 (by omega)).trans f5, fun s hs => ?_⟩
  obtain ⟨m, h1, h2⟩ := f6 s hs
  exact ⟨m, h1, (o 5 s (by omega)).trans h2⟩
theorem cI.st5 {F' : Nat → Nat → Int32} {x : Int32} (h : cI nP nS nA nC nT F) (hF : F' = fset F 5 nS x) : cI nP nS nA nC nT F' := by
  obtain ⟨a, b, c, d, e, f1, f2, f3, f4, f5, f6⟩ := h
  have o : ∀ k' j' : Nat, (k' ≠ 5 ∨ j' ≠ nS) → F' k' j' = F k' j' := fun k' j' h => by rw [hF, fset_ne h]
  refine ⟨a, b, c, d, e, (o 1 5 (by omega)).trans f1, (o 1 6 (by omega)).trans f2, (o 7 4 (by omega)).trans f3, (o 18 3 (by omega)).trans f4, (o 23 4 (by omega)).trans f5, fun s hs => ?_⟩
  obtain ⟨m, h1, h2⟩ := f6 s hs
  exact ⟨m, h1, (o 5 s (by omega)).trans h2⟩
theorem cI.incP {F' : Nat → Nat → Int32} (h : cI nP nS nA nC nT F) (hF : F' = fset F 1 5 (nI (nP + 1))) (hp : nP + 1 ≤ 7) : cI (nP + 1) nS nA nC nT F' := by
  obtain ⟨a, b, c, d, e, f1, f2, f3, f4, f5, f6⟩ := h
  have o : ∀ k' j' : Nat, (k' ≠ 1 ∨ j' ≠ 5) → F' k' j' = F k' j' := fun k' j' h => by rw [hF, fset_ne h]
  refine ⟨hp, b, c, d, e, by rw [hF, fset_eq], (o 1 6 (by omega)).trans f2, (o 7 4 (by omega)).trans f3, (o 18 3 (by omega)).trans f4, (o 23 4 (by omega)).trans f5, fun s hs => ?_⟩
  obtain ⟨m, h1, h2⟩ := f6 s hs
  exact ⟨m, h1, (o 5 s (by omega)).trans h2⟩
theorem cI.incS {F' : Nat → Nat → Int32} (h : cI nP nS nA nC nT F) (hF : F' = fset F 1 6 (nI (nS + 1))) (hp : nS + 1 ≤ 6) (h5 : ∃ m, m < 128 ∧ F 5 nS = nI m) : cI nP (nS + 1) nA nC nT F' := by
  obtain ⟨a, b, c, d, e, f1, f2, f3, f4, f5, f6⟩ := h
  have o : ∀ k' j' : Nat, (k' ≠ 1 ∨ j' ≠ 6) → F' k' j' = F k' j' := fun k' j' h => by rw [hF, fset_ne h]
  refine ⟨a, hp, c, d, e, (o 1 5 (by omega)).trans f1, by rw [hF, fset_eq], (o 7 4 (by omega)).trans f3, (o 18 3 (by omega)).trans f4, (o 23 4 (by omega)).trans f5, fun s hs => ?_⟩
  by_cases hs' : s = nS
  · subst hs'
    obtain ⟨m, h1, h2⟩ := h5
    exact ⟨m, h1, (o 5 s (by omega)).trans h2⟩
  · obtain ⟨m, h1, h2⟩ := f6 s (by omega)
    exact ⟨m, h1, (o 5 s (by omega)).trans h2⟩
theorem cI.incA {F' : Nat → Nat → Int32} (h : cI nP nS nA nC nT F) (hF : F' = fset F 7 4 (nI (nA + 1))) (hp : nA + 1 ≤ 5) : cI nP nS (nA + 1) nC nT F' := by
  obtain ⟨a, b, c, d, e, f1, f2, f3, f4, f5, f6⟩ := h
  have o : ∀ k' j' : Nat, (k' ≠ 7 ∨ j' ≠ 4) → F' k' j' = F k' j' := fun k' j' h => by rw [hF, fset_ne h]
  refine ⟨a, b, hp, d, e, (o 1 5 (by omega)).trans f1, (o 1 6 (by omega)).trans f2, by rw [hF, fset_eq], (o 18 3 (by omega)).trans f4, (o 23 4 (by omega)).trans f5, fun s hs => ?_⟩
  obtain ⟨m, h1, h2⟩ := f6 s hs
  exact ⟨m, h1, (o 5 s (by omega)).trans h2⟩
theorem cI.incC {F' : Nat → Nat → Int32} (h : cI nP nS nA nC nT F) (hF : F' = fset F 18 3 (nI (nC + 1))) (hp : nC + 1 ≤ 6) : cI nP nS nA (nC + 1) nT F' := by
  obtain ⟨a, b, c, d, e, f1, f2, f3, f4, f5, f6⟩ := h
  have o : ∀ k' j' : Nat, (k' ≠ 18 ∨ j' ≠ 3) → F' k' j' = F k' j' := fun k' j' h => by rw [hF, fset_ne h]
  refine ⟨a, b, c, hp, e, (o 1 5 (by omega)).trans f1, (o 1 6 (by omega)).trans f2, (o 7 4 (by omega)).trans f3, by rw [hF, fset_eq], (o 23 4 (by omega)).trans f5, fun s hs => ?_⟩
  obtain ⟨m, h1, h2⟩ := f6 s hs
  exact ⟨m, h1, (o 5 s (by omega)).trans h2⟩
theorem cI.incT {F' : Nat → Nat → Int32} (h : cI nP nS nA nC nT F) (hF : F' = fset F 23 4 (nI (nT + 1))) (hp : nT + 1 ≤ 5) : cI nP nS nA nC (nT + 1) F' := by
  obtain ⟨a, b, c, d, e, f1, f2, f3, f4, f5, f6⟩ := h
  have o : ∀ k' j' : Nat, (k' ≠ 23 ∨ j' ≠ 4) → F' k' j' = F k' j' := fun k' j' h => by rw [hF, fset_ne h]
  refine ⟨a, b, c, d, hp, (o 1 5 (by omega)).trans f1, (o 1 6 (by omega)).trans f2, (o 7 4 (by omega)).trans f3, (o 18 3 (by omega)).trans f4, by rw [hF, fset_eq], fun s hs => ?_⟩
  obtain ⟨m, h1, h2⟩ := f6 s hs
  exact ⟨m, h1, (o 5 s (by omega)).trans h2⟩
end CI
theorem zor {n a c : Nat} (ha : a < 2 ^ n) (hc : c < n) : a ||| 2 ^ c < 2 ^ n := Nat.or_lt_two_pow ha (Nat.pow_lt_pow_right (by decide) hc)
theorem zp2 {a n : Nat} (h : a ≤ n) : 2 ^ a ≤ 2 ^ n := Nat.pow_le_pow_right (by decide) h
/-! ends of methods -/
def zNo : String → zS → Prop := fun _ _ => False
def pI (v : Option Value) : Prop := ∃ x : Int32, v = some (.int x)
def pB (v : Option Value) : Prop := ∃ x : Int32, v = some (.int x) ∧ (x = 0 ∨ x = 1)
def pV (v : Option Value) : Prop := v = none
/-- a number below b -/
def pN (b : Nat) (v : Option Value) : Prop := ∃ x : Nat, x < b ∧ v = some (.int (nI x))
/-- none, or a number below b -/
def pO (b : Nat) (v : Option Value) : Prop := v = some (.int (-1)) ∨ ∃ x : Nat, x < b ∧ v = some (.int (nI x))
def qR (P : Option Value → Prop) (σ : zS) : Option Value → zS → Prop := fun v σ' => P v ∧ σ' = σ
def qS (P : Option Value → Prop) (g : zG) (t X0 : Nat) (F : Nat → Nat → Int32) (σ0 : Nat → Option va_E) : Option Value → zS → Prop := fun v σ' => P v ∧ ∃ F' : Nat → Nat → Int32, σ' = (t, cW g X0 F' σ0) ∧ cJ F F'
theorem zbool {x : Int32} (h : x = 0 ∨ x = 1) : narrow .boolean (.int x) = .int x := by
  rcases h with rfl | rfl <;> rfl
theorem z01_0 : nI 0 = 0 ∨ nI 0 = 1 := Or.inl (by decide)
theorem z01_1 : nI 1 = 0 ∨ nI 1 = 1 := Or.inr (by decide)
end
section
/-! ===== the order in which parts are placed ===== -/
/-- at most b of them, each a part -/
def cOb (b : Nat) (F : Nat → Nat → Int32) : Prop := ∃ m, m ≤ b ∧ F 12 8 = nI m ∧ ∀ j, j < m → ∃ p, p < 7 ∧ F 16 j = nI p
theorem cOb.zero {F F' : Nat → Nat → Int32} (h : F' = fset F 12 8 (nI 0)) : cOb 0 F' := ⟨0, Nat.le_refl _, by rw [h, fset_eq], fun j hj => absurd hj (Nat.not_lt_zero j)⟩
theorem cOb.mono {a b : Nat} {F : Nat → Nat → Int32} (h : cOb a F) (hab : a ≤ b) : cOb b F := by
  obtain ⟨m, h1, h2, h3⟩ := h
  exact ⟨m, Nat.le_trans h1 hab, h2, h3⟩
theorem cOb.keep {b : Nat} {F F' : Nat → Nat → Int32} {k j : Nat} {x : Int32} (h : cOb b F) (hF : F' = fset F k j x) (hk : k ≠ 16 ∧ k ≠ 12) : cOb b F' := by
  obtain ⟨m, h1, h2, h3⟩ := h
  refine ⟨m, h1, by rw [hF, fset_ne (Or.inl (Ne.symm hk.2))]; exact h2, fun i hi => ?_⟩
  obtain ⟨p, hp, e⟩ := h3 i hi
  exact ⟨p, hp, by rw [hF, fset_ne (Or.inl (Ne.symm hk.1))]; exact e⟩
theorem zord {F F2 F3 : Nat → Nat → Int32} {m p : Nat} (h3 : ∀ j, j < m → ∃ p, p < 7 ∧ F 16 j = nI p) (e2 : F2 = fset F 16 m (nI p)) (hp : p < 7) (e3 : F3 = fset F2 12 8 (nI (m + 1))) : F3 12 8 = nI (m + 1) ∧ ∀ j, j < m + 1 → ∃ p, p < 7 ∧ F3 16 j = nI p := by
  refine ⟨by rw [e3, fset_eq], fun j hj => ?_⟩
  by_cases h : j = m
  · subst h
    exact ⟨p, hp, by rw [e3, fset_ne (Or.inl (by decide)), e2, fset_eq]⟩
  · obtain ⟨q, hq, e⟩ := h3 j (by omega)
    exact ⟨q, hq, by rw [e3, fset_ne (Or.inl (by decide)), e2, fset_ne (Or.inr h)]; exact e⟩
theorem cOb.step {b m p : Nat} {F F2 F3 : Nat → Nat → Int32} (h1 : m ≤ b) (h3 : ∀ j, j < m → ∃ p, p < 7 ∧ F 16 j = nI p) (e2 : F2 = fset F 16 m (nI p)) (hp : p < 7) (e3 : F3 = fset F2 12 8 (nI (m + 1))) : cOb (b + 1) F3 := ⟨m + 1, by omega, (zord h3 e2 hp e3).1, (zord h3 e2 hp e3).2⟩
/-- how many bits are set, as the JDK reckons it -/
def zbc (i : Int32) : Int32 :=
  let u := fun (x : Int32) (n : Nat) => (x.toUInt32 >>> ((nI n).toUInt32 &&& Int32.toUInt32 31)).toInt32
  let a := i - ((u i 1) &&& 1431655765)
  let b := (a &&& 858993459) + ((u a 2) &&& 858993459)
  let c := (b + u b 4) &&& 252645135
  let d := c + u c 8
  let e := d + u d 16
  e &&& nI 63
/-- which choice a part falls under -/
def zkf (f : Nat → Int32) (p : Nat) : Nat := if zbc (f p) = nI 0 then 0 else if zbc (f p) = nI 1 then 1 else if zbc (f p) = nI 2 then 2 else if zbc (f p) = nI 3 then 3 else if zbc (f p) = nI 4 then 4 else if zbc (f p) = nI 5 then 5 else 6
theorem zkf_of {f : Nat → Int32} {p c : Nat} (hc : c < 6) (h : zbc (f p) = nI c) : zkf f p = c := by
  unfold zkf
  rw [h]
  match c, hc with
  | 0, _ => rfl
  | 1, _ => rfl
  | 2, _ => rfl
  | 3, _ => rfl
  | 4, _ => rfl
  | 5, _ => rfl
  | i + 6, h => exact absurd h (by omega)
def zb1 (k c i p : Nat) : Nat := if c < k ∨ (c = k ∧ i ≤ p) then 1 else 0
theorem zb1_le (k c i p : Nat) : zb1 k c (i + 1) p ≤ zb1 k c i p := by
  unfold zb1
  by_cases h : c < k ∨ (c = k ∧ i + 1 ≤ p)
  · rw [if_pos h, if_pos (by omega)]; exact Nat.le_refl _
  · rw [if_neg h]; exact Nat.zero_le _
theorem zb1_st {k c i : Nat} (h : k = c) : zb1 k c (i + 1) i = 0 ∧ zb1 k c i i = 1 := by
  unfold zb1
  exact ⟨if_neg (by omega), if_pos (by omega)⟩
theorem zb1_nx (k c p : Nat) (hp : p < 7) : zb1 k (c + 1) 0 p ≤ zb1 k c 7 p := by
  unfold zb1
  by_cases h : c + 1 < k ∨ (c + 1 = k ∧ 0 ≤ p)
  · rw [if_pos h, if_pos (by omega)]; exact Nat.le_refl _
  · rw [if_neg h]; exact Nat.zero_le _
theorem zb1_01 (k c i p : Nat) : zb1 k c i p ≤ 1 := by
  unfold zb1
  by_cases h : c < k ∨ (c = k ∧ i ≤ p)
  · rw [if_pos h]; exact Nat.le_refl _
  · rw [if_neg h]; exact Nat.zero_le _
def zrm (k : Nat → Nat) (c i : Nat) : Nat := zb1 (k 0) c i 0 + zb1 (k 1) c i 1 + zb1 (k 2) c i 2 + zb1 (k 3) c i 3 + zb1 (k 4) c i 4 + zb1 (k 5) c i 5 + zb1 (k 6) c i 6
theorem zrm_top (k : Nat → Nat) : zrm k 0 0 ≤ 7 := by
  unfold zrm
  have := zb1_01 (k 0) 0 0 0; have := zb1_01 (k 1) 0 0 1; have := zb1_01 (k 2) 0 0 2; have := zb1_01 (k 3) 0 0 3; have := zb1_01 (k 4) 0 0 4; have := zb1_01 (k 5) 0 0 5; have := zb1_01 (k 6) 0 0 6
  omega
theorem zrm_le (k : Nat → Nat) (c i : Nat) : zrm k c (i + 1) ≤ zrm k c i := by
  unfold zrm
  have := zb1_le (k 0) c i 0; have := zb1_le (k 1) c i 1; have := zb1_le (k 2) c i 2; have := zb1_le (k 3) c i 3; have := zb1_le (k 4) c i 4; have := zb1_le (k 5) c i 5; have := zb1_le (k 6) c i 6
  omega
theorem zrm_st {k : Nat → Nat} {c i : Nat} (h : k i = c) (hi : i < 7) : zrm k c (i + 1) + 1 ≤ zrm k c i := by
  unfold zrm
  have := zb1_le (k 0) c i 0; have := zb1_le (k 1) c i 1; have := zb1_le (k 2) c i 2; have := zb1_le (k 3) c i 3; have := zb1_le (k 4) c i 4; have := zb1_le (k 5) c i 5; have := zb1_le (k 6) c i 6
  have hs := zb1_st (i := i) h
  match i, hi with
  | 0, _ => omega
  | 1, _ => omega
  | 2, _ => omega
  | 3, _ => omega
  | 4, _ => omega
  | 5, _ => omega
  | 6, _ => omega
  | j + 7, h => exact absurd h (by omega)
theorem zrm_nx (k : Nat → Nat) (c : Nat) : zrm k (c + 1) 0 ≤ zrm k c 7 := by
  unfold zrm
  have := zb1_nx (k 0) c 0 (by decide); have := zb1_nx (k 1) c 1 (by decide); have := zb1_nx (k 2) c 2 (by decide); have := zb1_nx (k 3) c 3 (by decide); have := zb1_nx (k 4) c 4 (by decide); have := zb1_nx (k 5) c 5 (by decide); have := zb1_nx (k 6) c 6 (by decide)
  omega
/-- so many as have come so far, by choices -/
def cOc (c i : Nat) (F : Nat → Nat → Int32) : Prop := ∃ m, m + zrm (zkf (F 14)) c i ≤ 7 ∧ F 12 8 = nI m ∧ ∀ j, j < m → ∃ p, p < 7 ∧ F 16 j = nI p
theorem cOc.zero {F F' : Nat → Nat → Int32} (h : F' = fset F 12 8 (nI 0)) : cOc 0 0 F' := ⟨0, by rw [Nat.zero_add]; exact zrm_top _, by rw [h, fset_eq], fun j hj => absurd hj (Nat.not_lt_zero j)⟩
theorem cOc.skip {c i : Nat} {F : Nat → Nat → Int32} (h : cOc c i F) : cOc c (i + 1) F := by
  obtain ⟨m, h1, h2⟩ := h
  exact ⟨m, Nat.le_trans (Nat.add_le_add_left (zrm_le _ _ _) _) h1, h2⟩
theorem cOc.next {c : Nat} {F : Nat → Nat → Int32} (h : cOc c 7 F) : cOc (c + 1) 0 F := by
  obtain ⟨m, h1, h2⟩ := h
  exact ⟨m, Nat.le_trans (Nat.add_le_add_left (zrm_nx _ _) _) h1, h2⟩
theorem cOc.done {c i : Nat} {F : Nat → Nat → Int32} (h : cOc c i F) : cOb 7 F := by
  obtain ⟨m, h1, h2⟩ := h
  exact ⟨m, by omega, h2⟩
theorem cOc.step {c i m : Nat} {F F2 F3 : Nat → Nat → Int32} (h1 : m + zrm (zkf (F 14)) c i ≤ 7) (h3 : ∀ j, j < m → ∃ p, p < 7 ∧ F 16 j = nI p) (e2 : F2 = fset F 16 m (nI i)) (hi : i < 7) (e3 : F3 = fset F2 12 8 (nI (m + 1))) (hc : c < 6) (hb : zbc (F 14 i) = nI c) : cOc c (i + 1) F3 := by
  refine ⟨m + 1, ?_, (zord h3 e2 hi e3).1, (zord h3 e2 hi e3).2⟩
  have e : F3 14 = F 14 := by rw [e3, fset_other (by decide), e2, fset_other (by decide)]
  rw [e]
  have := zrm_st (k := zkf (F 14)) (zkf_of hc hb) hi
  omega
theorem cOc.lt {c i m : Nat} {F : Nat → Nat → Int32} (h1 : m + zrm (zkf (F 14)) c i ≤ 7) (hi : i < 7) (hc : c < 6) (hb : zbc (F 14 i) = nI c) : m < 7 := by
  have := zrm_st (k := zkf (F 14)) (zkf_of hc hb) hi
  omega
def qC (P : Option Value → Prop) (g : zG) (t X0 : Nat) (F : Nat → Nat → Int32) (σ0 : Nat → Option va_E) : Option Value → zS → Prop := fun v σ' => P v ∧ ∃ F' : Nat → Nat → Int32, σ' = (t, cW g X0 F' σ0) ∧ cJ F F' ∧ cOb 7 F'
/-! a whole row written anew -/
def frow (F : Nat → Nat → Int32) (k : Nat) (f : Nat → Int32) : Nat → Nat → Int32 := fun k' => if k' = k then f else F k'
theorem frow_eq {F : Nat → Nat → Int32} {k : Nat} {f : Nat → Int32} : frow F k f k = f := if_pos rfl
theorem frow_ne {F : Nat → Nat → Int32} {k k' : Nat} {f : Nat → Int32} (h : k' ≠ k) : frow F k f k' = F k' := if_neg h
theorem cJ.row {F0 F F' : Nat → Nat → Int32} {k : Nat} {f : Nat → Int32} (h : cJ F0 F) (hF : F' = frow F k f) (hs : ∀ j, scr k j = true) : cJ F0 F' := fun a b hab => by
  by_cases h1 : a = k
  · subst h1; rw [hs] at hab; cases hab
  · rw [hF, frow_ne h1, h a b hab]
theorem cW_row {g : zG} {X0 : Nat} {F : Nat → Nat → Int32} {σ0 : Nat → Option va_E} {k : Nat} {f : Nat → Int32} (hk : k < 61) {e : va_E} (he : cCell g X0 k f = e) : zup (cW g X0 F σ0) (X0 + k) e = cW g X0 (frow F k f) σ0 := by
  funext a
  by_cases ha : a = X0 + k
  · subst ha
    rw [zup_eq, cW_at hk, frow_eq, he]
  · rw [zup_ne ha]
    by_cases h : X0 ≤ a ∧ a < X0 + 61
    · obtain ⟨q, rfl⟩ := Nat.exists_eq_add_of_le h.1
      rw [cW_at (by omega), cW_at (by omega), frow_ne (by omega)]
    · rw [cW_out (by omega), cW_out (by omega)]
end
section
section MROWS
variable {g : zG} {κ : zC} {own : String} {cc : ByteArray} {nL k n : Nat} {σ : zS} {pc : Nat} {lv : List (Nat × Value)} {rest : List Value}
theorem V_mabs (X : zX g κ own cc nL) {dd mc0 ms0 : Nat} (Hh : zH κ dd mc0 ms0) (hk : k ≤ mc0) (hn : n ≤ ms0) (hd : 1 ≤ dd) {y : MethodName} {cc' : ByteArray} {idx np : Nat} (M : zM own idx y cc' 1 (some .int) np) (hst : Cond.static y ∈ zTBL) (hy : y = Lib.Math.abs.name) (hc : cc' = Lib.Math.abs.code) (hw : (rest.map fun v => v.category).sum ≤ 8) {x : Int32} (d : decode cc pc = .ok (.invokestatic idx, 3)) (kk : V g κ nL k n σ (pc + 3) lv (.int (if 0 ≤ x then x else 0 - x) :: rest)) : V g κ nL k n σ pc lv (.int x :: rest) := by
  subst hy; subst hc
  obtain ⟨⟨h1, h2, h3⟩, h4⟩ := M
  obtain ⟨r1, r2, r3, r4⟩ := Hh
  exact fun H locs ls hR hL hl => va_mabs X.1 X.2.1 (X.2.2.1.trans hl.1.symm) X.2.2.2.1 (zWord X h4) (zWord X hst) (zWord X h2) (zWord X h1) (by omega) (by omega) (by omega) (by omega) d (kk H locs ls hR hL hl)
theorem V_mmax (X : zX g κ own cc nL) {dd mc0 ms0 : Nat} (Hh : zH κ dd mc0 ms0) (hk : k ≤ mc0) (hn : n ≤ ms0) (hd : 1 ≤ dd) {y : MethodName} {cc' : ByteArray} {idx np : Nat} (M : zM own idx y cc' 2 (some .int) np) (hst : Cond.static y ∈ zTBL) (hy : y = Lib.Math.max.name) (hc : cc' = Lib.Math.max.code) (hw : (rest.map fun v => v.category).sum ≤ 8) {x z : Int32} (d : decode cc pc = .ok (.invokestatic idx, 3)) (kk : V g κ nL k n σ (pc + 3) lv (.int (if x < z then z else x) :: rest)) : V g κ nL k n σ pc lv (.int z :: .int x :: rest) := by
  subst hy; subst hc
  obtain ⟨⟨h1, h2, h3⟩, h4⟩ := M
  obtain ⟨r1, r2, r3, r4⟩ := Hh
  exact fun H locs ls hR hL hl => va_mmax X.1 X.2.1 (X.2.2.1.trans hl.1.symm) X.2.2.2.1 (zWord X h4) (zWord X hst) (zWord X h2) (zWord X h1) (by omega) (by omega) (by omega) (by omega) d (kk H locs ls hR hL hl)
end MROWS
end
section
section PROWS
variable {g : zG} {κ : zC} {own : String} {cc : ByteArray} {nL k n : Nat} {σ : zS} {pc : Nat} {lv : List (Nat × Value)} {rest : List Value}
/-- System.arraycopy between int arrays, from place 0 to place 0 -/
theorem V_copy0 (X : zX g κ own cc nL) {dd mc0 ms0 : Nat} (Hh : zH κ dd mc0 ms0) (hd : 8 ≤ dd) {idx a0 a n0 n1 m : Nat} {f h : Nat → Int32} (hlink : Cond.methodLink own idx arraycopyName ∈ zTBL) (hnat : Cond.native arraycopyName ∈ zTBL) (hstat : Cond.static arraycopyName ∈ zTBL) (hini : Cond.initialized "java/lang/System" ∈ zTBL)
    (he0 : σ.2 a0 = some (.inl (g.2.2.2 0, n0, .inl f))) (he1 : σ.2 a = some (.inl (g.2.2.2 0, n1, .inl h))) (ha : g.2.1.size ≤ a) (hm : m < 2 ^ 31) (h4 : m ≤ n0) (h5 : m ≤ n1) (hw : (rest.map fun v => v.category).sum ≤ 8) (d : decode cc pc = .ok (.invokestatic idx, 3))
    (kk : V g κ nL k n (σ.1, zup σ.2 a (.inl (g.2.2.2 0, n1, .inl (va_cpy f h 0 0 m)))) (pc + 3) lv rest) : V g κ nL k n σ pc lv (.int (nI m) :: .int (nI 0) :: .ref a :: .int (nI 0) :: .ref a0 :: rest) := by
  intro H locs ls hR hL hl T hT S
  obtain ⟨r1, r2, r3, r4⟩ := Hh
  have hc0 : H[a0]? = some (vp_cell (g.2.2.2 0) (n0, .inl f)) := hR.2.2.2 a0 _ he0
  have hc1 : H[a]? = some (vp_cell (g.2.2.2 0) (n1, .inl h)) := hR.2.2.2 a _ he1
  have hK := X.2.2.2.2.2.2.1
  obtain ⟨-, k0, hk0, cm0, hkk0⟩ := (hK.2 0 _ rfl).1 n0 (fun j => .int (f j))
  obtain ⟨-, k1, hk1, cm1, hkk1⟩ := (hK.2 0 _ rfl).1 n1 (fun j => .int (h j))
  have hm0 : (nI m).toInt = (m : Int) := nI_toInt hm
  have hmn : (nI m).toNatClampNeg = m := nI_clamp hm
  have h00 : (nI 0).toNatClampNeg = 0 := nI_clamp (by decide)
  have h01 : (nI 0).toInt = 0 := by decide
  have hnw : nativeFrameWords "java/lang/System" "arraycopy" 5 + 11 ≤ 200 := by decide
  obtain ⟨vm', X', step⟩ := S.arraycopy X.1 X.2.2.2.1 (zWord X hlink) (zWord X hnat) (zWord X hstat) (zWord X hini) (src := a0) (dst := a) (cs := vp_cell (g.2.2.2 0) (n0, .inl f)) (cd := vp_cell (g.2.2.2 0) (n1, .inl h)) (srcPos := nI 0) (destPos := nI 0) (n := nI m) (by rw [hT]; exact hc0) (by rw [hT]; exact hc1)
    (fun _ h => by cases h) (fun _ h => by cases h) (fun h => by cases h) (fun h => by cases h) hk0 hk1 hkk0 hkk1 (by simp [refKind]) (nI_pos (by decide)) (nI_pos (by decide)) (nI_pos hm)
    (by rw [h01, hm0]; show ¬ _ > ((arrV _ n0 (fun j => .int (f j))).slots.size : Int); rw [arrV_size]; omega)
    (by rw [h01, hm0]; show ¬ _ > ((arrV _ n1 (fun j => .int (h j))).slots.size : Int); rw [arrV_size]; omega)
    (fun vm₁ _ i hi => by
      rw [hmn] at hi
      have e : (vp_cell (g.2.2.2 0) (n0, .inl f)).slots.getD ((nI 0).toNatClampNeg + i) .null = .int (f ((nI 0).toNatClampNeg + i)) := by
        show (arrV _ n0 (fun j => .int (f j))).slots.getD _ _ = _
        rw [Array.getD_eq_getD_getElem?, arrV_read _ _ (by omega)]
        rfl
      refine ⟨?_, ?_⟩
      · rw [e]
        rfl
      · rw [e]
        exact trivial)
    (g := F0 (zm κ) pc ls (.int (nI m) :: .int (nI 0) :: .ref a :: .int (nI 0) :: .ref a0 :: rest)) rfl (hl.1.trans X.2.2.1.symm) (rest := rest) rfl (by rw [X.2.1]; exact d) (show 1 ≤ _ by omega) (by show 2 * 0 + _ + _ ≤ _; omega)
  have e1 : copied (vp_cell (g.2.2.2 0) (n0, .inl f)) (vp_cell (g.2.2.2 0) (n1, .inl h)) (nI 0) (nI 0) (nI m) = vp_cell (g.2.2.2 0) (n1, .inl (va_cpy f h (nI 0).toNatClampNeg (nI 0).toNatClampNeg (nI m).toNatClampNeg)) := va_copied (fun z => .int z) (g.2.2.2 0) (g.2.2.2 0) f h (by omega)
  rw [e1, hmn, h00] at X' step
  have hla : a < H.size := (Array.getElem?_eq_some_iff.mp hc1).1
  have hheap : ((T.setVm vm').setCell a (vp_cell (g.2.2.2 0) (n1, .inl (va_cpy f h 0 0 m)))).heap = H.setIfInBounds a (vp_cell (g.2.2.2 0) (n1, .inl (va_cpy f h 0 0 m))) := by rw [← hT]; rfl
  have oq : ∀ q : Nat, q ≠ a → (H.setIfInBounds a (vp_cell (g.2.2.2 0) (n1, .inl (va_cpy f h 0 0 m))))[q]? = H[q]? := fun q hq => by simp [Array.getElem?_setIfInBounds, Ne.symm hq]
  obtain ⟨t, a1, b1⟩ := kk _ _ ls (hR.put ha (by simp) oq (show (H.setIfInBounds a _)[a]? = some _ by simp [Array.getElem?_setIfInBounds, hla])) (fun q hq => by
      rcases List.mem_append.mp hq with h | h
      · exact hL q h
      · obtain ⟨z, -, hz⟩ := List.mem_map.mp h
        rw [← hz]
        exact ha) hl _ hheap X'
  exact ⟨t, step t a1, b1⟩
theorem C_copy0 {t X0 : Nat} {F : Nat → Nat → Int32} {σ0 : Nat → Option va_E} (X : zX g κ own cc nL) {dd mc0 ms0 : Nat} (Hh : zH κ dd mc0 ms0) (hd : 8 ≤ dd) {idx : Nat} (hlink : Cond.methodLink own idx arraycopyName ∈ zTBL) (hnat : Cond.native arraycopyName ∈ zTBL) (hstat : Cond.static arraycopyName ∈ zTBL) (hini : Cond.initialized "java/lang/System" ∈ zTBL) (hX : g.2.1.size ≤ X0)
    (hw : (rest.map fun v => v.category).sum ≤ 8) (d : decode cc pc = .ok (.invokestatic idx, 3))
    (kk : ∀ F' : Nat → Nat → Int32, F' = frow F 13 (va_cpy (F 17) (F 13) 0 0 5) → V g κ nL k n (t, cW g X0 F' σ0) (pc + 3) lv rest) : V g κ nL k n (t, cW g X0 F σ0) pc lv (.int (nI 5) :: .int (nI 0) :: .ref (X0 + 13) :: .int (nI 0) :: .ref (X0 + 17) :: rest) := by
  refine V_copy0 X Hh hd hlink hnat hstat hini (n0 := 5) (n1 := 5) (f := F 17) (h := F 13) (show (t, cW g X0 F σ0).2 (X0 + 17) = _ from cW_at (by decide)) (show (t, cW g X0 F σ0).2 (X0 + 13) = _ from cW_at (by decide)) (by omega) (by decide) (by decide) (by decide) hw d ?_
  show V g κ nL k n (t, zup (cW g X0 F σ0) (X0 + 13) (.inl (g.2.2.2 0, 5, .inl (va_cpy (F 17) (F 13) 0 0 5)))) (pc + 3) lv rest
  rw [cW_row (k := 13) (f := va_cpy (F 17) (F 13) 0 0 5) (by decide) (show cCell g X0 13 _ = .inl (g.2.2.2 0, 5, .inl (va_cpy (F 17) (F 13) 0 0 5)) from rfl)]
  exact kk _ rfl
end PROWS
end
section
set_option maxRecDepth 100000 in
set_option maxHeartbeats 4000000 in
theorem k_X5_has {g : zG} {σ : zS}  (a1 : Int32) (a2 : Int32) : Ct g 10 yX5_has cX5_has 2 (some FieldType.boolean) 0 0 [.int (a1), .int (a2)] σ (qR pB σ) zNo := by
  refine Ct.of (lv := [(0, .int (a1)), (1, .int (a2))]) (by decide) (Nat.le_of_ble_eq_true rfl) rfl ?_
  intro κ X E _ _
  have X : zX g κ RX5 cX5_has 2 := X
  refine V_iload_n X dX5_has_0 0 rfl ?_
  refine V_iload_n X dX5_has_1 1 rfl ?_
  refine V_ishr X dX5_has_2 (V.topi (fun w1 _ => ?_))
  refine V_iconst (v := nI 1) X dX5_has_3 (by decide) ?_
  refine V_iand X dX5_has_4 (V.topi (fun w2 _ => ?_))
  refine V_ifeq X (tgt := 12) dX5_has_5 (by decide) (fun h3 => ?_) (fun h3 => ?_)
  · -- 5 true
    refine V_iconst (v := nI 0) X dX5_has_12 (by decide) ?_
    exact V_zret X E (zbool z01_0) (Nat.le_refl _) (Nat.le_refl _) ⟨⟨_, rfl, z01_0⟩, rfl⟩ dX5_has_13
  · -- 5 false
    refine V_iconst (v := nI 1) X dX5_has_8 (by decide) ?_
    refine V_goto (tgt := 13) X dX5_has_9 (by decide) ?_
    exact V_zret X E (zbool z01_1) (Nat.le_refl _) (Nat.le_refl _) ⟨⟨_, rfl, z01_1⟩, rfl⟩ dX5_has_13
set_option maxRecDepth 100000 in
set_option maxHeartbeats 4000000 in
theorem k_J6_bitCount_0f7a4 {g : zG} {σ : zS}  (a1 : Int32) : Ct g 10 yJ6_bitCount_0f7a4 cJ6_bitCount_0f7a4 1 (some FieldType.int) 0 0 [.int (a1)] σ (qR pI σ) zNo := by
  refine Ct.of (lv := [(0, .int (a1))]) (by decide) (Nat.le_of_ble_eq_true rfl) rfl ?_
  intro κ X E _ _
  have X : zX g κ RJ6 cJ6_bitCount_0f7a4 1 := X
  refine V_iload_n X dJ6_bitCount_0f7a4_0 0 rfl ?_
  refine V_iload_n X dJ6_bitCount_0f7a4_1 0 rfl ?_
  refine V_iconst (v := nI 1) X dJ6_bitCount_0f7a4_2 (by decide) ?_
  refine V_iushr X dJ6_bitCount_0f7a4_3 (V.topi (fun w1 _ => ?_))
  refine V_ldcw X cn_J6_265 dJ6_bitCount_0f7a4_4 (V.topi (fun w2 _ => ?_))
  refine V_iand X dJ6_bitCount_0f7a4_7 (V.topi (fun w3 _ => ?_))
  refine V_isub X dJ6_bitCount_0f7a4_8 (V.topi (fun w4 _ => ?_))
  refine V_istore_n X [(0, .int (w4))] dJ6_bitCount_0f7a4_9 (by decide) rfl ?_
  refine V_iload_n X dJ6_bitCount_0f7a4_10 0 rfl ?_
  refine V_ldcw X cn_J6_266 dJ6_bitCount_0f7a4_11 (V.topi (fun w5 _ => ?_))
  refine V_iand X dJ6_bitCount_0f7a4_14 (V.topi (fun w6 _ => ?_))
  refine V_iload_n X dJ6_bitCount_0f7a4_15 0 rfl ?_
  refine V_iconst (v := nI 2) X dJ6_bitCount_0f7a4_16 (by decide) ?_
  refine V_iushr X dJ6_bitCount_0f7a4_17 (V.topi (fun w7 _ => ?_))
  refine V_ldcw X cn_J6_266 dJ6_bitCount_0f7a4_18 (V.topi (fun w8 _ => ?_))
  refine V_iand X dJ6_bitCount_0f7a4_21 (V.topi (fun w9 _ => ?_))
  refine V_iadd X dJ6_bitCount_0f7a4_22 (V.topi (fun w10 _ => ?_))
  refine V_istore_n X [(0, .int (w10))] dJ6_bitCount_0f7a4_23 (by decide) rfl ?_
  refine V_iload_n X dJ6_bitCount_0f7a4_24 0 rfl ?_
  refine V_iload_n X dJ6_bitCount_0f7a4_25 0 rfl ?_
  refine V_iconst (v := nI 4) X dJ6_bitCount_0f7a4_26 (by decide) ?_
  refine V_iushr X dJ6_bitCount_0f7a4_27 (V.topi (fun w11 _ => ?_))
  refine V_iadd X dJ6_bitCount_0f7a4_28 (V.topi (fun w12 _ => ?_))
  refine V_ldcw X cn_J6_267 dJ6_bitCount_0f7a4_29 (V.topi (fun w13 _ => ?_))
  refine V_iand X dJ6_bitCount_0f7a4_32 (V.topi (fun w14 _ => ?_))
  refine V_istore_n X [(0, .int (w14))] dJ6_bitCount_0f7a4_33 (by decide) rfl ?_
  refine V_iload_n X dJ6_bitCount_0f7a4_34 0 rfl ?_
  refine V_iload_n X dJ6_bitCount_0f7a4_35 0 rfl ?_
  refine V_bipush (v := nI 8) X dJ6_bitCount_0f7a4_36 (by decide) ?_
  refine V_iushr X dJ6_bitCount_0f7a4_38 (V.topi (fun w15 _ => ?_))
  refine V_iadd X dJ6_bitCount_0f7a4_39 (V.topi (fun w16 _ => ?_))
  refine V_istore_n X [(0, .int (w16))] dJ6_bitCount_0f7a4_40 (by decide) rfl ?_
  refine V_iload_n X dJ6_bitCount_0f7a4_41 0 rfl ?_
  refine V_iload_n X dJ6_bitCount_0f7a4_42 0 rfl ?_
  refine V_bipush (v := nI 16) X dJ6_bitCount_0f7a4_43 (by decide) ?_
  refine V_iushr X dJ6_bitCount_0f7a4_45 (V.topi (fun w17 _ => ?_))
  refine V_iadd X dJ6_bitCount_0f7a4_46 (V.topi (fun w18 _ => ?_))
  refine V_istore_n X [(0, .int (w18))] dJ6_bitCount_0f7a4_47 (by decide) rfl ?_
  refine V_iload_n X dJ6_bitCount_0f7a4_48 0 rfl ?_
  refine V_bipush (v := nI 63) X dJ6_bitCount_0f7a4_49 (by decide) ?_
  refine V_iand X dJ6_bitCount_0f7a4_51 (V.topi (fun w19 _ => ?_))
  exact V_iret X E (Nat.le_refl _) (Nat.le_refl _) ⟨⟨_, rfl⟩, rfl⟩ dJ6_bitCount_0f7a4_52
set_option maxRecDepth 100000 in
set_option maxHeartbeats 4000000 in
theorem k_X1_countWell {g : zG} {t X0 : Nat} {σ0 : Nat → Option va_E} {F : Nat → Nat → Int32} (hX : g.2.1.size ≤ X0) {nP nS nA nC nT : Nat} (hI : cI nP nS nA nC nT F)  : Ct g 11 yX1_countWell cX1_countWell 1 (some FieldType.int) 0 0 [.ref (X0 + 7)] (t, cW g X0 F σ0) (qR pI (t, cW g X0 F σ0)) zNo := by
  refine Ct.of (lv := [(0, .ref (X0 + 7))]) (by decide) (Nat.le_of_ble_eq_true rfl) rfl ?_
  intro κ X E _ _
  have X : zX g κ RX1 cX1_countWell 1 := X
  obtain ⟨b1, b2, b3, b4, b5⟩ := hI.bnd
  refine V_aload_n X dX1_countWell_0 0 rfl ?_
  refine C_getfN (z := nI (nA)) X fl_X1_24 7 (by decide) rfl rfl hI.f7_4 dX1_countWell_1 ?_
  refine V_aload_n X dX1_countWell_4 0 rfl ?_
  refine C_getf X fl_X1_28 7 (by decide) rfl rfl dX1_countWell_5 (V.topi (fun x1 ex1 => ?_))
  refine V_callS (rest := [.int (nI (nA))]) X E.room ml_X1_31 st_J6_bitCount_0f7a4 (by decide) (by decide) (k_J6_bitCount_0f7a4 (σ := (t, cW g X0 F σ0)) (x1)) rfl rfl (Nat.le_of_ble_eq_true rfl) ⟨Nat.le_refl _, Nat.le_refl _⟩ dX1_countWell_8 (fun _ _ h => False.elim h) (fun v8 σ' hp8 => ?_)
  obtain ⟨hp8, rfl⟩ := hp8
  obtain ⟨r2, rfl⟩ := hp8
  show V g κ 1 0 0 (t, cW g X0 F σ0) 11 [(0, .ref (X0 + 7))] [.int (r2), .int (nI (nA))]
  refine V_isub X dX1_countWell_11 (V.topi (fun w3 _ => ?_))
  exact V_iret X E (Nat.le_refl _) (Nat.le_refl _) ⟨⟨_, rfl⟩, rfl⟩ dX1_countWell_12
set_option maxRecDepth 100000 in
set_option maxHeartbeats 4000000 in
theorem k_X1_ableOfAny {g : zG} {t X0 : Nat} {σ0 : Nat → Option va_E} {F : Nat → Nat → Int32} (hX : g.2.1.size ≤ X0) {nP nS nA nC nT : Nat} (hI : cI nP nS nA nC nT F)  (a1 : Int32) : Ct g 11 yX1_ableOfAny cX1_ableOfAny 4 (some FieldType.int) 0 0 [.ref (X0 + 7), .int (a1)] (t, cW g X0 F σ0) (qR pI (t, cW g X0 F σ0)) zNo := by
  refine Ct.of (lv := [(0, .ref (X0 + 7)), (1, .int (a1))]) (by decide) (Nat.le_of_ble_eq_true rfl) rfl ?_
  intro κ X E _ _
  have X : zX g κ RX1 cX1_ableOfAny 4 := X
  obtain ⟨b1, b2, b3, b4, b5⟩ := hI.bnd
  refine V_iconst (v := nI 0) X dX1_ableOfAny_0 (by decide) ?_
  refine V_istore_n X [(2, .int (nI (0))), (0, .ref (X0 + 7)), (1, .int (a1))] dX1_ableOfAny_1 (by decide) rfl ?_
  refine V_iconst (v := nI 0) X dX1_ableOfAny_2 (by decide) ?_
  refine V_istore_n X [(3, .int (nI (0))), (2, .int (nI (0))), (0, .ref (X0 + 7)), (1, .int (a1))] dX1_ableOfAny_3 (by decide) rfl ?_
  have L4 : ∀ (n4 : Nat) (i4 : Nat) (x4_2 : Int32), n4 = nA - i4 → i4 ≤ nA → V g κ 4 0 0 (t, cW g X0 F σ0) 4 [(3, .int (nI (i4))), (2, .int (x4_2)), (0, .ref (X0 + 7)), (1, .int (a1))] [] := by
    intro n4
    induction n4 using Nat.strongRecOn with
    | ind n4 ih4 =>
      intro i4 x4_2 hn4 hi4
      refine V_iload_n X dX1_ableOfAny_4 0 rfl ?_
      refine V_aload_n X dX1_ableOfAny_5 2 rfl ?_
      refine C_getfN (z := nI (nA)) X fl_X1_24 7 (by decide) rfl rfl hI.f7_4 dX1_ableOfAny_6 ?_
      refine V_icmpgeN X (by omega) (by omega) (tgt := 46) dX1_ableOfAny_9 (by decide) (fun h1 => ?_) (fun h1 => ?_)
      · -- 9 true
        refine V_iload_n X dX1_ableOfAny_46 1 rfl ?_
        exact V_iret X E (Nat.le_refl _) (Nat.le_refl _) ⟨⟨_, rfl⟩, rfl⟩ dX1_ableOfAny_47
      · -- 9 false
        refine V_aload_n X dX1_ableOfAny_12 2 rfl ?_
        refine C_getf X fl_X1_28 7 (by decide) rfl rfl dX1_ableOfAny_13 (V.topi (fun x2 ex2 => ?_))
        refine V_iload_n X dX1_ableOfAny_16 0 rfl ?_
        refine V_callSN (rest := []) X E.room ml_X1_37 st_X5_has (by decide) (by decide) (k_X5_has (σ := (t, cW g X0 F σ0)) (x2) (nI (i4))) rfl rfl (Nat.le_of_ble_eq_true rfl) ⟨Nat.le_refl _, Nat.le_refl _⟩ dX1_ableOfAny_17 (fun _ _ h => False.elim h) (fun v17 σ' hp17 => ?_)
        obtain ⟨hp17, rfl⟩ := hp17
        obtain ⟨r3, rfl, hr3⟩ := hp17
        show V g κ 4 0 0 (t, cW g X0 F σ0) 20 [(3, .int (nI (i4))), (2, .int (x4_2)), (0, .ref (X0 + 7)), (1, .int (a1))] [.int (r3)]
        refine V_ifne X (tgt := 40) dX1_ableOfAny_20 (by decide) (fun h4 => ?_) (fun h4 => ?_)
        · -- 20 true
          refine V_iinc X (nI (i4 + 1)) [(3, .int (nI (i4 + 1))), (2, .int (x4_2)), (0, .ref (X0 + 7)), (1, .int (a1))] dX1_ableOfAny_40 0 rfl (zinc _) (by decide) rfl ?_
          refine V_goto (tgt := 4) X dX1_ableOfAny_43 (by decide) ?_
          exact V.sub [0, 1, 2, 3] rfl (ih4 _ (by omega) (i4 + 1) x4_2 rfl (by omega))
        · -- 20 false
          refine V_aload_n X dX1_ableOfAny_23 2 rfl ?_
          refine C_getf X fl_X1_9 7 (by decide) rfl rfl dX1_ableOfAny_24 ?_
          refine V_iload_n X dX1_ableOfAny_27 0 rfl ?_
          refine C_iald X (N := 5) 8 (by decide) (i4) rfl (by omega) (by decide) rfl dX1_ableOfAny_28 ?_
          refine V.topi (fun x5 ex5 => ?_)
          refine V_iload_n X dX1_ableOfAny_29 3 rfl ?_
          refine V_iand X dX1_ableOfAny_30 (V.topi (fun w6 _ => ?_))
          refine V_ifeq X (tgt := 40) dX1_ableOfAny_31 (by decide) (fun h7 => ?_) (fun h7 => ?_)
          · -- 31 true
            refine V_iinc X (nI (i4 + 1)) [(3, .int (nI (i4 + 1))), (2, .int (x4_2)), (0, .ref (X0 + 7)), (1, .int (a1))] dX1_ableOfAny_40 0 rfl (zinc _) (by decide) rfl ?_
            refine V_goto (tgt := 4) X dX1_ableOfAny_43 (by decide) ?_
            exact V.sub [0, 1, 2, 3] rfl (ih4 _ (by omega) (i4 + 1) x4_2 rfl (by omega))
          · -- 31 false
            refine V_iload_n X dX1_ableOfAny_34 1 rfl ?_
            refine V_iconst (v := nI 1) X dX1_ableOfAny_35 (by decide) ?_
            refine V_iload_n X dX1_ableOfAny_36 0 rfl ?_
            refine V_ishl1 X (by omega) dX1_ableOfAny_37 ?_
            refine V_ior X dX1_ableOfAny_38 (V.topi (fun w8 _ => ?_))
            refine V_istore_n X [(2, .int (w8)), (3, .int (nI (i4))), (0, .ref (X0 + 7)), (1, .int (a1))] dX1_ableOfAny_39 (by decide) rfl ?_
            refine V_iinc X (nI (i4 + 1)) [(3, .int (nI (i4 + 1))), (2, .int (w8)), (0, .ref (X0 + 7)), (1, .int (a1))] dX1_ableOfAny_40 1 rfl (zinc _) (by decide) rfl ?_
            refine V_goto (tgt := 4) X dX1_ableOfAny_43 (by decide) ?_
            exact V.sub [0, 1, 2, 3] rfl (ih4 _ (by omega) (i4 + 1) w8 rfl (by omega))
  exact L4 _ 0 (nI (0)) rfl (by omega)
set_option maxRecDepth 100000 in
set_option maxHeartbeats 4000000 in
theorem k_X1_allPurses {g : zG} {t X0 : Nat} {σ0 : Nat → Option va_E} {F : Nat → Nat → Int32} (hX : g.2.1.size ≤ X0) {nP nS nA nC nT : Nat} (hI : cI nP nS nA nC nT F)  : Ct g 10 yX1_allPurses cX1_allPurses 3 (some FieldType.int) 0 0 [.ref (X0 + 7)] (t, cW g X0 F σ0) (qR pI (t, cW g X0 F σ0)) zNo := by
  refine Ct.of (lv := [(0, .ref (X0 + 7))]) (by decide) (Nat.le_of_ble_eq_true rfl) rfl ?_
  intro κ X E _ _
  have X : zX g κ RX1 cX1_allPurses 3 := X
  obtain ⟨b1, b2, b3, b4, b5⟩ := hI.bnd
  refine V_iconst (v := nI 0) X dX1_allPurses_0 (by decide) ?_
  refine V_istore_n X [(1, .int (nI (0))), (0, .ref (X0 + 7))] dX1_allPurses_1 (by decide) rfl ?_
  refine V_iconst (v := nI 0) X dX1_allPurses_2 (by decide) ?_
  refine V_istore_n X [(2, .int (nI (0))), (1, .int (nI (0))), (0, .ref (X0 + 7))] dX1_allPurses_3 (by decide) rfl ?_
  have L4 : ∀ (n4 : Nat) (i4 : Nat) (x4_1 : Int32), n4 = nA - i4 → i4 ≤ nA → V g κ 3 0 0 (t, cW g X0 F σ0) 4 [(2, .int (nI (i4))), (1, .int (x4_1)), (0, .ref (X0 + 7))] [] := by
    intro n4
    induction n4 using Nat.strongRecOn with
    | ind n4 ih4 =>
      intro i4 x4_1 hn4 hi4
      refine V_iload_n X dX1_allPurses_4 0 rfl ?_
      refine V_aload_n X dX1_allPurses_5 2 rfl ?_
      refine C_getfN (z := nI (nA)) X fl_X1_24 7 (by decide) rfl rfl hI.f7_4 dX1_allPurses_6 ?_
      refine V_icmpgeN X (by omega) (by omega) (tgt := 27) dX1_allPurses_9 (by decide) (fun h1 => ?_) (fun h1 => ?_)
      · -- 9 true
        refine V_iload_n X dX1_allPurses_27 1 rfl ?_
        exact V_iret X E (Nat.le_refl _) (Nat.le_refl _) ⟨⟨_, rfl⟩, rfl⟩ dX1_allPurses_28
      · -- 9 false
        refine V_iload_n X dX1_allPurses_12 1 rfl ?_
        refine V_aload_n X dX1_allPurses_13 2 rfl ?_
        refine C_getf X fl_X1_21 7 (by decide) rfl rfl dX1_allPurses_14 ?_
        refine V_iload_n X dX1_allPurses_17 0 rfl ?_
        refine C_iald X (N := 5) 11 (by decide) (i4) rfl (by omega) (by decide) rfl dX1_allPurses_18 ?_
        refine V.topi (fun x2 ex2 => ?_)
        refine V_iadd X dX1_allPurses_19 (V.topi (fun w3 _ => ?_))
        refine V_istore_n X [(1, .int (w3)), (2, .int (nI (i4))), (0, .ref (X0 + 7))] dX1_allPurses_20 (by decide) rfl ?_
        refine V_iinc X (nI (i4 + 1)) [(2, .int (nI (i4 + 1))), (1, .int (w3)), (0, .ref (X0 + 7))] dX1_allPurses_21 1 rfl (zinc _) (by decide) rfl ?_
        refine V_goto (tgt := 4) X dX1_allPurses_24 (by decide) ?_
        exact V.sub [0, 1, 2] rfl (ih4 _ (by omega) (i4 + 1) w3 rfl (by omega))
  exact L4 _ 0 (nI (0)) rfl (by omega)
set_option maxRecDepth 100000 in
set_option maxHeartbeats 4000000 in
theorem k_X1_hasDebt {g : zG} {t X0 : Nat} {σ0 : Nat → Option va_E} {F : Nat → Nat → Int32} (hX : g.2.1.size ≤ X0) {nP nS nA nC nT : Nat} (hI : cI nP nS nA nC nT F)  : Ct g 10 yX1_hasDebt cX1_hasDebt 2 (some FieldType.boolean) 0 0 [.ref (X0 + 7)] (t, cW g X0 F σ0) (qR pB (t, cW g X0 F σ0)) zNo := by
  refine Ct.of (lv := [(0, .ref (X0 + 7))]) (by decide) (Nat.le_of_ble_eq_true rfl) rfl ?_
  intro κ X E _ _
  have X : zX g κ RX1 cX1_hasDebt 2 := X
  obtain ⟨b1, b2, b3, b4, b5⟩ := hI.bnd
  refine V_iconst (v := nI 0) X dX1_hasDebt_0 (by decide) ?_
  refine V_istore_n X [(1, .int (nI (0))), (0, .ref (X0 + 7))] dX1_hasDebt_1 (by decide) rfl ?_
  have L2 : ∀ (n2 : Nat) (i2 : Nat), n2 = nA - i2 → i2 ≤ nA → V g κ 2 0 0 (t, cW g X0 F σ0) 2 [(1, .int (nI (i2))), (0, .ref (X0 + 7))] [] := by
    intro n2
    induction n2 using Nat.strongRecOn with
    | ind n2 ih2 =>
      intro i2 hn2 hi2
      refine V_iload_n X dX1_hasDebt_2 0 rfl ?_
      refine V_aload_n X dX1_hasDebt_3 1 rfl ?_
      refine C_getfN (z := nI (nA)) X fl_X1_24 7 (by decide) rfl rfl hI.f7_4 dX1_hasDebt_4 ?_
      refine V_icmpgeN X (by omega) (by omega) (tgt := 27) dX1_hasDebt_7 (by decide) (fun h1 => ?_) (fun h1 => ?_)
      · -- 7 true
        refine V_iconst (v := nI 0) X dX1_hasDebt_27 (by decide) ?_
        exact V_zret X E (zbool z01_0) (Nat.le_refl _) (Nat.le_refl _) ⟨⟨_, rfl, z01_0⟩, rfl⟩ dX1_hasDebt_28
      · -- 7 false
        refine V_aload_n X dX1_hasDebt_10 1 rfl ?_
        refine C_getf X fl_X1_21 7 (by decide) rfl rfl dX1_hasDebt_11 ?_
        refine V_iload_n X dX1_hasDebt_14 0 rfl ?_
        refine C_iald X (N := 5) 11 (by decide) (i2) rfl (by omega) (by decide) rfl dX1_hasDebt_15 ?_
        refine V.topi (fun x2 ex2 => ?_)
        refine V_ifge X (tgt := 21) dX1_hasDebt_16 (by decide) (fun h3 => ?_) (fun h3 => ?_)
        · -- 16 true
          refine V_iinc X (nI (i2 + 1)) [(1, .int (nI (i2 + 1))), (0, .ref (X0 + 7))] dX1_hasDebt_21 0 rfl (zinc _) (by decide) rfl ?_
          refine V_goto (tgt := 2) X dX1_hasDebt_24 (by decide) ?_
          exact V.sub [0, 1] rfl (ih2 _ (by omega) (i2 + 1) rfl (by omega))
        · -- 16 false
          refine V_iconst (v := nI 1) X dX1_hasDebt_19 (by decide) ?_
          exact V_zret X E (zbool z01_1) (Nat.le_refl _) (Nat.le_refl _) ⟨⟨_, rfl, z01_1⟩, rfl⟩ dX1_hasDebt_20
  exact L2 _ 0 rfl (by omega)
set_option maxRecDepth 100000 in
set_option maxHeartbeats 4000000 in
theorem k_X2_allScenes {g : zG} {t X0 : Nat} {σ0 : Nat → Option va_E} {F : Nat → Nat → Int32} (hX : g.2.1.size ≤ X0) {nP nS nA nC nT : Nat} (hI : cI nP nS nA nC nT F)  : Ct g 10 yX2_allScenes cX2_allScenes 1 (some FieldType.int) 0 0 [.ref (X0 + 1)] (t, cW g X0 F σ0) (qR (fun v => v = some (.int (nI (2 ^ nS - 1)))) (t, cW g X0 F σ0)) zNo := by
  refine Ct.of (lv := [(0, .ref (X0 + 1))]) (by decide) (Nat.le_of_ble_eq_true rfl) rfl ?_
  intro κ X E _ _
  have X : zX g κ RX2 cX2_allScenes 1 := X
  obtain ⟨b1, b2, b3, b4, b5⟩ := hI.bnd
  have hpw : 1 ≤ 2 ^ nS := Nat.one_le_two_pow
  refine V_iconst (v := nI 1) X dX2_allScenes_0 (by decide) ?_
  refine V_aload_n X dX2_allScenes_1 0 rfl ?_
  refine C_getfN (z := nI (nS)) X fl_X2_31 1 (by decide) rfl rfl hI.f1_6 dX2_allScenes_2 ?_
  refine V_ishl1 X (by omega) dX2_allScenes_5 ?_
  refine V_iconst (v := nI 1) X dX2_allScenes_6 (by decide) ?_
  refine V_isubN X (by omega) dX2_allScenes_7 ?_
  exact V_iret X E (Nat.le_refl _) (Nat.le_refl _) ⟨rfl, rfl⟩ dX2_allScenes_8
set_option maxRecDepth 100000 in
set_option maxHeartbeats 4000000 in
theorem k_X2_scenesWith {g : zG} {t X0 : Nat} {σ0 : Nat → Option va_E} {F : Nat → Nat → Int32} (hX : g.2.1.size ≤ X0) {nP nS nA nC nT : Nat} (hI : cI nP nS nA nC nT F)  (a1 : Int32) : Ct g 11 yX2_scenesWith cX2_scenesWith 4 (some FieldType.int) 0 0 [.ref (X0 + 1), .int (a1)] (t, cW g X0 F σ0) (qR pI (t, cW g X0 F σ0)) zNo := by
  refine Ct.of (lv := [(0, .ref (X0 + 1)), (1, .int (a1))]) (by decide) (Nat.le_of_ble_eq_true rfl) rfl ?_
  intro κ X E _ _
  have X : zX g κ RX2 cX2_scenesWith 4 := X
  obtain ⟨b1, b2, b3, b4, b5⟩ := hI.bnd
  refine V_iconst (v := nI 0) X dX2_scenesWith_0 (by decide) ?_
  refine V_istore_n X [(2, .int (nI (0))), (0, .ref (X0 + 1)), (1, .int (a1))] dX2_scenesWith_1 (by decide) rfl ?_
  refine V_iconst (v := nI 0) X dX2_scenesWith_2 (by decide) ?_
  refine V_istore_n X [(3, .int (nI (0))), (2, .int (nI (0))), (0, .ref (X0 + 1)), (1, .int (a1))] dX2_scenesWith_3 (by decide) rfl ?_
  have L4 : ∀ (n4 : Nat) (i4 : Nat) (x4_2 : Int32), n4 = nS - i4 → i4 ≤ nS → V g κ 4 0 0 (t, cW g X0 F σ0) 4 [(3, .int (nI (i4))), (2, .int (x4_2)), (0, .ref (X0 + 1)), (1, .int (a1))] [] := by
    intro n4
    induction n4 using Nat.strongRecOn with
    | ind n4 ih4 =>
      intro i4 x4_2 hn4 hi4
      refine V_iload_n X dX2_scenesWith_4 0 rfl ?_
      refine V_aload_n X dX2_scenesWith_5 2 rfl ?_
      refine C_getfN (z := nI (nS)) X fl_X2_31 1 (by decide) rfl rfl hI.f1_6 dX2_scenesWith_6 ?_
      refine V_icmpgeN X (by omega) (by omega) (tgt := 37) dX2_scenesWith_9 (by decide) (fun h1 => ?_) (fun h1 => ?_)
      · -- 9 true
        refine V_iload_n X dX2_scenesWith_37 1 rfl ?_
        exact V_iret X E (Nat.le_refl _) (Nat.le_refl _) ⟨⟨_, rfl⟩, rfl⟩ dX2_scenesWith_38
      · -- 9 false
        refine V_aload_n X dX2_scenesWith_12 2 rfl ?_
        refine C_getf X fl_X2_21 1 (by decide) rfl rfl dX2_scenesWith_13 ?_
        refine V_iload_n X dX2_scenesWith_16 0 rfl ?_
        refine C_iald X (N := 6) 5 (by decide) (i4) rfl (by omega) (by decide) rfl dX2_scenesWith_17 ?_
        obtain ⟨m2, hm2, em2⟩ := hI.sp (i4) (by omega)
        rw [em2]
        refine V_iload_n X dX2_scenesWith_18 3 rfl ?_
        refine V_callSN (rest := []) X E.room ml_X2_34 st_X5_has (by decide) (by decide) (k_X5_has (σ := (t, cW g X0 F σ0)) (nI (m2)) (a1)) rfl rfl (Nat.le_of_ble_eq_true rfl) ⟨Nat.le_refl _, Nat.le_refl _⟩ dX2_scenesWith_19 (fun _ _ h => False.elim h) (fun v19 σ' hp19 => ?_)
        obtain ⟨hp19, rfl⟩ := hp19
        obtain ⟨r3, rfl, hr3⟩ := hp19
        show V g κ 4 0 0 (t, cW g X0 F σ0) 22 [(3, .int (nI (i4))), (2, .int (x4_2)), (0, .ref (X0 + 1)), (1, .int (a1))] [.int (r3)]
        refine V_ifeq X (tgt := 31) dX2_scenesWith_22 (by decide) (fun h4 => ?_) (fun h4 => ?_)
        · -- 22 true
          refine V_iinc X (nI (i4 + 1)) [(3, .int (nI (i4 + 1))), (2, .int (x4_2)), (0, .ref (X0 + 1)), (1, .int (a1))] dX2_scenesWith_31 0 rfl (zinc _) (by decide) rfl ?_
          refine V_goto (tgt := 4) X dX2_scenesWith_34 (by decide) ?_
          exact V.sub [0, 1, 2, 3] rfl (ih4 _ (by omega) (i4 + 1) x4_2 rfl (by omega))
        · -- 22 false
          refine V_iload_n X dX2_scenesWith_25 1 rfl ?_
          refine V_iconst (v := nI 1) X dX2_scenesWith_26 (by decide) ?_
          refine V_iload_n X dX2_scenesWith_27 0 rfl ?_
          refine V_ishl1 X (by omega) dX2_scenesWith_28 ?_
          refine V_ior X dX2_scenesWith_29 (V.topi (fun w5 _ => ?_))
          refine V_istore_n X [(2, .int (w5)), (3, .int (nI (i4))), (0, .ref (X0 + 1)), (1, .int (a1))] dX2_scenesWith_30 (by decide) rfl ?_
          refine V_iinc X (nI (i4 + 1)) [(3, .int (nI (i4 + 1))), (2, .int (w5)), (0, .ref (X0 + 1)), (1, .int (a1))] dX2_scenesWith_31 1 rfl (zinc _) (by decide) rfl ?_
          refine V_goto (tgt := 4) X dX2_scenesWith_34 (by decide) ?_
          exact V.sub [0, 1, 2, 3] rfl (ih4 _ (by omega) (i4 + 1) w5 rfl (by omega))
  exact L4 _ 0 (nI (0)) rfl (by omega)
set_option maxRecDepth 100000 in
set_option maxHeartbeats 4000000 in
theorem k_X2_partsOf {g : zG} {t X0 : Nat} {σ0 : Nat → Option va_E} {F : Nat → Nat → Int32} (hX : g.2.1.size ≤ X0) {nP nS nA nC nT : Nat} (hI : cI nP nS nA nC nT F)  (a1 : Int32) : Ct g 11 yX2_partsOf cX2_partsOf 4 (some FieldType.int) 0 0 [.ref (X0 + 1), .int (a1)] (t, cW g X0 F σ0) (qR pI (t, cW g X0 F σ0)) zNo := by
  refine Ct.of (lv := [(0, .ref (X0 + 1)), (1, .int (a1))]) (by decide) (Nat.le_of_ble_eq_true rfl) rfl ?_
  intro κ X E _ _
  have X : zX g κ RX2 cX2_partsOf 4 := X
  obtain ⟨b1, b2, b3, b4, b5⟩ := hI.bnd
  refine V_iconst (v := nI 0) X dX2_partsOf_0 (by decide) ?_
  refine V_istore_n X [(2, .int (nI (0))), (0, .ref (X0 + 1)), (1, .int (a1))] dX2_partsOf_1 (by decide) rfl ?_
  refine V_iconst (v := nI 0) X dX2_partsOf_2 (by decide) ?_
  refine V_istore_n X [(3, .int (nI (0))), (2, .int (nI (0))), (0, .ref (X0 + 1)), (1, .int (a1))] dX2_partsOf_3 (by decide) rfl ?_
  have L4 : ∀ (n4 : Nat) (i4 : Nat) (x4_2 : Int32), n4 = nS - i4 → i4 ≤ nS → V g κ 4 0 0 (t, cW g X0 F σ0) 4 [(3, .int (nI (i4))), (2, .int (x4_2)), (0, .ref (X0 + 1)), (1, .int (a1))] [] := by
    intro n4
    induction n4 using Nat.strongRecOn with
    | ind n4 ih4 =>
      intro i4 x4_2 hn4 hi4
      refine V_iload_n X dX2_partsOf_4 0 rfl ?_
      refine V_aload_n X dX2_partsOf_5 2 rfl ?_
      refine C_getfN (z := nI (nS)) X fl_X2_31 1 (by decide) rfl rfl hI.f1_6 dX2_partsOf_6 ?_
      refine V_icmpgeN X (by omega) (by omega) (tgt := 35) dX2_partsOf_9 (by decide) (fun h1 => ?_) (fun h1 => ?_)
      · -- 9 true
        refine V_iload_n X dX2_partsOf_35 1 rfl ?_
        exact V_iret X E (Nat.le_refl _) (Nat.le_refl _) ⟨⟨_, rfl⟩, rfl⟩ dX2_partsOf_36
      · -- 9 false
        refine V_iload_n X dX2_partsOf_12 3 rfl ?_
        refine V_iload_n X dX2_partsOf_13 0 rfl ?_
        refine V_callSN (rest := []) X E.room ml_X2_34 st_X5_has (by decide) (by decide) (k_X5_has (σ := (t, cW g X0 F σ0)) (a1) (nI (i4))) rfl rfl (Nat.le_of_ble_eq_true rfl) ⟨Nat.le_refl _, Nat.le_refl _⟩ dX2_partsOf_14 (fun _ _ h => False.elim h) (fun v14 σ' hp14 => ?_)
        obtain ⟨hp14, rfl⟩ := hp14
        obtain ⟨r2, rfl, hr2⟩ := hp14
        show V g κ 4 0 0 (t, cW g X0 F σ0) 17 [(3, .int (nI (i4))), (2, .int (x4_2)), (0, .ref (X0 + 1)), (1, .int (a1))] [.int (r2)]
        refine V_ifeq X (tgt := 29) dX2_partsOf_17 (by decide) (fun h3 => ?_) (fun h3 => ?_)
        · -- 17 true
          refine V_iinc X (nI (i4 + 1)) [(3, .int (nI (i4 + 1))), (2, .int (x4_2)), (0, .ref (X0 + 1)), (1, .int (a1))] dX2_partsOf_29 0 rfl (zinc _) (by decide) rfl ?_
          refine V_goto (tgt := 4) X dX2_partsOf_32 (by decide) ?_
          exact V.sub [0, 1, 2, 3] rfl (ih4 _ (by omega) (i4 + 1) x4_2 rfl (by omega))
        · -- 17 false
          refine V_iload_n X dX2_partsOf_20 1 rfl ?_
          refine V_aload_n X dX2_partsOf_21 2 rfl ?_
          refine C_getf X fl_X2_21 1 (by decide) rfl rfl dX2_partsOf_22 ?_
          refine V_iload_n X dX2_partsOf_25 0 rfl ?_
          refine C_iald X (N := 6) 5 (by decide) (i4) rfl (by omega) (by decide) rfl dX2_partsOf_26 ?_
          obtain ⟨m4, hm4, em4⟩ := hI.sp (i4) (by omega)
          rw [em4]
          refine V_ior X dX2_partsOf_27 (V.topi (fun w5 _ => ?_))
          refine V_istore_n X [(2, .int (w5)), (3, .int (nI (i4))), (0, .ref (X0 + 1)), (1, .int (a1))] dX2_partsOf_28 (by decide) rfl ?_
          refine V_iinc X (nI (i4 + 1)) [(3, .int (nI (i4 + 1))), (2, .int (w5)), (0, .ref (X0 + 1)), (1, .int (a1))] dX2_partsOf_29 1 rfl (zinc _) (by decide) rfl ?_
          refine V_goto (tgt := 4) X dX2_partsOf_32 (by decide) ?_
          exact V.sub [0, 1, 2, 3] rfl (ih4 _ (by omega) (i4 + 1) w5 rfl (by omega))
  exact L4 _ 0 (nI (0)) rfl (by omega)
end
section
set_option maxRecDepth 100000 in
set_option maxHeartbeats 4000000 in
theorem k_X2_clashTogether {g : zG} {t X0 : Nat} {σ0 : Nat → Option va_E} {F : Nat → Nat → Int32} (hX : g.2.1.size ≤ X0) {nP nS nA nC nT : Nat} (hI : cI nP nS nA nC nT F) (a1 : Int32) : Ct g 11 yX2_clashTogether cX2_clashTogether 4 none 0 0 [.ref (X0 + 1), .int (a1), .ref (X0 + 15)] (t, cW g X0 F σ0) (qS pV g t X0 F σ0) zNo := by
  refine Ct.of (lv := [(0, .ref (X0 + 1)), (1, .int (a1)), (2, .ref (X0 + 15))]) (by decide) (Nat.le_of_ble_eq_true rfl) rfl ?_
  intro κ X E _ _
  have X : zX g κ RX2 cX2_clashTogether 4 := X
  obtain ⟨b1, b2, b3, b4, b5⟩ := hI.bnd
  refine V_iconst (v := nI 0) X dX2_clashTogether_0 (by decide) ?_
  refine V_istore_n X [(3, .int (nI (0))), (0, .ref (X0 + 1)), (1, .int (a1)), (2, .ref (X0 + 15))] dX2_clashTogether_1 (by decide) rfl ?_
  have L2 : ∀ (n2 : Nat) (i2 : Nat) (G2 : Nat → Nat → Int32), n2 = nP - i2 → i2 ≤ nP → cJ F G2 → V g κ 4 0 0 (t, cW g X0 G2 σ0) 2 [(3, .int (nI (i2))), (0, .ref (X0 + 1)), (1, .int (a1)), (2, .ref (X0 + 15))] [] := by
    intro n2
    induction n2 using Nat.strongRecOn with
    | ind n2 ih2 =>
      intro i2 G2 hn2 hi2 hJ2
      refine V_iload_n X dX2_clashTogether_2 0 rfl ?_
      refine V_aload_n X dX2_clashTogether_3 1 rfl ?_
      refine C_getfN (z := nI (nP)) X fl_X2_27 1 (by decide) rfl rfl (hI.mv hJ2).f1_5 dX2_clashTogether_4 ?_
      refine V_icmpgeN X (by omega) (by omega) (tgt := 37) dX2_clashTogether_7 (by decide) (fun h1 => ?_) (fun h1 => ?_)
      · -- 7 true
        exact V_vret X E (Nat.le_refl _) (Nat.le_refl _) ⟨rfl, ⟨_, rfl, hJ2⟩⟩ dX2_clashTogether_37
      · -- 7 false
        refine V_iload_n X dX2_clashTogether_10 2 rfl ?_
        refine V_iload_n X dX2_clashTogether_11 0 rfl ?_
        refine V_callSN (rest := []) X E.room ml_X2_34 st_X5_has (by decide) (by decide) (k_X5_has (σ := (t, cW g X0 G2 σ0)) (a1) (nI (i2))) rfl rfl (Nat.le_of_ble_eq_true rfl) ⟨Nat.le_refl _, Nat.le_refl _⟩ dX2_clashTogether_12 (fun _ _ h => False.elim h) (fun v12 σ' hp12 => ?_)
        obtain ⟨hp12, rfl⟩ := hp12
        obtain ⟨r2, rfl, hr2⟩ := hp12
        show V g κ 4 0 0 (t, cW g X0 G2 σ0) 15 [(3, .int (nI (i2))), (0, .ref (X0 + 1)), (1, .int (a1)), (2, .ref (X0 + 15))] [.int (r2)]
        refine V_ifeq X (tgt := 31) dX2_clashTogether_15 (by decide) (fun h3 => ?_) (fun h3 => ?_)
        · -- 15 true
          refine V_iinc X (nI (i2 + 1)) [(3, .int (nI (i2 + 1))), (0, .ref (X0 + 1)), (1, .int (a1)), (2, .ref (X0 + 15))] dX2_clashTogether_31 0 rfl (zinc _) (by decide) rfl ?_
          refine V_goto (tgt := 2) X dX2_clashTogether_34 (by decide) ?_
          exact V.sub [0, 1, 2, 3] rfl (ih2 _ (by omega) (i2 + 1) G2 rfl (by omega) hJ2)
        · -- 15 false
          refine V_aload_n X dX2_clashTogether_18 3 rfl ?_
          refine V_iload_n X dX2_clashTogether_19 0 rfl ?_
          refine V_dup2 X dX2_clashTogether_20 rfl rfl ?_
          refine C_iald X (N := 7) 15 (by decide) (i2) rfl (by omega) (by decide) rfl dX2_clashTogether_21 ?_
          refine V.topi (fun x4 ex4 => ?_)
          refine V_iload_n X dX2_clashTogether_22 2 rfl ?_
          refine V_iconst (v := nI 1) X dX2_clashTogether_23 (by decide) ?_
          refine V_iload_n X dX2_clashTogether_24 0 rfl ?_
          refine V_ishl1 X (by omega) dX2_clashTogether_25 ?_
          refine V_iconst (v := (-1)) X dX2_clashTogether_26 (by decide) ?_
          refine V_ixor X dX2_clashTogether_27 (V.topi (fun w5 _ => ?_))
          refine V_iand X dX2_clashTogether_28 (V.topi (fun w6 _ => ?_))
          refine V_ior X dX2_clashTogether_29 (V.topi (fun w7 _ => ?_))
          refine C_iast X (N := 7) 15 (by decide) hX (i2) rfl (by omega) (by decide) (fun _ => rfl) dX2_clashTogether_30 (fun F8 hF8 => ?_)
          have hJF8 := (hJ2 : cJ F G2).set hF8 (zscr (by omega))
          refine V_iinc X (nI (i2 + 1)) [(3, .int (nI (i2 + 1))), (0, .ref (X0 + 1)), (1, .int (a1)), (2, .ref (X0 + 15))] dX2_clashTogether_31 0 rfl (zinc _) (by decide) rfl ?_
          refine V_goto (tgt := 2) X dX2_clashTogether_34 (by decide) ?_
          exact V.sub [0, 1, 2, 3] rfl (ih2 _ (by omega) (i2 + 1) F8 rfl (by omega) hJF8)
  exact L2 _ 0 F rfl (by omega) cJ.rfl'
set_option maxRecDepth 100000 in
set_option maxHeartbeats 4000000 in
theorem k_X2_clashInTurn {g : zG} {t X0 : Nat} {σ0 : Nat → Option va_E} {F : Nat → Nat → Int32} (hX : g.2.1.size ≤ X0) {nP nS nA nC nT : Nat} (hI : cI nP nS nA nC nT F) (b : Nat) (hb : b < nS) (a2 : Int32) : Ct g 11 yX2_clashInTurn cX2_clashInTurn 6 none 0 0 [.ref (X0 + 1), .int (nI (b)), .int (a2), .ref (X0 + 15)] (t, cW g X0 F σ0) (qS pV g t X0 F σ0) zNo := by
  refine Ct.of (lv := [(0, .ref (X0 + 1)), (1, .int (nI (b))), (2, .int (a2)), (3, .ref (X0 + 15))]) (by decide) (Nat.le_of_ble_eq_true rfl) rfl ?_
  intro κ X E _ _
  have X : zX g κ RX2 cX2_clashInTurn 6 := X
  obtain ⟨b1, b2, b3, b4, b5⟩ := hI.bnd
  refine V_iconst (v := nI 0) X dX2_clashInTurn_0 (by decide) ?_
  refine V_istore X [(4, .int (nI (0))), (0, .ref (X0 + 1)), (1, .int (nI (b))), (2, .int (a2)), (3, .ref (X0 + 15))] dX2_clashInTurn_1 (by decide) rfl ?_
  have L3 : ∀ (n3 : Nat) (i3 : Nat) (G3 : Nat → Nat → Int32), n3 = nP - i3 → i3 ≤ nP → cJ F G3 → V g κ 6 0 0 (t, cW g X0 G3 σ0) 3 [(4, .int (nI (i3))), (0, .ref (X0 + 1)), (1, .int (nI (b))), (2, .int (a2)), (3, .ref (X0 + 15))] [] := by
    intro n3
    induction n3 using Nat.strongRecOn with
    | ind n3 ih3 =>
      intro i3 G3 hn3 hi3 hJ3
      refine V_iload X dX2_clashInTurn_3 0 rfl ?_
      refine V_aload_n X dX2_clashInTurn_5 1 rfl ?_
      refine C_getfN (z := nI (nP)) X fl_X2_27 1 (by decide) rfl rfl (hI.mv hJ3).f1_5 dX2_clashInTurn_6 ?_
      refine V_icmpgeN X (by omega) (by omega) (tgt := 115) dX2_clashInTurn_9 (by decide) (fun h1 => ?_) (fun h1 => ?_)
      · -- 9 true
        exact V_vret X E (Nat.le_refl _) (Nat.le_refl _) ⟨rfl, ⟨_, rfl, hJ3⟩⟩ dX2_clashInTurn_115
      · -- 9 false
        refine V_aload_n X dX2_clashInTurn_12 1 rfl ?_
        refine C_getf X fl_X2_21 1 (by decide) rfl rfl dX2_clashInTurn_13 ?_
        refine V_iload_n X dX2_clashInTurn_16 2 rfl ?_
        refine C_iald X (N := 6) 5 (by decide) (b) rfl (by omega) (by decide) rfl dX2_clashInTurn_17 ?_
        obtain ⟨m2, hm2, em2⟩ := (hI.mv hJ3).sp (b) (by omega)
        rw [em2]
        refine V_iload X dX2_clashInTurn_18 0 rfl ?_
        refine V_callSN (rest := []) X E.room ml_X2_34 st_X5_has (by decide) (by decide) (k_X5_has (σ := (t, cW g X0 G3 σ0)) (nI (m2)) (nI (i3))) rfl rfl (Nat.le_of_ble_eq_true rfl) ⟨Nat.le_refl _, Nat.le_refl _⟩ dX2_clashInTurn_20 (fun _ _ h => False.elim h) (fun v20 σ' hp20 => ?_)
        obtain ⟨hp20, rfl⟩ := hp20
        obtain ⟨r3, rfl, hr3⟩ := hp20
        show V g κ 6 0 0 (t, cW g X0 G3 σ0) 23 [(4, .int (nI (i3))), (0, .ref (X0 + 1)), (1, .int (nI (b))), (2, .int (a2)), (3, .ref (X0 + 15))] [.int (r3)]
        refine V_ifne X (tgt := 29) dX2_clashInTurn_23 (by decide) (fun h4 => ?_) (fun h4 => ?_)
        · -- 23 true
          refine V_iconst (v := nI 0) X dX2_clashInTurn_29 (by decide) ?_
          refine V_istore X [(5, .int (nI (0))), (4, .int (nI (i3))), (0, .ref (X0 + 1)), (1, .int (nI (b))), (2, .int (a2)), (3, .ref (X0 + 15))] dX2_clashInTurn_30 (by decide) rfl ?_
          have L32 : ∀ (n32 : Nat) (i32 : Nat) (G32 : Nat → Nat → Int32), n32 = nP - i32 → i32 ≤ nP → cJ F G32 → V g κ 6 0 0 (t, cW g X0 G32 σ0) 32 [(5, .int (nI (i32))), (4, .int (nI (i3))), (0, .ref (X0 + 1)), (1, .int (nI (b))), (2, .int (a2)), (3, .ref (X0 + 15))] [] := by
            intro n32
            induction n32 using Nat.strongRecOn with
            | ind n32 ih32 =>
              intro i32 G32 hn32 hi32 hJ32
              refine V_iload X dX2_clashInTurn_32 0 rfl ?_
              refine V_aload_n X dX2_clashInTurn_34 2 rfl ?_
              refine C_getfN (z := nI (nP)) X fl_X2_27 1 (by decide) rfl rfl (hI.mv hJ32).f1_5 dX2_clashInTurn_35 ?_
              refine V_icmpgeN X (by omega) (by omega) (tgt := 109) dX2_clashInTurn_38 (by decide) (fun h5 => ?_) (fun h5 => ?_)
              · -- 38 true
                refine V_iinc X (nI (i3 + 1)) [(4, .int (nI (i3 + 1))), (5, .int (nI (i32))), (0, .ref (X0 + 1)), (1, .int (nI (b))), (2, .int (a2)), (3, .ref (X0 + 15))] dX2_clashInTurn_109 1 rfl (zinc _) (by decide) rfl ?_
                refine V_goto (tgt := 3) X dX2_clashInTurn_112 (by decide) ?_
                exact V.sub [0, 2, 3, 4, 5] rfl (ih3 _ (by omega) (i3 + 1) G32 rfl (by omega) hJ32)
              · -- 38 false
                refine V_iload X dX2_clashInTurn_41 0 rfl ?_
                refine V_iload X dX2_clashInTurn_43 1 rfl ?_
                refine V_icmpeqN X (by omega) (by omega) (tgt := 103) dX2_clashInTurn_45 (by decide) (fun h6 => ?_) (fun h6 => ?_)
                · -- 45 true
                  refine V_iinc X (nI (i32 + 1)) [(5, .int (nI (i32 + 1))), (4, .int (nI (i3))), (0, .ref (X0 + 1)), (1, .int (nI (b))), (2, .int (a2)), (3, .ref (X0 + 15))] dX2_clashInTurn_103 0 rfl (zinc _) (by decide) rfl ?_
                  refine V_goto (tgt := 32) X dX2_clashInTurn_106 (by decide) ?_
                  exact V.sub [0, 1, 2, 3, 4, 5] rfl (ih32 _ (by omega) (i32 + 1) G32 rfl (by omega) hJ32)
                · -- 45 false
                  refine V_iload_n X dX2_clashInTurn_48 4 rfl ?_
                  refine V_iload X dX2_clashInTurn_49 0 rfl ?_
                  refine V_callSN (rest := []) X E.room ml_X2_34 st_X5_has (by decide) (by decide) (k_X5_has (σ := (t, cW g X0 G32 σ0)) (a2) (nI (i32))) rfl rfl (Nat.le_of_ble_eq_true rfl) ⟨Nat.le_refl _, Nat.le_refl _⟩ dX2_clashInTurn_51 (fun _ _ h => False.elim h) (fun v51 σ' hp51 => ?_)
                  obtain ⟨hp51, rfl⟩ := hp51
                  obtain ⟨r7, rfl, hr7⟩ := hp51
                  show V g κ 6 0 0 (t, cW g X0 G32 σ0) 54 [(5, .int (nI (i32))), (4, .int (nI (i3))), (0, .ref (X0 + 1)), (1, .int (nI (b))), (2, .int (a2)), (3, .ref (X0 + 15))] [.int (r7)]
                  refine V_ifeq X (tgt := 103) dX2_clashInTurn_54 (by decide) (fun h8 => ?_) (fun h8 => ?_)
                  · -- 54 true
                    refine V_iinc X (nI (i32 + 1)) [(5, .int (nI (i32 + 1))), (4, .int (nI (i3))), (0, .ref (X0 + 1)), (1, .int (nI (b))), (2, .int (a2)), (3, .ref (X0 + 15))] dX2_clashInTurn_103 0 rfl (zinc _) (by decide) rfl ?_
                    refine V_goto (tgt := 32) X dX2_clashInTurn_106 (by decide) ?_
                    exact V.sub [0, 1, 2, 3, 4, 5] rfl (ih32 _ (by omega) (i32 + 1) G32 rfl (by omega) hJ32)
                  · -- 54 false
                    refine V_aload_n X dX2_clashInTurn_57 2 rfl ?_
                    refine C_getf X fl_X2_18 1 (by decide) rfl rfl dX2_clashInTurn_58 ?_
                    refine V_iload X dX2_clashInTurn_61 1 rfl ?_
                    refine C_iald X (N := 7) 4 (by decide) (i3) rfl (by omega) (by decide) rfl dX2_clashInTurn_63 ?_
                    refine V.topi (fun x9 ex9 => ?_)
                    refine V_aload_n X dX2_clashInTurn_64 2 rfl ?_
                    refine C_getf X fl_X2_18 1 (by decide) rfl rfl dX2_clashInTurn_65 ?_
                    refine V_iload X dX2_clashInTurn_68 0 rfl ?_
                    refine C_iald X (N := 7) 4 (by decide) (i32) rfl (by omega) (by decide) rfl dX2_clashInTurn_70 ?_
                    refine V.topi (fun x10 ex10 => ?_)
                    refine V_iadd X dX2_clashInTurn_71 (V.topi (fun w11 _ => ?_))
                    refine V_aload_n X dX2_clashInTurn_72 2 rfl ?_
                    refine C_getf X fl_X2_24 1 (by decide) rfl rfl dX2_clashInTurn_73 ?_
                    refine V_iload_n X dX2_clashInTurn_76 3 rfl ?_
                    refine C_iald X (N := 6) 6 (by decide) (b) rfl (by omega) (by decide) rfl dX2_clashInTurn_77 ?_
                    refine V.topi (fun x12 ex12 => ?_)
                    refine V_icmple X (tgt := 103) dX2_clashInTurn_78 (by decide) (fun h13 => ?_) (fun h13 => ?_)
                    · -- 78 true
                      refine V_iinc X (nI (i32 + 1)) [(5, .int (nI (i32 + 1))), (4, .int (nI (i3))), (0, .ref (X0 + 1)), (1, .int (nI (b))), (2, .int (a2)), (3, .ref (X0 + 15))] dX2_clashInTurn_103 0 rfl (zinc _) (by decide) rfl ?_
                      refine V_goto (tgt := 32) X dX2_clashInTurn_106 (by decide) ?_
                      exact V.sub [0, 1, 2, 3, 4, 5] rfl (ih32 _ (by omega) (i32 + 1) G32 rfl (by omega) hJ32)
                    · -- 78 false
                      refine V_aload_n X dX2_clashInTurn_81 5 rfl ?_
                      refine V_iload X dX2_clashInTurn_82 1 rfl ?_
                      refine V_dup2 X dX2_clashInTurn_84 rfl rfl ?_
                      refine C_iald X (N := 7) 15 (by decide) (i3) rfl (by omega) (by decide) rfl dX2_clashInTurn_85 ?_
                      refine V.topi (fun x14 ex14 => ?_)
                      refine V_iconst (v := nI 1) X dX2_clashInTurn_86 (by decide) ?_
                      refine V_iload X dX2_clashInTurn_87 0 rfl ?_
                      refine V_ishl1 X (by omega) dX2_clashInTurn_89 ?_
                      refine V_ior X dX2_clashInTurn_90 (V.topi (fun w15 _ => ?_))
                      refine C_iast X (N := 7) 15 (by decide) hX (i3) rfl (by omega) (by decide) (fun _ => rfl) dX2_clashInTurn_91 (fun F16 hF16 => ?_)
                      have hJF16 := (hJ32 : cJ F G32).set hF16 (zscr (by omega))
                      refine V_aload_n X dX2_clashInTurn_92 5 rfl ?_
                      refine V_iload X dX2_clashInTurn_93 0 rfl ?_
                      refine V_dup2 X dX2_clashInTurn_95 rfl rfl ?_
                      refine C_iald X (N := 7) 15 (by decide) (i32) rfl (by omega) (by decide) rfl dX2_clashInTurn_96 ?_
                      refine V.topi (fun x17 ex17 => ?_)
                      refine V_iconst (v := nI 1) X dX2_clashInTurn_97 (by decide) ?_
                      refine V_iload X dX2_clashInTurn_98 1 rfl ?_
                      refine V_ishl1 X (by omega) dX2_clashInTurn_100 ?_
                      refine V_ior X dX2_clashInTurn_101 (V.topi (fun w18 _ => ?_))
                      refine C_iast X (N := 7) 15 (by decide) hX (i32) rfl (by omega) (by decide) (fun _ => rfl) dX2_clashInTurn_102 (fun F19 hF19 => ?_)
                      have hJF19 := (hJF16 : cJ F F16).set hF19 (zscr (by omega))
                      refine V_iinc X (nI (i32 + 1)) [(5, .int (nI (i32 + 1))), (4, .int (nI (i3))), (0, .ref (X0 + 1)), (1, .int (nI (b))), (2, .int (a2)), (3, .ref (X0 + 15))] dX2_clashInTurn_103 0 rfl (zinc _) (by decide) rfl ?_
                      refine V_goto (tgt := 32) X dX2_clashInTurn_106 (by decide) ?_
                      exact V.sub [0, 1, 2, 3, 4, 5] rfl (ih32 _ (by omega) (i32 + 1) F19 rfl (by omega) hJF19)
          exact L32 _ 0 G3 rfl (by omega) hJ3
        · -- 23 false
          refine V_goto (tgt := 109) X dX2_clashInTurn_26 (by decide) ?_
          refine V_iinc X (nI (i3 + 1)) [(4, .int (nI (i3 + 1))), (0, .ref (X0 + 1)), (1, .int (nI (b))), (2, .int (a2)), (3, .ref (X0 + 15))] dX2_clashInTurn_109 0 rfl (zinc _) (by decide) rfl ?_
          refine V_goto (tgt := 3) X dX2_clashInTurn_112 (by decide) ?_
          exact V.sub [0, 1, 2, 3, 4] rfl (ih3 _ (by omega) (i3 + 1) G3 rfl (by omega) hJ3)
  exact L3 _ 0 F rfl (by omega) cJ.rfl'
set_option maxRecDepth 100000 in
set_option maxHeartbeats 4000000 in
theorem k_X1_sharesOf {g : zG} {t X0 : Nat} {σ0 : Nat → Option va_E} {F : Nat → Nat → Int32} (hX : g.2.1.size ≤ X0) {nP nS nA nC nT : Nat} (hI : cI nP nS nA nC nT F)  (a1 : Int32) : Ct g 11 yX1_sharesOf cX1_sharesOf 4 (some FieldType.int) 0 0 [.ref (X0 + 7), .int (a1)] (t, cW g X0 F σ0) (qR pI (t, cW g X0 F σ0)) zNo := by
  refine Ct.of (lv := [(0, .ref (X0 + 7)), (1, .int (a1))]) (by decide) (Nat.le_of_ble_eq_true rfl) rfl ?_
  intro κ X E _ _
  have X : zX g κ RX1 cX1_sharesOf 4 := X
  obtain ⟨b1, b2, b3, b4, b5⟩ := hI.bnd
  refine V_iconst (v := nI 0) X dX1_sharesOf_0 (by decide) ?_
  refine V_istore_n X [(2, .int (nI (0))), (0, .ref (X0 + 7)), (1, .int (a1))] dX1_sharesOf_1 (by decide) rfl ?_
  refine V_iconst (v := nI 0) X dX1_sharesOf_2 (by decide) ?_
  refine V_istore_n X [(3, .int (nI (0))), (2, .int (nI (0))), (0, .ref (X0 + 7)), (1, .int (a1))] dX1_sharesOf_3 (by decide) rfl ?_
  have L4 : ∀ (n4 : Nat) (i4 : Nat) (x4_2 : Int32), n4 = nA - i4 → i4 ≤ nA → V g κ 4 0 0 (t, cW g X0 F σ0) 4 [(3, .int (nI (i4))), (2, .int (x4_2)), (0, .ref (X0 + 7)), (1, .int (a1))] [] := by
    intro n4
    induction n4 using Nat.strongRecOn with
    | ind n4 ih4 =>
      intro i4 x4_2 hn4 hi4
      refine V_iload_n X dX1_sharesOf_4 0 rfl ?_
      refine V_aload_n X dX1_sharesOf_5 2 rfl ?_
      refine C_getfN (z := nI (nA)) X fl_X1_24 7 (by decide) rfl rfl hI.f7_4 dX1_sharesOf_6 ?_
      refine V_icmpgeN X (by omega) (by omega) (tgt := 35) dX1_sharesOf_9 (by decide) (fun h1 => ?_) (fun h1 => ?_)
      · -- 9 true
        refine V_iload_n X dX1_sharesOf_35 1 rfl ?_
        exact V_iret X E (Nat.le_refl _) (Nat.le_refl _) ⟨⟨_, rfl⟩, rfl⟩ dX1_sharesOf_36
      · -- 9 false
        refine V_iload_n X dX1_sharesOf_12 3 rfl ?_
        refine V_iload_n X dX1_sharesOf_13 0 rfl ?_
        refine V_callSN (rest := []) X E.room ml_X1_37 st_X5_has (by decide) (by decide) (k_X5_has (σ := (t, cW g X0 F σ0)) (a1) (nI (i4))) rfl rfl (Nat.le_of_ble_eq_true rfl) ⟨Nat.le_refl _, Nat.le_refl _⟩ dX1_sharesOf_14 (fun _ _ h => False.elim h) (fun v14 σ' hp14 => ?_)
        obtain ⟨hp14, rfl⟩ := hp14
        obtain ⟨r2, rfl, hr2⟩ := hp14
        show V g κ 4 0 0 (t, cW g X0 F σ0) 17 [(3, .int (nI (i4))), (2, .int (x4_2)), (0, .ref (X0 + 7)), (1, .int (a1))] [.int (r2)]
        refine V_ifeq X (tgt := 29) dX1_sharesOf_17 (by decide) (fun h3 => ?_) (fun h3 => ?_)
        · -- 17 true
          refine V_iinc X (nI (i4 + 1)) [(3, .int (nI (i4 + 1))), (2, .int (x4_2)), (0, .ref (X0 + 7)), (1, .int (a1))] dX1_sharesOf_29 0 rfl (zinc _) (by decide) rfl ?_
          refine V_goto (tgt := 4) X dX1_sharesOf_32 (by decide) ?_
          exact V.sub [0, 1, 2, 3] rfl (ih4 _ (by omega) (i4 + 1) x4_2 rfl (by omega))
        · -- 17 false
          refine V_iload_n X dX1_sharesOf_20 1 rfl ?_
          refine V_aload_n X dX1_sharesOf_21 2 rfl ?_
          refine C_getf X fl_X1_18 7 (by decide) rfl rfl dX1_sharesOf_22 ?_
          refine V_iload_n X dX1_sharesOf_25 0 rfl ?_
          refine C_iald X (N := 5) 10 (by decide) (i4) rfl (by omega) (by decide) rfl dX1_sharesOf_26 ?_
          refine V.topi (fun x4 ex4 => ?_)
          refine V_iadd X dX1_sharesOf_27 (V.topi (fun w5 _ => ?_))
          refine V_istore_n X [(2, .int (w5)), (3, .int (nI (i4))), (0, .ref (X0 + 7)), (1, .int (a1))] dX1_sharesOf_28 (by decide) rfl ?_
          refine V_iinc X (nI (i4 + 1)) [(3, .int (nI (i4 + 1))), (2, .int (w5)), (0, .ref (X0 + 7)), (1, .int (a1))] dX1_sharesOf_29 1 rfl (zinc _) (by decide) rfl ?_
          refine V_goto (tgt := 4) X dX1_sharesOf_32 (by decide) ?_
          exact V.sub [0, 1, 2, 3] rfl (ih4 _ (by omega) (i4 + 1) w5 rfl (by omega))
  exact L4 _ 0 (nI (0)) rfl (by omega)
set_option maxRecDepth 100000 in
set_option maxHeartbeats 4000000 in
theorem k_X1_portion {g : zG} {t X0 : Nat} {σ0 : Nat → Option va_E} {F : Nat → Nat → Int32} (hX : g.2.1.size ≤ X0) {nP nS nA nC nT : Nat} (hI : cI nP nS nA nC nT F) (a1 : Int32) (b : Nat) (hb : b < nA) (a3 : Int32) : Ct g 12 yX1_portion cX1_portion 10 (some FieldType.int) 0 0 [.ref (X0 + 7), .int (a1), .int (nI (b)), .int (a3)] (t, cW g X0 F σ0) (qR pI (t, cW g X0 F σ0)) zNo := by
  refine Ct.of (lv := [(0, .ref (X0 + 7)), (1, .int (a1)), (2, .int (nI (b))), (3, .int (a3))]) (by decide) (Nat.le_of_ble_eq_true rfl) rfl ?_
  intro κ X E _ _
  have X : zX g κ RX1 cX1_portion 10 := X
  obtain ⟨b1, b2, b3, b4, b5⟩ := hI.bnd
  refine V_aload_n X dX1_portion_0 0 rfl ?_
  refine V_iload_n X dX1_portion_1 3 rfl ?_
  refine V_callV (rest := []) X E.room ml_X1_41 in_X1_sharesOf (ci := 5) rfl se_X1_sharesOf (C_recv (q := 7) (by decide) rfl) (by decide) (by decide) (k_X1_sharesOf hX hI (a3)) rfl rfl (Nat.le_of_ble_eq_true rfl) ⟨Nat.le_refl _, Nat.le_refl _⟩ dX1_portion_2 (fun _ _ h => False.elim h) (fun v2 σ' hp2 => ?_)
  obtain ⟨hp2, rfl⟩ := hp2
  obtain ⟨r1, rfl⟩ := hp2
  show V g κ 10 0 0 (t, cW g X0 F σ0) 5 [(0, .ref (X0 + 7)), (1, .int (a1)), (2, .int (nI (b))), (3, .int (a3))] [.int (r1)]
  refine V_istore X [(4, .int (r1)), (0, .ref (X0 + 7)), (1, .int (a1)), (2, .int (nI (b))), (3, .int (a3))] dX1_portion_5 (by decide) rfl ?_
  refine V_iload X dX1_portion_7 0 rfl ?_
  refine V_ifeq X (tgt := 20) dX1_portion_9 (by decide) (fun h2 => ?_) (fun h2 => ?_)
  · -- 9 true
    refine V_iconst (v := nI 0) X dX1_portion_20 (by decide) ?_
    exact V_iret X E (Nat.le_refl _) (Nat.le_refl _) ⟨⟨_, rfl⟩, rfl⟩ dX1_portion_21
  · -- 9 false
    refine V_iload_n X dX1_portion_12 4 rfl ?_
    refine V_iload_n X dX1_portion_13 3 rfl ?_
    refine V_callSN (rest := []) X E.room ml_X1_37 st_X5_has (by decide) (by decide) (k_X5_has (σ := (t, cW g X0 F σ0)) (a3) (nI (b))) rfl rfl (Nat.le_of_ble_eq_true rfl) ⟨Nat.le_refl _, Nat.le_refl _⟩ dX1_portion_14 (fun _ _ h => False.elim h) (fun v14 σ' hp14 => ?_)
    obtain ⟨hp14, rfl⟩ := hp14
    obtain ⟨r3, rfl, hr3⟩ := hp14
    show V g κ 10 0 0 (t, cW g X0 F σ0) 17 [(4, .int (r1)), (0, .ref (X0 + 7)), (1, .int (a1)), (2, .int (nI (b))), (3, .int (a3))] [.int (r3)]
    refine V_ifne X (tgt := 22) dX1_portion_17 (by decide) (fun h4 => ?_) (fun h4 => ?_)
    · -- 17 true
      refine V_iload_n X dX1_portion_22 2 rfl ?_
      refine V_aload_n X dX1_portion_23 1 rfl ?_
      refine C_getf X fl_X1_18 7 (by decide) rfl rfl dX1_portion_24 ?_
      refine V_iload_n X dX1_portion_27 3 rfl ?_
      refine C_iald X (N := 5) 10 (by decide) (b) rfl (by omega) (by decide) rfl dX1_portion_28 ?_
      refine V.topi (fun x5 ex5 => ?_)
      refine V_imul X dX1_portion_29 (V.topi (fun w6 _ => ?_))
      refine V_iload X dX1_portion_30 0 rfl ?_
      refine V_irem X (by assumption) dX1_portion_32 (V.topi (fun w7 _ => ?_))
      refine V_istore X [(5, .int (w7)), (4, .int (r1)), (0, .ref (X0 + 7)), (1, .int (a1)), (2, .int (nI (b))), (3, .int (a3))] dX1_portion_33 (by decide) rfl ?_
      refine V_iload_n X dX1_portion_35 3 rfl ?_
      refine V_istore X [(6, .int (a1)), (5, .int (w7)), (4, .int (r1)), (0, .ref (X0 + 7)), (1, .int (a1)), (2, .int (nI (b))), (3, .int (a3))] dX1_portion_36 (by decide) rfl ?_
      refine V_iconst (v := nI 0) X dX1_portion_38 (by decide) ?_
      refine V_istore X [(7, .int (nI (0))), (6, .int (a1)), (5, .int (w7)), (4, .int (r1)), (0, .ref (X0 + 7)), (1, .int (a1)), (2, .int (nI (b))), (3, .int (a3))] dX1_portion_39 (by decide) rfl ?_
      refine V_iconst (v := nI 0) X dX1_portion_41 (by decide) ?_
      refine V_istore X [(8, .int (nI (0))), (7, .int (nI (0))), (6, .int (a1)), (5, .int (w7)), (4, .int (r1)), (0, .ref (X0 + 7)), (1, .int (a1)), (2, .int (nI (b))), (3, .int (a3))] dX1_portion_42 (by decide) rfl ?_
      have L44 : ∀ (n44 : Nat) (i44 : Nat) (x44_7 : Int32) (x44_6 : Int32), n44 = nA - i44 → i44 ≤ nA → V g κ 10 0 0 (t, cW g X0 F σ0) 44 [(8, .int (nI (i44))), (7, .int (x44_7)), (6, .int (x44_6)), (5, .int (w7)), (4, .int (r1)), (0, .ref (X0 + 7)), (1, .int (a1)), (2, .int (nI (b))), (3, .int (a3))] [] := by
        intro n44
        induction n44 using Nat.strongRecOn with
        | ind n44 ih44 =>
          intro i44 x44_7 x44_6 hn44 hi44
          refine V_iload X dX1_portion_44 0 rfl ?_
          refine V_aload_n X dX1_portion_46 5 rfl ?_
          refine C_getfN (z := nI (nA)) X fl_X1_24 7 (by decide) rfl rfl hI.f7_4 dX1_portion_47 ?_
          refine V_icmpgeN X (by omega) (by omega) (tgt := 125) dX1_portion_50 (by decide) (fun h8 => ?_) (fun h8 => ?_)
          · -- 50 true
            refine V_iload_n X dX1_portion_125 6 rfl ?_
            refine V_aload_n X dX1_portion_126 5 rfl ?_
            refine C_getf X fl_X1_18 7 (by decide) rfl rfl dX1_portion_127 ?_
            refine V_iload_n X dX1_portion_130 7 rfl ?_
            refine C_iald X (N := 5) 10 (by decide) (b) rfl (by omega) (by decide) rfl dX1_portion_131 ?_
            refine V.topi (fun x9 ex9 => ?_)
            refine V_imul X dX1_portion_132 (V.topi (fun w10 _ => ?_))
            refine V_iload X dX1_portion_133 4 rfl ?_
            refine V_idiv X (by assumption) dX1_portion_135 (V.topi (fun w11 _ => ?_))
            refine V_iload X dX1_portion_136 1 rfl ?_
            refine V_iload X dX1_portion_138 2 rfl ?_
            refine V_icmpge X (tgt := 147) dX1_portion_140 (by decide) (fun h12 => ?_) (fun h12 => ?_)
            · -- 140 true
              refine V_iconst (v := nI 0) X dX1_portion_147 (by decide) ?_
              refine V_iadd X dX1_portion_148 (V.topi (fun w13 _ => ?_))
              exact V_iret X E (Nat.le_refl _) (Nat.le_refl _) ⟨⟨_, rfl⟩, rfl⟩ dX1_portion_149
            · -- 140 false
              refine V_iconst (v := nI 1) X dX1_portion_143 (by decide) ?_
              refine V_goto (tgt := 148) X dX1_portion_144 (by decide) ?_
              refine V_iadd X dX1_portion_148 (V.topi (fun w14 _ => ?_))
              exact V_iret X E (Nat.le_refl _) (Nat.le_refl _) ⟨⟨_, rfl⟩, rfl⟩ dX1_portion_149
          · -- 50 false
            refine V_iload_n X dX1_portion_53 8 rfl ?_
            refine V_iload X dX1_portion_54 0 rfl ?_
            refine V_callSN (rest := []) X E.room ml_X1_37 st_X5_has (by decide) (by decide) (k_X5_has (σ := (t, cW g X0 F σ0)) (a3) (nI (i44))) rfl rfl (Nat.le_of_ble_eq_true rfl) ⟨Nat.le_refl _, Nat.le_refl _⟩ dX1_portion_56 (fun _ _ h => False.elim h) (fun v56 σ' hp56 => ?_)
            obtain ⟨hp56, rfl⟩ := hp56
            obtain ⟨r15, rfl, hr15⟩ := hp56
            show V g κ 10 0 0 (t, cW g X0 F σ0) 59 [(8, .int (nI (i44))), (7, .int (x44_7)), (6, .int (x44_6)), (5, .int (w7)), (4, .int (r1)), (0, .ref (X0 + 7)), (1, .int (a1)), (2, .int (nI (b))), (3, .int (a3))] [.int (r15)]
            refine V_ifne X (tgt := 65) dX1_portion_59 (by decide) (fun h16 => ?_) (fun h16 => ?_)
            · -- 59 true
              refine V_iload X dX1_portion_65 2 rfl ?_
              refine V_iload_n X dX1_portion_67 6 rfl ?_
              refine V_aload_n X dX1_portion_68 5 rfl ?_
              refine C_getf X fl_X1_18 7 (by decide) rfl rfl dX1_portion_69 ?_
              refine V_iload X dX1_portion_72 0 rfl ?_
              refine C_iald X (N := 5) 10 (by decide) (i44) rfl (by omega) (by decide) rfl dX1_portion_74 ?_
              refine V.topi (fun x17 ex17 => ?_)
              refine V_imul X dX1_portion_75 (V.topi (fun w18 _ => ?_))
              refine V_iload X dX1_portion_76 4 rfl ?_
              refine V_idiv X (by assumption) dX1_portion_78 (V.topi (fun w19 _ => ?_))
              refine V_isub X dX1_portion_79 (V.topi (fun w20 _ => ?_))
              refine V_istore X [(6, .int (w20)), (8, .int (nI (i44))), (7, .int (x44_7)), (5, .int (w7)), (4, .int (r1)), (0, .ref (X0 + 7)), (1, .int (a1)), (2, .int (nI (b))), (3, .int (a3))] dX1_portion_80 (by decide) rfl ?_
              refine V_iload_n X dX1_portion_82 6 rfl ?_
              refine V_aload_n X dX1_portion_83 5 rfl ?_
              refine C_getf X fl_X1_18 7 (by decide) rfl rfl dX1_portion_84 ?_
              refine V_iload X dX1_portion_87 1 rfl ?_
              refine C_iald X (N := 5) 10 (by decide) (i44) rfl (by omega) (by decide) rfl dX1_portion_89 ?_
              refine V.topi (fun x21 ex21 => ?_)
              refine V_imul X dX1_portion_90 (V.topi (fun w22 _ => ?_))
              refine V_iload X dX1_portion_91 4 rfl ?_
              refine V_irem X (by assumption) dX1_portion_93 (V.topi (fun w23 _ => ?_))
              refine V_istore X [(9, .int (w23)), (6, .int (w20)), (8, .int (nI (i44))), (7, .int (x44_7)), (5, .int (w7)), (4, .int (r1)), (0, .ref (X0 + 7)), (1, .int (a1)), (2, .int (nI (b))), (3, .int (a3))] dX1_portion_94 (by decide) rfl ?_
              refine V_iload X dX1_portion_96 0 rfl ?_
              refine V_iload X dX1_portion_98 4 rfl ?_
              refine V_icmpgt X (tgt := 116) dX1_portion_100 (by decide) (fun h24 => ?_) (fun h24 => ?_)
              · -- 100 true
                obtain ⟨w25, hw25⟩ : ∃ z, z = x44_7 + Int32.ofInt (1) := ⟨_, rfl⟩
                refine V_iinc X w25 [(7, .int (w25)), (9, .int (w23)), (6, .int (w20)), (8, .int (nI (i44))), (5, .int (w7)), (4, .int (r1)), (0, .ref (X0 + 7)), (1, .int (a1)), (2, .int (nI (b))), (3, .int (a3))] dX1_portion_116 3 rfl hw25.symm (by decide) rfl ?_
                refine V_iinc X (nI (i44 + 1)) [(8, .int (nI (i44 + 1))), (7, .int (w25)), (9, .int (w23)), (6, .int (w20)), (5, .int (w7)), (4, .int (r1)), (0, .ref (X0 + 7)), (1, .int (a1)), (2, .int (nI (b))), (3, .int (a3))] dX1_portion_119 3 rfl (zinc _) (by decide) rfl ?_
                refine V_goto (tgt := 44) X dX1_portion_122 (by decide) ?_
                exact V.sub [0, 1, 3, 4, 5, 6, 7, 8, 9] rfl (ih44 _ (by omega) (i44 + 1) w25 w20 rfl (by omega))
              · -- 100 false
                refine V_iload X dX1_portion_103 0 rfl ?_
                refine V_iload X dX1_portion_105 4 rfl ?_
                refine V_icmpne X (tgt := 119) dX1_portion_107 (by decide) (fun h26 => ?_) (fun h26 => ?_)
                · -- 107 true
                  refine V_iinc X (nI (i44 + 1)) [(8, .int (nI (i44 + 1))), (9, .int (w23)), (6, .int (w20)), (7, .int (x44_7)), (5, .int (w7)), (4, .int (r1)), (0, .ref (X0 + 7)), (1, .int (a1)), (2, .int (nI (b))), (3, .int (a3))] dX1_portion_119 2 rfl (zinc _) (by decide) rfl ?_
                  refine V_goto (tgt := 44) X dX1_portion_122 (by decide) ?_
                  exact V.sub [0, 3, 2, 4, 5, 6, 7, 8, 9] rfl (ih44 _ (by omega) (i44 + 1) x44_7 w20 rfl (by omega))
                · -- 107 false
                  refine V_iload X dX1_portion_110 2 rfl ?_
                  refine V_iload_n X dX1_portion_112 8 rfl ?_
                  refine V_icmpgeN X (by omega) (by omega) (tgt := 119) dX1_portion_113 (by decide) (fun h27 => ?_) (fun h27 => ?_)
                  · -- 113 true
                    refine V_iinc X (nI (i44 + 1)) [(8, .int (nI (i44 + 1))), (9, .int (w23)), (6, .int (w20)), (7, .int (x44_7)), (5, .int (w7)), (4, .int (r1)), (0, .ref (X0 + 7)), (1, .int (a1)), (2, .int (nI (b))), (3, .int (a3))] dX1_portion_119 2 rfl (zinc _) (by decide) rfl ?_
                    refine V_goto (tgt := 44) X dX1_portion_122 (by decide) ?_
                    exact V.sub [0, 3, 2, 4, 5, 6, 7, 8, 9] rfl (ih44 _ (by omega) (i44 + 1) x44_7 w20 rfl (by omega))
                  · -- 113 false
                    obtain ⟨w28, hw28⟩ : ∃ z, z = x44_7 + Int32.ofInt (1) := ⟨_, rfl⟩
                    refine V_iinc X w28 [(7, .int (w28)), (9, .int (w23)), (6, .int (w20)), (8, .int (nI (i44))), (5, .int (w7)), (4, .int (r1)), (0, .ref (X0 + 7)), (1, .int (a1)), (2, .int (nI (b))), (3, .int (a3))] dX1_portion_116 3 rfl hw28.symm (by decide) rfl ?_
                    refine V_iinc X (nI (i44 + 1)) [(8, .int (nI (i44 + 1))), (7, .int (w28)), (9, .int (w23)), (6, .int (w20)), (5, .int (w7)), (4, .int (r1)), (0, .ref (X0 + 7)), (1, .int (a1)), (2, .int (nI (b))), (3, .int (a3))] dX1_portion_119 3 rfl (zinc _) (by decide) rfl ?_
                    refine V_goto (tgt := 44) X dX1_portion_122 (by decide) ?_
                    exact V.sub [0, 1, 3, 4, 5, 6, 7, 8, 9] rfl (ih44 _ (by omega) (i44 + 1) w28 w20 rfl (by omega))
            · -- 59 false
              refine V_goto (tgt := 119) X dX1_portion_62 (by decide) ?_
              refine V_iinc X (nI (i44 + 1)) [(8, .int (nI (i44 + 1))), (7, .int (x44_7)), (6, .int (x44_6)), (5, .int (w7)), (4, .int (r1)), (0, .ref (X0 + 7)), (1, .int (a1)), (2, .int (nI (b))), (3, .int (a3))] dX1_portion_119 0 rfl (zinc _) (by decide) rfl ?_
              refine V_goto (tgt := 44) X dX1_portion_122 (by decide) ?_
              exact V.sub [0, 1, 2, 3, 4, 5, 6, 7, 8] rfl (ih44 _ (by omega) (i44 + 1) x44_7 x44_6 rfl (by omega))
      exact L44 _ 0 (nI (0)) a1 rfl (by omega)
    · -- 17 false
      refine V_iconst (v := nI 0) X dX1_portion_20 (by decide) ?_
      exact V_iret X E (Nat.le_refl _) (Nat.le_refl _) ⟨⟨_, rfl⟩, rfl⟩ dX1_portion_21
set_option maxRecDepth 100000 in
set_option maxHeartbeats 4000000 in
theorem k_X0_actors {g : zG} {t X0 : Nat} {σ0 : Nat → Option va_E} {F : Nat → Nat → Int32} (hX : g.2.1.size ≤ X0) {nP nS nA nC nT : Nat} (hI : cI nP nS nA nC nT F)  : Ct g 10 yX0_actors cX0_actors 3 (some FieldType.int) 0 0 [.ref (X0 + 12)] (t, cW g X0 F σ0) (qR pI (t, cW g X0 F σ0)) zNo := by
  refine Ct.of (lv := [(0, .ref (X0 + 12))]) (by decide) (Nat.le_of_ble_eq_true rfl) rfl ?_
  intro κ X E _ _
  have X : zX g κ RX0 cX0_actors 3 := X
  obtain ⟨b1, b2, b3, b4, b5⟩ := hI.bnd
  refine V_iconst (v := nI 0) X dX0_actors_0 (by decide) ?_
  refine V_istore_n X [(1, .int (nI (0))), (0, .ref (X0 + 12))] dX0_actors_1 (by decide) rfl ?_
  refine V_iconst (v := nI 0) X dX0_actors_2 (by decide) ?_
  refine V_istore_n X [(2, .int (nI (0))), (1, .int (nI (0))), (0, .ref (X0 + 12))] dX0_actors_3 (by decide) rfl ?_
  have L4 : ∀ (n4 : Nat) (i4 : Nat) (x4_1 : Int32), n4 = 5 - i4 → i4 ≤ 5 → V g κ 3 0 0 (t, cW g X0 F σ0) 4 [(2, .int (nI (i4))), (1, .int (x4_1)), (0, .ref (X0 + 12))] [] := by
    intro n4
    induction n4 using Nat.strongRecOn with
    | ind n4 ih4 =>
      intro i4 x4_1 hn4 hi4
      refine V_iload_n X dX0_actors_4 0 rfl ?_
      refine V_iconst (v := nI 5) X dX0_actors_5 (by decide) ?_
      refine V_icmpgeN X (by omega) (by omega) (tgt := 30) dX0_actors_6 (by decide) (fun h1 => ?_) (fun h1 => ?_)
      · -- 6 true
        refine V_iload_n X dX0_actors_30 1 rfl ?_
        exact V_iret X E (Nat.le_refl _) (Nat.le_refl _) ⟨⟨_, rfl⟩, rfl⟩ dX0_actors_31
      · -- 6 false
        refine V_aload_n X dX0_actors_9 2 rfl ?_
        refine C_getf X fl_X0_9 12 (by decide) rfl rfl dX0_actors_10 ?_
        refine V_iload_n X dX0_actors_13 0 rfl ?_
        refine C_iald X (N := 5) 13 (by decide) (i4) rfl (by omega) (by decide) rfl dX0_actors_14 ?_
        refine V.topi (fun x2 ex2 => ?_)
        refine V_ifeq X (tgt := 24) dX0_actors_15 (by decide) (fun h3 => ?_) (fun h3 => ?_)
        · -- 15 true
          refine V_iinc X (nI (i4 + 1)) [(2, .int (nI (i4 + 1))), (1, .int (x4_1)), (0, .ref (X0 + 12))] dX0_actors_24 0 rfl (zinc _) (by decide) rfl ?_
          refine V_goto (tgt := 4) X dX0_actors_27 (by decide) ?_
          exact V.sub [0, 1, 2] rfl (ih4 _ (by omega) (i4 + 1) x4_1 rfl (by omega))
        · -- 15 false
          refine V_iload_n X dX0_actors_18 1 rfl ?_
          refine V_iconst (v := nI 1) X dX0_actors_19 (by decide) ?_
          refine V_iload_n X dX0_actors_20 0 rfl ?_
          refine V_ishl1 X (by omega) dX0_actors_21 ?_
          refine V_ior X dX0_actors_22 (V.topi (fun w4 _ => ?_))
          refine V_istore_n X [(1, .int (w4)), (2, .int (nI (i4))), (0, .ref (X0 + 12))] dX0_actors_23 (by decide) rfl ?_
          refine V_iinc X (nI (i4 + 1)) [(2, .int (nI (i4 + 1))), (1, .int (w4)), (0, .ref (X0 + 12))] dX0_actors_24 1 rfl (zinc _) (by decide) rfl ?_
          refine V_goto (tgt := 4) X dX0_actors_27 (by decide) ?_
          exact V.sub [0, 1, 2] rfl (ih4 _ (by omega) (i4 + 1) w4 rfl (by omega))
  exact L4 _ 0 (nI (0)) rfl (by omega)
set_option maxRecDepth 100000 in
set_option maxHeartbeats 4000000 in
theorem k_X0_playerOf {g : zG} {t X0 : Nat} {σ0 : Nat → Option va_E} {F : Nat → Nat → Int32} (hX : g.2.1.size ≤ X0) {nP nS nA nC nT : Nat} (hI : cI nP nS nA nC nT F)  (a1 : Int32) : Ct g 11 yX0_playerOf cX0_playerOf 3 (some FieldType.int) 0 0 [.ref (X0 + 12), .int (a1)] (t, cW g X0 F σ0) (qR (pO 5) (t, cW g X0 F σ0)) zNo := by
  refine Ct.of (lv := [(0, .ref (X0 + 12)), (1, .int (a1))]) (by decide) (Nat.le_of_ble_eq_true rfl) rfl ?_
  intro κ X E _ _
  have X : zX g κ RX0 cX0_playerOf 3 := X
  obtain ⟨b1, b2, b3, b4, b5⟩ := hI.bnd
  refine V_iconst (v := nI 0) X dX0_playerOf_0 (by decide) ?_
  refine V_istore_n X [(2, .int (nI (0))), (0, .ref (X0 + 12)), (1, .int (a1))] dX0_playerOf_1 (by decide) rfl ?_
  have L2 : ∀ (n2 : Nat) (i2 : Nat), n2 = 5 - i2 → i2 ≤ 5 → V g κ 3 0 0 (t, cW g X0 F σ0) 2 [(2, .int (nI (i2))), (0, .ref (X0 + 12)), (1, .int (a1))] [] := by
    intro n2
    induction n2 using Nat.strongRecOn with
    | ind n2 ih2 =>
      intro i2 hn2 hi2
      refine V_iload_n X dX0_playerOf_2 0 rfl ?_
      refine V_iconst (v := nI 5) X dX0_playerOf_3 (by decide) ?_
      refine V_icmpgeN X (by omega) (by omega) (tgt := 28) dX0_playerOf_4 (by decide) (fun h1 => ?_) (fun h1 => ?_)
      · -- 4 true
        refine V_iconst (v := (-1)) X dX0_playerOf_28 (by decide) ?_
        exact V_iret X E (Nat.le_refl _) (Nat.le_refl _) ⟨Or.inl rfl, rfl⟩ dX0_playerOf_29
      · -- 4 false
        refine V_aload_n X dX0_playerOf_7 1 rfl ?_
        refine C_getf X fl_X0_9 12 (by decide) rfl rfl dX0_playerOf_8 ?_
        refine V_iload_n X dX0_playerOf_11 0 rfl ?_
        refine C_iald X (N := 5) 13 (by decide) (i2) rfl (by omega) (by decide) rfl dX0_playerOf_12 ?_
        refine V.topi (fun x2 ex2 => ?_)
        refine V_iload_n X dX0_playerOf_13 2 rfl ?_
        refine V_callSN (rest := []) X E.room ml_X0_86 st_X5_has (by decide) (by decide) (k_X5_has (σ := (t, cW g X0 F σ0)) (x2) (a1)) rfl rfl (Nat.le_of_ble_eq_true rfl) ⟨Nat.le_refl _, Nat.le_refl _⟩ dX0_playerOf_14 (fun _ _ h => False.elim h) (fun v14 σ' hp14 => ?_)
        obtain ⟨hp14, rfl⟩ := hp14
        obtain ⟨r3, rfl, hr3⟩ := hp14
        show V g κ 3 0 0 (t, cW g X0 F σ0) 17 [(2, .int (nI (i2))), (0, .ref (X0 + 12)), (1, .int (a1))] [.int (r3)]
        refine V_ifeq X (tgt := 22) dX0_playerOf_17 (by decide) (fun h4 => ?_) (fun h4 => ?_)
        · -- 17 true
          refine V_iinc X (nI (i2 + 1)) [(2, .int (nI (i2 + 1))), (0, .ref (X0 + 12)), (1, .int (a1))] dX0_playerOf_22 0 rfl (zinc _) (by decide) rfl ?_
          refine V_goto (tgt := 2) X dX0_playerOf_25 (by decide) ?_
          exact V.sub [0, 1, 2] rfl (ih2 _ (by omega) (i2 + 1) rfl (by omega))
        · -- 17 false
          refine V_iload_n X dX0_playerOf_20 0 rfl ?_
          exact V_iret X E (Nat.le_refl _) (Nat.le_refl _) ⟨Or.inr ⟨_, (by omega), rfl⟩, rfl⟩ dX0_playerOf_21
  exact L2 _ 0 rfl (by omega)
set_option maxRecDepth 100000 in
set_option maxHeartbeats 4000000 in
theorem k_X0_forget {g : zG} {t X0 : Nat} {σ0 : Nat → Option va_E} {F : Nat → Nat → Int32} (hX : g.2.1.size ≤ X0) {nP nS nA nC nT : Nat} (hI : cI nP nS nA nC nT F)  : Ct g 10 yX0_forget cX0_forget 1 none 0 0 [.ref (X0 + 12)] (t, cW g X0 F σ0) (qS pV g t X0 F σ0) zNo := by
  refine Ct.of (lv := [(0, .ref (X0 + 12))]) (by decide) (Nat.le_of_ble_eq_true rfl) rfl ?_
  intro κ X E _ _
  have X : zX g κ RX0 cX0_forget 1 := X
  obtain ⟨b1, b2, b3, b4, b5⟩ := hI.bnd
  refine V_aload_n X dX0_forget_0 0 rfl ?_
  refine V_iconst (v := nI 0) X dX0_forget_1 (by decide) ?_
  refine C_putf X fl_X0_27 zt_X0 12 (by decide) hX rfl (Nat.le_of_ble_eq_true rfl) rfl rfl rfl rfl rfl dX0_forget_2 (fun F1 hF1 => ?_)
  have hJF1 := (cJ.rfl' : cJ F F).set hF1 rfl
  exact V_vret X E (Nat.le_refl _) (Nat.le_refl _) ⟨rfl, ⟨_, rfl, hJF1⟩⟩ dX0_forget_5
set_option maxRecDepth 100000 in
set_option maxHeartbeats 4000000 in
theorem k_X4_wasteOf {g : zG} {t X0 : Nat} {σ0 : Nat → Option va_E} {F : Nat → Nat → Int32} (hX : g.2.1.size ≤ X0) {nP nS nA nC nT : Nat} (hI : cI nP nS nA nC nT F) (b : Nat) (hb : b < nC) (a2 : Int32) (a3 : Int32) : Ct g 11 yX4_wasteOf cX4_wasteOf 5 (some FieldType.int) 0 0 [.ref (X0 + 18), .int (nI (b)), .int (a2), .int (a3)] (t, cW g X0 F σ0) (qR pI (t, cW g X0 F σ0)) zNo := by
  refine Ct.of (lv := [(0, .ref (X0 + 18)), (1, .int (nI (b))), (2, .int (a2)), (3, .int (a3))]) (by decide) (Nat.le_of_ble_eq_true rfl) rfl ?_
  intro κ X E _ _
  have X : zX g κ RX4 cX4_wasteOf 5 := X
  obtain ⟨b1, b2, b3, b4, b5⟩ := hI.bnd
  refine V_aload_n X dX4_wasteOf_0 0 rfl ?_
  refine C_getf X fl_X4_15 18 (by decide) rfl rfl dX4_wasteOf_1 ?_
  refine V_iload_n X dX4_wasteOf_4 1 rfl ?_
  refine C_iald X (N := 6) 20 (by decide) (b) rfl (by omega) (by decide) rfl dX4_wasteOf_5 ?_
  refine V.topi (fun x1 ex1 => ?_)
  refine V_iload_n X dX4_wasteOf_6 3 rfl ?_
  refine V_isub X dX4_wasteOf_7 (V.topi (fun w2 _ => ?_))
  refine V_mabs X E.room (Nat.le_refl _) (Nat.le_refl _) (by decide) ml_X4_49 st_J9_abs_0f7a4 rfl rfl (Nat.le_of_ble_eq_true rfl) dX4_wasteOf_8 (V.topi (fun w3 _ => ?_))
  refine V_istore X [(4, .int (w3)), (0, .ref (X0 + 18)), (1, .int (nI (b))), (2, .int (a2)), (3, .int (a3))] dX4_wasteOf_11 (by decide) rfl ?_
  refine V_aload_n X dX4_wasteOf_13 1 rfl ?_
  refine C_getf X fl_X4_54 18 (by decide) rfl rfl dX4_wasteOf_14 (V.topi (fun x4 ex4 => ?_))
  refine V_iload_n X dX4_wasteOf_17 2 rfl ?_
  refine V_callSN (rest := []) X E.room ml_X4_41 st_X5_has (by decide) (by decide) (k_X5_has (σ := (t, cW g X0 F σ0)) (x4) (nI (b))) rfl rfl (Nat.le_of_ble_eq_true rfl) ⟨Nat.le_refl _, Nat.le_refl _⟩ dX4_wasteOf_18 (fun _ _ h => False.elim h) (fun v18 σ' hp18 => ?_)
  obtain ⟨hp18, rfl⟩ := hp18
  obtain ⟨r5, rfl, hr5⟩ := hp18
  show V g κ 5 0 0 (t, cW g X0 F σ0) 21 [(4, .int (w3)), (0, .ref (X0 + 18)), (1, .int (nI (b))), (2, .int (a2)), (3, .int (a3))] [.int (r5)]
  refine V_ifne X (tgt := 40) dX4_wasteOf_21 (by decide) (fun h6 => ?_) (fun h6 => ?_)
  · -- 21 true
    refine V_iconst (v := (-1)) X dX4_wasteOf_40 (by decide) ?_
    exact V_iret X E (Nat.le_refl _) (Nat.le_refl _) ⟨⟨_, rfl⟩, rfl⟩ dX4_wasteOf_41
  · -- 21 false
    refine V_aload_n X dX4_wasteOf_24 1 rfl ?_
    refine C_getf X fl_X4_9 18 (by decide) rfl rfl dX4_wasteOf_25 ?_
    refine V_iload_n X dX4_wasteOf_28 2 rfl ?_
    refine C_iald X (N := 6) 19 (by decide) (b) rfl (by omega) (by decide) rfl dX4_wasteOf_29 ?_
    refine V.topi (fun x7 ex7 => ?_)
    refine V_iload_n X dX4_wasteOf_30 3 rfl ?_
    refine V_icmplt X (tgt := 40) dX4_wasteOf_31 (by decide) (fun h8 => ?_) (fun h8 => ?_)
    · -- 31 true
      refine V_iconst (v := (-1)) X dX4_wasteOf_40 (by decide) ?_
      exact V_iret X E (Nat.le_refl _) (Nat.le_refl _) ⟨⟨_, rfl⟩, rfl⟩ dX4_wasteOf_41
    · -- 31 false
      refine V_iload X dX4_wasteOf_34 0 rfl ?_
      refine V_iconst (v := nI 2) X dX4_wasteOf_36 (by decide) ?_
      refine V_icmple X (tgt := 42) dX4_wasteOf_37 (by decide) (fun h9 => ?_) (fun h9 => ?_)
      · -- 37 true
        refine V_aload_n X dX4_wasteOf_42 1 rfl ?_
        refine C_getf X fl_X4_9 18 (by decide) rfl rfl dX4_wasteOf_43 ?_
        refine V_iload_n X dX4_wasteOf_46 2 rfl ?_
        refine C_iald X (N := 6) 19 (by decide) (b) rfl (by omega) (by decide) rfl dX4_wasteOf_47 ?_
        refine V.topi (fun x10 ex10 => ?_)
        refine V_iload_n X dX4_wasteOf_48 3 rfl ?_
        refine V_isub X dX4_wasteOf_49 (V.topi (fun w11 _ => ?_))
        refine V_iload X dX4_wasteOf_50 0 rfl ?_
        refine V_iadd X dX4_wasteOf_52 (V.topi (fun w12 _ => ?_))
        exact V_iret X E (Nat.le_refl _) (Nat.le_refl _) ⟨⟨_, rfl⟩, rfl⟩ dX4_wasteOf_53
      · -- 37 false
        refine V_iconst (v := (-1)) X dX4_wasteOf_40 (by decide) ?_
        exact V_iret X E (Nat.le_refl _) (Nat.le_refl _) ⟨⟨_, rfl⟩, rfl⟩ dX4_wasteOf_41
set_option maxRecDepth 100000 in
set_option maxHeartbeats 4000000 in
theorem k_X4_keepLess {g : zG} {t X0 : Nat} {σ0 : Nat → Option va_E} {F : Nat → Nat → Int32} (hX : g.2.1.size ≤ X0) {nP nS nA nC nT : Nat} (hI : cI nP nS nA nC nT F) (b : Nat) (hb : b < 64) (a2 : Int32) : Ct g 10 yX4_keepLess cX4_keepLess 3 none 0 0 [.ref (X0 + 18), .int (nI (b)), .int (a2)] (t, cW g X0 F σ0) (qS pV g t X0 F σ0) zNo := by
  refine Ct.of (lv := [(0, .ref (X0 + 18)), (1, .int (nI (b))), (2, .int (a2))]) (by decide) (Nat.le_of_ble_eq_true rfl) rfl ?_
  intro κ X E _ _
  have X : zX g κ RX4 cX4_keepLess 3 := X
  obtain ⟨b1, b2, b3, b4, b5⟩ := hI.bnd
  refine V_aload_n X dX4_keepLess_0 0 rfl ?_
  refine C_getf X fl_X4_21 18 (by decide) rfl rfl dX4_keepLess_1 ?_
  refine V_iload_n X dX4_keepLess_4 1 rfl ?_
  refine C_iald X (N := 64) 22 (by decide) (b) rfl (by omega) (by decide) rfl dX4_keepLess_5 ?_
  refine V.topi (fun x1 ex1 => ?_)
  refine V_iconst (v := (-1)) X dX4_keepLess_6 (by decide) ?_
  refine V_icmpeq X (tgt := 20) dX4_keepLess_7 (by decide) (fun h2 => ?_) (fun h2 => ?_)
  · -- 7 true
    refine V_aload_n X dX4_keepLess_20 0 rfl ?_
    refine C_getf X fl_X4_21 18 (by decide) rfl rfl dX4_keepLess_21 ?_
    refine V_iload_n X dX4_keepLess_24 1 rfl ?_
    refine V_iload_n X dX4_keepLess_25 2 rfl ?_
    refine C_iast X (N := 64) 22 (by decide) hX (b) rfl (by omega) (by decide) (fun _ => rfl) dX4_keepLess_26 (fun F3 hF3 => ?_)
    have hJF3 := (cJ.rfl' : cJ F F).set hF3 (zscr (by omega))
    exact V_vret X E (Nat.le_refl _) (Nat.le_refl _) ⟨rfl, ⟨_, rfl, hJF3⟩⟩ dX4_keepLess_27
  · -- 7 false
    refine V_iload_n X dX4_keepLess_10 2 rfl ?_
    refine V_aload_n X dX4_keepLess_11 0 rfl ?_
    refine C_getf X fl_X4_21 18 (by decide) rfl rfl dX4_keepLess_12 ?_
    refine V_iload_n X dX4_keepLess_15 1 rfl ?_
    refine C_iald X (N := 64) 22 (by decide) (b) rfl (by omega) (by decide) rfl dX4_keepLess_16 ?_
    refine V.topi (fun x4 ex4 => ?_)
    refine V_icmpge X (tgt := 27) dX4_keepLess_17 (by decide) (fun h5 => ?_) (fun h5 => ?_)
    · -- 17 true
      exact V_vret X E (Nat.le_refl _) (Nat.le_refl _) ⟨rfl, ⟨_, rfl, cJ.rfl'⟩⟩ dX4_keepLess_27
    · -- 17 false
      refine V_aload_n X dX4_keepLess_20 0 rfl ?_
      refine C_getf X fl_X4_21 18 (by decide) rfl rfl dX4_keepLess_21 ?_
      refine V_iload_n X dX4_keepLess_24 1 rfl ?_
      refine V_iload_n X dX4_keepLess_25 2 rfl ?_
      refine C_iast X (N := 64) 22 (by decide) hX (b) rfl (by omega) (by decide) (fun _ => rfl) dX4_keepLess_26 (fun F6 hF6 => ?_)
      have hJF6 := (cJ.rfl' : cJ F F).set hF6 (zscr (by omega))
      exact V_vret X E (Nat.le_refl _) (Nat.le_refl _) ⟨rfl, ⟨_, rfl, hJF6⟩⟩ dX4_keepLess_27
set_option maxRecDepth 100000 in
set_option maxHeartbeats 4000000 in
theorem k_X4_startDressing {g : zG} {t X0 : Nat} {σ0 : Nat → Option va_E} {F : Nat → Nat → Int32} (hX : g.2.1.size ≤ X0) {nP nS nA nC nT : Nat} (hI : cI nP nS nA nC nT F)  : Ct g 10 yX4_startDressing cX4_startDressing 2 none 0 0 [.ref (X0 + 18)] (t, cW g X0 F σ0) (qS pV g t X0 F σ0) zNo := by
  refine Ct.of (lv := [(0, .ref (X0 + 18))]) (by decide) (Nat.le_of_ble_eq_true rfl) rfl ?_
  intro κ X E _ _
  have X : zX g κ RX4 cX4_startDressing 2 := X
  obtain ⟨b1, b2, b3, b4, b5⟩ := hI.bnd
  refine V_iconst (v := nI 0) X dX4_startDressing_0 (by decide) ?_
  refine V_istore_n X [(1, .int (nI (0))), (0, .ref (X0 + 18))] dX4_startDressing_1 (by decide) rfl ?_
  have L2 : ∀ (n2 : Nat) (i2 : Nat) (G2 : Nat → Nat → Int32), n2 = 64 - i2 → i2 ≤ 64 → cJ F G2 → V g κ 2 0 0 (t, cW g X0 G2 σ0) 2 [(1, .int (nI (i2))), (0, .ref (X0 + 18))] [] := by
    intro n2
    induction n2 using Nat.strongRecOn with
    | ind n2 ih2 =>
      intro i2 G2 hn2 hi2 hJ2
      refine V_iload_n X dX4_startDressing_2 0 rfl ?_
      refine V_aload_n X dX4_startDressing_3 1 rfl ?_
      refine C_getf X fl_X4_21 18 (by decide) rfl rfl dX4_startDressing_4 ?_
      refine C_alen (N := 64) (v := nI 64) X 22 (by decide) rfl (by decide) dX4_startDressing_7 ?_
      refine V_icmpgeN X (by omega) (by omega) (tgt := 24) dX4_startDressing_8 (by decide) (fun h1 => ?_) (fun h1 => ?_)
      · -- 8 true
        refine V_aload_n X dX4_startDressing_24 1 rfl ?_
        refine C_getf X fl_X4_21 18 (by decide) rfl rfl dX4_startDressing_25 ?_
        refine V_iconst (v := nI 0) X dX4_startDressing_28 (by decide) ?_
        refine V_iconst (v := nI 0) X dX4_startDressing_29 (by decide) ?_
        refine C_iast X (N := 64) 22 (by decide) hX (0) rfl (by omega) (by decide) (fun _ => rfl) dX4_startDressing_30 (fun F2 hF2 => ?_)
        have hJF2 := (hJ2 : cJ F G2).set hF2 (zscr (by omega))
        refine V_aload_n X dX4_startDressing_31 1 rfl ?_
        refine V_iconst (v := nI 0) X dX4_startDressing_32 (by decide) ?_
        refine C_putf X fl_X4_28 zt_X4 18 (by decide) hX rfl (Nat.le_of_ble_eq_true rfl) rfl rfl rfl rfl rfl dX4_startDressing_33 (fun F3 hF3 => ?_)
        have hJF3 := (hJF2 : cJ F F2).set hF3 rfl
        exact V_vret X E (Nat.le_refl _) (Nat.le_refl _) ⟨rfl, ⟨_, rfl, hJF3⟩⟩ dX4_startDressing_36
      · -- 8 false
        refine V_aload_n X dX4_startDressing_11 1 rfl ?_
        refine C_getf X fl_X4_21 18 (by decide) rfl rfl dX4_startDressing_12 ?_
        refine V_iload_n X dX4_startDressing_15 0 rfl ?_
        refine V_iconst (v := (-1)) X dX4_startDressing_16 (by decide) ?_
        refine C_iast X (N := 64) 22 (by decide) hX (i2) rfl (by omega) (by decide) (fun _ => rfl) dX4_startDressing_17 (fun F4 hF4 => ?_)
        have hJF4 := (hJ2 : cJ F G2).set hF4 (zscr (by omega))
        refine V_iinc X (nI (i2 + 1)) [(1, .int (nI (i2 + 1))), (0, .ref (X0 + 18))] dX4_startDressing_18 0 rfl (zinc _) (by decide) rfl ?_
        refine V_goto (tgt := 2) X dX4_startDressing_21 (by decide) ?_
        exact V.sub [0, 1] rfl (ih2 _ (by omega) (i2 + 1) F4 rfl (by omega) hJF4)
  exact L2 _ 0 F rfl (by omega) cJ.rfl'
set_option maxRecDepth 100000 in
set_option maxHeartbeats 4000000 in
theorem k_X4_dressOneMore {g : zG} {t X0 : Nat} {σ0 : Nat → Option va_E} {F : Nat → Nat → Int32} (hX : g.2.1.size ≤ X0) {nP nS nA nC nT : Nat} (hI : cI nP nS nA nC nT F)  (a1 : Int32) (a2 : Int32) : Ct g 12 yX4_dressOneMore cX4_dressOneMore 6 none 0 0 [.ref (X0 + 18), .int (a1), .int (a2)] (t, cW g X0 F σ0) (qS pV g t X0 F σ0) zNo := by
  refine Ct.of (lv := [(0, .ref (X0 + 18)), (1, .int (a1)), (2, .int (a2))]) (by decide) (Nat.le_of_ble_eq_true rfl) rfl ?_
  intro κ X E _ _
  have X : zX g κ RX4 cX4_dressOneMore 6 := X
  obtain ⟨b1, b2, b3, b4, b5⟩ := hI.bnd
  have h64 : 2 ^ nC ≤ 64 := zp2 (n := 6) (by omega)
  have h1 := Nat.one_le_two_pow (n := nC)
  refine V_iconst (v := nI 0) X dX4_dressOneMore_0 (by decide) ?_
  refine V_istore_n X [(3, .int (nI (0))), (0, .ref (X0 + 18)), (1, .int (a1)), (2, .int (a2))] dX4_dressOneMore_1 (by decide) rfl ?_
  have L2 : ∀ (n2 : Nat) (i2 : Nat) (G2 : Nat → Nat → Int32), n2 = 2 ^ (nC) - i2 → i2 ≤ 2 ^ (nC) → cJ F G2 → V g κ 6 0 0 (t, cW g X0 G2 σ0) 2 [(3, .int (nI (i2))), (0, .ref (X0 + 18)), (1, .int (a1)), (2, .int (a2))] [] := by
    intro n2
    induction n2 using Nat.strongRecOn with
    | ind n2 ih2 =>
      intro i2 G2 hn2 hi2 hJ2
      refine V_iload_n X dX4_dressOneMore_2 0 rfl ?_
      refine V_iconst (v := nI 1) X dX4_dressOneMore_3 (by decide) ?_
      refine V_aload_n X dX4_dressOneMore_4 1 rfl ?_
      refine C_getfN (z := nI (nC)) X fl_X4_24 18 (by decide) rfl rfl (hI.mv hJ2).f18_3 dX4_dressOneMore_5 ?_
      refine V_ishl1 X (by omega) dX4_dressOneMore_8 ?_
      refine V_icmpgeN X (by omega) (by omega) (tgt := 104) dX4_dressOneMore_9 (by decide) (fun h1 => ?_) (fun h1 => ?_)
      · -- 9 true
        refine V_aload_n X dX4_dressOneMore_104 1 rfl ?_
        refine V_dup X dX4_dressOneMore_105 rfl ?_
        refine C_getf X fl_X4_28 18 (by decide) rfl rfl dX4_dressOneMore_106 (V.topi (fun x2 ex2 => ?_))
        refine V_iconst (v := nI 1) X dX4_dressOneMore_109 (by decide) ?_
        refine V_iadd X dX4_dressOneMore_110 (V.topi (fun w3 _ => ?_))
        refine C_putf X fl_X4_28 zt_X4 18 (by decide) hX rfl (Nat.le_of_ble_eq_true rfl) rfl rfl rfl rfl rfl dX4_dressOneMore_111 (fun F4 hF4 => ?_)
        have hJF4 := (hJ2 : cJ F G2).set hF4 rfl
        exact V_vret X E (Nat.le_refl _) (Nat.le_refl _) ⟨rfl, ⟨_, rfl, hJF4⟩⟩ dX4_dressOneMore_114
      · -- 9 false
        refine V_iload_n X dX4_dressOneMore_12 0 rfl ?_
        refine V_callS (rest := []) X E.room ml_X4_31 st_J6_bitCount_0f7a4 (by decide) (by decide) (k_J6_bitCount_0f7a4 (σ := (t, cW g X0 G2 σ0)) (nI (i2))) rfl rfl (Nat.le_of_ble_eq_true rfl) ⟨Nat.le_refl _, Nat.le_refl _⟩ dX4_dressOneMore_13 (fun _ _ h => False.elim h) (fun v13 σ' hp13 => ?_)
        obtain ⟨hp13, rfl⟩ := hp13
        obtain ⟨r5, rfl⟩ := hp13
        show V g κ 6 0 0 (t, cW g X0 G2 σ0) 16 [(3, .int (nI (i2))), (0, .ref (X0 + 18)), (1, .int (a1)), (2, .int (a2))] [.int (r5)]
        refine V_aload_n X dX4_dressOneMore_16 1 rfl ?_
        refine C_getf X fl_X4_28 18 (by decide) rfl rfl dX4_dressOneMore_17 (V.topi (fun x6 ex6 => ?_))
        refine V_icmpne X (tgt := 98) dX4_dressOneMore_20 (by decide) (fun h7 => ?_) (fun h7 => ?_)
        · -- 20 true
          refine V_iinc X (nI (i2 + 1)) [(3, .int (nI (i2 + 1))), (0, .ref (X0 + 18)), (1, .int (a1)), (2, .int (a2))] dX4_dressOneMore_98 0 rfl (zinc _) (by decide) rfl ?_
          refine V_goto (tgt := 2) X dX4_dressOneMore_101 (by decide) ?_
          exact V.sub [0, 1, 2, 3] rfl (ih2 _ (by omega) (i2 + 1) G2 rfl (by omega) hJ2)
        · -- 20 false
          refine V_aload_n X dX4_dressOneMore_23 1 rfl ?_
          refine C_getf X fl_X4_21 18 (by decide) rfl rfl dX4_dressOneMore_24 ?_
          refine V_iload_n X dX4_dressOneMore_27 0 rfl ?_
          refine C_iald X (N := 64) 22 (by decide) (i2) rfl (by omega) (by decide) rfl dX4_dressOneMore_28 ?_
          refine V.topi (fun x8 ex8 => ?_)
          refine V_iconst (v := (-1)) X dX4_dressOneMore_29 (by decide) ?_
          refine V_icmpne X (tgt := 36) dX4_dressOneMore_30 (by decide) (fun h9 => ?_) (fun h9 => ?_)
          · -- 30 true
            refine V_iconst (v := nI 0) X dX4_dressOneMore_36 (by decide) ?_
            refine V_istore X [(4, .int (nI (0))), (3, .int (nI (i2))), (0, .ref (X0 + 18)), (1, .int (a1)), (2, .int (a2))] dX4_dressOneMore_37 (by decide) rfl ?_
            have L39 : ∀ (n39 : Nat) (i39 : Nat) (G39 : Nat → Nat → Int32), n39 = nC - i39 → i39 ≤ nC → cJ F G39 → V g κ 6 0 0 (t, cW g X0 G39 σ0) 39 [(4, .int (nI (i39))), (3, .int (nI (i2))), (0, .ref (X0 + 18)), (1, .int (a1)), (2, .int (a2))] [] := by
              intro n39
              induction n39 using Nat.strongRecOn with
              | ind n39 ih39 =>
                intro i39 G39 hn39 hi39 hJ39
                refine V_iload X dX4_dressOneMore_39 0 rfl ?_
                refine V_aload_n X dX4_dressOneMore_41 2 rfl ?_
                refine C_getfN (z := nI (nC)) X fl_X4_24 18 (by decide) rfl rfl (hI.mv hJ39).f18_3 dX4_dressOneMore_42 ?_
                refine V_icmpgeN X (by omega) (by omega) (tgt := 98) dX4_dressOneMore_45 (by decide) (fun h10 => ?_) (fun h10 => ?_)
                · -- 45 true
                  refine V_iinc X (nI (i2 + 1)) [(3, .int (nI (i2 + 1))), (4, .int (nI (i39))), (0, .ref (X0 + 18)), (1, .int (a1)), (2, .int (a2))] dX4_dressOneMore_98 1 rfl (zinc _) (by decide) rfl ?_
                  refine V_goto (tgt := 2) X dX4_dressOneMore_101 (by decide) ?_
                  exact V.sub [0, 2, 3, 4] rfl (ih2 _ (by omega) (i2 + 1) G39 rfl (by omega) hJ39)
                · -- 45 false
                  refine V_aload_n X dX4_dressOneMore_48 2 rfl ?_
                  refine V_iload X dX4_dressOneMore_49 0 rfl ?_
                  refine V_iload_n X dX4_dressOneMore_51 3 rfl ?_
                  refine V_iload_n X dX4_dressOneMore_52 4 rfl ?_
                  refine V_callV (rest := []) X E.room ml_X4_37 in_X4_wasteOf (ci := 8) rfl se_X4_wasteOf (C_recv (q := 18) (by decide) rfl) (by decide) (by decide) (k_X4_wasteOf hX (hI.mv hJ39) (i39) (by omega) (a1) (a2)) rfl rfl (Nat.le_of_ble_eq_true rfl) ⟨Nat.le_refl _, Nat.le_refl _⟩ dX4_dressOneMore_53 (fun _ _ h => False.elim h) (fun v53 σ' hp53 => ?_)
                  obtain ⟨hp53, rfl⟩ := hp53
                  obtain ⟨r11, rfl⟩ := hp53
                  show V g κ 6 0 0 (t, cW g X0 G39 σ0) 56 [(4, .int (nI (i39))), (3, .int (nI (i2))), (0, .ref (X0 + 18)), (1, .int (a1)), (2, .int (a2))] [.int (r11)]
                  refine V_istore X [(5, .int (r11)), (4, .int (nI (i39))), (3, .int (nI (i2))), (0, .ref (X0 + 18)), (1, .int (a1)), (2, .int (a2))] dX4_dressOneMore_56 (by decide) rfl ?_
                  refine V_iload X dX4_dressOneMore_58 0 rfl ?_
                  refine V_iconst (v := (-1)) X dX4_dressOneMore_60 (by decide) ?_
                  refine V_icmpeq X (tgt := 92) dX4_dressOneMore_61 (by decide) (fun h12 => ?_) (fun h12 => ?_)
                  · -- 61 true
                    refine V_iinc X (nI (i39 + 1)) [(4, .int (nI (i39 + 1))), (5, .int (r11)), (3, .int (nI (i2))), (0, .ref (X0 + 18)), (1, .int (a1)), (2, .int (a2))] dX4_dressOneMore_92 1 rfl (zinc _) (by decide) rfl ?_
                    refine V_goto (tgt := 39) X dX4_dressOneMore_95 (by decide) ?_
                    exact V.sub [0, 2, 3, 4, 5] rfl (ih39 _ (by omega) (i39 + 1) G39 rfl (by omega) hJ39)
                  · -- 61 false
                    refine V_iload_n X dX4_dressOneMore_64 2 rfl ?_
                    refine V_iload X dX4_dressOneMore_65 1 rfl ?_
                    refine V_callSN (rest := []) X E.room ml_X4_41 st_X5_has (by decide) (by decide) (k_X5_has (σ := (t, cW g X0 G39 σ0)) (nI (i2)) (nI (i39))) rfl rfl (Nat.le_of_ble_eq_true rfl) ⟨Nat.le_refl _, Nat.le_refl _⟩ dX4_dressOneMore_67 (fun _ _ h => False.elim h) (fun v67 σ' hp67 => ?_)
                    obtain ⟨hp67, rfl⟩ := hp67
                    obtain ⟨r13, rfl, hr13⟩ := hp67
                    show V g κ 6 0 0 (t, cW g X0 G39 σ0) 70 [(5, .int (r11)), (4, .int (nI (i39))), (3, .int (nI (i2))), (0, .ref (X0 + 18)), (1, .int (a1)), (2, .int (a2))] [.int (r13)]
                    refine V_ifne X (tgt := 92) dX4_dressOneMore_70 (by decide) (fun h14 => ?_) (fun h14 => ?_)
                    · -- 70 true
                      refine V_iinc X (nI (i39 + 1)) [(4, .int (nI (i39 + 1))), (5, .int (r11)), (3, .int (nI (i2))), (0, .ref (X0 + 18)), (1, .int (a1)), (2, .int (a2))] dX4_dressOneMore_92 1 rfl (zinc _) (by decide) rfl ?_
                      refine V_goto (tgt := 39) X dX4_dressOneMore_95 (by decide) ?_
                      exact V.sub [0, 2, 3, 4, 5] rfl (ih39 _ (by omega) (i39 + 1) G39 rfl (by omega) hJ39)
                    · -- 70 false
                      refine V_aload_n X dX4_dressOneMore_73 3 rfl ?_
                      refine V_iload_n X dX4_dressOneMore_74 2 rfl ?_
                      refine V_iconst (v := nI 1) X dX4_dressOneMore_75 (by decide) ?_
                      refine V_iload X dX4_dressOneMore_76 1 rfl ?_
                      refine V_ishl1 X (by omega) dX4_dressOneMore_78 ?_
                      refine V_iorN X dX4_dressOneMore_79 ?_
                      refine V_aload_n X dX4_dressOneMore_80 3 rfl ?_
                      refine C_getf X fl_X4_21 18 (by decide) rfl rfl dX4_dressOneMore_81 ?_
                      refine V_iload_n X dX4_dressOneMore_84 2 rfl ?_
                      refine C_iald X (N := 64) 22 (by decide) (i2) rfl (by omega) (by decide) rfl dX4_dressOneMore_85 ?_
                      refine V.topi (fun x15 ex15 => ?_)
                      refine V_iload X dX4_dressOneMore_86 0 rfl ?_
                      refine V_iadd X dX4_dressOneMore_88 (V.topi (fun w16 _ => ?_))
                      refine V_callV (rest := []) X E.room ml_X4_45 in_X4_keepLess (ci := 8) rfl se_X4_keepLess (C_recv (q := 18) (by decide) rfl) (by decide) (by decide) (k_X4_keepLess hX (hI.mv hJ39) ((i2) ||| (2 ^ (i39))) (zor (n := 6) (by omega) (by omega)) (w16)) rfl rfl (Nat.le_of_ble_eq_true rfl) ⟨Nat.le_refl _, Nat.le_refl _⟩ dX4_dressOneMore_89 (fun _ _ h => False.elim h) (fun v89 σ' hp89 => ?_)
                      obtain ⟨hp89, F17, rfl, hJF17⟩ := hp89
                      have hKF17 : cJ F F17 := (hJ39.trans hJF17)
                      cases (hp89 : _ = none)
                      show V g κ 6 0 0 (t, cW g X0 F17 σ0) 92 [(5, .int (r11)), (4, .int (nI (i39))), (3, .int (nI (i2))), (0, .ref (X0 + 18)), (1, .int (a1)), (2, .int (a2))] []
                      refine V_iinc X (nI (i39 + 1)) [(4, .int (nI (i39 + 1))), (5, .int (r11)), (3, .int (nI (i2))), (0, .ref (X0 + 18)), (1, .int (a1)), (2, .int (a2))] dX4_dressOneMore_92 1 rfl (zinc _) (by decide) rfl ?_
                      refine V_goto (tgt := 39) X dX4_dressOneMore_95 (by decide) ?_
                      exact V.sub [0, 2, 3, 4, 5] rfl (ih39 _ (by omega) (i39 + 1) F17 rfl (by omega) hKF17)
            exact L39 _ 0 G2 rfl (by omega) hJ2
          · -- 30 false
            refine V_goto (tgt := 98) X dX4_dressOneMore_33 (by decide) ?_
            refine V_iinc X (nI (i2 + 1)) [(3, .int (nI (i2 + 1))), (0, .ref (X0 + 18)), (1, .int (a1)), (2, .int (a2))] dX4_dressOneMore_98 0 rfl (zinc _) (by decide) rfl ?_
            refine V_goto (tgt := 2) X dX4_dressOneMore_101 (by decide) ?_
            exact V.sub [0, 1, 2, 3] rfl (ih2 _ (by omega) (i2 + 1) G2 rfl (by omega) hJ2)
  exact L2 _ 0 F rfl (by omega) cJ.rfl'
set_option maxRecDepth 100000 in
set_option maxHeartbeats 4000000 in
theorem k_X4_leastWaste {g : zG} {t X0 : Nat} {σ0 : Nat → Option va_E} {F : Nat → Nat → Int32} (hX : g.2.1.size ≤ X0) {nP nS nA nC nT : Nat} (hI : cI nP nS nA nC nT F)  : Ct g 11 yX4_leastWaste cX4_leastWaste 3 (some FieldType.int) 0 0 [.ref (X0 + 18)] (t, cW g X0 F σ0) (qR pI (t, cW g X0 F σ0)) zNo := by
  refine Ct.of (lv := [(0, .ref (X0 + 18))]) (by decide) (Nat.le_of_ble_eq_true rfl) rfl ?_
  intro κ X E _ _
  have X : zX g κ RX4 cX4_leastWaste 3 := X
  obtain ⟨b1, b2, b3, b4, b5⟩ := hI.bnd
  have h64 : 2 ^ nC ≤ 64 := zp2 (n := 6) (by omega)
  have h1 := Nat.one_le_two_pow (n := nC)
  refine V_iconst (v := (-1)) X dX4_leastWaste_0 (by decide) ?_
  refine V_istore_n X [(1, .int (-1)), (0, .ref (X0 + 18))] dX4_leastWaste_1 (by decide) rfl ?_
  refine V_iconst (v := nI 0) X dX4_leastWaste_2 (by decide) ?_
  refine V_istore_n X [(2, .int (nI (0))), (1, .int (-1)), (0, .ref (X0 + 18))] dX4_leastWaste_3 (by decide) rfl ?_
  have L4 : ∀ (n4 : Nat) (i4 : Nat) (x4_1 : Int32), n4 = 2 ^ (nC) - i4 → i4 ≤ 2 ^ (nC) → V g κ 3 0 0 (t, cW g X0 F σ0) 4 [(2, .int (nI (i4))), (1, .int (x4_1)), (0, .ref (X0 + 18))] [] := by
    intro n4
    induction n4 using Nat.strongRecOn with
    | ind n4 ih4 =>
      intro i4 x4_1 hn4 hi4
      refine V_iload_n X dX4_leastWaste_4 0 rfl ?_
      refine V_iconst (v := nI 1) X dX4_leastWaste_5 (by decide) ?_
      refine V_aload_n X dX4_leastWaste_6 2 rfl ?_
      refine C_getfN (z := nI (nC)) X fl_X4_24 18 (by decide) rfl rfl hI.f18_3 dX4_leastWaste_7 ?_
      refine V_ishl1 X (by omega) dX4_leastWaste_10 ?_
      refine V_icmpgeN X (by omega) (by omega) (tgt := 63) dX4_leastWaste_11 (by decide) (fun h1 => ?_) (fun h1 => ?_)
      · -- 11 true
        refine V_iload_n X dX4_leastWaste_63 1 rfl ?_
        exact V_iret X E (Nat.le_refl _) (Nat.le_refl _) ⟨⟨_, rfl⟩, rfl⟩ dX4_leastWaste_64
      · -- 11 false
        refine V_iload_n X dX4_leastWaste_14 0 rfl ?_
        refine V_callS (rest := []) X E.room ml_X4_31 st_J6_bitCount_0f7a4 (by decide) (by decide) (k_J6_bitCount_0f7a4 (σ := (t, cW g X0 F σ0)) (nI (i4))) rfl rfl (Nat.le_of_ble_eq_true rfl) ⟨Nat.le_refl _, Nat.le_refl _⟩ dX4_leastWaste_15 (fun _ _ h => False.elim h) (fun v15 σ' hp15 => ?_)
        obtain ⟨hp15, rfl⟩ := hp15
        obtain ⟨r2, rfl⟩ := hp15
        show V g κ 3 0 0 (t, cW g X0 F σ0) 18 [(2, .int (nI (i4))), (1, .int (x4_1)), (0, .ref (X0 + 18))] [.int (r2)]
        refine V_aload_n X dX4_leastWaste_18 2 rfl ?_
        refine C_getf X fl_X4_28 18 (by decide) rfl rfl dX4_leastWaste_19 (V.topi (fun x3 ex3 => ?_))
        refine V_icmpne X (tgt := 57) dX4_leastWaste_22 (by decide) (fun h4 => ?_) (fun h4 => ?_)
        · -- 22 true
          refine V_iinc X (nI (i4 + 1)) [(2, .int (nI (i4 + 1))), (1, .int (x4_1)), (0, .ref (X0 + 18))] dX4_leastWaste_57 0 rfl (zinc _) (by decide) rfl ?_
          refine V_goto (tgt := 4) X dX4_leastWaste_60 (by decide) ?_
          exact V.sub [0, 1, 2] rfl (ih4 _ (by omega) (i4 + 1) x4_1 rfl (by omega))
        · -- 22 false
          refine V_aload_n X dX4_leastWaste_25 2 rfl ?_
          refine C_getf X fl_X4_21 18 (by decide) rfl rfl dX4_leastWaste_26 ?_
          refine V_iload_n X dX4_leastWaste_29 0 rfl ?_
          refine C_iald X (N := 64) 22 (by decide) (i4) rfl (by omega) (by decide) rfl dX4_leastWaste_30 ?_
          refine V.topi (fun x5 ex5 => ?_)
          refine V_iconst (v := (-1)) X dX4_leastWaste_31 (by decide) ?_
          refine V_icmpeq X (tgt := 57) dX4_leastWaste_32 (by decide) (fun h6 => ?_) (fun h6 => ?_)
          · -- 32 true
            refine V_iinc X (nI (i4 + 1)) [(2, .int (nI (i4 + 1))), (1, .int (x4_1)), (0, .ref (X0 + 18))] dX4_leastWaste_57 0 rfl (zinc _) (by decide) rfl ?_
            refine V_goto (tgt := 4) X dX4_leastWaste_60 (by decide) ?_
            exact V.sub [0, 1, 2] rfl (ih4 _ (by omega) (i4 + 1) x4_1 rfl (by omega))
          · -- 32 false
            refine V_iload_n X dX4_leastWaste_35 1 rfl ?_
            refine V_iconst (v := (-1)) X dX4_leastWaste_36 (by decide) ?_
            refine V_icmpeq X (tgt := 50) dX4_leastWaste_37 (by decide) (fun h7 => ?_) (fun h7 => ?_)
            · -- 37 true
              refine V_aload_n X dX4_leastWaste_50 2 rfl ?_
              refine C_getf X fl_X4_21 18 (by decide) rfl rfl dX4_leastWaste_51 ?_
              refine V_iload_n X dX4_leastWaste_54 0 rfl ?_
              refine C_iald X (N := 64) 22 (by decide) (i4) rfl (by omega) (by decide) rfl dX4_leastWaste_55 ?_
              refine V.topi (fun x8 ex8 => ?_)
              refine V_istore_n X [(1, .int (x8)), (2, .int (nI (i4))), (0, .ref (X0 + 18))] dX4_leastWaste_56 (by decide) rfl ?_
              refine V_iinc X (nI (i4 + 1)) [(2, .int (nI (i4 + 1))), (1, .int (x8)), (0, .ref (X0 + 18))] dX4_leastWaste_57 1 rfl (zinc _) (by decide) rfl ?_
              refine V_goto (tgt := 4) X dX4_leastWaste_60 (by decide) ?_
              exact V.sub [0, 1, 2] rfl (ih4 _ (by omega) (i4 + 1) x8 rfl (by omega))
            · -- 37 false
              refine V_aload_n X dX4_leastWaste_40 2 rfl ?_
              refine C_getf X fl_X4_21 18 (by decide) rfl rfl dX4_leastWaste_41 ?_
              refine V_iload_n X dX4_leastWaste_44 0 rfl ?_
              refine C_iald X (N := 64) 22 (by decide) (i4) rfl (by omega) (by decide) rfl dX4_leastWaste_45 ?_
              refine V.topi (fun x9 ex9 => ?_)
              refine V_iload_n X dX4_leastWaste_46 1 rfl ?_
              refine V_icmpge X (tgt := 57) dX4_leastWaste_47 (by decide) (fun h10 => ?_) (fun h10 => ?_)
              · -- 47 true
                refine V_iinc X (nI (i4 + 1)) [(2, .int (nI (i4 + 1))), (1, .int (x4_1)), (0, .ref (X0 + 18))] dX4_leastWaste_57 0 rfl (zinc _) (by decide) rfl ?_
                refine V_goto (tgt := 4) X dX4_leastWaste_60 (by decide) ?_
                exact V.sub [0, 1, 2] rfl (ih4 _ (by omega) (i4 + 1) x4_1 rfl (by omega))
              · -- 47 false
                refine V_aload_n X dX4_leastWaste_50 2 rfl ?_
                refine C_getf X fl_X4_21 18 (by decide) rfl rfl dX4_leastWaste_51 ?_
                refine V_iload_n X dX4_leastWaste_54 0 rfl ?_
                refine C_iald X (N := 64) 22 (by decide) (i4) rfl (by omega) (by decide) rfl dX4_leastWaste_55 ?_
                refine V.topi (fun x11 ex11 => ?_)
                refine V_istore_n X [(1, .int (x11)), (2, .int (nI (i4))), (0, .ref (X0 + 18))] dX4_leastWaste_56 (by decide) rfl ?_
                refine V_iinc X (nI (i4 + 1)) [(2, .int (nI (i4 + 1))), (1, .int (x11)), (0, .ref (X0 + 18))] dX4_leastWaste_57 1 rfl (zinc _) (by decide) rfl ?_
                refine V_goto (tgt := 4) X dX4_leastWaste_60 (by decide) ?_
                exact V.sub [0, 1, 2] rfl (ih4 _ (by omega) (i4 + 1) x11 rfl (by omega))
  exact L4 _ 0 (-1) rfl (by omega)
set_option maxRecDepth 100000 in
set_option maxHeartbeats 4000000 in
theorem k_X3_milesHome {g : zG} {t X0 : Nat} {σ0 : Nat → Option va_E} {F : Nat → Nat → Int32} (hX : g.2.1.size ≤ X0) {nP nS nA nC nT : Nat} (hI : cI nP nS nA nC nT F) (b : Nat) (hb : b < nT) : Ct g 10 yX3_milesHome cX3_milesHome 2 (some FieldType.int) 0 0 [.ref (X0 + 23), .int (nI (b))] (t, cW g X0 F σ0) (qR pI (t, cW g X0 F σ0)) zNo := by
  refine Ct.of (lv := [(0, .ref (X0 + 23)), (1, .int (nI (b)))]) (by decide) (Nat.le_of_ble_eq_true rfl) rfl ?_
  intro κ X E _ _
  have X : zX g κ RX3 cX3_milesHome 2 := X
  obtain ⟨b1, b2, b3, b4, b5⟩ := hI.bnd
  refine V_aload_n X dX3_milesHome_0 0 rfl ?_
  refine C_getf X fl_X3_9 23 (by decide) rfl rfl dX3_milesHome_1 ?_
  refine V_iload_n X dX3_milesHome_4 1 rfl ?_
  refine C_iald X (N := 5) 24 (by decide) (b) rfl (by omega) (by decide) rfl dX3_milesHome_5 ?_
  refine V.topi (fun x1 ex1 => ?_)
  refine V_aload_n X dX3_milesHome_6 0 rfl ?_
  refine C_getf X fl_X3_15 23 (by decide) rfl rfl dX3_milesHome_7 ?_
  refine V_iload_n X dX3_milesHome_10 1 rfl ?_
  refine C_iald X (N := 5) 25 (by decide) (b) rfl (by omega) (by decide) rfl dX3_milesHome_11 ?_
  refine V.topi (fun x2 ex2 => ?_)
  refine V_iadd X dX3_milesHome_12 (V.topi (fun w3 _ => ?_))
  exact V_iret X E (Nat.le_refl _) (Nat.le_refl _) ⟨⟨_, rfl⟩, rfl⟩ dX3_milesHome_13
set_option maxRecDepth 100000 in
set_option maxHeartbeats 4000000 in
theorem k_X3_takingsOf {g : zG} {t X0 : Nat} {σ0 : Nat → Option va_E} {F : Nat → Nat → Int32} (hX : g.2.1.size ≤ X0) {nP nS nA nC nT : Nat} (hI : cI nP nS nA nC nT F)  (a1 : Int32) : Ct g 11 yX3_takingsOf cX3_takingsOf 4 (some FieldType.int) 0 0 [.ref (X0 + 23), .int (a1)] (t, cW g X0 F σ0) (qR pI (t, cW g X0 F σ0)) zNo := by
  refine Ct.of (lv := [(0, .ref (X0 + 23)), (1, .int (a1))]) (by decide) (Nat.le_of_ble_eq_true rfl) rfl ?_
  intro κ X E _ _
  have X : zX g κ RX3 cX3_takingsOf 4 := X
  obtain ⟨b1, b2, b3, b4, b5⟩ := hI.bnd
  refine V_iconst (v := nI 0) X dX3_takingsOf_0 (by decide) ?_
  refine V_istore_n X [(2, .int (nI (0))), (0, .ref (X0 + 23)), (1, .int (a1))] dX3_takingsOf_1 (by decide) rfl ?_
  refine V_iconst (v := nI 0) X dX3_takingsOf_2 (by decide) ?_
  refine V_istore_n X [(3, .int (nI (0))), (2, .int (nI (0))), (0, .ref (X0 + 23)), (1, .int (a1))] dX3_takingsOf_3 (by decide) rfl ?_
  have L4 : ∀ (n4 : Nat) (i4 : Nat) (x4_2 : Int32), n4 = nT - i4 → i4 ≤ nT → V g κ 4 0 0 (t, cW g X0 F σ0) 4 [(3, .int (nI (i4))), (2, .int (x4_2)), (0, .ref (X0 + 23)), (1, .int (a1))] [] := by
    intro n4
    induction n4 using Nat.strongRecOn with
    | ind n4 ih4 =>
      intro i4 x4_2 hn4 hi4
      refine V_iload_n X dX3_takingsOf_4 0 rfl ?_
      refine V_aload_n X dX3_takingsOf_5 2 rfl ?_
      refine C_getfN (z := nI (nT)) X fl_X3_29 23 (by decide) rfl rfl hI.f23_4 dX3_takingsOf_6 ?_
      refine V_icmpgeN X (by omega) (by omega) (tgt := 35) dX3_takingsOf_9 (by decide) (fun h1 => ?_) (fun h1 => ?_)
      · -- 9 true
        refine V_iload_n X dX3_takingsOf_35 1 rfl ?_
        exact V_iret X E (Nat.le_refl _) (Nat.le_refl _) ⟨⟨_, rfl⟩, rfl⟩ dX3_takingsOf_36
      · -- 9 false
        refine V_iload_n X dX3_takingsOf_12 3 rfl ?_
        refine V_iload_n X dX3_takingsOf_13 0 rfl ?_
        refine V_callSN (rest := []) X E.room ml_X3_37 st_X5_has (by decide) (by decide) (k_X5_has (σ := (t, cW g X0 F σ0)) (a1) (nI (i4))) rfl rfl (Nat.le_of_ble_eq_true rfl) ⟨Nat.le_refl _, Nat.le_refl _⟩ dX3_takingsOf_14 (fun _ _ h => False.elim h) (fun v14 σ' hp14 => ?_)
        obtain ⟨hp14, rfl⟩ := hp14
        obtain ⟨r2, rfl, hr2⟩ := hp14
        show V g κ 4 0 0 (t, cW g X0 F σ0) 17 [(3, .int (nI (i4))), (2, .int (x4_2)), (0, .ref (X0 + 23)), (1, .int (a1))] [.int (r2)]
        refine V_ifeq X (tgt := 29) dX3_takingsOf_17 (by decide) (fun h3 => ?_) (fun h3 => ?_)
        · -- 17 true
          refine V_iinc X (nI (i4 + 1)) [(3, .int (nI (i4 + 1))), (2, .int (x4_2)), (0, .ref (X0 + 23)), (1, .int (a1))] dX3_takingsOf_29 0 rfl (zinc _) (by decide) rfl ?_
          refine V_goto (tgt := 4) X dX3_takingsOf_32 (by decide) ?_
          exact V.sub [0, 1, 2, 3] rfl (ih4 _ (by omega) (i4 + 1) x4_2 rfl (by omega))
        · -- 17 false
          refine V_iload_n X dX3_takingsOf_20 1 rfl ?_
          refine V_aload_n X dX3_takingsOf_21 2 rfl ?_
          refine C_getf X fl_X3_18 23 (by decide) rfl rfl dX3_takingsOf_22 ?_
          refine V_iload_n X dX3_takingsOf_25 0 rfl ?_
          refine C_iald X (N := 5) 26 (by decide) (i4) rfl (by omega) (by decide) rfl dX3_takingsOf_26 ?_
          refine V.topi (fun x4 ex4 => ?_)
          refine V_iadd X dX3_takingsOf_27 (V.topi (fun w5 _ => ?_))
          refine V_istore_n X [(2, .int (w5)), (3, .int (nI (i4))), (0, .ref (X0 + 23)), (1, .int (a1))] dX3_takingsOf_28 (by decide) rfl ?_
          refine V_iinc X (nI (i4 + 1)) [(3, .int (nI (i4 + 1))), (2, .int (w5)), (0, .ref (X0 + 23)), (1, .int (a1))] dX3_takingsOf_29 1 rfl (zinc _) (by decide) rfl ?_
          refine V_goto (tgt := 4) X dX3_takingsOf_32 (by decide) ?_
          exact V.sub [0, 1, 2, 3] rfl (ih4 _ (by omega) (i4 + 1) w5 rfl (by omega))
  exact L4 _ 0 (nI (0)) rfl (by omega)
set_option maxRecDepth 100000 in
set_option maxHeartbeats 4000000 in
theorem k_X3_bestTour {g : zG} {t X0 : Nat} {σ0 : Nat → Option va_E} {F : Nat → Nat → Int32} (hX : g.2.1.size ≤ X0) {nP nS nA nC nT : Nat} (hI : cI nP nS nA nC nT F)  (a1 : Int32) : Ct g 12 yX3_bestTour cX3_bestTour 5 (some FieldType.int) 0 0 [.ref (X0 + 23), .int (a1)] (t, cW g X0 F σ0) (qR (pN 32) (t, cW g X0 F σ0)) zNo := by
  refine Ct.of (lv := [(0, .ref (X0 + 23)), (1, .int (a1))]) (by decide) (Nat.le_of_ble_eq_true rfl) rfl ?_
  intro κ X E _ _
  have X : zX g κ RX3 cX3_bestTour 5 := X
  obtain ⟨b1, b2, b3, b4, b5⟩ := hI.bnd
  have h32 : 2 ^ nT ≤ 32 := zp2 (n := 5) (by omega)
  have h1 := Nat.one_le_two_pow (n := nT)
  refine V_iconst (v := nI 0) X dX3_bestTour_0 (by decide) ?_
  refine V_istore_n X [(2, .int (nI (0))), (0, .ref (X0 + 23)), (1, .int (a1))] dX3_bestTour_1 (by decide) rfl ?_
  refine V_iconst (v := nI 1) X dX3_bestTour_2 (by decide) ?_
  refine V_istore_n X [(3, .int (nI (1))), (2, .int (nI (0))), (0, .ref (X0 + 23)), (1, .int (a1))] dX3_bestTour_3 (by decide) rfl ?_
  have L4 : ∀ (n4 : Nat) (i4 : Nat) (y4_2 : Nat), n4 = (2 ^ nT) - i4 → i4 ≤ (2 ^ nT) → 1 ≤ i4 → y4_2 < 32 → V g κ 5 0 0 (t, cW g X0 F σ0) 4 [(3, .int (nI (i4))), (2, .int (nI (y4_2))), (0, .ref (X0 + 23)), (1, .int (a1))] [] := by
    intro n4
    induction n4 using Nat.strongRecOn with
    | ind n4 ih4 =>
      intro i4 y4_2 hn4 hi4 hl4 hy4_2
      refine V_iload_n X dX3_bestTour_4 0 rfl ?_
      refine V_iconst (v := nI 1) X dX3_bestTour_5 (by decide) ?_
      refine V_aload_n X dX3_bestTour_6 2 rfl ?_
      refine C_getfN (z := nI (nT)) X fl_X3_29 23 (by decide) rfl rfl hI.f23_4 dX3_bestTour_7 ?_
      refine V_ishl1 X (by omega) dX3_bestTour_10 ?_
      refine V_icmpgeN X (by omega) (by omega) (tgt := 73) dX3_bestTour_11 (by decide) (fun h1 => ?_) (fun h1 => ?_)
      · -- 11 true
        refine V_iload_n X dX3_bestTour_73 1 rfl ?_
        exact V_iret X E (Nat.le_refl _) (Nat.le_refl _) ⟨⟨_, (by omega), rfl⟩, rfl⟩ dX3_bestTour_74
      · -- 11 false
        refine V_aload_n X dX3_bestTour_14 2 rfl ?_
        refine C_getf X fl_X3_21 23 (by decide) rfl rfl dX3_bestTour_15 ?_
        refine V_iload_n X dX3_bestTour_18 0 rfl ?_
        refine C_iald X (N := 32) 27 (by decide) (i4) rfl (by omega) (by decide) rfl dX3_bestTour_19 ?_
        refine V.topi (fun x2 ex2 => ?_)
        refine V_iload_n X dX3_bestTour_20 3 rfl ?_
        refine V_icmple X (tgt := 27) dX3_bestTour_21 (by decide) (fun h3 => ?_) (fun h3 => ?_)
        · -- 21 true
          refine V_aload_n X dX3_bestTour_27 2 rfl ?_
          refine V_iload_n X dX3_bestTour_28 0 rfl ?_
          refine V_callV (rest := []) X E.room ml_X3_54 in_X3_takingsOf (ci := 7) rfl se_X3_takingsOf (C_recv (q := 23) (by decide) rfl) (by decide) (by decide) (k_X3_takingsOf hX hI (nI (i4))) rfl rfl (Nat.le_of_ble_eq_true rfl) ⟨Nat.le_refl _, Nat.le_refl _⟩ dX3_bestTour_29 (fun _ _ h => False.elim h) (fun v29 σ' hp29 => ?_)
          obtain ⟨hp29, rfl⟩ := hp29
          obtain ⟨r4, rfl⟩ := hp29
          show V g κ 5 0 0 (t, cW g X0 F σ0) 32 [(3, .int (nI (i4))), (2, .int (nI (y4_2))), (0, .ref (X0 + 23)), (1, .int (a1))] [.int (r4)]
          refine V_aload_n X dX3_bestTour_32 2 rfl ?_
          refine V_iload_n X dX3_bestTour_33 1 rfl ?_
          refine V_callV (rest := [.int (r4)]) X E.room ml_X3_54 in_X3_takingsOf (ci := 7) rfl se_X3_takingsOf (C_recv (q := 23) (by decide) rfl) (by decide) (by decide) (k_X3_takingsOf hX hI (nI (y4_2))) rfl rfl (Nat.le_of_ble_eq_true rfl) ⟨Nat.le_refl _, Nat.le_refl _⟩ dX3_bestTour_34 (fun _ _ h => False.elim h) (fun v34 σ' hp34 => ?_)
          obtain ⟨hp34, rfl⟩ := hp34
          obtain ⟨r5, rfl⟩ := hp34
          show V g κ 5 0 0 (t, cW g X0 F σ0) 37 [(3, .int (nI (i4))), (2, .int (nI (y4_2))), (0, .ref (X0 + 23)), (1, .int (a1))] [.int (r5), .int (r4)]
          refine V_isub X dX3_bestTour_37 (V.topi (fun w6 _ => ?_))
          refine V_istore X [(4, .int (w6)), (3, .int (nI (i4))), (2, .int (nI (y4_2))), (0, .ref (X0 + 23)), (1, .int (a1))] dX3_bestTour_38 (by decide) rfl ?_
          refine V_iload X dX3_bestTour_40 0 rfl ?_
          refine V_ifgt X (tgt := 65) dX3_bestTour_42 (by decide) (fun h7 => ?_) (fun h7 => ?_)
          · -- 42 true
            refine V_iload_n X dX3_bestTour_65 1 rfl ?_
            refine V_istore_n X [(2, .int (nI (i4))), (4, .int (w6)), (3, .int (nI (i4))), (0, .ref (X0 + 23)), (1, .int (a1))] dX3_bestTour_66 (by decide) rfl ?_
            refine V_iinc X (nI (i4 + 1)) [(3, .int (nI (i4 + 1))), (2, .int (nI (i4))), (4, .int (w6)), (0, .ref (X0 + 23)), (1, .int (a1))] dX3_bestTour_67 2 rfl (zinc _) (by decide) rfl ?_
            refine V_goto (tgt := 4) X dX3_bestTour_70 (by decide) ?_
            exact V.sub [0, 1, 3, 4] rfl (ih4 _ (by omega) (i4 + 1) (i4) rfl (by omega) (by omega) (by omega))
          · -- 42 false
            refine V_iload X dX3_bestTour_45 0 rfl ?_
            refine V_ifne X (tgt := 67) dX3_bestTour_47 (by decide) (fun h8 => ?_) (fun h8 => ?_)
            · -- 47 true
              refine V_iinc X (nI (i4 + 1)) [(3, .int (nI (i4 + 1))), (4, .int (w6)), (2, .int (nI (y4_2))), (0, .ref (X0 + 23)), (1, .int (a1))] dX3_bestTour_67 1 rfl (zinc _) (by decide) rfl ?_
              refine V_goto (tgt := 4) X dX3_bestTour_70 (by decide) ?_
              exact V.sub [0, 2, 3, 4] rfl (ih4 _ (by omega) (i4 + 1) (y4_2) rfl (by omega) (by omega) (by omega))
            · -- 47 false
              refine V_aload_n X dX3_bestTour_50 3 rfl ?_
              refine C_getf X fl_X3_21 23 (by decide) rfl rfl dX3_bestTour_51 ?_
              refine V_iload_n X dX3_bestTour_54 1 rfl ?_
              refine C_iald X (N := 32) 27 (by decide) (i4) rfl (by omega) (by decide) rfl dX3_bestTour_55 ?_
              refine V.topi (fun x9 ex9 => ?_)
              refine V_aload_n X dX3_bestTour_56 3 rfl ?_
              refine C_getf X fl_X3_21 23 (by decide) rfl rfl dX3_bestTour_57 ?_
              refine V_iload_n X dX3_bestTour_60 2 rfl ?_
              refine C_iald X (N := 32) 27 (by decide) (y4_2) rfl (by omega) (by decide) rfl dX3_bestTour_61 ?_
              refine V.topi (fun x10 ex10 => ?_)
              refine V_icmpge X (tgt := 67) dX3_bestTour_62 (by decide) (fun h11 => ?_) (fun h11 => ?_)
              · -- 62 true
                refine V_iinc X (nI (i4 + 1)) [(3, .int (nI (i4 + 1))), (4, .int (w6)), (2, .int (nI (y4_2))), (0, .ref (X0 + 23)), (1, .int (a1))] dX3_bestTour_67 1 rfl (zinc _) (by decide) rfl ?_
                refine V_goto (tgt := 4) X dX3_bestTour_70 (by decide) ?_
                exact V.sub [0, 2, 3, 4] rfl (ih4 _ (by omega) (i4 + 1) (y4_2) rfl (by omega) (by omega) (by omega))
              · -- 62 false
                refine V_iload_n X dX3_bestTour_65 1 rfl ?_
                refine V_istore_n X [(2, .int (nI (i4))), (4, .int (w6)), (3, .int (nI (i4))), (0, .ref (X0 + 23)), (1, .int (a1))] dX3_bestTour_66 (by decide) rfl ?_
                refine V_iinc X (nI (i4 + 1)) [(3, .int (nI (i4 + 1))), (2, .int (nI (i4))), (4, .int (w6)), (0, .ref (X0 + 23)), (1, .int (a1))] dX3_bestTour_67 2 rfl (zinc _) (by decide) rfl ?_
                refine V_goto (tgt := 4) X dX3_bestTour_70 (by decide) ?_
                exact V.sub [0, 1, 3, 4] rfl (ih4 _ (by omega) (i4 + 1) (i4) rfl (by omega) (by omega) (by omega))
        · -- 21 false
          refine V_goto (tgt := 67) X dX3_bestTour_24 (by decide) ?_
          refine V_iinc X (nI (i4 + 1)) [(3, .int (nI (i4 + 1))), (2, .int (nI (y4_2))), (0, .ref (X0 + 23)), (1, .int (a1))] dX3_bestTour_67 0 rfl (zinc _) (by decide) rfl ?_
          refine V_goto (tgt := 4) X dX3_bestTour_70 (by decide) ?_
          exact V.sub [0, 1, 2, 3] rfl (ih4 _ (by omega) (i4 + 1) (y4_2) rfl (by omega) (by omega) (by omega))
  exact L4 _ 1 (0) rfl (by omega) (by omega) (by omega)
end
